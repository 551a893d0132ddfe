/-! the class's grammar: sums -/
def CS (ask : Bool) (A : AH) (C : List Int) : Prop := gi A 44 1 = bI ask ∧ (gi A 44 2 = 0 ∨ gi A 44 2 = 1) ∧ gi A 44 4 = C.length ∧ ∀ i, i < C.length → gi A 45 i = C.getD i 0
def frH (A B : AH) : Prop := (∀ a j, ¬ (a = 42 ∧ 2 ≤ j ∧ j ≤ 12) → ¬ (a = 44 ∧ (j = 2 ∨ j = 4)) → a ≠ 45 → gi B a j = gi A a j) ∧ (∀ a j, ¬ (a = 42 ∧ j = 7) → gr B a j = gr A a j) ∧ B.2.2 = A.2.2
theorem frH_refl (A : AH) : frH A A := ⟨fun _ _ _ _ _ => rfl, fun _ _ _ => rfl, rfl⟩
theorem frH_trans {A B C : AH} (h1 : frH A B) (h2 : frH B C) : frH A C := ⟨fun a j r s u => (h2.1 a j r s u).trans (h1.1 a j r s u), fun a j r => (h2.2.1 a j r).trans (h1.2.1 a j r), h2.2.2.trans h1.2.2⟩
theorem frF_H {A B : AH} (f : frF A B) : frH A B := ⟨fun a j h _ _ => f.1 a j h, f.2.1, f.2.2⟩
theorem frR_H {A B : AH} (f : frR A B) : frH A B := frF_H (frR_F f)
def mnU (m : Int) (cs : List Int) : Int := if m = 1 ∨ 7 ∈ cs then 1 else 0
theorem mnU_nil {m : Int} (h : m = 0 ∨ m = 1) : mnU m [] = m := by
  unfold mnU; rcases h with h | h <;> simp [h]
theorem mnU_app (m : Int) (a b : List Int) : mnU (mnU m a) b = mnU m (a ++ b) := by
  unfold mnU
  by_cases h1 : m = 1 ∨ 7 ∈ a
  · rw [if_pos h1, if_pos (Or.inl rfl), if_pos (by rcases h1 with h | h; exact Or.inl h; exact Or.inr (by simp [h]))]
  · rw [if_neg h1]
    by_cases h2 : 7 ∈ b
    · rw [if_pos (Or.inr h2), if_pos (Or.inr (by simp [h2]))]
    · rw [if_neg (by simp [h2]), if_neg (by simp at h1 ⊢; exact ⟨h1.1, h1.2, h2⟩)]
theorem mnU_01 (m : Int) (cs : List Int) : mnU m cs = 0 ∨ mnU m cs = 1 := by
  unfold mnU; by_cases h : m = 1 ∨ 7 ∈ cs
  · rw [if_pos h]; omega
  · rw [if_neg h]; omega
/-- a method that reads: what it answers where the grammar reads e -/
def GQ (T : Nat → Int) (L : Nat) (ask : Bool) (run : AH → RS) (e : Nat → Bool → GR) : Prop := ∀ (A : AH) (p : Nat) (t : Bool) (C : List Int), RdS A T L p t → CS ask A C → C.length ≤ p →
  (∀ k s, e p t = .error (k, s) → ∃ B, run A = some (some (vI 0), B) ∧ gi B 42 11 = k ∧ gi B 42 12 = s ∧ frH A B)
  ∧ (∀ cs p' t', e p t = .ok (cs, p', t') → ∃ B, run A = some (some (vI 1), B) ∧ RdS B T L p' t' ∧ CS ask B (C ++ cs.map clsC) ∧ gi B 44 2 = mnU (gi A 44 2) cs ∧ (gi B 42 11 = gi A 42 11 ∧ gi B 42 12 = gi A 42 12) ∧ frH A B)
theorem RdS_fr {A B : AH} {T : Nat → Int} {L p : Nat} {t : Bool} (h1 : ∀ j, gi B 42 j = gi A 42 j) (h2 : ∀ j, gi B 41 j = gi A 41 j) (h3 : ∀ j, gr B 42 j = gr A 42 j) (h4 : B.2.2 = A.2.2) (r : RdS A T L p t) : RdS B T L p t := by
  unfold RdS at *
  rw [h1, h1, h1, h1, h1, h1, h3, h3, ln_eq h4]
  exact ⟨⟨r.1.1, r.1.2.1, r.1.2.2.1, fun j => (h2 j).trans (r.1.2.2.2.1 j), r.1.2.2.2.2⟩, r.2⟩
theorem CS_R {ask : Bool} {A B : AH} {C : List Int} (f : frR A B) (c : CS ask A C) : CS ask B C := by
  unfold CS at *
  rw [f.1 44 1 (by omega), f.1 44 2 (by omega), f.1 44 4 (by omega)]
  exact ⟨c.1, c.2.1, c.2.2.1, fun i hi => by rw [f.1 45 i (by omega)]; exact c.2.2.2 i hi⟩
theorem getD_app {C : List Int} {v : Int} (i : Nat) : (C ++ [v]).getD i 0 = if i < C.length then C.getD i 0 else if i = C.length then v else 0 := by
  simp only [List.getD_eq_getElem?_getD]
  by_cases h : i < C.length
  · rw [if_pos h, List.getElem?_append_left h]
  · rw [if_neg h]
    by_cases h2 : i = C.length
    · rw [if_pos h2, h2]; simp
    · rw [if_neg h2, List.getElem?_eq_none (by simp; omega)]; rfl
set_option maxRecDepth 100000 in
theorem s_emit (d : Nat) {T : Nat → Int} {L p : Nat} {t : Bool} {ask : Bool} (v : Int) (A : AH) (C : List Int) (r : RdS A T L p t) (c : CS ask A C) (hC : C.length < 1600) : ∃ B, runF (d + 1) 35 [vR 12 44 0, vI v] A = some (some (vI 1), B) ∧ RdS B T L p t ∧ CS ask B (C ++ [v]) ∧ gi B 44 2 = gi A 44 2 ∧ (gi B 42 11 = gi A 42 11 ∧ gi B 42 12 = gi A 42 12) ∧ frH A B := by
  obtain ⟨c1, c2, c3, c4⟩ := c
  refine ⟨wi (wi A 45 C.length v) 44 4 ((C.length + 1 : Nat) : Int), ?_, RdS_fr (fun j => by rw [gi_wi, if_neg (by omega), gi_wi, if_neg (by omega)]) (fun j => by rw [gi_wi, if_neg (by omega), gi_wi, if_neg (by omega)]) (fun _ => rfl) rfl r, ⟨by simp -implicitDefEqProofs (disch := omega) only [gi_wi, ↓reduceIte, Int.reduceEq, cI_v, cL_v, cV_v, cR_v, wid, wid64, if_pos, if_neg, Nat.add_zero, if_true, if_false, and_self, and_true, true_and, and_false, false_and, or_true, true_or, or_false, false_or]; exact c1, by simp -implicitDefEqProofs (disch := omega) only [gi_wi, ↓reduceIte, Int.reduceEq, cI_v, cL_v, cV_v, cR_v, wid, wid64, if_pos, if_neg, Nat.add_zero, if_true, if_false, and_self, and_true, true_and, and_false, false_and, or_true, true_or, or_false, false_or]; exact c2, ?_, fun i hi => ?_⟩, by simp -implicitDefEqProofs (disch := omega) only [gi_wi, ↓reduceIte, Int.reduceEq, cI_v, cL_v, cV_v, cR_v, wid, wid64, if_pos, if_neg, Nat.add_zero, if_true, if_false, and_self, and_true, true_and, and_false, false_and, or_true, true_or, or_false, false_or], ⟨by simp -implicitDefEqProofs (disch := omega) only [gi_wi, ↓reduceIte, Int.reduceEq, cI_v, cL_v, cV_v, cR_v, wid, wid64, if_pos, if_neg, Nat.add_zero, if_true, if_false, and_self, and_true, true_and, and_false, false_and, or_true, true_or, or_false, false_or], by simp -implicitDefEqProofs (disch := omega) only [gi_wi, ↓reduceIte, Int.reduceEq, cI_v, cL_v, cV_v, cR_v, wid, wid64, if_pos, if_neg, Nat.add_zero, if_true, if_false, and_self, and_true, true_and, and_false, false_and, or_true, true_or, or_false, false_or]⟩, ⟨fun a j h1 h2 h3 => by rw [gi_wi, if_neg (by omega), gi_wi, if_neg (by omega)], fun _ _ _ => rfl, rfl⟩⟩
  · rw [r_X2_emit, q_X2_emit_0, c3, if_pos (by omega), if_pos (by omega), Int.toNat_natCast, q_X2_emit_22, gi_wi, if_neg (by omega), c3, wid (by omega) (by omega), show (C.length : Int) + 1 = ((C.length + 1 : Nat) : Int) by omega]
  · simp -implicitDefEqProofs (disch := omega) only [gi_wi, ↓reduceIte, Int.reduceEq, cI_v, cL_v, cV_v, cR_v, wid, wid64, if_pos, if_neg, Nat.add_zero, if_true, if_false, and_self, and_true, true_and, and_false, false_and, or_true, true_or, or_false, false_or]; simp
  · rw [gi_wi, if_neg (by omega), getD_app]
    simp only [List.length_append, List.length_cons, List.length_nil] at hi
    by_cases h : i < C.length
    · rw [if_pos h, gi_wi, if_neg (by omega)]; exact c4 i h
    · rw [if_neg h, if_pos (by omega), gi_wi, if_pos ⟨rfl, by omega⟩]
set_option maxRecDepth 100000 in
theorem s_goIn (d : Nat) {T : Nat → Int} {L p : Nat} {t : Bool} (o : Nat) (A : AH) (r : RdS A T L p t) : (o < 6 → ∃ B, runF (d + 3) 36 [vR 12 44 0, vI o] A = some (some (vI 1), B) ∧ RdS B T L (stp T L p) (tk T L p t) ∧ frR A B) ∧ (6 ≤ o → ∃ B, runF (d + 3) 36 [vR 12 44 0, vI o] A = some (some (vI 0), B) ∧ FL A B 4 (bl T L p)) := by
  constructor
  · intro h
    obtain ⟨B, b1, b2, b3, b4⟩ := s_stepR d A r
    rw [r_X2_goIn, q_X2_goIn_0, if_pos (by omega), b1, cV_v]
    exact ⟨B, rfl, b2, b4⟩
  · intro h
    rw [r_X2_goIn, q_X2_goIn_0, if_neg (by omega), s_failC, cI_v, if_pos (Or.inl rfl), r.2.1]
    exact ⟨_, rfl, FL_f A 4 _⟩
set_option maxRecDepth 100000 in
theorem s_joiner (d : Nat) {T : Nat → Int} {L p : Nat} {t : Bool} (lev : Int) (A : AH) (r : RdS A T L p t) : runF (d + 2) 38 [vR 12 44 0, vI lev] A = some (some (vI (jnF T L lev p t)), A) := by
  rw [r_X2_joiner, q_X2_joiner_0, r.2.2.2.2.1]
  unfold jnF
  by_cases c0 : lev = 0
  · rw [if_pos c0, if_pos c0]
    by_cases c : wrd T L p t = 25
    · rw [if_pos c, if_pos c]
    · rw [if_neg c, if_neg c]
  · rw [if_neg c0, if_neg c0]
    by_cases c1 : lev = 1
    · rw [if_pos c1, if_pos c1]
      by_cases c : wrd T L p t = 26
      · rw [if_pos c, if_pos c]
      · rw [if_neg c, if_neg c]
    · rw [if_neg c1, if_neg c1]
      by_cases c2 : lev = 2
      · rw [if_pos c2, if_neg (by omega), if_neg (by omega)]
      · rw [if_neg c2]
        by_cases c3 : lev = 3
        · rw [if_pos c3, if_pos c3, s_isSign d 43 A r (by decide), cI_v]
          by_cases c : sgn T L p t = 43
          · rw [decide_eq_true c, bI_t, if_neg (by omega), if_pos c]
          · rw [decide_eq_false c, bI_f, if_pos rfl, if_neg c, s_isSign d 45 A r (by decide), cI_v]
            by_cases c' : sgn T L p t = 45
            · rw [decide_eq_true c', bI_t, if_neg (by omega), if_pos c']
            · rw [decide_eq_false c', bI_f, if_pos rfl, if_neg c']
        · rw [if_neg c3, if_neg c3]
          by_cases c4 : lev = 4
          · rw [if_pos c4, if_pos c4, s_isSign d 42 A r (by decide), cI_v]
            by_cases c : sgn T L p t = 42
            · rw [decide_eq_true c, bI_t, if_neg (by omega), if_pos c]
            · rw [decide_eq_false c, bI_f, if_pos rfl, if_neg c, s_isSign d 47 A r (by decide), cI_v]
              by_cases c' : sgn T L p t = 47
              · rw [decide_eq_true c', bI_t, if_neg (by omega), if_pos c']
              · rw [decide_eq_false c', bI_f, if_pos rfl, if_neg c']
          · rw [if_neg c4, if_neg c4]
theorem jnF_c (T : Nat → Int) (L : Nat) (lev : Int) (p : Nat) (t : Bool) : clsC (jnF T L lev p t) = jnF T L lev p t ∧ jnF T L lev p t ≠ 7 := by
  unfold jnF clsC
  by_cases c0 : lev = 0
  · rw [if_pos c0]
    by_cases c : wrd T L p t = 25
    · rw [if_pos c]; decide
    · rw [if_neg c]; decide
  · rw [if_neg c0]
    by_cases c1 : lev = 1
    · rw [if_pos c1]
      by_cases c : wrd T L p t = 26
      · rw [if_pos c]; decide
      · rw [if_neg c]; decide
    · rw [if_neg c1]
      by_cases c3 : lev = 3
      · rw [if_pos c3]
        by_cases c : sgn T L p t = 43
        · rw [if_pos c]; decide
        · rw [if_neg c]
          by_cases c' : sgn T L p t = 45
          · rw [if_pos c']; decide
          · rw [if_neg c']; decide
      · rw [if_neg c3]
        by_cases c4 : lev = 4
        · rw [if_pos c4]
          by_cases c : sgn T L p t = 42
          · rw [if_pos c]; decide
          · rw [if_neg c]
            by_cases c' : sgn T L p t = 47
            · rw [if_pos c']; decide
            · rw [if_neg c']; decide
        · rw [if_neg c4]; decide
set_option maxRecDepth 100000 in
theorem l_chain (d : Nat) {T : Nat → Int} {L : Nat} {ask : Bool} (tx : TX T L) (lev x : Int) (hlev : 0 ≤ lev ∧ lev ≤ 4) {sub : Nat → Bool → GR} (hG : GP L sub) (hs : GQ T L ask (runF (d + 2) 37 [vR 12 44 0, vI (lev + 1), vI x]) sub) : ∀ (m n : Nat) (x4 : Int) (u5 : AV) (A : AH) (p : Nat) (t : Bool) (C cs : List Int), x4 + m = 1600 → 0 ≤ x4 → 4 * m + 20 ≤ n → RdS A T L p t → CS ask A (C ++ cs.map clsC) → C.length + cs.length ≤ p → p ≤ L →
    (∀ k s, loopG T L sub lev m cs p t = .error (k, s) → ∃ B, go true 2 (runF (d + 2)) (runN (d + 2)) pb_X2_chain n 34 [vR 12 44 0, vI lev, vI x, vI 1, vI x4, u5] [] A = some (some (vI 0), B) ∧ gi B 42 11 = k ∧ gi B 42 12 = s ∧ frH A B)
    ∧ (∀ cs' p' t', loopG T L sub lev m cs p t = .ok (cs', p', t') → ∃ B, go true 2 (runF (d + 2)) (runN (d + 2)) pb_X2_chain n 34 [vR 12 44 0, vI lev, vI x, vI 1, vI x4, u5] [] A = some (some (vI 1), B) ∧ RdS B T L p' t' ∧ CS ask B (C ++ cs'.map clsC) ∧ (∀ m0, gi A 44 2 = mnU m0 cs → gi B 44 2 = mnU m0 cs') ∧ (gi B 42 11 = gi A 42 11 ∧ gi B 42 12 = gi A 42 12) ∧ frH A B) := by
  intro m
  induction m with
  | zero =>
    intro n x4 u5 A p t C cs h1 h2 hn r c hC hp
    obtain ⟨n, rfl⟩ : ∃ e, n = e + 20 := ⟨n - 20, by omega⟩
    have e : go true 2 (runF (d + 2)) (runN (d + 2)) pb_X2_chain (n + 20) 34 [vR 12 44 0, vI lev, vI x, vI 1, vI x4, u5] [] A = some (some (vI 1), A) := by
      rw [q_X2_chain_34, if_neg (by omega), if_pos (Or.inr rfl)]
    unfold loopG
    refine ⟨(fun k s q => by cases q), fun cs' p' t' q => ?_⟩
    injection q with q; injection q with q1 q2; injection q2 with q2 q3
    subst q1 q2 q3
    exact ⟨A, e, r, c, fun m0 hm => hm, ⟨rfl, rfl⟩, frH_refl A⟩
  | succ m ih =>
    intro n x4 u5 A p t C cs h1 h2 hn r c hC hp
    obtain ⟨n, rfl⟩ : ∃ e, n = e + 20 := ⟨n - 20, by omega⟩
    have tL := tx.1
    unfold loopG
    by_cases cj : jnF T L lev p t = -1
    · rw [if_pos cj]
      refine ⟨(fun k s q => by cases q), fun cs' p' t' q => ?_⟩
      injection q with q; injection q with q1 q2; injection q2 with q2 q3
      subst q1 q2 q3
      refine ⟨A, ?_, r, c, fun m0 hm => hm, ⟨rfl, rfl⟩, frH_refl A⟩
      rw [q_X2_chain_34, if_pos (by omega), if_neg (by omega), s_joiner d lev A r, cI_v, if_pos cj, if_pos (Or.inr rfl)]
    · rw [if_neg cj]
      obtain ⟨A1, a1, a2, a3, a4⟩ := s_stepR d A r
      have j1 := jnF_1 cj tx
      have sL := stp_L tx hp
      have cC : (C ++ cs.map clsC).length = C.length + cs.length := by simp
      obtain ⟨s1, s2⟩ := hs A1 (stp T L p) (tk T L p t) (C ++ cs.map clsC) a2 (CS_R a4 c) (by omega)
      have e0 : ∀ R, (cI (runF (d + 2) 37 [vR 12 44 0, vI (lev + 1), vI x] A1) fun r5 A4 => if r5 = 0 then go true 2 (runF (d + 2)) (runN (d + 2)) pb_X2_chain (n + 18) 93 [vR 12 44 0, vI lev, vI x, vI 1, vI x4, vI (jnF T L lev p t)] [] A4 else cI (runF (d + 2) 35 [vR 12 44 0, vI (jnF T L lev p t)] A4) fun r7 A6 => if r7 = 0 then go true 2 (runF (d + 2)) (runN (d + 2)) pb_X2_chain (n + 18) 93 [vR 12 44 0, vI lev, vI x, vI 1, vI x4, vI (jnF T L lev p t)] [] A6 else go true 2 (runF (d + 2)) (runN (d + 2)) pb_X2_chain (n + 18) 94 [vR 12 44 0, vI lev, vI x, vI 1, vI x4, vI (jnF T L lev p t)] [vI 1] A6) = R → go true 2 (runF (d + 2)) (runN (d + 2)) pb_X2_chain (n + 20) 34 [vR 12 44 0, vI lev, vI x, vI 1, vI x4, u5] [] A = R := by
        intro R hR
        rw [q_X2_chain_34, if_pos (by omega), if_neg (by omega), s_joiner d lev A r, cI_v, if_neg cj, a1, cV_v, wid (by omega) (by omega)]
        exact hR
      cases hS : sub (stp T L p) (tk T L p t) with
      | error y =>
        obtain ⟨k0, s0⟩ := y
        obtain ⟨B, b1, b2, b3, b4⟩ := s1 k0 s0 hS
        refine ⟨fun k s q => ?_, fun cs' p' t' q => by cases q⟩
        injection q with q; injection q with q1 q2
        subst q1 q2
        refine ⟨B, e0 _ ?_, b2, b3, frH_trans (frR_H a4) b4⟩
        rw [b1, cI_v, if_pos rfl, q_X2_chain_93, q_X2_chain_94, q_X2_chain_34]
        by_cases z : w32 (x4 + 1) < 1600
        · rw [if_pos z, if_pos rfl, if_pos (Or.inl rfl)]
        · rw [if_neg z, if_pos (Or.inl rfl)]
      | ok y =>
        obtain ⟨c2, p2, t2⟩ := y
        obtain ⟨B, b1, b2, b3, b4, b5, b6⟩ := s2 c2 p2 t2 hS
        have g := hG _ _ _ _ _ sL hS
        have lC : (C ++ cs.map clsC ++ c2.map clsC).length = C.length + cs.length + c2.length := by simp; omega
        obtain ⟨D, d1, d2, d3, d4, d5, d6⟩ := s_emit (d + 1) (jnF T L lev p t) B (C ++ cs.map clsC ++ c2.map clsC) b2 b3 (by omega)
        have ec : C ++ cs.map clsC ++ c2.map clsC ++ [jnF T L lev p t] = C ++ (cs ++ c2 ++ [jnF T L lev p t]).map clsC := by
          simp only [List.map_append, List.map_cons, List.map_nil, (jnF_c T L lev p t).1, List.append_assoc]
        rw [ec] at d3
        obtain ⟨i1, i2⟩ := ih (n + 17) (x4 + 1) (vI (jnF T L lev p t)) D p2 t2 C (cs ++ c2 ++ [jnF T L lev p t]) (by omega) (by omega) (by omega) d2 d3 (by simp only [List.length_append, List.length_cons, List.length_nil]; omega) g.2.2
        have e1 : go true 2 (runF (d + 2)) (runN (d + 2)) pb_X2_chain (n + 20) 34 [vR 12 44 0, vI lev, vI x, vI 1, vI x4, u5] [] A = go true 2 (runF (d + 2)) (runN (d + 2)) pb_X2_chain (n + 17) 34 [vR 12 44 0, vI lev, vI x, vI 1, vI (x4 + 1), vI (jnF T L lev p t)] [] D := by
          refine e0 _ ?_
          rw [b1, cI_v, if_neg (by omega), d1, cI_v, if_neg (by omega), q_X2_chain_94, wid (by omega) (by omega)]
        have fD : frH A D := frH_trans (frR_H a4) (frH_trans b6 d6)
        refine ⟨fun k s q => ?_, fun cs' p' t' q => ?_⟩
        · obtain ⟨E, g1, g2, g3, g4⟩ := i1 k s q
          exact ⟨E, e1.trans g1, g2, g3, frH_trans fD g4⟩
        · obtain ⟨E, g1, g2, g3, g4, g5, g6⟩ := i2 cs' p' t' q
          refine ⟨E, e1.trans g1, g2, g3, fun m0 hm => g4 m0 ?_, ⟨?_, ?_⟩, frH_trans fD g6⟩
          · rw [d4, b4, a4.1 44 2 (by omega), hm, mnU_app, ← mnU_app _ _ [jnF T L lev p t]]
            unfold mnU
            have := (jnF_c T L lev p t).2
            by_cases z : m0 = 1 ∨ 7 ∈ cs ++ c2
            · rw [if_pos z, if_pos (Or.inl rfl)]
            · rw [if_neg z, if_neg]
              intro y
              rcases y with y | y
              · omega
              · rw [List.mem_singleton] at y; omega
          · rw [g5.1, d5.1, b5.1, a4.1 42 11 (by omega)]
          · rw [g5.2, d5.2, b5.2, a4.1 42 12 (by omega)]
theorem C_chain (d : Nat) {T : Nat → Int} {L : Nat} {ask : Bool} (tx : TX T L) (lev x : Int) (hlev : lev = 0 ∨ lev = 1 ∨ lev = 3 ∨ lev = 4) {sub : Nat → Bool → GR} (hG : GP L sub) (hs : GQ T L ask (runF (d + 2) 37 [vR 12 44 0, vI (lev + 1), vI x]) sub) : GQ T L ask (runF (d + 3) 37 [vR 12 44 0, vI lev, vI x]) (chainG T L sub lev) := by
  intro A p t C r c hC
  obtain ⟨s1, s2⟩ := hs A p t C r c hC
  have hp := r.1.2.2.2.2.2
  have e0 : ∀ R, (cI (runF (d + 2) 37 [vR 12 44 0, vI (lev + 1), vI x] A) fun r6 A5 => go true 2 (runF (d + 2)) (runN (d + 2)) pb_X2_chain (fu + 197) 34 [vR 12 44 0, vI lev, vI x, vI r6, vI 0, vU] [] A5) = R → runF (d + 3) 37 [vR 12 44 0, vI lev, vI x] A = R := by
    intro R hR
    rw [r_X2_chain, q_X2_chain_0, if_neg (by omega), if_pos (by omega), wid (by omega) (by omega)]
    exact hR
  unfold chainG
  cases hS : sub p t with
  | error y =>
    obtain ⟨k0, s0⟩ := y
    obtain ⟨B, b1, b2, b3, b4⟩ := s1 k0 s0 hS
    refine ⟨fun k s q => ?_, fun cs' p' t' q => by cases q⟩
    injection q with q; injection q with q1 q2
    subst q1 q2
    refine ⟨B, e0 _ ?_, b2, b3, b4⟩
    rw [b1, cI_v, q_X2_chain_34, if_pos (by omega), if_pos rfl, if_pos (Or.inl rfl)]
  | ok y =>
    obtain ⟨c2, p2, t2⟩ := y
    obtain ⟨B, b1, b2, b3, b4, b5, b6⟩ := s2 c2 p2 t2 hS
    have g := hG _ _ _ _ _ hp hS
    obtain ⟨i1, i2⟩ := l_chain d tx lev x (by omega) hG hs 1600 (fu + 197) 0 vU B p2 t2 C c2 (by omega) (by omega) (by have := fu_ge; omega) b2 b3 (by omega) g.2.2
    refine ⟨fun k s q => ?_, fun cs' p' t' q => ?_⟩
    · obtain ⟨E, g1, g2, g3, g4⟩ := i1 k s q
      exact ⟨E, e0 _ (by rw [b1, cI_v]; exact g1), g2, g3, frH_trans b6 g4⟩
    · obtain ⟨E, g1, g2, g3, g4, g5, g6⟩ := i2 cs' p' t' q
      exact ⟨E, e0 _ (by rw [b1, cI_v]; exact g1), g2, g3, g4 _ b4, ⟨by rw [g5.1, b5.1], by rw [g5.2, b5.2]⟩, frH_trans b6 g6⟩
theorem C_five (d : Nat) {T : Nat → Int} {L : Nat} {ask : Bool} (x : Int) {sub : Nat → Bool → GR} (hs : GQ T L ask (runF (d + 1) 40 [vR 12 44 0, vI x]) sub) : GQ T L ask (runF (d + 2) 37 [vR 12 44 0, vI 5, vI x]) sub := by
  intro A p t C r c hC
  obtain ⟨s1, s2⟩ := hs A p t C r c hC
  have e0 : runF (d + 2) 37 [vR 12 44 0, vI 5, vI x] A = cI (runF (d + 1) 40 [vR 12 44 0, vI x] A) fun r4 A3 => if r4 = 0 ∨ r4 = 1 then some (some (vI r4), A3) else none := by
    rw [r_X2_chain, q_X2_chain_0, if_neg (by omega), if_neg (by omega)]
  refine ⟨fun k s q => ?_, fun cs' p' t' q => ?_⟩
  · obtain ⟨B, b1, b2⟩ := s1 k s q
    exact ⟨B, by rw [e0, b1, cI_v, if_pos (Or.inl rfl)], b2⟩
  · obtain ⟨B, b1, b2⟩ := s2 cs' p' t' q
    exact ⟨B, by rw [e0, b1, cI_v, if_pos (Or.inr rfl)], b2⟩
theorem C_sum (d : Nat) {T : Nat → Int} {L : Nat} {ask : Bool} (tx : TX T L) (x : Int) {sub : Nat → Bool → GR} (hG : GP L sub) (hs : GQ T L ask (runF (d + 1) 40 [vR 12 44 0, vI x]) sub) : GQ T L ask (runF (d + 4) 37 [vR 12 44 0, vI 3, vI x]) (sumG T L sub) := C_chain (d + 1) tx 3 x (by omega) (GP_chain tx hG 4) (C_chain d tx 4 x (by omega) hG (C_five d x hs))
