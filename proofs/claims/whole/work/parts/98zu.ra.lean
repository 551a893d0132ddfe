/-! the reference's reading of tests: rules behind a fact; a whole test -/
theorem ST_pop {c0 : Nat} {B : AH} {x : Int} {W C : List Int} {o : Nat} (o' : Nat) (s : STQ 0 c0 B (x :: W) C o) : STQ 0 c0 (wi (wi B 190 102 ((W.length : Nat) : Int)) 190 103 ((o' : Nat) : Int)) W C o' := by
  obtain ⟨⟨s1, s2⟩, ⟨s3, s4⟩, s5, s6, s7⟩ := s
  exact ⟨⟨by simp -implicitDefEqProofs (disch := omega) only [gi_wi, ↓reduceIte, Int.reduceEq, cI_v, cL_v, cV_v, cR_v, wid, wid64, if_pos, if_neg, Nat.add_zero, if_true, if_false, and_self, and_true, true_and, and_false, false_and, or_true, true_or, or_false, false_or]; exact s1, fun i hi => by simp -implicitDefEqProofs (disch := omega) only [gi_wi, ↓reduceIte, Int.reduceEq, cI_v, cL_v, cV_v, cR_v, wid, wid64, if_pos, if_neg, Nat.add_zero, if_true, if_false, and_self, and_true, true_and, and_false, false_and, or_true, true_or, or_false, false_or]; exact s2 i hi⟩, ⟨by simp -implicitDefEqProofs (disch := omega) only [gi_wi, ↓reduceIte, Int.reduceEq, cI_v, cL_v, cV_v, cR_v, wid, wid64, if_pos, if_neg, Nat.add_zero, if_true, if_false, and_self, and_true, true_and, and_false, false_and, or_true, true_or, or_false, false_or]; rw [Nat.zero_add], stkR_fr (fun j _ _ => by simp -implicitDefEqProofs (disch := omega) only [gi_wi, ↓reduceIte, Int.reduceEq, cI_v, cL_v, cV_v, cR_v, wid, wid64, if_pos, if_neg, Nat.add_zero, if_true, if_false, and_self, and_true, true_and, and_false, false_and, or_true, true_or, or_false, false_or]) s4.2⟩, by simp -implicitDefEqProofs (disch := omega) only [gi_wi, ↓reduceIte, Int.reduceEq, cI_v, cL_v, cV_v, cR_v, wid, wid64, if_pos, if_neg, Nat.add_zero, if_true, if_false, and_self, and_true, true_and, and_false, false_and, or_true, true_or, or_false, false_or], by simp -implicitDefEqProofs (disch := omega) only [gi_wi, ↓reduceIte, Int.reduceEq, cI_v, cL_v, cV_v, cR_v, wid, wid64, if_pos, if_neg, Nat.add_zero, if_true, if_false, and_self, and_true, true_and, and_false, false_and, or_true, true_or, or_false, false_or]; exact s6, fun h => by omega⟩
theorem ST_push {c0 : Nat} {A : AH} (v : Int) {W C : List Int} {o : Nat} (s : STQ 0 c0 A W C o) : STQ 0 c0 (wi (wi A 268 W.length v) 190 102 ((W.length + 1 : Nat) : Int)) (v :: W) C o := by
  obtain ⟨⟨s1, s2⟩, ⟨s3, s4⟩, s5, s6, s7⟩ := s
  exact ⟨⟨by simp -implicitDefEqProofs (disch := omega) only [gi_wi, ↓reduceIte, Int.reduceEq, cI_v, cL_v, cV_v, cR_v, wid, wid64, if_pos, if_neg, Nat.add_zero, if_true, if_false, and_self, and_true, true_and, and_false, false_and, or_true, true_or, or_false, false_or]; exact s1, fun i hi => by simp -implicitDefEqProofs (disch := omega) only [gi_wi, ↓reduceIte, Int.reduceEq, cI_v, cL_v, cV_v, cR_v, wid, wid64, if_pos, if_neg, Nat.add_zero, if_true, if_false, and_self, and_true, true_and, and_false, false_and, or_true, true_or, or_false, false_or]; exact s2 i hi⟩, ⟨by rw [gi_wi, if_pos ⟨rfl, rfl⟩, List.length_cons, Nat.zero_add], ⟨by rw [gi_wi, if_neg (by omega), gi_wi, if_pos ⟨rfl, by omega⟩], stkR_fr (A := A) (fun j _ q => by rw [gi_wi, if_neg (by omega), gi_wi, if_neg (by omega)]) s4⟩⟩, by simp -implicitDefEqProofs (disch := omega) only [gi_wi, ↓reduceIte, Int.reduceEq, cI_v, cL_v, cV_v, cR_v, wid, wid64, if_pos, if_neg, Nat.add_zero, if_true, if_false, and_self, and_true, true_and, and_false, false_and, or_true, true_or, or_false, false_or]; exact s5, by simp -implicitDefEqProofs (disch := omega) only [gi_wi, ↓reduceIte, Int.reduceEq, cI_v, cL_v, cV_v, cR_v, wid, wid64, if_pos, if_neg, Nat.add_zero, if_true, if_false, and_self, and_true, true_and, and_false, false_and, or_true, true_or, or_false, false_or]; exact s6, fun h => by omega⟩
set_option maxRecDepth 100000 in
theorem l_sq (d : Nat) {T : Nat → Int} {L p : Nat} {t : Bool} (W : List Int) (o : Nat) : ∀ (pend C : List Int) (n : Nat) (A : AH), (∀ x ∈ pend, x = 10 ∨ x = 11) → STQ 0 0 A (pend ++ 25 :: W) C o → MdS A T L p t → C.length + (pend.length + (W.length + 1)) < 1600 → pend.length + 10 ≤ n → ∃ B n', n' + pend.length + 2 = n ∧ go true 2 (runF (d + 7)) (runN (d + 7)) pb_X12_qGoesOnTest n 33 [vR 21 190 0] [] A = go true 2 (runF (d + 7)) (runN (d + 7)) pb_X12_qGoesOnTest n' 59 [vR 21 190 0] [] (wi B 190 102 ((W.length : Nat) : Int)) ∧ STQ 0 0 B (25 :: W) (C ++ pend) o ∧ MdS B T L p t ∧ fVQ 0 0 A B
  | [], C, n, A, hx, s, m, hC, hn => by
    obtain ⟨n, rfl⟩ : ∃ e, n = e + 10 := ⟨n - 10, by omega⟩
    rw [List.nil_append] at s
    simp only [List.length_nil] at hC
    have i1 := s_isOn0 (d + 6) 25 A (25 :: W) C o s (by omega) (by simp only [List.length_cons]; omega)
    rw [show decide (hdI ((25 : Int) :: W) = 25) = true from decide_eq_true rfl, bI_t] at i1
    refine ⟨A, n + 8, by simp, ?_, by rw [List.append_nil]; exact s, m, frV_refl _ _ _ _ _ _ _ A⟩
    have s3 := s.2.1.1
    simp only [List.length_cons] at s3
    rw [q_X12_qGoesOnTest_33, i1, cI_v, if_neg (by omega), s3, wid (by omega) (by omega), show ((0 + (W.length + 1) : Nat) : Int) - 1 = ((W.length : Nat) : Int) by omega]
  | x :: pend, C, n, A, hx, s, m, hC, hn => by
    obtain ⟨n, rfl⟩ : ∃ e, n = e + 10 := ⟨n - 10, by omega⟩
    rw [List.cons_append] at s
    simp only [List.length_cons] at hC hn
    have x1 := hx x List.mem_cons_self
    have eW : (pend ++ 25 :: W).length = pend.length + (W.length + 1) := by simp
    have i1 := s_isOn0 (d + 6) 25 A (x :: (pend ++ 25 :: W)) C o s (by omega) (by simp only [List.length_cons, eW]; omega)
    rw [show decide (hdI (x :: (pend ++ 25 :: W)) = 25) = false from decide_eq_false (by show x ≠ 25; omega), bI_f] at i1
    obtain ⟨D, d1, d2, d3, d4, d5⟩ := s_dropsQ (d + 5) x A (pend ++ 25 :: W) C o s m (by omega) (by rw [eW]; omega)
    obtain ⟨B, n', b0, b1, b2, b3, b4⟩ := l_sq d W o pend (C ++ [x]) (n + 9) D (fun y hy => hx y (List.mem_cons_of_mem _ hy)) d2 d3 (by simp only [List.length_append, List.length_cons, List.length_nil]; omega) (by omega)
    refine ⟨B, n', by simp only [List.length_cons]; omega, ?_, by rw [List.append_assoc] at b2; exact b2, b3, frV_trans d4 b4⟩
    rw [q_X12_qGoesOnTest_33, i1, cI_v, if_pos rfl, d1, cV_v]
    exact b1
set_option maxRecDepth 100000 in
theorem l_and (d : Nat) {T : Nat → Int} {L p : Nat} {t : Bool} (W : List Int) (o : Nat) (hW : ¬ (hdI W = 10)) : ∀ (pend C : List Int) (n : Nat) (A : AH), (∀ x ∈ pend, x = 10) → STQ 0 0 A (pend ++ W) C o → MdS A T L p t → C.length + (pend.length + W.length) < 1600 → pend.length + 10 ≤ n → ∃ B, go true 2 (runF (d + 7)) (runN (d + 7)) pb_X12_qGoesOnTest n 87 [vR 21 190 0] [] A = some (some (vI 1), B) ∧ STQ 0 0 B (10 :: W) (C ++ pend) o ∧ MdS B T L p t ∧ fVQ 0 0 A B
  | [], C, n, A, hx, s, m, hC, hn => by
    obtain ⟨n, rfl⟩ : ∃ e, n = e + 10 := ⟨n - 10, by omega⟩
    rw [List.nil_append] at s
    simp only [List.length_nil] at hC
    have i1 := s_isOn0 (d + 6) 10 A W C o s (by omega) (by omega)
    rw [decide_eq_false hW, bI_f] at i1
    have s3 := s.2.1.1
    rw [Nat.zero_add] at s3
    refine ⟨wi (wi A 268 W.length 10) 190 102 ((W.length + 1 : Nat) : Int), ?_, by rw [List.append_nil]; exact ST_push 10 s, MdS_fr (by simp -implicitDefEqProofs (disch := omega) only [gi_wi, ↓reduceIte, Int.reduceEq, cI_v, cL_v, cV_v, cR_v, wid, wid64, if_pos, if_neg, Nat.add_zero, if_true, if_false, and_self, and_true, true_and, and_false, false_and, or_true, true_or, or_false, false_or]) (by simp -implicitDefEqProofs (disch := omega) only [gi_wi, ↓reduceIte, Int.reduceEq, cI_v, cL_v, cV_v, cR_v, wid, wid64, if_pos, if_neg, Nat.add_zero, if_true, if_false, and_self, and_true, true_and, and_false, false_and, or_true, true_or, or_false, false_or]) (by simp -implicitDefEqProofs (disch := omega) only [gi_wi, ↓reduceIte, Int.reduceEq, cI_v, cL_v, cV_v, cR_v, wid, wid64, if_pos, if_neg, Nat.add_zero, if_true, if_false, and_self, and_true, true_and, and_false, false_and, or_true, true_or, or_false, false_or]) (by simp -implicitDefEqProofs (disch := omega) only [gi_wi, ↓reduceIte, Int.reduceEq, cI_v, cL_v, cV_v, cR_v, wid, wid64, if_pos, if_neg, Nat.add_zero, if_true, if_false, and_self, and_true, true_and, and_false, false_and, or_true, true_or, or_false, false_or]) (by simp -implicitDefEqProofs (disch := omega) only [gi_wi, ↓reduceIte, Int.reduceEq, cI_v, cL_v, cV_v, cR_v, wid, wid64, if_pos, if_neg, Nat.add_zero, if_true, if_false, and_self, and_true, true_and, and_false, false_and, or_true, true_or, or_false, false_or]) (fun a j q1 q2 => by simp -implicitDefEqProofs (disch := omega) only [gi_wi, ↓reduceIte, Int.reduceEq, cI_v, cL_v, cV_v, cR_v, wid, wid64, if_pos, if_neg, Nat.add_zero, if_true, if_false, and_self, and_true, true_and, and_false, false_and, or_true, true_or, or_false, false_or]) m, frV_i _ _ (by omega) (frV_w _ _ (by omega) (frV_refl _ _ _ _ _ _ _ A))⟩
    rw [q_X12_qGoesOnTest_87, i1, cI_v, if_pos rfl, s3, if_pos (by omega), Int.toNat_natCast, q_X12_qGoesOnTest_114, gi_wi, if_neg (by omega), s3, wid (by omega) (by omega), q_X12_qGoesOnTest_124, show ((W.length : Nat) : Int) + 1 = ((W.length + 1 : Nat) : Int) by omega]
  | x :: pend, C, n, A, hx, s, m, hC, hn => by
    obtain ⟨n, rfl⟩ : ∃ e, n = e + 10 := ⟨n - 10, by omega⟩
    rw [List.cons_append] at s
    simp only [List.length_cons] at hC hn
    have x1 := hx x List.mem_cons_self
    have eW : (pend ++ W).length = pend.length + W.length := by simp
    have i1 := s_isOn0 (d + 6) 10 A (x :: (pend ++ W)) C o s (by omega) (by simp only [List.length_cons, eW]; omega)
    rw [show decide (hdI (x :: (pend ++ W)) = 10) = true from decide_eq_true x1, bI_t] at i1
    obtain ⟨D, d1, d2, d3, d4, d5⟩ := s_dropsQ (d + 5) x A (pend ++ W) C o s m (by omega) (by rw [eW]; omega)
    obtain ⟨B, b1, b2, b3, b4⟩ := l_and d W o hW pend (C ++ [x]) (n + 9) D (fun y hy => hx y (List.mem_cons_of_mem _ hy)) d2 d3 (by simp only [List.length_append, List.length_cons, List.length_nil]; omega) (by omega)
    refine ⟨B, ?_, by rw [List.append_assoc] at b2; exact b2, b3, frV_trans d4 b4⟩
    rw [q_X12_qGoesOnTest_87, i1, cI_v, if_neg (by omega), d1, cV_v]
    exact b1
set_option maxRecDepth 100000 in
theorem l_or (d : Nat) {T : Nat → Int} {L p : Nat} {t : Bool} (W : List Int) (o : Nat) (hW : ¬ (hdI W = 10 ∨ hdI W = 11)) : ∀ (pend C : List Int) (n : Nat) (A : AH), (∀ x ∈ pend, x = 10 ∨ x = 11) → STQ 0 0 A (pend ++ W) C o → MdS A T L p t → C.length + (pend.length + W.length) < 1600 → 2 * pend.length + 10 ≤ n → ∃ B, go true 2 (runF (d + 7)) (runN (d + 7)) pb_X12_qGoesOnTest n 137 [vR 21 190 0] [] A = some (some (vI 1), B) ∧ STQ 0 0 B (11 :: W) (C ++ pend) o ∧ MdS B T L p t ∧ fVQ 0 0 A B
  | [], C, n, A, hx, s, m, hC, hn => by
    obtain ⟨n, rfl⟩ : ∃ e, n = e + 10 := ⟨n - 10, by omega⟩
    rw [List.nil_append] at s
    simp only [List.length_nil] at hC
    have i1 := s_isOn0 (d + 6) 10 A W C o s (by omega) (by omega)
    rw [decide_eq_false (fun y => hW (Or.inl y)), bI_f] at i1
    have i2 := s_isOn0 (d + 6) 11 A W C o s (by omega) (by omega)
    rw [decide_eq_false (fun y => hW (Or.inr y)), bI_f] at i2
    have s3 := s.2.1.1
    rw [Nat.zero_add] at s3
    refine ⟨wi (wi A 268 W.length 11) 190 102 ((W.length + 1 : Nat) : Int), ?_, by rw [List.append_nil]; exact ST_push 11 s, MdS_fr (by simp -implicitDefEqProofs (disch := omega) only [gi_wi, ↓reduceIte, Int.reduceEq, cI_v, cL_v, cV_v, cR_v, wid, wid64, if_pos, if_neg, Nat.add_zero, if_true, if_false, and_self, and_true, true_and, and_false, false_and, or_true, true_or, or_false, false_or]) (by simp -implicitDefEqProofs (disch := omega) only [gi_wi, ↓reduceIte, Int.reduceEq, cI_v, cL_v, cV_v, cR_v, wid, wid64, if_pos, if_neg, Nat.add_zero, if_true, if_false, and_self, and_true, true_and, and_false, false_and, or_true, true_or, or_false, false_or]) (by simp -implicitDefEqProofs (disch := omega) only [gi_wi, ↓reduceIte, Int.reduceEq, cI_v, cL_v, cV_v, cR_v, wid, wid64, if_pos, if_neg, Nat.add_zero, if_true, if_false, and_self, and_true, true_and, and_false, false_and, or_true, true_or, or_false, false_or]) (by simp -implicitDefEqProofs (disch := omega) only [gi_wi, ↓reduceIte, Int.reduceEq, cI_v, cL_v, cV_v, cR_v, wid, wid64, if_pos, if_neg, Nat.add_zero, if_true, if_false, and_self, and_true, true_and, and_false, false_and, or_true, true_or, or_false, false_or]) (by simp -implicitDefEqProofs (disch := omega) only [gi_wi, ↓reduceIte, Int.reduceEq, cI_v, cL_v, cV_v, cR_v, wid, wid64, if_pos, if_neg, Nat.add_zero, if_true, if_false, and_self, and_true, true_and, and_false, false_and, or_true, true_or, or_false, false_or]) (fun a j q1 q2 => by simp -implicitDefEqProofs (disch := omega) only [gi_wi, ↓reduceIte, Int.reduceEq, cI_v, cL_v, cV_v, cR_v, wid, wid64, if_pos, if_neg, Nat.add_zero, if_true, if_false, and_self, and_true, true_and, and_false, false_and, or_true, true_or, or_false, false_or]) m, frV_i _ _ (by omega) (frV_w _ _ (by omega) (frV_refl _ _ _ _ _ _ _ A))⟩
    rw [q_X12_qGoesOnTest_137, i1, cI_v, if_pos rfl, i2, cI_v, if_pos rfl, s3, if_pos (by omega), Int.toNat_natCast, q_X12_qGoesOnTest_173, gi_wi, if_neg (by omega), s3, wid (by omega) (by omega), q_X12_qGoesOnTest_183, show ((W.length : Nat) : Int) + 1 = ((W.length + 1 : Nat) : Int) by omega]
  | x :: pend, C, n, A, hx, s, m, hC, hn => by
    obtain ⟨n, rfl⟩ : ∃ e, n = e + 10 := ⟨n - 10, by omega⟩
    rw [List.cons_append] at s
    simp only [List.length_cons] at hC hn
    have x1 := hx x List.mem_cons_self
    have eW : (pend ++ W).length = pend.length + W.length := by simp
    have i1 := s_isOn0 (d + 6) 10 A (x :: (pend ++ W)) C o s (by omega) (by simp only [List.length_cons, eW]; omega)
    have i2 := s_isOn0 (d + 6) 11 A (x :: (pend ++ W)) C o s (by omega) (by simp only [List.length_cons, eW]; omega)
    have eh : hdI (x :: (pend ++ W)) = x := rfl
    rw [eh] at i1 i2
    obtain ⟨D, d1, d2, d3, d4, d5⟩ := s_dropsQ (d + 5) x A (pend ++ W) C o s m (by omega) (by rw [eW]; omega)
    obtain ⟨B, b1, b2, b3, b4⟩ := l_or d W o hW pend (C ++ [x]) (n + 8) D (fun y hy => hx y (List.mem_cons_of_mem _ hy)) d2 d3 (by simp only [List.length_append, List.length_cons, List.length_nil]; omega) (by omega)
    refine ⟨B, ?_, by rw [List.append_assoc] at b2; exact b2, b3, frV_trans d4 b4⟩
    by_cases z : x = 10
    · rw [decide_eq_true z, bI_t] at i1
      rw [q_X12_qGoesOnTest_137, i1, cI_v, if_neg (by omega), q_X12_qGoesOnTest_155, d1, cV_v]
      exact b1
    · rw [decide_eq_false z, bI_f] at i1
      rw [decide_eq_true (show x = 11 by omega), bI_t] at i2
      rw [q_X12_qGoesOnTest_137, i1, cI_v, if_pos rfl, i2, cI_v, if_neg (by omega), q_X12_qGoesOnTest_155, d1, cV_v]
      exact b1
/-- the way to pc 76 -/
theorem gon76 (d : Nat) {T : Nat → Int} {L p : Nat} {t : Bool} (A : AH) (W C : List Int) (o n : Nat) (m : MdS A T L p t) (s : STQ 0 0 A W C o) (hW : W.length < 1600) (h : ¬ (sgn T L p t = 93 ∧ (25 : Int) ∈ W)) : go true 2 (runF (d + 7)) (runN (d + 7)) pb_X12_qGoesOnTest (n + 1) 0 [vR 21 190 0] [] A = go true 2 (runF (d + 7)) (runN (d + 7)) pb_X12_qGoesOnTest n 76 [vR 21 190 0] [] (wi A 190 2 (bl T L p : Int)) := by
  obtain ⟨k1, k2, k3⟩ := s_lookM (d + 6) A m
  have ec := ch_sgn (T := T) (L := L) (p := p) (t := t) (c := 93) m.1.2.2.1 (by decide) (by decide) (by decide)
  rw [q_X12_qGoesOnTest_0, if_pos m.2.2.1, k1, cI_v]
  by_cases z : ch T L (bl T L p) = 93
  · rw [if_pos z, s_hasSq (d + 6) _ W C o (StR_Z (by omega) k3 s) hW, cI_v, decide_eq_false (fun y => h ⟨ec.mp z, y⟩), bI_f, if_pos rfl]
    all_goals rfl
  · rw [if_neg z]
    all_goals rfl
theorem jn_w {T : Nat → Int} {L p : Nat} {t : Bool} (h1 : jnF T L 1 p t = -1) (h0 : jnF T L 0 p t = -1) : wrd T L p t ≠ 26 ∧ wrd T L p t ≠ 25 := by
  unfold jnF at h1 h0
  rw [if_neg (by omega), if_pos rfl] at h1
  rw [if_pos rfl] at h0
  constructor
  · intro c; rw [if_pos c] at h1; omega
  · intro c; rw [if_pos c] at h0; omega
theorem gon0 (d : Nat) {T : Nat → Int} {L p : Nat} {t : Bool} (A : AH) (W C : List Int) (o n : Nat) (m : MdS A T L p t) (s : STQ 0 0 A W C o) (hW : W.length < 1600) (h : ¬ (sgn T L p t = 93 ∧ (25 : Int) ∈ W)) (h1 : jnF T L 1 p t = -1) (h0 : jnF T L 0 p t = -1) : go true 2 (runF (d + 7)) (runN (d + 7)) pb_X12_qGoesOnTest (n + 5) 0 [vR 21 190 0] [] A = if (25 : Int) ∈ W then some (some (vI 0), wi (wi (wi A 190 2 (bl T L p : Int)) 190 5 1) 190 6 (bl T L p : Int)) else some (some (vI 0), wi A 190 2 (bl T L p : Int)) := by
  obtain ⟨k1, k2, k3⟩ := s_lookM (d + 6) A m
  obtain ⟨w1, w2⟩ := jn_w h1 h0
  have ta := (s_takes (d + 4) 251 3 26 _ k2.1 (by omega) (by decide) (by decide)).2 w1
  have tb := (s_takes (d + 4) 252 2 25 _ k2.1 (by omega) (by decide) (by decide)).2 w2
  rw [wi_2] at ta tb
  have hq := s_hasSq (d + 6) _ W C o (StR_Z (by omega) k3 s) hW
  rw [gon76 d A W C o (n + 4) m s hW h, q_X12_qGoesOnTest_76, ta, cI_v, if_pos rfl, tb, cI_v, if_pos rfl, if_pos k2.1.2.2.1, hq, cI_v]
  by_cases z : (25 : Int) ∈ W
  · rw [decide_eq_true z, bI_t, if_neg (by omega), if_pos z, s_failM (d + 6) _ _ _ k2.1.2.2.1, cV_v, k2.2]
  · rw [decide_eq_false z, bI_f, if_pos rfl, if_neg z]
theorem RtA_close (d : Nat) {T : Nat → Int} {L : Nat} (Ast : AH) (Φ : RS → Prop) (tx : TX T L) : ∀ W C o p t pend, p ≤ L → sgn T L p t = 93 → (∀ x ∈ pend, x = 10 ∨ x = 11) → EgT d T L Ast Φ W (C ++ pend) o (stp T L p) false → AgT d T L Ast Φ (pend ++ 25 :: W) C (o + 1) p t := by
  intro W C o p t pend hp hs hpd hE g A n1 n x2 r hn1 hn
  have tL := tx.1
  have hl := r.2.2.2.1
  have ho6 := r.2.2.2.2
  have hbl := bl_le T L p
  have sLL := stp_L tx hp
  have eW : (pend ++ 25 :: W).length = pend.length + (W.length + 1) := by simp
  rw [eW] at hl hn1
  obtain ⟨es, ek, eT⟩ := sgn_stp hs (by decide)
  have lt := knd3 tx ek
  obtain ⟨n1, rfl⟩ : ∃ e, n1 = e + 1 := ⟨n1 - 1, by omega⟩
  obtain ⟨k1, k2, k3⟩ := s_lookM (d + 6) A r.1
  have fW : frZ A (wi (wi A 190 2 (bl T L p : Int)) 190 2 ((bl T L p + 1 : Nat) : Int)) := frZ_wi _ (by omega) k3
  have mW : MdS (wi (wi A 190 2 (bl T L p : Int)) 190 2 ((bl T L p + 1 : Nat) : Int)) T L (bl T L p + 1) false := MdS_sg r.1 fW (by simp -implicitDefEqProofs (disch := omega) only [gi_wi, ↓reduceIte, Int.reduceEq, cI_v, cL_v, cV_v, cR_v, wid, wid64, if_pos, if_neg, Nat.add_zero, if_true, if_false, and_self, and_true, true_and, and_false, false_and, or_true, true_or, or_false, false_or]; exact r.1.2.2.1) (by simp -implicitDefEqProofs (disch := omega) only [gi_wi, ↓reduceIte, Int.reduceEq, cI_v, cL_v, cV_v, cR_v, wid, wid64, if_pos, if_neg, Nat.add_zero, if_true, if_false, and_self, and_true, true_and, and_false, false_and, or_true, true_or, or_false, false_or]) (by simp -implicitDefEqProofs (disch := omega) only [gi_wi, ↓reduceIte, Int.reduceEq, cI_v, cL_v, cV_v, cR_v, wid, wid64, if_pos, if_neg, Nat.add_zero, if_true, if_false, and_self, and_true, true_and, and_false, false_and, or_true, true_or, or_false, false_or]) (by simp -implicitDefEqProofs (disch := omega) only [gi_wi, ↓reduceIte, Int.reduceEq, cI_v, cL_v, cV_v, cR_v, wid, wid64, if_pos, if_neg, Nat.add_zero, if_true, if_false, and_self, and_true, true_and, and_false, false_and, or_true, true_or, or_false, false_or]) lt
  obtain ⟨B, n', b0, b1, b2, b3, b4⟩ := l_sq d W (o + 1) pend C n1 _ hpd (StR_Z (by omega) fW r.2.1) mW (by omega) (by omega)
  have b5 := b2.2.2.1
  obtain ⟨n', rfl⟩ : ∃ e, n' = e + 2 := ⟨n' - 2, by omega⟩
  generalize hF : wi (wi B 190 102 ((W.length : Nat) : Int)) 190 103 ((o : Nat) : Int) = F
  have fF : fVQ 0 0 B F := by rw [← hF]; exact frV_i _ _ (by omega) (frV_i _ _ (by omega) (frV_refl _ _ _ _ _ _ _ B))
  have sF : STQ 0 0 F W (C ++ pend) o := by rw [← hF]; exact ST_pop o b2
  have mF : MdS F T L (stp T L p) false := by
    rw [← hF, es]
    exact MdS_fr (by simp -implicitDefEqProofs (disch := omega) only [gi_wi, ↓reduceIte, Int.reduceEq, cI_v, cL_v, cV_v, cR_v, wid, wid64, if_pos, if_neg, Nat.add_zero, if_true, if_false, and_self, and_true, true_and, and_false, false_and, or_true, true_or, or_false, false_or]) (by simp -implicitDefEqProofs (disch := omega) only [gi_wi, ↓reduceIte, Int.reduceEq, cI_v, cL_v, cV_v, cR_v, wid, wid64, if_pos, if_neg, Nat.add_zero, if_true, if_false, and_self, and_true, true_and, and_false, false_and, or_true, true_or, or_false, false_or]) (by simp -implicitDefEqProofs (disch := omega) only [gi_wi, ↓reduceIte, Int.reduceEq, cI_v, cL_v, cV_v, cR_v, wid, wid64, if_pos, if_neg, Nat.add_zero, if_true, if_false, and_self, and_true, true_and, and_false, false_and, or_true, true_or, or_false, false_or]) (by simp -implicitDefEqProofs (disch := omega) only [gi_wi, ↓reduceIte, Int.reduceEq, cI_v, cL_v, cV_v, cR_v, wid, wid64, if_pos, if_neg, Nat.add_zero, if_true, if_false, and_self, and_true, true_and, and_false, false_and, or_true, true_or, or_false, false_or]) (by simp -implicitDefEqProofs (disch := omega) only [gi_wi, ↓reduceIte, Int.reduceEq, cI_v, cL_v, cV_v, cR_v, wid, wid64, if_pos, if_neg, Nat.add_zero, if_true, if_false, and_self, and_true, true_and, and_false, false_and, or_true, true_or, or_false, false_or]) (fun a j q1 q2 => by simp -implicitDefEqProofs (disch := omega) only [gi_wi, ↓reduceIte, Int.reduceEq, cI_v, cL_v, cV_v, cR_v, wid, wid64, if_pos, if_neg, Nat.add_zero, if_true, if_false, and_self, and_true, true_and, and_false, false_and, or_true, true_or, or_false, false_or]) b3
  have rF : RpQ T L 0 0 Ast F W (C ++ pend) o (stp T L p) false := Rp_oQ r (frV_trans (frZ_V fW) (frV_trans b4 fF)) mF sF (by simp only [List.length_append]; omega) (by omega)
  obtain ⟨D, d1, d2, d3⟩ := hE (gT_t (gT_a g)) F (d + 2) rF
  have e1 : runF (d + 7) 278 [vR 21 190 0] F = some (none, D) := by rw [r_X12_qDropsNots]; exact d1 _ (by have := fu_ge; omega)
  have hq := s_hasSq (d + 6) _ (pend ++ 25 :: W) C (o + 1) (StR_Z (by omega) k3 r.2.1) (by rw [eW]; omega)
  rw [decide_eq_true (show (25 : Int) ∈ pend ++ 25 :: W by simp), bI_t] at hq
  have e2 : go true 2 (runF (d + 7)) (runN (d + 7)) pb_X12_qGoesOnTest (n1 + 1) 0 [vR 21 190 0] [] A = go true 2 (runF (d + 7)) (runN (d + 7)) pb_X12_qGoesOnTest n' 0 [vR 21 190 0] [] D := by
    rw [q_X12_qGoesOnTest_0, if_pos r.1.2.2.1, k1, cI_v, if_pos ((ch_sgn tx (by decide) (by decide) (by decide)).mpr hs), hq, cI_v, if_neg (by omega), k2.2, wid (by omega) (by omega), show (bl T L p : Int) + 1 = ((bl T L p + 1 : Nat) : Int) by omega, Nat.add_zero n1, b1, q_X12_qGoesOnTest_59, gi_wi, if_neg (by omega), b5, wid (by omega) (by omega), show ((o + 1 : Nat) : Int) - 1 = ((o : Nat) : Int) by omega, hF, q_X12_qGoesOnTest_69, e1, cV_v]
    all_goals rfl
  rw [e2]
  exact d3 n' n x2 (by omega) (by omega)
theorem RtA_and (d : Nat) {T : Nat → Int} {L : Nat} (Ast : AH) (Φ : RS → Prop) (tx : TX T L) : ∀ W C o p t pend op, p ≤ L → wrd T L p t = 26 ∧ op = 10 → (∀ x ∈ pend, x = 10) → ¬ (hdI W = 10) → NgT d T L Ast Φ (op :: W) (C ++ pend) o (stp T L p) true → AgT d T L Ast Φ (pend ++ W) C o p t := by
  intro W C o p t pend op hp hw hpd hW hN g A n1 n x2 r hn1 hn
  have tL := tx.1
  have hl := r.2.2.2.1
  have ho6 := r.2.2.2.2
  have sLL := stp_L tx hp
  have w1 := wrd_1 (T := T) (L := L) (p := p) (t := t) (by omega) tx
  have eW : (pend ++ W).length = pend.length + W.length := by simp
  rw [eW] at hl hn1
  have kk := wrd_k (T := T) (L := L) (p := p) (t := t) (by omega)
  have hs : sgn T L p t ≠ 93 := fun y => by have := (sgn_stp y (by decide)).2.1; omega
  obtain ⟨n1, rfl⟩ : ∃ e, n1 = e + 5 := ⟨n1 - 5, by omega⟩
  obtain ⟨n, rfl⟩ : ∃ e, n = e + 1 := ⟨n - 1, by omega⟩
  obtain ⟨k1, k2, k3⟩ := s_lookM (d + 6) A r.1
  obtain ⟨B, b1, b2, b3⟩ := (s_takes (d + 4) 251 3 26 _ k2.1 (by omega) (by decide) (by decide)).1 hw.1
  obtain ⟨D, d1, d2, d3, d4⟩ := l_and d W o hW pend C (n1 + 3) B hpd (StR_Z (by omega) (frZ_trans k3 b3) r.2.1) b2 (by omega) (by omega)
  rw [gon76 d A (pend ++ W) C o (n1 + 4) r.1 r.2.1 (by rw [eW]; omega) (fun y => hs y.1), q_X12_qGoesOnTest_76, b1, cI_v, if_neg (by omega), d1, cI_v, kT_1]
  rw [hw.2] at hN
  exact hN (gT_c (by omega) (gT_a g)) D n _ (Rp_oQ r (frV_trans (frZ_V (frZ_trans k3 b3)) d4) d3 d2 (by simp only [List.length_append, List.length_cons]; omega) ho6) (by omega)
theorem RtA_or (d : Nat) {T : Nat → Int} {L : Nat} (Ast : AH) (Φ : RS → Prop) (tx : TX T L) : ∀ W C o p t pend op, p ≤ L → wrd T L p t = 25 ∧ op = 11 → (∀ x ∈ pend, x = 10 ∨ x = 11) → ¬ (hdI W = 10 ∨ hdI W = 11) → NgT d T L Ast Φ (op :: W) (C ++ pend) o (stp T L p) true → AgT d T L Ast Φ (pend ++ W) C o p t := by
  intro W C o p t pend op hp hw hpd hW hN g A n1 n x2 r hn1 hn
  have tL := tx.1
  have hl := r.2.2.2.1
  have ho6 := r.2.2.2.2
  have sLL := stp_L tx hp
  have w1 := wrd_1 (T := T) (L := L) (p := p) (t := t) (by omega) tx
  have eW : (pend ++ W).length = pend.length + W.length := by simp
  rw [eW] at hl hn1
  have kk := wrd_k (T := T) (L := L) (p := p) (t := t) (by omega)
  have hs : sgn T L p t ≠ 93 := fun y => by have := (sgn_stp y (by decide)).2.1; omega
  obtain ⟨n1, rfl⟩ : ∃ e, n1 = e + 5 := ⟨n1 - 5, by omega⟩
  obtain ⟨n, rfl⟩ : ∃ e, n = e + 1 := ⟨n - 1, by omega⟩
  obtain ⟨k1, k2, k3⟩ := s_lookM (d + 6) A r.1
  have ta := (s_takes (d + 4) 251 3 26 _ k2.1 (by omega) (by decide) (by decide)).2 (by omega)
  rw [wi_2] at ta
  obtain ⟨B, b1, b2, b3⟩ := (s_takes (d + 4) 252 2 25 _ k2.1 (by omega) (by decide) (by decide)).1 hw.1
  obtain ⟨D, d1, d2, d3, d4⟩ := l_or d W o hW pend C (n1 + 2) B hpd (StR_Z (by omega) (frZ_trans k3 b3) r.2.1) b2 (by omega) (by omega)
  rw [gon76 d A (pend ++ W) C o (n1 + 4) r.1 r.2.1 (by rw [eW]; omega) (fun y => hs y.1), q_X12_qGoesOnTest_76, ta, cI_v, if_pos rfl, b1, cI_v, if_neg (by omega), d1, cI_v, kT_1]
  rw [hw.2] at hN
  exact hN (gT_c (by omega) (gT_a g)) D n _ (Rp_oQ r (frV_trans (frZ_V (frZ_trans k3 b3)) d4) d3 d2 (by simp only [List.length_append, List.length_cons]; omega) ho6) (by omega)
theorem RtA_bad (d : Nat) {T : Nat → Int} {L : Nat} (Ast : AH) (Φ : RS → Prop) (tx : TX T L) : ∀ W C o p t pend, p ≤ L → jnF T L 1 p t = -1 → jnF T L 0 p t = -1 → sgn T L p t ≠ 93 → (∀ x ∈ pend, x = 10 ∨ x = 11) → BdT Ast Φ 1 (bl T L p) → AgT d T L Ast Φ (pend ++ 25 :: W) C o p t := by
  intro W C o p t pend hp h1 h0 hs hpd hB g A n1 n x2 r hn1 hn
  have tL := tx.1
  have hl := r.2.2.2.1
  have eW : (pend ++ 25 :: W).length = pend.length + (W.length + 1) := by simp
  rw [eW] at hl hn1
  obtain ⟨n1, rfl⟩ : ∃ e, n1 = e + 5 := ⟨n1 - 5, by omega⟩
  obtain ⟨k1, k2, k3⟩ := s_lookM (d + 6) A r.1
  rw [gon0 d A (pend ++ 25 :: W) C o n1 r.1 r.2.1 (by rw [eW]; omega) (fun y => hs y.1) h1 h0, if_pos (by simp), cI_v]
  exact (T_bad (d := d) hB _ (frV_Jq (frV_trans r.2.2.1 (frZ_V (frZ_wi _ (by omega) (frZ_wi _ (by omega) k3))))) (by simp -implicitDefEqProofs (disch := omega) only [gi_wi, ↓reduceIte, Int.reduceEq, cI_v, cL_v, cV_v, cR_v, wid, wid64, if_pos, if_neg, Nat.add_zero, if_true, if_false, and_self, and_true, true_and, and_false, false_and, or_true, true_or, or_false, false_or]) (by simp -implicitDefEqProofs (disch := omega) only [gi_wi, ↓reduceIte, Int.reduceEq, cI_v, cL_v, cV_v, cR_v, wid, wid64, if_pos, if_neg, Nat.add_zero, if_true, if_false, and_self, and_true, true_and, and_false, false_and, or_true, true_or, or_false, false_or]) (by omega) n (by omega)).2 x2
theorem RtA_T (d : Nat) {T : Nat → Int} {L : Nat} (Ast : AH) (Φ : RS → Prop) (tx : TX T L) : RtA T L (NgT d T L Ast Φ) (EgT d T L Ast Φ) (AgT d T L Ast Φ) (BdT Ast Φ) := ⟨RtA_close d Ast Φ tx, RtA_and d Ast Φ tx, RtA_or d Ast Φ tx, RtA_bad d Ast Φ tx⟩
set_option maxRecDepth 100000 in
theorem l_endT (d : Nat) {T : Nat → Int} {L p : Nat} {t : Bool} {x2 : Int} (o : Nat) : ∀ (pend C : List Int) (n : Nat) (A : AH), STQ 0 0 A pend C o → MdS A T L p t → C.length + pend.length < 1600 → pend.length + 10 ≤ n → ∃ B, go true 3 (runF (d + 8)) (runN (d + 8)) pb_X12_qTest n 110 [vR 21 190 0, vI 0, vI x2] [] A = some (none, B) ∧ STQ 0 0 B [] (C ++ pend) o ∧ MdS B T L p t ∧ fVQ 0 0 A B
  | [], C, n, A, s, m, hC, hn => by
    obtain ⟨n, rfl⟩ : ∃ e, n = e + 10 := ⟨n - 10, by omega⟩
    refine ⟨A, ?_, by rw [List.append_nil]; exact s, m, frV_refl _ _ _ _ _ _ _ A⟩
    have s3 := s.2.1.1
    rw [q_X12_qTest_110, if_pos m.2.2.1, s3, if_neg (by simp)]
  | x :: pend, C, n, A, s, m, hC, hn => by
    obtain ⟨n, rfl⟩ : ∃ e, n = e + 10 := ⟨n - 10, by omega⟩
    simp only [List.length_cons] at hC hn
    obtain ⟨D, d1, d2, d3, d4, d5⟩ := s_dropsQ (d + 6) x A pend C o s m (by omega) (by omega)
    obtain ⟨B, b1, b2, b3, b4⟩ := l_endT d o pend (C ++ [x]) (n + 9) D d2 d3 (by simp only [List.length_append, List.length_cons, List.length_nil]; omega) (by omega)
    refine ⟨B, ?_, by rw [List.append_assoc] at b2; exact b2, b3, frV_trans d4 b4⟩
    have s3 := s.2.1.1
    simp only [List.length_cons] at s3
    rw [q_X12_qTest_110, if_pos m.2.2.1, s3, if_pos (by omega), d1, cV_v]
    exact b1
set_option maxRecDepth 100000 in
theorem s_qTest (d : Nat) {T : Nat → Int} {L p : Nat} {t : Bool} (tx : TX T L) (A : AH) (m : MdS A T L p t) (h100 : gi A 190 100 = 0) (h102 : gi A 190 102 = 0) (h103 : gi A 190 103 = 0) (h104 : gi A 190 104 = 0) (hc : 0 < p) : (∀ k s, testG T L (factG T L 6) p t = .error (k, s) → ∃ B, runF (d + 9) 279 [vR 21 190 0] A = some (none, B) ∧ gi B 190 5 = k ∧ gi B 190 6 = s ∧ k ≠ 0 ∧ frJq A B) ∧ (∀ cs p' t', testG T L (factG T L 6) p t = .ok (cs, p', t') → ∃ B, runF (d + 9) 279 [vR 21 190 0] A = some (none, B) ∧ MdS B T L p' t' ∧ gi B 190 100 = ((cs.length : Nat) : Int) ∧ (∀ i, i < cs.length → gi B 267 i = (cs.map (mcF true)).getD i 0) ∧ frJq A B) := by
  have tL := tx.1
  have hp := m.2.1
  have r0 : RpQ T L 0 0 A A [] [] 0 p t := ⟨m, ⟨⟨by rw [h100]; simp, fun i hi => by simp at hi⟩, ⟨by rw [h102]; simp, trivial⟩, by rw [h103]; rfl, by rw [h104]; rfl, fun h => by omega⟩, frV_refl _ _ _ _ _ _ _ A, by simp; omega, by omega⟩
  have e0 : runF (d + 9) 279 [vR 21 190 0] A = go true 3 (runF (d + 8)) (runN (d + 8)) pb_X12_qTest (fu + 199) 2 [vR 21 190 0, vI 1, vU] [] A := by
    rw [r_X12_qTest, q_X12_qTest_0]
  have S : ∀ Φ : RS → Prop, SimSt L true (NgT d T L A Φ) (AgT d T L A Φ) (BdT A Φ) (testG T L (factG T L 6)) 0 := fun Φ => simt_test tx (RtE_g d tx) (RtA_T d A Φ tx) (GP_factG tx 6) (simt_fact tx (RtN_T d A Φ tx) (RtE_g d tx) (RtA_T d A Φ tx) 6 (by omega))
  refine ⟨fun k s e => ?_, fun cs p' t' e => ?_⟩
  · have := (S (fun R => ∃ B, R = some (none, B) ∧ gi B 190 5 = k ∧ gi B 190 6 = s ∧ k ≠ 0 ∧ frJq A B) [] [] p t hp (by show ¬ (((0 : Int) = 10 ∨ (0 : Int) = 11) ∨ (0 : Int) = 12); omega)).2 k s e (fun B b1 b2 b3 b4 => ⟨B, rfl, b1, b2, b3, b4⟩) gT_n A (fu + 199) vU r0 (by have := fu_ge; omega)
    rw [e0]; exact this
  · have g := GP_test tx (GP_factG tx 6) p t cs p' t' hp e
    obtain ⟨j1, j0⟩ := test_end tx (GP_factG tx 6) hp e
    have := (S (fun R => ∃ B, R = some (none, B) ∧ MdS B T L p' t' ∧ gi B 190 100 = ((cs.length : Nat) : Int) ∧ (∀ i, i < cs.length → gi B 267 i = (cs.map (mcF true)).getD i 0) ∧ frJq A B) [] [] p t hp (by show ¬ (((0 : Int) = 10 ∨ (0 : Int) = 11) ∨ (0 : Int) = 12); omega)).1 cs p' t' e (by
      intro C' q e1 e2
      rw [List.append_nil]
      intro _ X n1 n x2 rX hn1 hn
      have e1' : cs.map (mcF true) = C' ++ q := by rw [← e1]; rfl
      have n25 : (25 : Int) ∉ q := fun y => by have := e2 25 y; omega
      have hl := rX.2.2.2.1
      have hp' := rX.1.2.1
      obtain ⟨n1, rfl⟩ : ∃ e, n1 = e + 5 := ⟨n1 - 5, by omega⟩
      obtain ⟨n, rfl⟩ : ∃ e, n = e + 10 := ⟨n - 10, by omega⟩
      obtain ⟨k1, k2, k3⟩ := s_lookM (d + 6) X rX.1
      obtain ⟨B, b1, b2, b3, b4⟩ := l_endT d (x2 := x2) 0 q C' (n + 7) _ (StR_Z (by omega) k3 rX.2.1) k2.1 (by omega) (by omega)
      rw [gon0 d X q C' 0 n1 rX.1 rX.2.1 (by omega) (fun y => n25 y.2) j1 j0, if_neg n25, cI_v, kT_0, b1]
      obtain ⟨z1, z2⟩ := b2.1
      rw [← e1'] at z1 z2
      rw [List.length_map, Nat.zero_add] at z1
      refine ⟨B, rfl, b3, z1, fun i hi => ?_, frV_Jq (frV_trans rX.2.2.1 (frV_trans (frZ_V k3) b4))⟩
      have := z2 i (by rw [List.length_map]; exact hi)
      rw [Nat.zero_add] at this
      exact this) gT_n A (fu + 199) vU r0 (by have := fu_ge; omega)
    rw [e0]; exact this
