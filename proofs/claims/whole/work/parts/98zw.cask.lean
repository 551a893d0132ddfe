/-! a question: the class reads it and answers -/
def qsG (T : Nat → Int) (L : Nat) : Except (Int × Int) (Nat × List Int) :=
  if wrd T L 0 false < 32 then .error (1, bl T L 0) else
  match (if wrd T L 0 false < 35 then testG T L (factG T L 6) else sumG T L (partG T L true 6)) (stp T L 0) true with
  | .error e => .error e
  | .ok (cs, p, t) => if knd T L p t = 0 then .ok (wrd T L 0 false, cs) else .error (1, bl T L p)
def frQa (A B : AH) : Prop := (∀ a j, a ≠ 42 → a ≠ 44 → a ≠ 45 → gi B a j = gi A a j) ∧ (∀ a j, a ≠ 42 → a ≠ 186 → gr B a j = gr A a j) ∧ B.2.2 = A.2.2
theorem frQa_trans {A B C : AH} (f : frQa A B) (g : frQa B C) : frQa A C := ⟨fun a j h1 h2 h3 => (g.1 a j h1 h2 h3).trans (f.1 a j h1 h2 h3), fun a j h1 h2 => (g.2.1 a j h1 h2).trans (f.2.1 a j h1 h2), g.2.2.trans f.2.2⟩
theorem frH_Qa {A B : AH} (f : frH A B) : frQa A B := ⟨fun a j h1 h2 h3 => f.1 a j (by omega) (by omega) h3, fun a j h1 _ => f.2.1 a j (by omega), f.2.2⟩
theorem frR_Qa {A B : AH} (f : frR A B) : frQa A B := frH_Qa (frR_H f)
set_option maxRecDepth 100000 in
theorem s_qread (d : Nat) {T : Nat → Int} {L : Nat} (tx : TX T L) (A : AH) (r : RdS A T L 0 false) (h11 : gi A 42 11 = 0) (h12 : gi A 42 12 = -1) : (∀ k s, qsG T L = .error (k, s) → ∃ B, runF (d + 60) 79 [vR 17 186 0] A = some (some (vI 0), B) ∧ gi B 42 11 = k ∧ gi B 42 12 = s ∧ frQa A B) ∧ (∀ w cs, qsG T L = .ok (w, cs) → ∃ B, runF (d + 60) 79 [vR 17 186 0] A = some (some (vI 1), B) ∧ gi B 42 11 = 0 ∧ gi B 42 12 = -1 ∧ gr B 186 3 = w ∧ gi B 44 4 = ((cs.length : Nat) : Int) ∧ (∀ i, i < cs.length → gi B 45 i = clsC (cs.getD i 0)) ∧ frQa A B) := by
  have tL := tx.1
  have e5 := r.2.1
  have e7 := r.2.2.2.2.1
  have w37 := wrd_le T L 0 false
  obtain ⟨w, hw⟩ : ∃ w, w = wrd T L 0 false := ⟨_, rfl⟩
  rw [← hw] at w37 e7
  unfold qsG
  rw [← hw]
  have f19 : ∀ (m : Nat), go true 2 (runF (d + 59)) (runN (d + 59)) pb_X7_read (m + 1) 19 [vR 17 186 0, vR 22 w 0, vU] [] A = some (some (vI 0), wi (wi A 42 11 1) 42 12 (bl T L 0 : Int)) := fun m => by
    rw [q_X7_read_19, e5, s_failC (d + 58), cI_v, if_pos (Or.inl rfl)]
  by_cases c : w < 32
  · rw [if_pos c]
    refine ⟨fun k s e => ?_, (fun w cs e => by cases e)⟩
    injection e with e; injection e with e1 e2
    refine ⟨wi (wi A 42 11 1) 42 12 (bl T L 0 : Int), ?_, by rw [← e1]; simp -implicitDefEqProofs (disch := omega) only [gi_wi, ↓reduceIte, Int.reduceEq, cI_v, cL_v, cV_v, cR_v, wid, wid64, if_pos, if_neg, Nat.add_zero, if_true, if_false, and_self, and_true, true_and, and_false, false_and, or_true, true_or, or_false, false_or], by rw [← e2]; simp -implicitDefEqProofs (disch := omega) only [gi_wi, ↓reduceIte, Int.reduceEq, cI_v, cL_v, cV_v, cR_v, wid, wid64, if_pos, if_neg, Nat.add_zero, if_true, if_false, and_self, and_true, true_and, and_false, false_and, or_true, true_or, or_false, false_or], ⟨fun a j h1 h2 h3 => by simp -implicitDefEqProofs (disch := omega) only [gi_wi, ↓reduceIte, Int.reduceEq, cI_v, cL_v, cV_v, cR_v, wid, wid64, if_pos, if_neg, Nat.add_zero, if_true, if_false, and_self, and_true, true_and, and_false, false_and, or_true, true_or, or_false, false_or], fun a j _ _ => rfl, rfl⟩⟩
    rw [r_X7_read, q_X7_read_0, e7]
    by_cases z : w = 0
    · rw [if_pos z]; exact f19 _
    · rw [if_neg z, if_neg z, if_neg (fun y => by have := (own_31 w (by omega) w37).mp y; omega)]; exact f19 _
  · rw [if_neg c]
    have kk := wrd_k (T := T) (L := L) (p := 0) (t := false) (by omega)
    have rW : RdS (wr A 186 3 w) T L 0 false := RdS_fr (fun j => rfl) (fun j => rfl) (fun j => by rw [gr_wr, if_neg (by omega)]) rfl r
    obtain ⟨B1, b1, b2, b3, b4⟩ := s_stepR (d + 57) (wr A 186 3 w) rW
    rw [show tk T L 0 false = true from decide_eq_true (Or.inl kk)] at b2
    have g1 : gr B1 186 3 = w := by rw [b4.2.1 186 3 (by omega), gr_wr, if_pos ⟨rfl, rfl⟩]
    obtain ⟨B2, hB2⟩ : ∃ B2, B2 = wi (wi (wi B1 44 1 1) 44 2 0) 44 4 0 := ⟨_, rfl⟩
    have r2 : RdS B2 T L (stp T L 0) true := by rw [hB2]; exact RdS_fr (fun j => by simp -implicitDefEqProofs (disch := omega) only [gi_wi, ↓reduceIte, Int.reduceEq, cI_v, cL_v, cV_v, cR_v, wid, wid64, if_pos, if_neg, Nat.add_zero, if_true, if_false, and_self, and_true, true_and, and_false, false_and, or_true, true_or, or_false, false_or]) (fun j => by simp -implicitDefEqProofs (disch := omega) only [gi_wi, ↓reduceIte, Int.reduceEq, cI_v, cL_v, cV_v, cR_v, wid, wid64, if_pos, if_neg, Nat.add_zero, if_true, if_false, and_self, and_true, true_and, and_false, false_and, or_true, true_or, or_false, false_or]) (fun j => rfl) rfl b2
    have c2 : CS true B2 [] := by
      rw [hB2]
      exact ⟨by simp -implicitDefEqProofs (disch := omega) only [gi_wi, bI_t, ↓reduceIte, Int.reduceEq, cI_v, cL_v, cV_v, cR_v, wid, wid64, if_pos, if_neg, Nat.add_zero, if_true, if_false, and_self, and_true, true_and, and_false, false_and, or_true, true_or, or_false, false_or], Or.inl (by simp -implicitDefEqProofs (disch := omega) only [gi_wi, ↓reduceIte, Int.reduceEq, cI_v, cL_v, cV_v, cR_v, wid, wid64, if_pos, if_neg, Nat.add_zero, if_true, if_false, and_self, and_true, true_and, and_false, false_and, or_true, true_or, or_false, false_or]), by simp -implicitDefEqProofs (disch := omega) only [gi_wi, ↓reduceIte, Int.reduceEq, cI_v, cL_v, cV_v, cR_v, wid, wid64, if_pos, if_neg, Nat.add_zero, if_true, if_false, and_self, and_true, true_and, and_false, false_and, or_true, true_or, or_false, false_or]; rfl, fun i hi => by simp at hi⟩
    have eb : runF (d + 59) 33 [vR 12 44 0, vI 1] B1 = some (none, B2) := by
      rw [r_X2_begin, q_X2_begin_0, if_pos (Or.inr rfl), q_X2_begin_10, hB2]
    have f2 : frQa A B2 := by
      have f1 : frQa A (wr A 186 3 w) := ⟨fun a j _ _ _ => rfl, fun a j h1 h2 => by rw [gr_wr, if_neg (by omega)], rfl⟩
      have f3 : frQa B1 B2 := by rw [hB2]; exact ⟨fun a j h1 h2 h3 => by simp -implicitDefEqProofs (disch := omega) only [gi_wi, ↓reduceIte, Int.reduceEq, cI_v, cL_v, cV_v, cR_v, wid, wid64, if_pos, if_neg, Nat.add_zero, if_true, if_false, and_self, and_true, true_and, and_false, false_and, or_true, true_or, or_false, false_or], fun a j _ _ => rfl, rfl⟩
      exact frQa_trans f1 (frQa_trans (frR_Qa b4) f3)
    have g2 : gr B2 186 3 = w := by rw [hB2]; exact g1
    have q11 : gi B2 42 11 = 0 := by rw [hB2]; simp -implicitDefEqProofs (disch := omega) only [gi_wi, ↓reduceIte, Int.reduceEq, cI_v, cL_v, cV_v, cR_v, wid, wid64, if_pos, if_neg, Nat.add_zero, if_true, if_false, and_self, and_true, true_and, and_false, false_and, or_true, true_or, or_false, false_or]; rw [b4.1 42 11 (by omega)]; exact h11
    have q12 : gi B2 42 12 = -1 := by rw [hB2]; simp -implicitDefEqProofs (disch := omega) only [gi_wi, ↓reduceIte, Int.reduceEq, cI_v, cL_v, cV_v, cR_v, wid, wid64, if_pos, if_neg, Nat.add_zero, if_true, if_false, and_self, and_true, true_and, and_false, false_and, or_true, true_or, or_false, false_or]; rw [b4.1 42 12 (by omega)]; exact h12
    have of : runF (d + 59) 80 [vR 17 186 0] B2 = some (some (vI (if w < 35 then 1 else 0)), B2) := by
      rw [r_X7_isOfTest, q_X7_isOfTest_0, g2, q_X7_isOfTest_30]
      by_cases z1 : w = 32
      · rw [if_pos z1, if_pos (by omega)]
      · rw [if_neg z1]
        by_cases z2 : w = 33
        · rw [if_pos z2, if_pos (by omega)]
        · rw [if_neg z2]
          by_cases z3 : w = 34
          · rw [if_pos z3, if_pos (by omega)]
          · rw [if_neg z3, if_neg (by omega)]
    have e0 : ∃ m, runF (d + 60) 79 [vR 17 186 0] A = go true 2 (runF (d + 59)) (runN (d + 59)) pb_X7_read (m + 2) 71 [vR 17 186 0, vR 22 w 0, vU] [vI (if w < 35 then 0 else 3), vR 12 44 0] B2 := by
      rw [r_X7_read, q_X7_read_0, e7, if_neg (by omega), if_neg (by omega), if_pos ((own_31 w (by omega) w37).mpr (by omega)), b1, cV_v, eb, cV_v, of, cI_v]
      by_cases z : w < 35
      · refine ⟨fu + 196, ?_⟩
        rw [if_pos z, if_pos z, if_neg (by decide)]
      · refine ⟨fu + 195, ?_⟩
        rw [if_neg z, if_neg z, if_pos rfl]
    obtain ⟨m, e0⟩ := e0
    have hG : ∀ G : Nat → Bool → GR, GQ T L true (runF (d + 59) 37 [vR 12 44 0, vI (if w < 35 then 0 else 3), vI 0]) G → (∀ k s, (match G (stp T L 0) true with
  | .error e => .error e
  | .ok (cs, p, t) => if knd T L p t = 0 then .ok (w, cs) else .error (1, (bl T L p : Int)) : Except (Int × Int) (Nat × List Int)) = .error (k, s) → ∃ B, runF (d + 60) 79 [vR 17 186 0] A = some (some (vI 0), B) ∧ gi B 42 11 = k ∧ gi B 42 12 = s ∧ frQa A B) ∧ (∀ w' cs, (match G (stp T L 0) true with
  | .error e => .error e
  | .ok (cs, p, t) => if knd T L p t = 0 then .ok (w, cs) else .error (1, (bl T L p : Int)) : Except (Int × Int) (Nat × List Int)) = .ok (w', cs) → ∃ B, runF (d + 60) 79 [vR 17 186 0] A = some (some (vI 1), B) ∧ gi B 42 11 = 0 ∧ gi B 42 12 = -1 ∧ gr B 186 3 = w' ∧ gi B 44 4 = ((cs.length : Nat) : Int) ∧ (∀ i, i < cs.length → gi B 45 i = clsC (cs.getD i 0)) ∧ frQa A B) := by
      intro G gq
      obtain ⟨i1, i2⟩ := gq B2 (stp T L 0) true [] r2 c2 (by simp)
      cases hE : G (stp T L 0) true with
      | error y =>
        obtain ⟨k0, s0⟩ := y
        refine ⟨fun k s e => ?_, (fun w cs e => by cases e)⟩
        injection e with e; injection e with e1 e2
        subst e1 e2
        obtain ⟨B, x1, x2, x3, x4⟩ := i1 k0 s0 hE
        refine ⟨B, ?_, x2, x3, frQa_trans f2 (frH_Qa x4)⟩
        rw [e0, q_X7_read_71, x1, cI_v, if_pos rfl, if_pos (Or.inl rfl)]
      | ok y =>
        obtain ⟨cs, p, t⟩ := y
        obtain ⟨B, x1, x2, x3, x4, x5, x6⟩ := i2 cs p t hE
        simp only
        have y5 := x2.2.1
        have y6 := x2.2.2.2.1
        by_cases z : knd T L p t = 0
        · rw [if_pos z]
          refine ⟨(fun k s e => by cases e), fun w' cs' e => ?_⟩
          injection e with e; injection e with e1 e2
          subst e1 e2
          rw [List.nil_append] at x3
          refine ⟨B, ?_, x5.1.trans q11, x5.2.trans q12, by rw [x6.2.1 186 3 (by omega)]; exact g2, by rw [x3.2.2.1, List.length_map], fun i hi => ?_, frQa_trans f2 (frH_Qa x6)⟩
          · rw [e0, q_X7_read_71, x1, cI_v, if_neg (by omega), y6, if_pos z, if_pos (Or.inr rfl)]
          · rw [x3.2.2.2 i (by rw [List.length_map]; exact hi)]
            simp only [List.getD_eq_getElem?_getD, List.getElem?_map]
            rw [List.getElem?_eq_getElem hi]
            rfl
        · rw [if_neg z]
          refine ⟨fun k s e => ?_, (fun w cs e => by cases e)⟩
          injection e with e; injection e with e1 e2
          refine ⟨wi (wi B 42 11 1) 42 12 (bl T L p : Int), ?_, by rw [← e1]; simp -implicitDefEqProofs (disch := omega) only [gi_wi, ↓reduceIte, Int.reduceEq, cI_v, cL_v, cV_v, cR_v, wid, wid64, if_pos, if_neg, Nat.add_zero, if_true, if_false, and_self, and_true, true_and, and_false, false_and, or_true, true_or, or_false, false_or], by rw [← e2]; simp -implicitDefEqProofs (disch := omega) only [gi_wi, ↓reduceIte, Int.reduceEq, cI_v, cL_v, cV_v, cR_v, wid, wid64, if_pos, if_neg, Nat.add_zero, if_true, if_false, and_self, and_true, true_and, and_false, false_and, or_true, true_or, or_false, false_or], frQa_trans f2 (frQa_trans (frH_Qa x6) ⟨fun a j h1 h2 h3 => by simp -implicitDefEqProofs (disch := omega) only [gi_wi, ↓reduceIte, Int.reduceEq, cI_v, cL_v, cV_v, cR_v, wid, wid64, if_pos, if_neg, Nat.add_zero, if_true, if_false, and_self, and_true, true_and, and_false, false_and, or_true, true_or, or_false, false_or], fun a j _ _ => rfl, rfl⟩)⟩
          rw [e0, q_X7_read_71, x1, cI_v, if_neg (by omega), y6, if_neg z, y5, s_failC (d + 58), cI_v, if_pos (Or.inl rfl)]
    by_cases z : w < 35
    · rw [if_pos z]
      refine hG _ ?_
      rw [if_pos z]
      exact C_test (d + 55) tx 0 (GP_factG tx 6) (C_fact tx 6 (by omega) (d + 56) (by omega))
    · rw [if_neg z]
      refine hG _ ?_
      rw [if_neg z]
      exact C_sum (d + 55) tx 0 (GP_partG tx true 6) (C_part tx 6 (by omega) (d + 56) (by omega))
theorem evL_app {F : Int → Int} {B : Int → Bool} : ∀ (l r st : List Int), evL F B (l ++ r) st = evL F B r (evL F B l st)
  | [], r, st => rfl
  | v :: l, r, st => evL_app l r _
theorem evL_ok {F : Int → Int} {B : Int → Bool} (hF : ∀ i, 0 ≤ i → i < 10 → -1000000 ≤ F i ∧ F i ≤ 1000000) : ∀ (l r : List Int) (ts : List Bool) (st : List Int), wfL true (l ++ r) ts → okst ts st → ∃ ts', okst ts' (evL F B l st) ∧ wfL true r ts'
  | [], r, ts, st, hw, ho => ⟨ts, ho, hw⟩
  | v :: l, r, ts, st, hw, ho => by
    have ol := okst_len ho
    rw [List.cons_append] at hw
    show ∃ ts', okst ts' (evL F B l (stepC F B (clsC v) st)) ∧ wfL true r ts'
    rcases hw with ⟨h1, h2, h3⟩ | ⟨q, h1, h2, h3⟩ | ⟨_, h⟩
    · have ec : clsC v = v := by
        unfold clsC; rw [if_neg]
        rcases h1 with h1 | h1
        · omega
        · rw [if_pos rfl] at h1; omega
      rw [ec]
      rcases h1 with h1 | h1
      · rw [st_c h1.1]
        exact evL_ok hF l r (false :: ts) _ h3 ⟨by omega, fun y => by simp at y, ho⟩
      · rw [if_pos rfl] at h1
        rw [st_f (by omega)]
        exact evL_ok hF l r (false :: ts) _ h3 ⟨hF v h1.1 h1.2, fun y => by simp at y, ho⟩
    · obtain ⟨b, a, z, rfl⟩ : ∃ b a z, st = b :: a :: z := by
        rw [h1] at ol
        match st, ol with
        | b :: a :: z, _ => exact ⟨b, a, z, rfl⟩
      rw [h1] at ho
      have ec : clsC v = v := by unfold clsC; rw [if_neg (by omega)]
      rw [ec, st_j (by omega) (by omega)]
      exact evL_ok hF l r (false :: q) _ h3 ⟨clip_bd _, fun y => by simp at y, ho.2.2.2.2⟩
    · rcases h with ⟨h1, h2, h3⟩ | ⟨q, h1, h2, h3⟩ | ⟨q, h1, h2, h3⟩ | ⟨q, h1, h2, h3⟩ | ⟨q, h1, h2, h3⟩
      · subst h1
        rw [show clsC 23 = 101 from rfl, st_c (by omega)]
        exact evL_ok hF l r (true :: ts) _ h3 ⟨by omega, fun _ => by omega, ho⟩
      · obtain ⟨b, a, z, rfl⟩ : ∃ b a z, st = b :: a :: z := by
          rw [h1] at ol
          match st, ol with
          | b :: a :: z, _ => exact ⟨b, a, z, rfl⟩
        rw [h1] at ho
        have ec : clsC v = v := by unfold clsC; rw [if_neg (by omega)]
        rw [ec, st_j (by omega) (by omega)]
        exact evL_ok hF l r (true :: q) _ h3 ⟨clip_bd _, fun _ => rk_t (Or.inl h2), ho.2.2.2.2⟩
      · obtain ⟨b, a, z, rfl⟩ : ∃ b a z, st = b :: a :: z := by
          rw [h1] at ol
          match st, ol with
          | b :: a :: z, _ => exact ⟨b, a, z, rfl⟩
        rw [h1] at ho
        have ec : clsC v = v := by unfold clsC; rw [if_neg (by omega)]
        rw [ec, st_j (by omega) (by omega)]
        exact evL_ok hF l r (true :: q) _ h3 ⟨clip_bd _, fun _ => rk_t (Or.inr ⟨by omega, ho.2.2.2.1 rfl, ho.2.1 rfl⟩), ho.2.2.2.2⟩
      · subst h2
        obtain ⟨b, z, rfl⟩ : ∃ b z, st = b :: z := by
          rw [h1] at ol
          match st, ol with
          | b :: z, _ => exact ⟨b, z, rfl⟩
        rw [h1] at ho
        have hb01 := ho.2.1 rfl
        rw [show clsC 21 = 21 from rfl, st_n]
        exact evL_ok hF l r (true :: q) _ h3 ⟨by omega, fun _ => by omega, ho.2.2⟩
      · subst h2
        obtain ⟨b, z, rfl⟩ : ∃ b z, st = b :: z := by
          rw [h1] at ol
          match st, ol with
          | b :: z, _ => exact ⟨b, z, rfl⟩
        rw [h1] at ho
        have hbb := bI_bd (B b)
        rw [show clsC 22 = 22 from rfl, st_b]
        exact evL_ok hF l r (false :: q) _ h3 ⟨by omega, fun y => by simp at y, ho.2.2⟩
theorem evL_bd {F : Int → Int} {B : Int → Bool} (hF : ∀ i, 0 ≤ i → i < 10 → -1000000 ≤ F i ∧ F i ≤ 1000000) {cs : List Int} (hw : wfL true cs []) : -1000000 ≤ headF (evL F B cs []) ∧ headF (evL F B cs []) ≤ 1000000 := by
  obtain ⟨ts, h1, h2⟩ := evL_ok (B := B) hF cs [] [] [] (by rw [List.append_nil]; exact hw) trivial
  obtain ⟨t, rfl⟩ := h2
  generalize evL F B cs [] = st at h1
  have ol := okst_len h1
  match st, ol, h1 with
  | [y], _, h1 => exact h1.1
theorem evL_01 {F : Int → Int} {B : Int → Bool} (hF : ∀ i, 0 ≤ i → i < 10 → -1000000 ≤ F i ∧ F i ≤ 1000000) {cs : List Int} (hw : wfL true (cs ++ [21]) []) : headF (evL F B cs []) = 0 ∨ headF (evL F B cs []) = 1 := by
  obtain ⟨ts, h1, h2⟩ := evL_ok (B := B) hF cs [21] [] [] hw trivial
  rcases h2 with ⟨q1, q2, q3⟩ | ⟨q, q1, q2, q3⟩ | ⟨_, h⟩
  · exfalso
    rcases q1 with q1 | q1
    · omega
    · rw [if_pos rfl] at q1; omega
  · omega
  · rcases h with ⟨q1, _⟩ | ⟨q, q1, q2, q3⟩ | ⟨q, q1, q2, q3⟩ | ⟨q, q1, q2, q3⟩ | ⟨q, q1, q2, q3⟩
    · omega
    · omega
    · omega
    · obtain ⟨t, q3⟩ := q3
      rw [q1] at h1
      generalize evL F B cs [] = st at h1
      have ol := okst_len h1
      injection q3 with q4 q5
      rw [q5] at ol h1
      match st, ol, h1 with
      | [y], _, h1 => exact h1.2.1 rfl
    · omega
theorem qs_ok {T : Nat → Int} {L : Nat} (tx : TX T L) {w : Nat} {cs : List Int} (h : qsG T L = .ok (w, cs)) : (32 ≤ w ∧ w ≤ 37) ∧ cs.length ≤ 1600 ∧ wfL true cs [] ∧ (w < 35 → wfL true (cs ++ [21]) []) := by
  have tL := tx.1
  have w37 := wrd_le T L 0 false
  have sL := stp_L tx (show 0 ≤ L by omega)
  unfold qsG at h
  by_cases c : wrd T L 0 false < 32
  · rw [if_pos c] at h; cases h
  · rw [if_neg c] at h
    by_cases z : wrd T L 0 false < 35
    · rw [if_pos z] at h
      cases hE : testG T L (factG T L 6) (stp T L 0) true with
      | error y => rw [hE] at h; cases h
      | ok y =>
        obtain ⟨c1, p, t⟩ := y
        rw [hE] at h
        simp only at h
        by_cases k0 : knd T L p t = 0
        · rw [if_pos k0] at h
          injection h with h; injection h with e1 e2
          subst e1 e2
          have g := GP_test tx (GP_factG tx 6) _ _ _ _ _ sL hE
          have wa := GW_test (GW_factG (T := T) (L := L) 6) _ _ _ _ _ hE
          refine ⟨⟨by omega, by omega⟩, by omega, wfL_end (by omega) wa, fun _ => wa [21] [] (by simp) ?_⟩
          exact Or.inr (Or.inr ⟨rfl, Or.inr (Or.inr (Or.inr (Or.inl ⟨[], rfl, rfl, ⟨true, rfl⟩⟩)))⟩)
        · rw [if_neg k0] at h; cases h
    · rw [if_neg z] at h
      cases hE : sumG T L (partG T L true 6) (stp T L 0) true with
      | error y => rw [hE] at h; cases h
      | ok y =>
        obtain ⟨c1, p, t⟩ := y
        rw [hE] at h
        simp only at h
        by_cases k0 : knd T L p t = 0
        · rw [if_pos k0] at h
          injection h with h; injection h with e1 e2
          subst e1 e2
          have g := GP_sum tx (GP_partG tx true 6) _ _ _ _ _ sL hE
          have wa := GW_sum (T := T) (L := L) (GW_partG (T := T) (L := L) true 6) _ _ _ _ _ hE
          exact ⟨⟨by omega, by omega⟩, by omega, wfL_end (by omega) wa, fun y => by omega⟩
        · rw [if_neg k0] at h; cases h
