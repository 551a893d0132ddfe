/-! the text of a hall: the reference reads a statement of any kind -/
theorem PH_MR {A : AH} {H : Nat → Nat → Int} {cd : Nat} (m : MR A H cd) (h : hok H) : PH A := by
  obtain ⟨h1, h2, h3, h4, h5, h6, h7⟩ := h
  obtain ⟨m1, m2, m3, m4, m5, m6, _⟩ := m
  refine ⟨fun j q => ?_, fun j q => ?_, fun j q => ?_, fun j q => ?_, fun j q => ?_, fun j q => ?_⟩
  · rw [m3 j q]; exact h1 _ (by omega) (by omega)
  · rw [m3 _ (by omega), show 32 + (2 + 4 * j) = 34 + 4 * j by omega]; exact h2 j q
  · rw [m4 j q]; exact h3 _ (by omega) (by omega)
  · rw [m5 j q]; exact h4 _ (by omega) (by omega)
  · rw [m6 j q]; exact h5 _ (by omega) (by omega)
  · rw [m2 j q]; exact h7 _ (by omega) (by omega)
theorem PH_r {A B : AH} (g : ∀ a j, 225 ≤ a → a ≤ 229 → gi B a j = gi A a j) (p : PH A) : PH B := by
  obtain ⟨p1, p2, p3, p4, p5, p6⟩ := p
  exact ⟨fun j q => by rw [g _ _ (by omega) (by omega)]; exact p1 j q, fun j q => by rw [g _ _ (by omega) (by omega)]; exact p2 j q, fun j q => by rw [g _ _ (by omega) (by omega)]; exact p3 j q, fun j q => by rw [g _ _ (by omega) (by omega)]; exact p4 j q, fun j q => by rw [g _ _ (by omega) (by omega)]; exact p5 j q, fun j q => by rw [g _ _ (by omega) (by omega)]; exact p6 j q⟩
def st2 (T : Nat → Int) (L : Nat) (e : HG2) : HG2 := match e with
  | .error e => .error e
  | .ok (H', cd', p1, t1) => match tkS T L p1 t1 59 with
    | .error e => .error e
    | .ok (p2, t2) => .ok (H', cd', p2, t2)
def SM3 (T : Nat → Int) (L : Nat) (A : AH) (x : RS) (e : HG2) : Prop := (∀ k s, e = .error (k, s) → ∃ B, x = some (none, B) ∧ gi B 190 5 = k ∧ gi B 190 6 = s ∧ k ≠ 0 ∧ frY A B ∧ PH B) ∧ (∀ H' cd' p' t', e = .ok (H', cd', p', t') → ∃ B, x = some (none, B) ∧ MdS B T L p' t' ∧ MR B H' cd' ∧ gi B 190 52 = gi A 190 52 + 1 ∧ frY A B)
theorem st_close (d : Nat) {T : Nat → Int} {L : Nat} {A B : AH} {x : RS} {e : HG2} (bg : Int) (n : Nat) (f : frZ A B) (sm : SM2 T L B x e) (ph : PH B) (hh : ∀ H' cd' p' t', e = .ok (H', cd', p', t') → hok H') (h52 : 0 ≤ gi A 190 52 ∧ gi A 190 52 ≤ 60) : SM3 T L A (cV x fun A4 => go true 3 (runF (d + 9)) (runN (d + 9)) pb_X12_statementTold (n + 2) 150 [vR 21 190 0, vI bg] [] A4) (st2 T L e) := by
  have f52 : gi B 190 52 = gi A 190 52 := f.1 190 52 (by omega)
  unfold st2
  cases he : e with
  | error y =>
    obtain ⟨k0, s0⟩ := y
    obtain ⟨C, c1, c2, c3, c4, c5, c6⟩ := sm.1 k0 s0 he
    have hb : gi C 190 5 ≠ 0 := by rw [c2]; exact c4
    refine ⟨(fun k s q => ?_), (fun H' cd' p' t' q => by cases q)⟩
    injection q with q; injection q with q1 q2
    subst q1 q2
    refine ⟨wi C 190 52 (w32 (gi C 190 52 + 1)), ?_, by simp -implicitDefEqProofs (disch := omega) only [gi_wi, ↓reduceIte, Int.reduceEq, cI_v, cL_v, cV_v, cR_v, wid, wid64, if_pos, if_neg, Nat.add_zero, if_true, if_false, and_self, and_true, true_and, and_false, false_and, or_true, true_or, or_false, false_or]; exact c2, by simp -implicitDefEqProofs (disch := omega) only [gi_wi, ↓reduceIte, Int.reduceEq, cI_v, cL_v, cV_v, cR_v, wid, wid64, if_pos, if_neg, Nat.add_zero, if_true, if_false, and_self, and_true, true_and, and_false, false_and, or_true, true_or, or_false, false_or]; exact c3, c4, frY_wi _ _ _ (by unfold ry; omega) (frY_trans (frZ_Y f) c5), PH_r (A := B) (fun a j q1 q2 => by rw [gi_wi, if_neg (by omega)]; exact c6 a j q1 q2) ph⟩
    rw [c1, cV_v, q_X12_statementTold_150, s_asksSignB _ _ _ hb, cV_v, q_X12_statementTold_166]
  | ok y =>
    obtain ⟨H1, cd1, p1, t1⟩ := y
    obtain ⟨C, c1, c2, c3, c4, c5⟩ := sm.2 H1 cd1 p1 t1 he
    have ka := s_asksSign (d + 6) 59 C c2 (by decide) (by decide) (by decide)
    simp only
    cases hT : tkS T L p1 t1 59 with
    | error y =>
      obtain ⟨k0, s0⟩ := y
      rw [hT] at ka
      obtain ⟨D, d1, d2⟩ := ka
      refine ⟨(fun k s q => ?_), (fun H' cd' p' t' q => by cases q)⟩
      injection q with q; injection q with q1 q2
      subst q1 q2
      refine ⟨wi D 190 52 (w32 (gi D 190 52 + 1)), ?_, by simp -implicitDefEqProofs (disch := omega) only [gi_wi, ↓reduceIte, Int.reduceEq, cI_v, cL_v, cV_v, cR_v, wid, wid64, if_pos, if_neg, Nat.add_zero, if_true, if_false, and_self, and_true, true_and, and_false, false_and, or_true, true_or, or_false, false_or]; exact d2.1, by simp -implicitDefEqProofs (disch := omega) only [gi_wi, ↓reduceIte, Int.reduceEq, cI_v, cL_v, cV_v, cR_v, wid, wid64, if_pos, if_neg, Nat.add_zero, if_true, if_false, and_self, and_true, true_and, and_false, false_and, or_true, true_or, or_false, false_or]; exact d2.2.1, d2.2.2.1, frY_wi _ _ _ (by unfold ry; omega) (frY_trans (frZ_Y f) (frY_trans c5 (frZ_Y d2.2.2.2))), PH_r (A := C) (fun a j q1 q2 => by rw [gi_wi, if_neg (by omega)]; exact d2.2.2.2.1 a j (by omega)) (PH_MR c3 (hh H1 cd1 p1 t1 he))⟩
      rw [c1, cV_v, q_X12_statementTold_150, d1, cV_v, q_X12_statementTold_166]
    | ok y =>
      obtain ⟨p2, t2⟩ := y
      rw [hT] at ka
      obtain ⟨D, d1, d2, d3⟩ := ka
      have D52 : gi D 190 52 = gi A 190 52 := by rw [d3.1 190 52 (by omega), c4, f52]
      refine ⟨(fun k s q => by cases q), (fun H' cd' p' t' q => ?_)⟩
      injection q with q; injection q with q1 q2; injection q2 with q2 q3; injection q3 with q3 q4
      subst q1 q2 q3 q4
      refine ⟨wi D 190 52 (gi A 190 52 + 1), ?_, MdS_fr (by simp -implicitDefEqProofs (disch := omega) only [gi_wi, ↓reduceIte, Int.reduceEq, cI_v, cL_v, cV_v, cR_v, wid, wid64, if_pos, if_neg, Nat.add_zero, if_true, if_false, and_self, and_true, true_and, and_false, false_and, or_true, true_or, or_false, false_or]) (by simp -implicitDefEqProofs (disch := omega) only [gi_wi, ↓reduceIte, Int.reduceEq, cI_v, cL_v, cV_v, cR_v, wid, wid64, if_pos, if_neg, Nat.add_zero, if_true, if_false, and_self, and_true, true_and, and_false, false_and, or_true, true_or, or_false, false_or]) (by simp -implicitDefEqProofs (disch := omega) only [gi_wi, ↓reduceIte, Int.reduceEq, cI_v, cL_v, cV_v, cR_v, wid, wid64, if_pos, if_neg, Nat.add_zero, if_true, if_false, and_self, and_true, true_and, and_false, false_and, or_true, true_or, or_false, false_or]) (by simp -implicitDefEqProofs (disch := omega) only [gi_wi, ↓reduceIte, Int.reduceEq, cI_v, cL_v, cV_v, cR_v, wid, wid64, if_pos, if_neg, Nat.add_zero, if_true, if_false, and_self, and_true, true_and, and_false, false_and, or_true, true_or, or_false, false_or]) (by simp -implicitDefEqProofs (disch := omega) only [gi_wi, ↓reduceIte, Int.reduceEq, cI_v, cL_v, cV_v, cR_v, wid, wid64, if_pos, if_neg, Nat.add_zero, if_true, if_false, and_self, and_true, true_and, and_false, false_and, or_true, true_or, or_false, false_or]) (fun a j q1 q2 => by simp -implicitDefEqProofs (disch := omega) only [gi_wi, ↓reduceIte, Int.reduceEq, cI_v, cL_v, cV_v, cR_v, wid, wid64, if_pos, if_neg, Nat.add_zero, if_true, if_false, and_self, and_true, true_and, and_false, false_and, or_true, true_or, or_false, false_or]) d2, MR_fr (fun a j q1 q2 => by rw [gi_wi, if_neg (by omega)]) (by simp -implicitDefEqProofs (disch := omega) only [gi_wi, ↓reduceIte, Int.reduceEq, cI_v, cL_v, cV_v, cR_v, wid, wid64, if_pos, if_neg, Nat.add_zero, if_true, if_false, and_self, and_true, true_and, and_false, false_and, or_true, true_or, or_false, false_or]) (MR_Z d3 c3), by simp -implicitDefEqProofs (disch := omega) only [gi_wi, ↓reduceIte, Int.reduceEq, cI_v, cL_v, cV_v, cR_v, wid, wid64, if_pos, if_neg, Nat.add_zero, if_true, if_false, and_self, and_true, true_and, and_false, false_and, or_true, true_or, or_false, false_or], frY_wi _ _ _ (by unfold ry; omega) (frY_trans (frZ_Y f) (frY_trans c5 (frZ_Y d3)))⟩
      rw [c1, cV_v, q_X12_statementTold_150, d1, cV_v, D52, wid (by omega) (by omega), q_X12_statementTold_166]
theorem SMo_2 {T : Nat → Int} {L : Nat} {A : AH} {cd : Nat} {x : RS} {e : HG} (sm : SMo T L A cd x e) : SM2 T L A x (lift2 cd e) := by
  unfold lift2
  cases he : e with
  | error y =>
    obtain ⟨k0, s0⟩ := y
    obtain ⟨B, b1, b2⟩ := sm.1 k0 s0 he
    refine ⟨(fun k s q => ?_), (fun H' cd' p' t' q => by cases q)⟩
    injection q with q; injection q with q1 q2
    subst q1 q2
    exact ⟨B, b1, b2.1, b2.2.1, b2.2.2.1, frZ_Y b2.2.2.2, fun a j q1 q2 => b2.2.2.2.1 a j (by omega)⟩
  | ok y =>
    obtain ⟨H1, p1, t1⟩ := y
    obtain ⟨B, b1, b2, b3, b4, b5⟩ := sm.2 H1 p1 t1 he
    refine ⟨(fun k s q => by cases q), (fun H' cd' p' t' q => ?_)⟩
    injection q with q; injection q with q1 q2; injection q2 with q2 q3; injection q3 with q3 q4
    subst q1 q2 q3 q4
    exact ⟨B, b1, b2, b3, b4, b5⟩
theorem SM2_full {T : Nat → Int} {L : Nat} {A : AH} {x : RS} {bg : Nat} (h : x = some (none, wi (wi A 190 5 5) 190 6 (bg : Int))) : SM2 T L A x (.error (5, bg)) := by
  refine ⟨(fun k s q => ?_), (fun H' cd' p' t' q => by cases q)⟩
  injection q with q; injection q with q1 q2
  subst q1 q2
  exact ⟨_, h, by simp -implicitDefEqProofs (disch := omega) only [gi_wi, ↓reduceIte, Int.reduceEq, cI_v, cL_v, cV_v, cR_v, wid, wid64, if_pos, if_neg, Nat.add_zero, if_true, if_false, and_self, and_true, true_and, and_false, false_and, or_true, true_or, or_false, false_or], by simp -implicitDefEqProofs (disch := omega) only [gi_wi, ↓reduceIte, Int.reduceEq, cI_v, cL_v, cV_v, cR_v, wid, wid64, if_pos, if_neg, Nat.add_zero, if_true, if_false, and_self, and_true, true_and, and_false, false_and, or_true, true_or, or_false, false_or], by omega, frZ_Y (MB_f A 5 _ (by decide)).2.2.2, fun a j q1 q2 => by simp -implicitDefEqProofs (disch := omega) only [gi_wi, ↓reduceIte, Int.reduceEq, cI_v, cL_v, cV_v, cR_v, wid, wid64, if_pos, if_neg, Nat.add_zero, if_true, if_false, and_self, and_true, true_and, and_false, false_and, or_true, true_or, or_false, false_or]⟩
set_option maxRecDepth 100000 in
theorem s_statementM (d : Nat) {T : Nat → Int} {L p : Nat} {t : Bool} {H : Nat → Nat → Int} {cd : Nat} (tx : TX T L) (A : AH) (pk : PK L H cd p) (mr : MR A H cd) (m : MdL A T L p t) (h52 : 0 ≤ gi A 190 52 ∧ gi A 190 52 < 60) : SM3 T L A (runF (d + 10) 176 [vR 21 190 0] A) (st2 T L (stG T L H cd p t)) := by
  have hc := pk.1.1
  have hc' := hc
  unfold cok at hc'
  have ho := pk.1.2.1
  have phA := PH_MR mr ho
  have hh : ∀ H' cd' p' t', stG T L H cd p t = .ok (H', cd', p', t') → hok H' := fun H' cd' p' t' q => (pk_st tx pk q).1.2.1
  have tkn : ∀ r len k, (193 ≤ r ∧ r ≤ 223) → (wl (wo r)).length = len → wo r + 1 = k → wrd T L p t ≠ k → runF (d + 9) 157 [vR 21 190 0, vR 32 r len] A = some (some (vI 0), A) := by
    intro r len k h1 h2 h3 h4
    have := (s_takes (d + 6) r len k A m.1 (Or.inl h1) h2 h3).2 h4
    rw [← m.2, wi_id] at this
    exact this
  have tky : ∀ r len k, (193 ≤ r ∧ r ≤ 223) → (wl (wo r)).length = len → wo r + 1 = k → wrd T L p t = k → ∃ B, runF (d + 9) 157 [vR 21 190 0, vR 32 r len] A = some (some (vI 1), B) ∧ MdS B T L (stp T L p) true ∧ frZ A B := fun r len k h1 h2 h3 h4 => (s_takes (d + 6) r len k A m.1 (Or.inl h1) h2 h3).1 h4
  have phB : ∀ B, frZ A B → PH B := fun B f => PH_r (fun a j q1 q2 => f.1 a j (by omega)) phA
  unfold stG at hh ⊢
  rw [r_X12_statementTold, q_X12_statementTold_0, if_neg (by omega), m.2]
  by_cases c1 : wrd T L p t = 2
  · rw [if_pos c1] at hh ⊢
    obtain ⟨B, b1, b2, b3⟩ := tky 194 6 2 (by omega) (by decide) (by decide) c1
    rw [b1, cI_v, if_neg (by omega)]
    refine st_close d (bl T L p : Int) (fu + 196) b3 ?_ (phB B b3) hh (by omega)
    by_cases c : nPe H < 8
    · rw [if_pos c]; exact SMo_2 (s_personM (d + 3) (bl T L p : Int) B hc (MR_Z b3 mr) b2 c)
    · rw [if_neg c]
      refine SM2_full ?_
      have hf := (s_isFull (d + 6) 0 (by omega) 8 (bl T L p : Int) B b2).2 (by rw [(MR_n (MR_Z b3 mr)).1]; omega)
      rw [show ((0 : Nat) : Int) = 0 from rfl] at hf
      rw [r_X12_personTold, q_X12_personTold_0, hf, cI_v, if_neg (by omega)]
  rw [if_neg c1] at hh ⊢
  rw [tkn 194 6 2 (by omega) (by decide) (by decide) c1, cI_v, if_pos rfl]
  by_cases c2 : wrd T L p t = 10
  · rw [if_pos c2] at hh ⊢
    obtain ⟨B, b1, b2, b3⟩ := tky 202 5 10 (by omega) (by decide) (by decide) c2
    rw [b1, cI_v, if_neg (by omega)]
    refine st_close d (bl T L p : Int) (fu + 195) b3 ?_ (phB B b3) hh (by omega)
    by_cases c : nHa H < 12
    · rw [if_pos c]; exact SMo_2 (s_hatredM (d + 3) (bl T L p : Int) B hc ho (MR_Z b3 mr) b2 c)
    · rw [if_neg c]
      refine SM2_full ?_
      have hf := (s_isFull (d + 6) 4 (by omega) 12 (bl T L p : Int) B b2).2 (by rw [(MR_n (MR_Z b3 mr)).2.2.2.2.1]; omega)
      rw [show ((4 : Nat) : Int) = 4 from rfl] at hf
      rw [r_X12_hatredTold, q_X12_hatredTold_0, hf, cI_v, if_neg (by omega)]
  rw [if_neg c2] at hh ⊢
  rw [tkn 202 5 10 (by omega) (by decide) (by decide) c2, cI_v, if_pos rfl]
  by_cases c3 : wrd T L p t = 11
  · rw [if_pos c3] at hh ⊢
    obtain ⟨B, b1, b2, b3⟩ := tky 203 5 11 (by omega) (by decide) (by decide) c3
    rw [b1, cI_v, if_neg (by omega)]
    refine st_close d (bl T L p : Int) (fu + 194) b3 ?_ (phB B b3) hh (by omega)
    by_cases c : nPo H < 4
    · rw [if_pos c]; exact SMo_2 (s_pointM (d + 3) (bl T L p : Int) B hc (MR_Z b3 mr) b2 c)
    · rw [if_neg c]
      refine SM2_full ?_
      have hf := (s_isFull (d + 6) 2 (by omega) 4 (bl T L p : Int) B b2).2 (by rw [(MR_n (MR_Z b3 mr)).2.2.1]; omega)
      rw [show ((2 : Nat) : Int) = 2 from rfl] at hf
      rw [r_X12_pointTold, q_X12_pointTold_0, hf, cI_v, if_neg (by omega)]
  rw [if_neg c3] at hh ⊢
  rw [tkn 203 5 11 (by omega) (by decide) (by decide) c3, cI_v, if_pos rfl, show fu + 196 + 0 = (fu + 192) + 4 from rfl, q_X12_statementTold_78]
  by_cases c4 : wrd T L p t = 12
  · rw [if_pos c4] at hh ⊢
    obtain ⟨B, b1, b2, b3⟩ := tky 204 5 12 (by omega) (by decide) (by decide) c4
    rw [b1, cI_v, if_neg (by omega)]
    refine st_close d (bl T L p : Int) (fu + 193) b3 ?_ (phB B b3) hh (by omega)
    by_cases c : nNo H < 6
    · rw [if_pos c]; exact SMo_2 (s_noiseM (d + 3) (bl T L p : Int) B hc (MR_Z b3 mr) b2 c)
    · rw [if_neg c]
      refine SM2_full ?_
      have hf := (s_isFull (d + 6) 3 (by omega) 6 (bl T L p : Int) B b2).2 (by rw [(MR_n (MR_Z b3 mr)).2.2.2.1]; omega)
      rw [show ((3 : Nat) : Int) = 3 from rfl] at hf
      rw [r_X12_noiseTold, q_X12_noiseTold_0, hf, cI_v, if_neg (by omega)]
  rw [if_neg c4] at hh ⊢
  rw [tkn 204 5 12 (by omega) (by decide) (by decide) c4, cI_v, if_pos rfl]
  by_cases c5 : wrd T L p t = 15
  · rw [if_pos c5] at hh ⊢
    obtain ⟨B, b1, b2, b3⟩ := tky 207 4 15 (by omega) (by decide) (by decide) c5
    rw [b1, cI_v, if_neg (by omega)]
    refine st_close d (bl T L p : Int) (fu + 192) b3 ?_ (phB B b3) hh (by omega)
    by_cases c : nMu H < 6
    · rw [if_pos c]; exact SMo_2 (s_muteM (d + 3) (bl T L p : Int) B hc (MR_Z b3 mr) b2 c)
    · rw [if_neg c]
      refine SM2_full ?_
      have hf := (s_isFull (d + 6) 1 (by omega) 6 (bl T L p : Int) B b2).2 (by rw [(MR_n (MR_Z b3 mr)).2.1]; omega)
      rw [show ((1 : Nat) : Int) = 1 from rfl] at hf
      rw [r_X12_muteTold, q_X12_muteTold_0, hf, cI_v, if_neg (by omega)]
  rw [if_neg c5] at hh ⊢
  rw [tkn 207 4 15 (by omega) (by decide) (by decide) c5, cI_v, if_pos rfl]
  by_cases c6 : wrd T L p t = 17
  · rw [if_pos c6] at hh ⊢
    obtain ⟨B, b1, b2, b3⟩ := tky 209 5 17 (by omega) (by decide) (by decide) c6
    rw [b1, cI_v, if_neg (by omega)]
    exact st_close d (bl T L p : Int) (fu + 191) b3 (s_sumM (d + 1) tx 0 (by omega) B (MR_Z b3 mr) pk.2.1 pk.2.2 (t := t) (by omega) b2) (phB B b3) hh (by omega)
  rw [if_neg c6] at hh ⊢
  rw [tkn 209 5 17 (by omega) (by decide) (by decide) c6, cI_v, if_pos rfl]
  have ka := s_asks (d + 5) 210 5 18 A m.1 (by omega) (by decide) (by decide)
  by_cases c7 : wrd T L p t = 18
  · rw [if_pos c7] at hh ⊢
    rw [show tkW T L p t 18 = .ok (stp T L p, true) by unfold tkW; rw [if_pos c7]] at ka
    obtain ⟨B, b1, b2, b3⟩ := ka
    rw [b1, cV_v]
    exact st_close d (bl T L p : Int) (fu + 190) b3 (s_sumM (d + 1) tx 1 (by omega) B (MR_Z b3 mr) pk.2.1 pk.2.2 (t := t) (by omega) b2) (phB B b3) hh (by omega)
  rw [if_neg c7] at hh ⊢
  rw [show tkW T L p t 18 = .error (1, bl T L p) by unfold tkW; rw [if_neg c7]] at ka
  obtain ⟨B, b1, b2⟩ := ka
  have hb : gi B 190 5 ≠ 0 := by rw [b2.1]; omega
  rw [b1, cV_v]
  refine st_close d (bl T L p : Int) (fu + 190) b2.2.2.2 ?_ (phB B b2.2.2.2) hh (by omega)
  refine ⟨(fun k s q => ?_), (fun H' cd' p' t' q => by cases q)⟩
  injection q with q; injection q with q1 q2
  subst q1 q2
  exact ⟨B, s_sumB (d + 8) 1 (by omega) _ B hb, b2.1, b2.2.1, by omega, frY_refl B, fun _ _ _ _ => rfl⟩
