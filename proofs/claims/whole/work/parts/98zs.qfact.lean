/-! the reference's reading of tests: two sums and a sign -/
theorem cmp_er {T : Nat → Int} {L : Nat} {part : Nat → Bool → GR} {p : Nat} {t : Bool} {k s : Int} (h : cmpG T L part p t = .error (k, s)) : sumG T L part p t = .error (k, s) ∨ (∃ c1 p1 t1, sumG T L part p t = .ok (c1, p1, t1) ∧ ((opT T L p1 t1 = -1 ∧ k = 1 ∧ s = bl T L p1) ∨ (opT T L p1 t1 ≠ -1 ∧ sumG T L part (stp T L p1) false = .error (k, s)))) := by
  unfold cmpG at h
  cases hS : sumG T L part p t with
  | error y =>
    rw [hS] at h
    injection h with h
    exact Or.inl (by rw [h])
  | ok y =>
    obtain ⟨c1, p1, t1⟩ := y
    rw [hS] at h
    simp only at h
    refine Or.inr ⟨c1, p1, t1, rfl, ?_⟩
    by_cases c : opT T L p1 t1 = -1
    · rw [if_pos c] at h
      injection h with h; injection h with e1 e2
      exact Or.inl ⟨c, e1.symm, e2.symm⟩
    · rw [if_neg c] at h
      refine Or.inr ⟨c, ?_⟩
      cases hS2 : sumG T L part (stp T L p1) false with
      | error y =>
        rw [hS2] at h
        injection h with h
        rw [h]
      | ok y =>
        rw [hS2] at h
        simp only at h
        cases h
theorem cmp_ok {T : Nat → Int} {L : Nat} {part : Nat → Bool → GR} {p : Nat} {t : Bool} {cs : List Int} {p' : Nat} {t' : Bool} (h : cmpG T L part p t = .ok (cs, p', t')) : ∃ c1 p1 t1 c2, sumG T L part p t = .ok (c1, p1, t1) ∧ opT T L p1 t1 ≠ -1 ∧ sumG T L part (stp T L p1) false = .ok (c2, p', t') ∧ cs = c1 ++ c2 ++ [opT T L p1 t1] := by
  unfold cmpG at h
  cases hS : sumG T L part p t with
  | error y =>
    rw [hS] at h
    simp only at h
    cases h
  | ok y =>
    obtain ⟨c1, p1, t1⟩ := y
    rw [hS] at h
    simp only at h
    by_cases c : opT T L p1 t1 = -1
    · rw [if_pos c] at h
      cases h
    · rw [if_neg c] at h
      cases hS2 : sumG T L part (stp T L p1) false with
      | error y =>
        rw [hS2] at h
        simp only at h
        cases h
      | ok y =>
        obtain ⟨c2, p2, t2⟩ := y
        rw [hS2] at h
        simp only at h
        injection h with h; injection h with e1 e2; injection e2 with e2 e3
        subst e1 e2 e3
        exact ⟨c1, p1, t1, c2, rfl, c, hS2, rfl⟩
theorem op_ch {T : Nat → Int} {L p : Nat} {t : Bool} (tx : TX T L) : (opT T L p t = -1 → ch T L (bl T L p) ≠ 60 ∧ ch T L (bl T L p) ≠ 62 ∧ ch T L (bl T L p) ≠ 61) ∧ (opT T L p t ≠ -1 → (sgn T L p t = ch T L (bl T L p) ∧ 0 ≤ ch T L (bl T L p)) ∧ ((ch T L (bl T L p) = 60 ∧ mcF true (opT T L p t) = 7) ∨ (ch T L (bl T L p) = 62 ∧ mcF true (opT T L p t) = 8) ∨ (ch T L (bl T L p) = 61 ∧ mcF true (opT T L p t) = 9))) := by
  have e1 := ch_sgn (T := T) (L := L) (p := p) (t := t) (c := 60) tx (by decide) (by decide) (by decide)
  have e2 := ch_sgn (T := T) (L := L) (p := p) (t := t) (c := 62) tx (by decide) (by decide) (by decide)
  have e3 := ch_sgn (T := T) (L := L) (p := p) (t := t) (c := 61) tx (by decide) (by decide) (by decide)
  unfold opT
  by_cases c1 : sgn T L p t = 60
  · rw [if_pos c1]
    have := e1.mpr c1
    exact ⟨fun h => by omega, fun _ => ⟨⟨by omega, by omega⟩, Or.inl ⟨this, rfl⟩⟩⟩
  · rw [if_neg c1]
    by_cases c2 : sgn T L p t = 62
    · rw [if_pos c2]
      have := e2.mpr c2
      exact ⟨fun h => by omega, fun _ => ⟨⟨by omega, by omega⟩, Or.inr (Or.inl ⟨this, rfl⟩)⟩⟩
    · rw [if_neg c2]
      by_cases c3 : sgn T L p t = 61
      · rw [if_pos c3]
        have := e3.mpr c3
        exact ⟨fun h => by omega, fun _ => ⟨⟨by omega, by omega⟩, Or.inr (Or.inr ⟨this, rfl⟩)⟩⟩
      · rw [if_neg c3]
        exact ⟨fun _ => ⟨fun y => c1 (e1.mp y), fun y => c2 (e2.mp y), fun y => c3 (e3.mp y)⟩, fun h => absurd rfl h⟩
def gT (W : List Int) : Prop := ∀ w ∈ W, 10 ≤ w
theorem gT_c {x : Int} {W : List Int} (hx : 10 ≤ x) (h : gT W) : gT (x :: W) := fun w hw => by
  rcases List.mem_cons.mp hw with y | y
  · rw [y]; exact hx
  · exact h w y
theorem gT_t {x : Int} {W : List Int} (h : gT (x :: W)) : gT W := fun w hw => h w (List.mem_cons_of_mem _ hw)
theorem gT_a {V W : List Int} (h : gT (V ++ W)) : gT W := fun w hw => h w (List.mem_append_right _ hw)
theorem gT_n : gT [] := fun w h => by simp at h
/-- a sum within a test -/
theorem T_sum (d : Nat) {T : Nat → Int} {L p : Nat} {t : Bool} {Ast A : AH} {W C : List Int} {o : Nat} (tx : TX T L) (g : gT W) (r : RpQ T L 0 0 Ast A W C o p t) : (∀ k s, sumG T L (partG T L true (6 - o)) p t = .error (k, s) → ∃ B, runF (d + 7) 275 [vR 21 190 0] A = some (none, B) ∧ gi B 190 5 = k ∧ gi B 190 6 = s ∧ k ≠ 0 ∧ frJq Ast B ∧ 0 ≤ gi B 190 100 ∧ gi B 190 100 < 1700) ∧ (∀ cs p' t', sumG T L (partG T L true (6 - o)) p t = .ok (cs, p', t') → ∃ B, runF (d + 7) 275 [vR 21 190 0] A = some (none, B) ∧ RpQ T L 0 0 Ast B W (C ++ cs.map (mcF true)) o p' t') := by
  have s := r.2.1
  have h100 : gi A 190 100 = ((C.length : Nat) : Int) := by have := s.1.1; rw [Nat.zero_add] at this; exact this
  have h102 : gi A 190 102 = ((W.length : Nat) : Int) := by have := s.2.1.1; rw [Nat.zero_add] at this; exact this
  have hb : 0 < W.length → ¬ (1 ≤ gi A 268 (W.length - 1) ∧ gi A 268 (W.length - 1) ≤ 4) := by
    intro h
    have s4 := s.2.1.2
    cases W with
    | nil => simp at h
    | cons y w =>
      have e := s4.1
      rw [Nat.zero_add] at e
      have := g y List.mem_cons_self
      rw [show (y :: w).length - 1 = w.length by simp, e]
      omega
  have hl := r.2.2.2.1
  obtain ⟨s1, s2⟩ := s_qSums d tx W.length C.length o A r.1 h100 h102 s.2.2.1 hb (by omega) r.2.2.2.2
  refine ⟨fun k sx e => ?_, fun cs p' t' e => ?_⟩
  · obtain ⟨B, b1, b2, b3, b4, b5, b6⟩ := s1 k sx e
    exact ⟨B, b1, b2, b3, b4, frV_Jq (frV_trans r.2.2.1 (frV_m b5)), b6⟩
  · obtain ⟨B, b1, b2, b3, b4, b5, b6, b7⟩ := s2 cs p' t' e
    have gp := GP_sum tx (GP_partG tx true (6 - o)) p t cs p' t' r.1.2.1 e
    exact ⟨B, b1, Rp_sum r b2 (by rw [b3, List.length_map]) (fun i hi => b4 i (by rw [List.length_map] at hi; exact hi)) b5 b6 b7 (by rw [List.length_map]; omega)⟩
set_option maxRecDepth 100000 in
theorem s_qFact (d : Nat) {T : Nat → Int} {L p : Nat} {t : Bool} {Ast A : AH} {W C : List Int} {o : Nat} (tx : TX T L) (g : gT W) (r : RpQ T L 0 0 Ast A W C o p t) : (wrd T L p t = 28 → ∃ B, runF (d + 8) 276 [vR 21 190 0] A = some (none, B) ∧ RpQ T L 0 0 Ast B W (C ++ [13]) o (stp T L p) true) ∧ (wrd T L p t ≠ 28 → (∀ k s, cmpG T L (partG T L true (6 - o)) p t = .error (k, s) → ∃ B, runF (d + 8) 276 [vR 21 190 0] A = some (none, B) ∧ gi B 190 5 = k ∧ gi B 190 6 = s ∧ k ≠ 0 ∧ frJq Ast B) ∧ ∀ cs p' t', cmpG T L (partG T L true (6 - o)) p t = .ok (cs, p', t') → ∃ B, runF (d + 8) 276 [vR 21 190 0] A = some (none, B) ∧ RpQ T L 0 0 Ast B W (C ++ cs.map (mcF true)) o p' t') := by
  have tL := tx.1
  have hp := r.1.2.1
  have hl := r.2.2.2.1
  have ho := r.2.2.2.2
  have tks := s_takes (d + 4) 253 3 28 A r.1 (by omega) (by decide) (by decide)
  refine ⟨fun h28 => ?_, fun n28 => ?_⟩
  · obtain ⟨B, b1, b2, b3⟩ := tks.1 h28
    have w1 := wrd_1 (T := T) (L := L) (p := p) (t := t) (by omega) tx
    obtain ⟨D, d1, d2, d3, d4, d5⟩ := s_codeQ (d + 6) 13 B W C o (StR_Z (by omega) b3 r.2.1) b2 (by omega)
    refine ⟨D, ?_, Rp_oQ r (frV_trans (frZ_V b3) d4) d3 d2 (by simp; omega) ho⟩
    rw [r_X12_qFact, q_X12_qFact_0, b1, cI_v, if_neg (by omega), d1, cV_v]
  · have t0 := tks.2 n28
    obtain ⟨_, k2, k3⟩ := s_lookM (d + 6) A r.1
    have r1 : RpQ T L 0 0 Ast (wi A 190 2 (bl T L p : Int)) W C o p t := Rp_oQ r (frZ_V k3) k2.1 (StR_Z (by omega) k3 r.2.1) hl ho
    obtain ⟨s1, s2⟩ := T_sum d tx g r1
    have e0 : ∀ R, (cV (runF (d + 7) 275 [vR 21 190 0] (wi A 190 2 (bl T L p : Int))) fun A4 =>
      if (gi A4 190 5) = 0 then
        cI (runF (d + 7) 155 [vR 21 190 0] A4) fun r6 A5 =>
        if r6 = 60 then
          go true 3 (runF (d + 7)) (runN (d + 7)) pb_X12_qFact (fu + 197 + 0) 63 [vR 21 190 0, vI r6] [] A5
        else
        if r6 = 62 then
          go true 3 (runF (d + 7)) (runN (d + 7)) pb_X12_qFact (fu + 197 + 0) 63 [vR 21 190 0, vI r6] [] A5
        else
        if r6 = 61 then
          go true 3 (runF (d + 7)) (runN (d + 7)) pb_X12_qFact (fu + 197 + 0) 63 [vR 21 190 0, vI r6] [] A5
        else
        cV (runF (d + 7) 152 [vR 21 190 0, vI 1, vI (gi A5 190 2)] A5) fun A7 =>
        some (none, A7)
      else
      some (none, A4)) = R → runF (d + 8) 276 [vR 21 190 0] A = R := by
      intro R hR
      rw [r_X12_qFact, q_X12_qFact_0, t0, cI_v, if_pos rfl]
      exact hR
    have e1 : ∀ (B : AH) (c : Int) (R : RS), c = 60 ∨ c = 62 ∨ c = 61 → (cV (runF (d + 7) 275 [vR 21 190 0] (wi B 190 2 (w32 (gi B 190 2 + 1)))) fun A1 => cV (runF (d + 7) 262 [vR 21 190 0, vI (if c = 60 then 7 else if c = 62 then 8 else 9)] A1) fun A2 => some (none, A2)) = R → (if c = 60 then
          go true 3 (runF (d + 7)) (runN (d + 7)) pb_X12_qFact (fu + 197 + 0) 63 [vR 21 190 0, vI c] [] B
        else
        if c = 62 then
          go true 3 (runF (d + 7)) (runN (d + 7)) pb_X12_qFact (fu + 197 + 0) 63 [vR 21 190 0, vI c] [] B
        else
        if c = 61 then
          go true 3 (runF (d + 7)) (runN (d + 7)) pb_X12_qFact (fu + 197 + 0) 63 [vR 21 190 0, vI c] [] B
        else
        cV (runF (d + 7) 152 [vR 21 190 0, vI 1, vI (gi B 190 2)] B) fun A7 =>
        some (none, A7)) = R := by
      intro B c R hc hR
      have e63 : go true 3 (runF (d + 7)) (runN (d + 7)) pb_X12_qFact (fu + 197 + 0) 63 [vR 21 190 0, vI c] [] B = R := by
        rw [← hR, q_X12_qFact_63, q_X12_qFact_73]
        congr 1
        funext A1
        rcases hc with z | z | z
        · rw [z, if_pos rfl, if_pos rfl, q_X12_qFact_102]
        · rw [z, if_neg (by omega), if_pos rfl, if_neg (by omega), if_pos rfl, q_X12_qFact_102]
        · rw [z, if_neg (by omega), if_neg (by omega), if_neg (by omega), if_neg (by omega), q_X12_qFact_102]
      rcases hc with z | z | z
      · rw [if_pos z]; exact e63
      · rw [if_neg (by omega), if_pos z]; exact e63
      · rw [if_neg (by omega), if_neg (by omega), if_pos z]; exact e63
    -- behind the first sum, with a sign there
    have e2 : ∀ (B : AH) (c1 : List Int) (p1 : Nat) (t1 : Bool), runF (d + 7) 275 [vR 21 190 0] (wi A 190 2 (bl T L p : Int)) = some (none, B) → RpQ T L 0 0 Ast B W (C ++ c1.map (mcF true)) o p1 t1 → opT T L p1 t1 ≠ -1 → ∃ F, RpQ T L 0 0 Ast F W (C ++ c1.map (mcF true)) o (stp T L p1) false ∧ runF (d + 8) 276 [vR 21 190 0] A = (cV (runF (d + 7) 275 [vR 21 190 0] F) fun A1 => cV (runF (d + 7) 262 [vR 21 190 0, vI (mcF true (opT T L p1 t1))] A1) fun A2 => some (none, A2)) := by
      intro B c1 p1 t1 b1 rB ho1
      obtain ⟨⟨q1, q2⟩, q3⟩ := (op_ch (p := p1) (t := t1) tx).2 ho1
      obtain ⟨es, ek, eT⟩ := sgn_stp q1 q2
      have lt := knd3 tx ek
      have hbl := bl_le T L p1
      have hlB := rB.2.2.2.1
      obtain ⟨k1', k2', k3'⟩ := s_lookM (d + 6) B rB.1
      have fW : frZ B (wi (wi B 190 2 (bl T L p1 : Int)) 190 2 ((bl T L p1 + 1 : Nat) : Int)) := frZ_wi _ (by omega) k3'
      have mW : MdS (wi (wi B 190 2 (bl T L p1 : Int)) 190 2 ((bl T L p1 + 1 : Nat) : Int)) T L (bl T L p1 + 1) false := MdS_sg rB.1 fW (by simp -implicitDefEqProofs (disch := omega) only [gi_wi, ↓reduceIte, Int.reduceEq, cI_v, cL_v, cV_v, cR_v, wid, wid64, if_pos, if_neg, Nat.add_zero, if_true, if_false, and_self, and_true, true_and, and_false, false_and, or_true, true_or, or_false, false_or]; exact rB.1.2.2.1) (by simp -implicitDefEqProofs (disch := omega) only [gi_wi, ↓reduceIte, Int.reduceEq, cI_v, cL_v, cV_v, cR_v, wid, wid64, if_pos, if_neg, Nat.add_zero, if_true, if_false, and_self, and_true, true_and, and_false, false_and, or_true, true_or, or_false, false_or]) (by simp -implicitDefEqProofs (disch := omega) only [gi_wi, ↓reduceIte, Int.reduceEq, cI_v, cL_v, cV_v, cR_v, wid, wid64, if_pos, if_neg, Nat.add_zero, if_true, if_false, and_self, and_true, true_and, and_false, false_and, or_true, true_or, or_false, false_or]) (by simp -implicitDefEqProofs (disch := omega) only [gi_wi, ↓reduceIte, Int.reduceEq, cI_v, cL_v, cV_v, cR_v, wid, wid64, if_pos, if_neg, Nat.add_zero, if_true, if_false, and_self, and_true, true_and, and_false, false_and, or_true, true_or, or_false, false_or]) lt
      refine ⟨_, by rw [es]; exact Rp_oQ rB (frZ_V fW) mW (StR_Z (by omega) fW rB.2.1) (by omega) ho, ?_⟩
      refine e0 _ ?_
      rw [b1, cV_v, if_pos rB.1.2.2.1, k1', cI_v]
      refine e1 _ _ _ (by omega) ?_
      rw [k2'.2, wid (by omega) (by omega), show (bl T L p1 : Int) + 1 = ((bl T L p1 + 1 : Nat) : Int) by omega]
      rcases q3 with ⟨z, y⟩ | ⟨z, y⟩ | ⟨z, y⟩
      · rw [z, if_pos rfl, y]
      · rw [z, if_neg (by omega), if_pos rfl, y]
      · rw [z, if_neg (by omega), if_neg (by omega), y]
    refine ⟨fun k s e => ?_, fun cs p' t' e => ?_⟩
    · rcases cmp_er e with h | ⟨c1, p1, t1, h, h2⟩
      · obtain ⟨B, b1, b2, b3, b4, b5, b6⟩ := s1 k s h
        refine ⟨B, e0 _ ?_, b2, b3, b4, b5⟩
        rw [b1, cV_v, if_neg (by rw [b2]; exact b4)]
      · obtain ⟨B, b1, rB⟩ := s2 c1 p1 t1 h
        rcases h2 with ⟨z, z1, z2⟩ | ⟨z, h2⟩
        · obtain ⟨k1', k2', k3'⟩ := s_lookM (d + 6) B rB.1
          obtain ⟨q1, q2, q3⟩ := (op_ch (p := p1) (t := t1) tx).1 z
          have km := s_failM (d + 6) 1 (gi (wi B 190 2 (bl T L p1 : Int)) 190 2) (wi B 190 2 (bl T L p1 : Int)) k2'.1.2.2.1
          refine ⟨wi (wi (wi B 190 2 (bl T L p1 : Int)) 190 5 1) 190 6 (bl T L p1 : Int), e0 _ ?_, by rw [z1]; simp -implicitDefEqProofs (disch := omega) only [gi_wi, ↓reduceIte, Int.reduceEq, cI_v, cL_v, cV_v, cR_v, wid, wid64, if_pos, if_neg, Nat.add_zero, if_true, if_false, and_self, and_true, true_and, and_false, false_and, or_true, true_or, or_false, false_or], by rw [z2]; simp -implicitDefEqProofs (disch := omega) only [gi_wi, ↓reduceIte, Int.reduceEq, cI_v, cL_v, cV_v, cR_v, wid, wid64, if_pos, if_neg, Nat.add_zero, if_true, if_false, and_self, and_true, true_and, and_false, false_and, or_true, true_or, or_false, false_or], by omega, frV_Jq (frV_trans rB.2.2.1 (frZ_V (frZ_wi _ (by omega) (frZ_wi _ (by omega) k3'))))⟩
          rw [b1, cV_v, if_pos rB.1.2.2.1, k1', cI_v, if_neg q1, if_neg q2, if_neg q3, km, cV_v, k2'.2]
        · obtain ⟨F, rF, eF⟩ := e2 B c1 p1 t1 b1 rB z
          obtain ⟨D, d1, d2, d3, d4, d5, d6⟩ := (T_sum d tx g rF).1 k s h2
          obtain ⟨G, g1, g2, g3, g4⟩ := s_codeR (d + 6) (mcF true (opT T L p1 t1)) D d6
          refine ⟨G, ?_, g3.trans d2, g4.trans d3, d4, frJq_trans d5 g2⟩
          rw [eF, d1, cV_v, g1, cV_v]
    · obtain ⟨c1, p1, t1, c2, h1, h2, h3, h4⟩ := cmp_ok e
      obtain ⟨B, b1, rB⟩ := s2 c1 p1 t1 h1
      obtain ⟨F, rF, eF⟩ := e2 B c1 p1 t1 b1 rB h2
      obtain ⟨D, d1, rD⟩ := (T_sum d tx g rF).2 c2 p' t' h3
      have l1 := rB.2.2.2.1
      have l2 := rD.2.2.2.1
      have pL := rD.1.2.1
      have l3 := (GP_sum tx (GP_partG tx true (6 - o)) (stp T L p1) false c2 p' t' (stp_L tx rB.1.2.1) h3).2.1
      have l4 := sgn_1 ((op_ch (p := p1) (t := t1) tx).2 h2).1.1 ((op_ch (p := p1) (t := t1) tx).2 h2).1.2 tx
      obtain ⟨G, g1, g2, g3, g4, g5⟩ := s_codeQ (d + 6) (mcF true (opT T L p1 t1)) D W _ o rD.2.1 rD.1 (by omega)
      refine ⟨G, by rw [eF, d1, cV_v, g1, cV_v], ?_⟩
      rw [show C ++ cs.map (mcF true) = C ++ c1.map (mcF true) ++ c2.map (mcF true) ++ [mcF true (opT T L p1 t1)] by rw [h4]; simp]
      exact Rp_oQ rD g4 g3 g2 (by simp only [List.length_append, List.length_map, List.length_cons, List.length_nil] at *; omega) ho
