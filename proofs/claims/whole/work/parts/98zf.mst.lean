/-! the text of a hall: the reference reads a sum, a statement -/
def GE (e : Nat → Bool → GR) : Prop := ∀ p t k s, e p t = .error (k, s) → k ≠ 0
theorem tkN_k {T : Nat → Int} {L p : Nat} {t : Bool} {x y k s : Int} (h : tkN T L p t x y = .error (k, s)) : k ≠ 0 := by
  unfold tkN at h
  by_cases e : knd T L p t = 2
  · rw [if_pos e] at h
    by_cases e2 : 4 < stp T L p - bl T L p
    · rw [if_pos e2] at h; injection h with h; injection h with h1 h2; omega
    · rw [if_neg e2] at h
      by_cases e3 : numV T L p < x ∨ y < numV T L p
      · rw [if_pos e3] at h; injection h with h; injection h with h1 h2; omega
      · rw [if_neg e3] at h; cases h
  · rw [if_neg e] at h; injection h with h; injection h with h1 h2; omega
theorem GE_loop {T : Nat → Int} {L : Nat} {sub : Nat → Bool → GR} (hs : GE sub) (lev : Int) : ∀ (m : Nat) (cs : List Int) (p : Nat) (t : Bool) (k s : Int), loopG T L sub lev m cs p t = .error (k, s) → k ≠ 0
  | 0, cs, p, t, k, s, e => by unfold loopG at e; cases e
  | m + 1, cs, p, t, k, s, e => by
    unfold loopG at e
    by_cases c : jnF T L lev p t = -1
    · rw [if_pos c] at e; cases e
    · rw [if_neg c] at e
      cases hS : sub (stp T L p) (tk T L p t) with
      | error x =>
        rw [hS] at e
        injection e with e
        exact hs _ _ _ _ (by rw [hS, e])
      | ok x =>
        obtain ⟨c2, p2, t2⟩ := x
        rw [hS] at e
        exact GE_loop hs lev m _ p2 t2 k s e
theorem GE_chain {T : Nat → Int} {L : Nat} {sub : Nat → Bool → GR} (hs : GE sub) (lev : Int) : GE (chainG T L sub lev) := by
  intro p t k s e
  unfold chainG at e
  cases hS : sub p t with
  | error x =>
    rw [hS] at e
    injection e with e
    exact hs _ _ _ _ (by rw [hS, e])
  | ok x =>
    obtain ⟨c2, p2, t2⟩ := x
    rw [hS] at e
    exact GE_loop hs lev 1600 c2 p2 t2 k s e
theorem GE_part {T : Nat → Int} {L : Nat} (ask : Bool) {sub : Option (Nat → Bool → GR)} (hs : ∀ f, sub = some f → GE f) : GE (partB T L ask sub) := by
  intro p t k s e
  have sm : ∀ f, sub = some f → GE (sumG T L f) := fun f hf => GE_chain (GE_chain (hs f hf) 4) 3
  unfold partB at e
  by_cases c1 : knd T L p t = 2
  · rw [if_pos c1] at e
    cases hS : tkN T L p t 0 9999 with
    | error x => rw [hS] at e; injection e with e; exact tkN_k (by rw [hS, e])
    | ok x => rw [hS] at e; cases e
  · rw [if_neg c1] at e
    by_cases c2 : sgn T L p t = 40
    · rw [if_pos c2] at e
      cases hf : sub with
      | none => rw [hf] at e; injection e with e; injection e with e1 e2; omega
      | some f =>
        rw [hf] at e
        simp only at e
        cases hS : sumG T L f (stp T L p) false with
        | error x => rw [hS] at e; injection e with e; exact sm f hf _ _ _ _ (by rw [hS, e])
        | ok x =>
          obtain ⟨c3, p3, t3⟩ := x
          rw [hS] at e
          simp only at e
          cases hT : tkS T L p3 t3 41 with
          | error x => rw [hT] at e; injection e with e; exact tkS_k (by rw [hT, e])
          | ok x => rw [hT] at e; cases e
    · rw [if_neg c2] at e
      by_cases c3 : wrd T L p t = 29 ∨ wrd T L p t = 30
      · rw [if_pos c3] at e
        cases hP : pairB T L sub (stp T L p) true with
        | ok x => rw [hP] at e; cases e
        | error x =>
          rw [hP] at e
          injection e with e
          rw [e] at hP
          unfold pairB at hP
          by_cases c4 : sgn T L (stp T L p) true = 40
          · rw [if_pos c4] at hP
            cases hf : sub with
            | none => rw [hf] at hP; injection hP with hP; injection hP with e1 e2; omega
            | some f =>
              rw [hf] at hP
              simp only at hP
              cases hS : sumG T L f (stp T L (stp T L p)) false with
              | error x => rw [hS] at hP; injection hP with hP; exact sm f hf _ _ _ _ (by rw [hS, hP])
              | ok x =>
                obtain ⟨c3', p3, t3⟩ := x
                rw [hS] at hP
                simp only at hP
                cases hT : tkS T L p3 t3 44 with
                | error x => rw [hT] at hP; injection hP with hP; exact tkS_k (by rw [hT, hP])
                | ok x =>
                  obtain ⟨p4, t4⟩ := x
                  rw [hT] at hP
                  simp only at hP
                  cases hS2 : sumG T L f p4 t4 with
                  | error x => rw [hS2] at hP; injection hP with hP; exact sm f hf _ _ _ _ (by rw [hS2, hP])
                  | ok x =>
                    obtain ⟨c7, p7, t7⟩ := x
                    rw [hS2] at hP
                    simp only at hP
                    cases hT2 : tkS T L p7 t7 41 with
                    | error x => rw [hT2] at hP; injection hP with hP; exact tkS_k (by rw [hT2, hP])
                    | ok x => rw [hT2] at hP; cases hP
          · rw [if_neg c4] at hP; injection hP with hP; injection hP with e1 e2; omega
      · rw [if_neg c3] at e
        by_cases c4 : ask = true ∧ wrd T L p t = 31
        · rw [if_pos c4] at e
          cases hf : sub with
          | none => rw [hf] at e; injection e with e; injection e with e1 e2; omega
          | some f =>
            rw [hf] at e
            simp only at e
            cases hS : f (stp T L p) true with
            | error x => rw [hS] at e; injection e with e; exact hs f hf _ _ _ _ (by rw [hS, e])
            | ok x => rw [hS] at e; cases e
        · rw [if_neg c4] at e
          by_cases c5 : isF ask (wrd T L p t) = true
          · rw [if_pos c5] at e; cases e
          · rw [if_neg c5] at e; injection e with e; injection e with e1 e2; omega
theorem GE_partG {T : Nat → Int} {L : Nat} (ask : Bool) : ∀ r, GE (partG T L ask r)
  | 0 => GE_part ask (fun f h => by cases h)
  | r + 1 => GE_part ask (fun f h => by injection h with h; rw [← h]; exact GE_partG ask r)
def SM2 (T : Nat → Int) (L : Nat) (A : AH) (x : RS) (e : HG2) : Prop := (∀ k s, e = .error (k, s) → ∃ B, x = some (none, B) ∧ gi B 190 5 = k ∧ gi B 190 6 = s ∧ k ≠ 0 ∧ frY A B ∧ (∀ a j, 225 ≤ a → a ≤ 229 → gi B a j = gi A a j)) ∧ (∀ H' cd' p' t', e = .ok (H', cd', p', t') → ∃ B, x = some (none, B) ∧ MdS B T L p' t' ∧ MR B H' cd' ∧ gi B 190 52 = gi A 190 52 ∧ frY A B)
theorem fVH_Y {c0 : Nat} {A B : AH} (f : fVH 0 c0 A B) : frY A B := by
  refine ⟨fun a j x => f.1 a j (fun y => x (Or.inl ⟨y.1, by have := y.2; omega⟩)) (fun y => x ?_) (fun y => x ?_), f.2.1, f.2.2⟩
  · unfold ry; right; right; right; right; right; right; right; right; right; right; left; exact ⟨y.1, y.2.2⟩
  · unfold ry; right; right; right; right; right; right; right; right; right; right; right; exact y.1
set_option maxRecDepth 100000 in
theorem s_sumB (d : Nat) (w : Nat) (hw : w ≤ 1) (bg : Int) (A : AH) (hb : gi A 190 5 ≠ 0) : runF (d + 1) 175 [vR 21 190 0, vI (w : Int), vI bg] A = some (none, A) := by
  rw [r_X12_sumIsTold, q_X12_sumIsTold_0, if_neg hb, show fu + 199 + 0 = (fu + 197) + 2 from rfl, q_X12_sumIsTold_23, if_neg hb]
set_option maxRecDepth 100000 in
theorem s_sumM (d : Nat) {T : Nat → Int} {L p : Nat} {t : Bool} {H : Nat → Nat → Int} {cd : Nat} (tx : TX T L) (w : Nat) (hw : w ≤ 1) (A : AH) (mr : MR A H cd) (hcd : cd < p) (hp : p ≤ L) (h0 : wrd T L p t ≠ 0) (m : MdS A T L (stp T L p) true) : SM2 T L A (runF (d + 8) 175 [vR 21 190 0, vI (w : Int), vI (bl T L p : Int)] A) (worG T L H cd w p) := by
  have tL := tx.1
  have m5 := m.2.2.1
  have e231 : gi A 231 w = H 231 (2 + w) := mr.2.2.2.2.2.2.2.1 w (by omega)
  have x1 := wrd_1 h0 tx
  have x2 := stp_L tx hp
  unfold worG
  by_cases c : H 231 (2 + w) ≠ -1
  · rw [if_pos c]
    refine ⟨(fun k s q => ?_), (fun H' cd' p' t' q => by cases q)⟩
    injection q with q; injection q with q1 q2
    subst q1 q2
    refine ⟨wi (wi A 190 5 5) 190 6 (bl T L p : Int), ?_, by simp -implicitDefEqProofs (disch := omega) only [gi_wi, ↓reduceIte, Int.reduceEq, cI_v, cL_v, cV_v, cR_v, wid, wid64, if_pos, if_neg, Nat.add_zero, if_true, if_false, and_self, and_true, true_and, and_false, false_and, or_true, true_or, or_false, false_or], by simp -implicitDefEqProofs (disch := omega) only [gi_wi, ↓reduceIte, Int.reduceEq, cI_v, cL_v, cV_v, cR_v, wid, wid64, if_pos, if_neg, Nat.add_zero, if_true, if_false, and_self, and_true, true_and, and_false, false_and, or_true, true_or, or_false, false_or], by omega, frZ_Y (MB_f A 5 _ (by decide)).2.2.2, fun a j q1 q2 => by simp -implicitDefEqProofs (disch := omega) only [gi_wi, ↓reduceIte, Int.reduceEq, cI_v, cL_v, cV_v, cR_v, wid, wid64, if_pos, if_neg, Nat.add_zero, if_true, if_false, and_self, and_true, true_and, and_false, false_and, or_true, true_or, or_false, false_or]⟩
    have hb5 : gi (wi (wi A 190 5 5) 190 6 (bl T L p : Int)) 190 5 ≠ 0 := by simp -implicitDefEqProofs (disch := omega) only [gi_wi, ↓reduceIte, Int.reduceEq, cI_v, cL_v, cV_v, cR_v, wid, wid64, if_pos, if_neg, Nat.add_zero, if_true, if_false, and_self, and_true, true_and, and_false, false_and, or_true, true_or, or_false, false_or]; omega
    rw [r_X12_sumIsTold, q_X12_sumIsTold_0, if_pos m5, if_pos (by omega), Int.toNat_natCast, e231, if_neg c, s_failM _ _ _ _ m5, cV_v, show fu + 199 + 0 = (fu + 197) + 2 from rfl, q_X12_sumIsTold_23, if_neg hb5]
  · rw [if_neg c]
    have c' : H 231 (2 + w) = -1 := by simpa using c
    generalize hA1 : wi (wi (wi (wi A 231 w cd) 190 57 0) 190 58 0) 190 59 0 = A1
    have g1 : ∀ a j, ¬ (a = 231 ∧ j = w) → ¬ (a = 190 ∧ (j = 57 ∨ j = 58 ∨ j = 59)) → gi A1 a j = gi A a j := fun a j q1 q2 => by
      rw [← hA1, gi_wi, if_neg (by omega), gi_wi, if_neg (by omega), gi_wi, if_neg (by omega), gi_wi, if_neg q1]
    have y1 : frY A A1 := by
      rw [← hA1]
      exact frY_wi _ _ _ (by unfold ry; omega) (frY_wi _ _ _ (by unfold ry; omega) (frY_wi _ _ _ (by unfold ry; omega) (frY_wi _ _ _ (by unfold ry; omega) (frY_refl A))))
    have m1 : MdS A1 T L (stp T L p) true := MdS_fr (g1 190 2 (by omega) (by omega)) (g1 190 3 (by omega) (by omega)) (g1 190 4 (by omega) (by omega)) (g1 190 5 (by omega) (by omega)) (g1 190 6 (by omega) (by omega)) (fun a j q1 q2 => g1 a j (by omega) (by omega)) m
    obtain ⟨s1, s2⟩ := s_sumsTold d tx cd A1 m1 (by rw [g1 190 55 (by omega) (by omega)]; exact mr.2.2.2.2.2.2.2.2.2.2) (by rw [← hA1]; simp -implicitDefEqProofs (disch := omega) only [gi_wi, ↓reduceIte, Int.reduceEq, cI_v, cL_v, cV_v, cR_v, wid, wid64, if_pos, if_neg, Nat.add_zero, if_true, if_false, and_self, and_true, true_and, and_false, false_and, or_true, true_or, or_false, false_or]) (by rw [← hA1]; simp -implicitDefEqProofs (disch := omega) only [gi_wi, ↓reduceIte, Int.reduceEq, cI_v, cL_v, cV_v, cR_v, wid, wid64, if_pos, if_neg, Nat.add_zero, if_true, if_false, and_self, and_true, true_and, and_false, false_and, or_true, true_or, or_false, false_or]) (by rw [← hA1]; simp -implicitDefEqProofs (disch := omega) only [gi_wi, ↓reduceIte, Int.reduceEq, cI_v, cL_v, cV_v, cR_v, wid, wid64, if_pos, if_neg, Nat.add_zero, if_true, if_false, and_self, and_true, true_and, and_false, false_and, or_true, true_or, or_false, false_or]) (by omega)
    have e0 : ∀ R, (cV (runF (d + 7) 188 [vR 21 190 0] A1) fun A2 => some (none, wi A2 232 w (gi A2 190 55))) = R → runF (d + 8) 175 [vR 21 190 0, vI (w : Int), vI (bl T L p : Int)] A = R := by
      intro R hR
      rw [r_X12_sumIsTold, q_X12_sumIsTold_0, if_pos m5, if_pos (by omega), Int.toNat_natCast, e231, if_pos c', show fu + 199 + 0 = (fu + 197) + 2 from rfl, q_X12_sumIsTold_23, if_pos m5, if_pos (by omega), Int.toNat_natCast, mr.2.2.2.2.2.2.2.2.2.2, show fu + 197 + 0 = (fu + 196) + 1 from rfl, q_X12_sumIsTold_41, q_X12_sumIsTold_51, hA1, ← hR]
      cases runF (d + 7) 188 [vR 21 190 0] A1 with
      | none => rfl
      | some y =>
        obtain ⟨v, A2⟩ := y
        cases v with
        | some v => rfl
        | none =>
          rw [cV_v, cV_v, if_pos (by omega), Int.toNat_natCast, q_X12_sumIsTold_70]
    cases hS : sumG T L (partG T L false 6) (stp T L p) true with
    | error y =>
      obtain ⟨k0, s0⟩ := y
      refine ⟨(fun k s q => ?_), (fun H' cd' p' t' q => by cases q)⟩
      injection q with q; injection q with q1 q2
      subst q1 q2
      have kne : k0 ≠ 0 := GE_chain (GE_chain (GE_partG false 6) 4) 3 _ _ _ _ hS
      obtain ⟨B, b1, b2, b3, b4⟩ := s1 k0 s0 hS kne
      refine ⟨wi B 232 w (gi B 190 55), e0 _ (by rw [b1, cV_v]), by simp -implicitDefEqProofs (disch := omega) only [gi_wi, ↓reduceIte, Int.reduceEq, cI_v, cL_v, cV_v, cR_v, wid, wid64, if_pos, if_neg, Nat.add_zero, if_true, if_false, and_self, and_true, true_and, and_false, false_and, or_true, true_or, or_false, false_or]; exact b2, by simp -implicitDefEqProofs (disch := omega) only [gi_wi, ↓reduceIte, Int.reduceEq, cI_v, cL_v, cV_v, cR_v, wid, wid64, if_pos, if_neg, Nat.add_zero, if_true, if_false, and_self, and_true, true_and, and_false, false_and, or_true, true_or, or_false, false_or]; exact b3, kne, frY_wi _ _ _ (by unfold ry; omega) (frY_trans y1 (fVH_Y b4)), fun a j q1 q2 => ?_⟩
      rw [gi_wi, if_neg (by omega), b4.1 a j (by omega) (by omega) (by omega), g1 a j (by omega) (by omega)]
    | ok y =>
      obtain ⟨cs, p1, t1⟩ := y
      obtain ⟨B, b1, b2, b3, b4, b5⟩ := s2 cs p1 t1 hS
      have gp := GP_sum tx (GP_partG tx false 6) _ _ _ _ _ x2 hS
      have yB := frY_trans y1 (fVH_Y b5)
      refine ⟨(fun k s q => by cases q), (fun H' cd' p' t' q => ?_)⟩
      injection q with q; injection q with q1 q2; injection q2 with q2 q3; injection q3 with q3 q4
      subst q1 q2 q3 q4
      have gB : ∀ a j, 224 ≤ a → a ≤ 232 → gi B a j = gi A1 a j := fun a j q1 q2 => b5.1 a j (by omega) (by omega) (by omega)
      refine ⟨wi B 232 w ((cd + cs.length : Nat) : Int), e0 _ (by rw [b1, cV_v, b3]), MdS_fr (by simp -implicitDefEqProofs (disch := omega) only [gi_wi, ↓reduceIte, Int.reduceEq, cI_v, cL_v, cV_v, cR_v, wid, wid64, if_pos, if_neg, Nat.add_zero, if_true, if_false, and_self, and_true, true_and, and_false, false_and, or_true, true_or, or_false, false_or]) (by simp -implicitDefEqProofs (disch := omega) only [gi_wi, ↓reduceIte, Int.reduceEq, cI_v, cL_v, cV_v, cR_v, wid, wid64, if_pos, if_neg, Nat.add_zero, if_true, if_false, and_self, and_true, true_and, and_false, false_and, or_true, true_or, or_false, false_or]) (by simp -implicitDefEqProofs (disch := omega) only [gi_wi, ↓reduceIte, Int.reduceEq, cI_v, cL_v, cV_v, cR_v, wid, wid64, if_pos, if_neg, Nat.add_zero, if_true, if_false, and_self, and_true, true_and, and_false, false_and, or_true, true_or, or_false, false_or]) (by simp -implicitDefEqProofs (disch := omega) only [gi_wi, ↓reduceIte, Int.reduceEq, cI_v, cL_v, cV_v, cR_v, wid, wid64, if_pos, if_neg, Nat.add_zero, if_true, if_false, and_self, and_true, true_and, and_false, false_and, or_true, true_or, or_false, false_or]) (by simp -implicitDefEqProofs (disch := omega) only [gi_wi, ↓reduceIte, Int.reduceEq, cI_v, cL_v, cV_v, cR_v, wid, wid64, if_pos, if_neg, Nat.add_zero, if_true, if_false, and_self, and_true, true_and, and_false, false_and, or_true, true_or, or_false, false_or]) (fun a j q1 q2 => by simp -implicitDefEqProofs (disch := omega) only [gi_wi, ↓reduceIte, Int.reduceEq, cI_v, cL_v, cV_v, cR_v, wid, wid64, if_pos, if_neg, Nat.add_zero, if_true, if_false, and_self, and_true, true_and, and_false, false_and, or_true, true_or, or_false, false_or]) b2, ?_, ?_, frY_wi _ _ _ (by unfold ry; omega) yB⟩
      · obtain ⟨r1, r2, r3, r4, r5, r6, r7, r8, r9, r10, r11⟩ := mr
        have o := worH_o H cd w cs
        obtain ⟨v1, v2, v3⟩ := worH_v H cd w cs
        have G : ∀ a j, 224 ≤ a → a ≤ 230 → gi (wi B 232 w ((cd + cs.length : Nat) : Int)) a j = gi A a j := fun a j q1 q2 => by rw [gi_wi, if_neg (by omega), gB a j (by omega) (by omega), g1 a j (by omega) (by omega)]
        refine ⟨fun j h => ?_, fun j h => ?_, fun j h => ?_, fun j h => ?_, fun j h => ?_, fun j h => ?_, fun j h => ?_, fun j h => ?_, fun j h => ?_, fun j h => ?_, by rw [gi_wi, if_neg (by omega)]; exact b3⟩
        · rw [G 224 j (by omega) (by omega), o 224 _ (by omega) (by omega)]; exact r1 j h
        · rw [G 225 j (by omega) (by omega), o 225 _ (by omega) (by omega)]; exact r2 j h
        · rw [G 226 j (by omega) (by omega), o 226 _ (by omega) (by omega)]; exact r3 j h
        · rw [G 227 j (by omega) (by omega), o 227 _ (by omega) (by omega)]; exact r4 j h
        · rw [G 228 j (by omega) (by omega), o 228 _ (by omega) (by omega)]; exact r5 j h
        · rw [G 229 j (by omega) (by omega), o 229 _ (by omega) (by omega)]; exact r6 j h
        · rw [G 230 j (by omega) (by omega), o 230 _ (by omega) (by omega)]; exact r7 j h
        · rw [gi_wi, if_neg (by omega), gB 231 j (by omega) (by omega)]
          by_cases cj : j = w
          · rw [cj, ← hA1, v1]; simp -implicitDefEqProofs (disch := omega) only [gi_wi, ↓reduceIte, Int.reduceEq, cI_v, cL_v, cV_v, cR_v, wid, wid64, if_pos, if_neg, Nat.add_zero, if_true, if_false, and_self, and_true, true_and, and_false, false_and, or_true, true_or, or_false, false_or]
          · rw [g1 231 j (by omega) (by omega), o 231 _ (by omega) (by omega)]; exact r8 j h
        · by_cases cj : j = w
          · rw [cj, gi_wi, if_pos ⟨rfl, rfl⟩, v2]
          · rw [gi_wi, if_neg (by omega), gB 232 j (by omega) (by omega), g1 232 j (by omega) (by omega), o 232 _ (by omega) (by omega)]; exact r9 j h
        · rw [gi_wi, if_neg (by omega)]
          by_cases cj : j < cd
          · rw [b5.1 233 j (by omega) (by omega) (by omega), g1 233 j (by omega) (by omega), o 233 _ (by omega) (by omega)]; exact r10 j cj
          · obtain ⟨i, rfl⟩ : ∃ i, j = cd + i := ⟨j - cd, by omega⟩
            rw [b4 i (by omega), show 1600 + (cd + i) = 1600 + cd + i by omega, v3 i (by omega)]
            rw [List.getD_eq_getElem?_getD, List.getElem?_map, List.getD_eq_getElem?_getD, List.getElem?_eq_getElem (show i < cs.length by omega)]
            rfl
      · rw [gi_wi, if_neg (by omega), b5.1 190 52 (by omega) (by omega) (by omega), g1 190 52 (by omega) (by omega)]
