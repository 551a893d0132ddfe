/-! calls: seat, mute, noise, kept, sits, mean -/
theorem c_seat (d n : Nat) (x : Int) (A : AH) (r : REL n A) : CP (d + 4) n 117 221 [vI x] A := by
  have g := REL_g r
  refine CP_q r (vI (whoF (hv A) (nv A) x)) ⟨A, ?_, sc_refl A⟩ (fun A1 f => ⟨A1, ?_, sc_refl A1⟩)
  · rw [r_X11_seat, q_X11_seat_0, s_whoSits _ 68 x A _ _ g.1 g.2.2.2.2 r.2.1.1]
    simp -implicitDefEqProofs (disch := omega) only [↓reduceIte, Int.reduceEq, cI_v, cL_v, cV_v, cR_v, wid, wid64, if_pos, if_neg, Nat.add_zero, if_true, if_false, and_self, and_true, true_and, and_false, false_and, or_true, true_or, or_false, false_or]
  · have hc1 : cok (hv A1) := sc_f f g.1
    rw [r_X12_seat, q_X12_seat_0, s_isSeat _ x A1 hc1, sc_hv f]
    simp -implicitDefEqProofs (disch := omega) only [bI_0, ite_f, decide_eq_true_eq, ↓reduceIte, Int.reduceEq, cI_v, cL_v, cV_v, cR_v, wid, wid64, if_pos, if_neg, Nat.add_zero, if_true, if_false, and_self, and_true, true_and, and_false, false_and, or_true, true_or, or_false, false_or]
    by_cases c : 0 ≤ x ∧ x < nSe (hv A)
    · rw [if_pos c, s_sitterAt _ x A1 hc1, sc_hv f, sc_nv f]; rfl
    · rw [if_neg c]
      have e : whoF (hv A) (nv A) x = -1 := by
        rcases who_num (H := hv A) (row := nv A) x with e | ⟨e1, e2, e3, e4⟩
        · exact e
        · have := g.2.2.2.2.1 _ e3
          omega
      rw [e]
theorem c_mute (d n : Nat) (x y : Int) (A : AH) (r : REL n A) : CP (d + 4) n 118 222 [vI x, vI y] A := by
  have g := REL_g r
  have b6 := r.2.2.1
  have b7 := r.2.1.1
  have hh0 : gr A 40 5 ≠ 0 := by have := b6.1; omega
  have hc := g.1
  unfold cok at hc
  refine CP_q r (vI (if 0 ≤ x ∧ x < nMu (hv A) then if y = 0 then hv A 227 (12 + 2 * x).toNat else if y = 1 then hv A 227 (13 + 2 * x).toNat else if y = 2 then bI (sit (hv A) (nv A) (10 + x)) else -1 else -1)) ⟨A, ?_, sc_refl A⟩ (fun A1 f => ⟨A1, ?_, sc_refl A1⟩)
  · rw [r_X11_mute, q_X11_mute_0]
    rw [s_isMuteC _ _ x A _ b6]
    simp -implicitDefEqProofs (disch := omega) only [bI_0, ite_f, decide_eq_true_eq, ↓reduceIte, Int.reduceEq, cI_v, cL_v, cV_v, cR_v, wid, wid64, if_pos, if_neg, Nat.add_zero, if_true, if_false, and_self, and_true, true_and, and_false, false_and, or_true, true_or, or_false, false_or]
    by_cases c : 0 ≤ x ∧ x < nMu (hv A)
    · have e1 := (b6.2.2.1 (10 + x) (by unfold exi; omega)).1
      have e2 := b6.2.2.2.2.2.1 x c.1 c.2
      have e3 : keepsF (hv A) (10 + x) = hv A 227 (12 + 2 * x).toNat := by unfold keepsF; rw [if_neg (by omega)]; congr 2; omega
      simp -implicitDefEqProofs (disch := omega) only [e1, e2, e3, ↓reduceIte, Int.reduceEq, cI_v, cL_v, cV_v, cR_v, wid, wid64, if_pos, if_neg, Nat.add_zero, if_true, if_false, and_self, and_true, true_and, and_false, false_and, or_true, true_or, or_false, false_or]
      rw [s_isThere _ 68 _ A _ _ g.1 g.2.2.2.2 b7]
      simp -implicitDefEqProofs (disch := omega) only [bI_0, ite_f, ↓reduceIte, Int.reduceEq, cI_v, cL_v, cV_v, cR_v, wid, wid64, if_pos, if_neg, Nat.add_zero, if_true, if_false, and_self, and_true, true_and, and_false, false_and, or_true, true_or, or_false, false_or]
      by_cases y0 : y = 0
      · simp -implicitDefEqProofs (disch := omega) only [↓reduceIte, Int.reduceEq, cI_v, cL_v, cV_v, cR_v, wid, wid64, if_pos, if_neg, Nat.add_zero, if_true, if_false, and_self, and_true, true_and, and_false, false_and, or_true, true_or, or_false, false_or]
      · by_cases y1 : y = 1
        · simp -implicitDefEqProofs (disch := omega) only [↓reduceIte, Int.reduceEq, cI_v, cL_v, cV_v, cR_v, wid, wid64, if_pos, if_neg, Nat.add_zero, if_true, if_false, and_self, and_true, true_and, and_false, false_and, or_true, true_or, or_false, false_or]
        · by_cases y2 : y = 2
          · simp -implicitDefEqProofs (disch := omega) only [↓reduceIte, Int.reduceEq, cI_v, cL_v, cV_v, cR_v, wid, wid64, if_pos, if_neg, Nat.add_zero, if_true, if_false, and_self, and_true, true_and, and_false, false_and, or_true, true_or, or_false, false_or]
            by_cases s : sit (hv A) (nv A) (10 + x) = true
            · simp [s, bI]
            · simp [s, bI]
          · simp -implicitDefEqProofs (disch := omega) only [↓reduceIte, Int.reduceEq, cI_v, cL_v, cV_v, cR_v, wid, wid64, if_pos, if_neg, Nat.add_zero, if_true, if_false, and_self, and_true, true_and, and_false, false_and, or_true, true_or, or_false, false_or]
    · simp -implicitDefEqProofs (disch := omega) only [↓reduceIte, Int.reduceEq, cI_v, cL_v, cV_v, cR_v, wid, wid64, if_pos, if_neg, Nat.add_zero, if_true, if_false, and_self, and_true, true_and, and_false, false_and, or_true, true_or, or_false, false_or]
  · have hc1 : cok (hv A1) := sc_f f g.1
    rw [r_X12_mute, q_X12_mute_0]
    simp -implicitDefEqProofs (disch := omega) only [s_muteMany, s_isIn, bI_0, ite_f, decide_eq_true_eq, sc_hv f, ↓reduceIte, Int.reduceEq, cI_v, cL_v, cV_v, cR_v, wid, wid64, if_pos, if_neg, Nat.add_zero, if_true, if_false, and_self, and_true, true_and, and_false, false_and, or_true, true_or, or_false, false_or]
    by_cases c : 0 ≤ x ∧ x < nMu (hv A)
    · simp -implicitDefEqProofs (disch := omega) only [↓reduceIte, Int.reduceEq, cI_v, cL_v, cV_v, cR_v, wid, wid64, if_pos, if_neg, Nat.add_zero, if_true, if_false, and_self, and_true, true_and, and_false, false_and, or_true, true_or, or_false, false_or]
      rw [s_doesSit _ _ A1 hc1, sc_hv f, sc_nv f]
      simp -implicitDefEqProofs (disch := omega) only [bI_0, ite_f, ↓reduceIte, Int.reduceEq, cI_v, cL_v, cV_v, cR_v, wid, wid64, if_pos, if_neg, Nat.add_zero, if_true, if_false, and_self, and_true, true_and, and_false, false_and, or_true, true_or, or_false, false_or]
      by_cases y0 : y = 0
      · simp -implicitDefEqProofs (disch := omega) only [q_X12_mute_27, e227, sc_hv f, y0, Int.add_zero, ↓reduceIte, Int.reduceEq, cI_v, cL_v, cV_v, cR_v, wid, wid64, if_pos, if_neg, Nat.add_zero, if_true, if_false, and_self, and_true, true_and, and_false, false_and, or_true, true_or, or_false, false_or]
      · by_cases y1 : y = 1
        · simp -implicitDefEqProofs (disch := omega) only [q_X12_mute_27, e227, sc_hv f, y1, ↓reduceIte, Int.reduceEq, cI_v, cL_v, cV_v, cR_v, wid, wid64, if_pos, if_neg, Nat.add_zero, if_true, if_false, and_self, and_true, true_and, and_false, false_and, or_true, true_or, or_false, false_or]
          congr 5; omega
        · by_cases y2 : y = 2
          · simp -implicitDefEqProofs (disch := omega) only [↓reduceIte, Int.reduceEq, cI_v, cL_v, cV_v, cR_v, wid, wid64, if_pos, if_neg, Nat.add_zero, if_true, if_false, and_self, and_true, true_and, and_false, false_and, or_true, true_or, or_false, false_or]
            by_cases s : sit (hv A) (nv A) (10 + x) = true
            · simp [s, bI]
            · simp [s, bI]
          · simp -implicitDefEqProofs (disch := omega) only [↓reduceIte, Int.reduceEq, cI_v, cL_v, cV_v, cR_v, wid, wid64, if_pos, if_neg, Nat.add_zero, if_true, if_false, and_self, and_true, true_and, and_false, false_and, or_true, true_or, or_false, false_or]
    · simp -implicitDefEqProofs (disch := omega) only [↓reduceIte, Int.reduceEq, cI_v, cL_v, cV_v, cR_v, wid, wid64, if_pos, if_neg, Nat.add_zero, if_true, if_false, and_self, and_true, true_and, and_false, false_and, or_true, true_or, or_false, false_or]
theorem c_noise (d n : Nat) (x y : Int) (A : AH) (r : REL n A) : CP (d + 4) n 119 223 [vI x, vI y] A := by
  have g := REL_g r
  have b6 := r.2.2.1
  have hh0 : gr A 40 5 ≠ 0 := by have := b6.1; omega
  have hc := g.1
  unfold cok at hc
  refine CP_q r (vI (if (0 ≤ x ∧ x < nSe (hv A)) ∧ 0 ≤ y ∧ y ≤ 999 then noiseF (hv A) (-1) x y else -1)) ⟨A, ?_, sc_refl A⟩ (fun A1 f => ⟨A1, ?_, sc_refl A1⟩)
  · rw [r_X11_noise, q_X11_noise_0]
    rw [s_isSeatC _ _ x A _ b6]
    simp -implicitDefEqProofs (disch := omega) only [bI_0, ite_f, decide_eq_true_eq, ↓reduceIte, Int.reduceEq, cI_v, cL_v, cV_v, cR_v, wid, wid64, if_pos, if_neg, Nat.add_zero, if_true, if_false, and_self, and_true, true_and, and_false, false_and, or_true, true_or, or_false, false_or]
    by_cases c : 0 ≤ x ∧ x < nSe (hv A)
    · simp -implicitDefEqProofs (disch := omega) only [↓reduceIte, Int.reduceEq, cI_v, cL_v, cV_v, cR_v, wid, wid64, if_pos, if_neg, Nat.add_zero, if_true, if_false, and_self, and_true, true_and, and_false, false_and, or_true, true_or, or_false, false_or]
      by_cases c1 : y < 0
      · simp -implicitDefEqProofs (disch := omega) only [↓reduceIte, Int.reduceEq, cI_v, cL_v, cV_v, cR_v, wid, wid64, if_pos, if_neg, Nat.add_zero, if_true, if_false, and_self, and_true, true_and, and_false, false_and, or_true, true_or, or_false, false_or]
      · by_cases c2 : 999 < y
        · simp -implicitDefEqProofs (disch := omega) only [↓reduceIte, Int.reduceEq, cI_v, cL_v, cV_v, cR_v, wid, wid64, if_pos, if_neg, Nat.add_zero, if_true, if_false, and_self, and_true, true_and, and_false, false_and, or_true, true_or, or_false, false_or]
        · rw [s_noiseC _ _ x y (-1) A _ g.1 g.2.1 b6 (by omega) (by omega)]
          simp -implicitDefEqProofs (disch := omega) only [↓reduceIte, Int.reduceEq, cI_v, cL_v, cV_v, cR_v, wid, wid64, if_pos, if_neg, Nat.add_zero, if_true, if_false, and_self, and_true, true_and, and_false, false_and, or_true, true_or, or_false, false_or]
    · simp -implicitDefEqProofs (disch := omega) only [↓reduceIte, Int.reduceEq, cI_v, cL_v, cV_v, cR_v, wid, wid64, if_pos, if_neg, Nat.add_zero, if_true, if_false, and_self, and_true, true_and, and_false, false_and, or_true, true_or, or_false, false_or]
  · have hc1 : cok (hv A1) := sc_f f g.1
    rw [r_X12_noise, q_X12_noise_0, s_isSeat _ x A1 hc1]
    simp -implicitDefEqProofs (disch := omega) only [s_isIn, bI_0, ite_f, decide_eq_true_eq, sc_hv f, q_X12_noise_29, ↓reduceIte, Int.reduceEq, cI_v, cL_v, cV_v, cR_v, wid, wid64, if_pos, if_neg, Nat.add_zero, if_true, if_false, and_self, and_true, true_and, and_false, false_and, or_true, true_or, or_false, false_or]
    by_cases c : 0 ≤ x ∧ x < nSe (hv A)
    · simp -implicitDefEqProofs (disch := omega) only [↓reduceIte, Int.reduceEq, cI_v, cL_v, cV_v, cR_v, wid, wid64, if_pos, if_neg, Nat.add_zero, if_true, if_false, and_self, and_true, true_and, and_false, false_and, or_true, true_or, or_false, false_or]
      by_cases c1 : 0 ≤ y ∧ y ≤ 999
      · rw [s_noiseAt _ x y A1 hc1 (by rw [sc_hv f]; exact g.2.1) (by omega) (by omega), sc_hv f, sc_q f, r.2.2.2.1]
        simp -implicitDefEqProofs (disch := omega) only [↓reduceIte, Int.reduceEq, cI_v, cL_v, cV_v, cR_v, wid, wid64, if_pos, if_neg, Nat.add_zero, if_true, if_false, and_self, and_true, true_and, and_false, false_and, or_true, true_or, or_false, false_or]
      · simp -implicitDefEqProofs (disch := omega) only [↓reduceIte, Int.reduceEq, cI_v, cL_v, cV_v, cR_v, wid, wid64, if_pos, if_neg, Nat.add_zero, if_true, if_false, and_self, and_true, true_and, and_false, false_and, or_true, true_or, or_false, false_or]
    · simp -implicitDefEqProofs (disch := omega) only [↓reduceIte, Int.reduceEq, cI_v, cL_v, cV_v, cR_v, wid, wid64, if_pos, if_neg, Nat.add_zero, if_true, if_false, and_self, and_true, true_and, and_false, false_and, or_true, true_or, or_false, false_or]
theorem kept_dec {m w c : Int} (hm : 0 ≤ m ∧ m ≤ 999) (hw : 0 ≤ w ∧ w ≤ 15) (hc : 0 ≤ c ∧ c ≤ 999) : ((m * 16 + w) * 1000 + c).tdiv 1000 = m * 16 + w ∧ (m * 16 + w).tdiv 16 = m ∧ (m * 16 + w).tmod 16 = w ∧ ((m * 16 + w) * 1000 + c).tmod 1000 = c := by
  refine ⟨?_, ?_, ?_, ?_⟩
  · rw [Int.tdiv_eq_ediv_of_nonneg (by omega)]; omega
  · rw [Int.tdiv_eq_ediv_of_nonneg (by omega)]; omega
  · rw [Int.tmod_eq_emod_of_nonneg (by omega)]; omega
  · rw [Int.tmod_eq_emod_of_nonneg (by omega)]; omega
theorem c_kept (d n : Nat) (hn : n ≤ 2000) (x y : Int) (A : AH) (r : REL n A) : CP (d + 4) n 120 224 [vI x, vI y] A := by
  have g := REL_g r
  obtain ⟨k1, k2, k3⟩ := r.2.1.2.1
  have e106 : runF (d + 2) 106 [vR 19 68 0] A = some (some (vI (nv A 25)), A) := by
    rw [r_X9_toldCoughs, q_X9_toldCoughs_0 _ _ _ _ _ (by omega)]
    simp -implicitDefEqProofs (disch := omega) only [s_minI, k2, ↓reduceIte, Int.reduceEq, cI_v, cL_v, cV_v, cR_v, wid, wid64, if_pos, if_neg, Nat.add_zero, if_true, if_false, and_self, and_true, true_and, and_false, false_and, or_true, true_or, or_false, false_or]
  refine CP_q r (vI (if (0 ≤ x ∧ x < nv A 25) ∧ 0 ≤ y ∧ y ≤ 2 then nv A (26 + 3 * x + y).toNat else -1)) ⟨A, ?_, sc_refl A⟩ (fun A1 f => ⟨A1, ?_, sc_refl A1⟩)
  · rw [r_X11_kept, q_X11_kept_0, r_X9_toldOf, q_X9_toldOf_0 _ _ _ _ _ _ _ (by omega)]
    simp -implicitDefEqProofs (disch := omega) only [e106, ↓reduceIte, Int.reduceEq, cI_v, cL_v, cV_v, cR_v, wid, wid64, if_pos, if_neg, Nat.add_zero, if_true, if_false, and_self, and_true, true_and, and_false, false_and, or_true, true_or, or_false, false_or]
    by_cases c : 0 ≤ x ∧ x < nv A 25
    · obtain ⟨v1, v2, v3, v4⟩ := k3 x c.1 c.2
      have hd := kept_dec v2 v3 v4
      have et : (gi A 68 7 - nv A 25 + x).tmod 40 = (gi A 68 7 - nv A 25 + x) % 40 := Int.tmod_eq_emod_of_nonneg (by omega)
      simp -implicitDefEqProofs (disch := omega) only [et, ↓reduceIte, Int.reduceEq, cI_v, cL_v, cV_v, cR_v, wid, wid64, if_pos, if_neg, Nat.add_zero, if_true, if_false, and_self, and_true, true_and, and_false, false_and, or_true, true_or, or_false, false_or]
      rw [show (68 + 4 : Nat) = 72 from rfl] at *
      rw [v1]
      by_cases y0 : y = 0
      · simp -implicitDefEqProofs (disch := omega) only [hd.1, hd.2.1, y0, Int.add_zero, ↓reduceIte, Int.reduceEq, cI_v, cL_v, cV_v, cR_v, wid, wid64, if_pos, if_neg, Nat.add_zero, if_true, if_false, and_self, and_true, true_and, and_false, false_and, or_true, true_or, or_false, false_or]
      · by_cases y1 : y = 1
        · simp -implicitDefEqProofs (disch := omega) only [hd.1, hd.2.2.1, y1, ↓reduceIte, Int.reduceEq, cI_v, cL_v, cV_v, cR_v, wid, wid64, if_pos, if_neg, Nat.add_zero, if_true, if_false, and_self, and_true, true_and, and_false, false_and, or_true, true_or, or_false, false_or]
          rw [show 26 + 3 * x + 1 = 27 + 3 * x by omega]
        · by_cases y2 : y = 2
          · simp -implicitDefEqProofs (disch := omega) only [hd.2.2.2, y2, ↓reduceIte, Int.reduceEq, cI_v, cL_v, cV_v, cR_v, wid, wid64, if_pos, if_neg, Nat.add_zero, if_true, if_false, and_self, and_true, true_and, and_false, false_and, or_true, true_or, or_false, false_or]
            rw [show 26 + 3 * x + 2 = 28 + 3 * x by omega]
          · simp -implicitDefEqProofs (disch := omega) only [↓reduceIte, Int.reduceEq, cI_v, cL_v, cV_v, cR_v, wid, wid64, if_pos, if_neg, Nat.add_zero, if_true, if_false, and_self, and_true, true_and, and_false, false_and, or_true, true_or, or_false, false_or]
    · by_cases c2 : x < 0 <;> simp -implicitDefEqProofs (disch := omega) only [↓reduceIte, Int.reduceEq, cI_v, cL_v, cV_v, cR_v, wid, wid64, if_pos, if_neg, Nat.add_zero, if_true, if_false, and_self, and_true, true_and, and_false, false_and, or_true, true_or, or_false, false_or]
  · rw [r_X12_kept, q_X12_kept_0]
    simp -implicitDefEqProofs (disch := omega) only [s_isIn, bI_0, ite_f, decide_eq_true_eq, e_nv, sc_nv f, q_X12_kept_47, ↓reduceIte, Int.reduceEq, cI_v, cL_v, cV_v, cR_v, wid, wid64, if_pos, if_neg, Nat.add_zero, if_true, if_false, and_self, and_true, true_and, and_false, false_and, or_true, true_or, or_false, false_or]
    by_cases c : 0 ≤ x ∧ x < nv A 25
    · by_cases c1 : 0 ≤ y ∧ y ≤ 2 <;> simp -implicitDefEqProofs (disch := omega) only [↓reduceIte, Int.reduceEq, cI_v, cL_v, cV_v, cR_v, wid, wid64, if_pos, if_neg, Nat.add_zero, if_true, if_false, and_self, and_true, true_and, and_false, false_and, or_true, true_or, or_false, false_or]
    · simp -implicitDefEqProofs (disch := omega) only [↓reduceIte, Int.reduceEq, cI_v, cL_v, cV_v, cR_v, wid, wid64, if_pos, if_neg, Nat.add_zero, if_true, if_false, and_self, and_true, true_and, and_false, false_and, or_true, true_or, or_false, false_or]
theorem c_mean (d n : Nat) (x : Int) (A : AH) (r : REL n A) : CP (d + 9) n 121 230 [vI x] A := by
  have g := REL_g r
  have b6 := r.2.2.1
  have b7 := r.2.1.1
  have hm := r.2.1.2.2.2.2.1
  have hs := r.2.1.2.2.2.2.2
  have ha := g.2.2.2.1.2.2
  by_cases c : 0 ≤ x ∧ x ≤ 200 ∧ nv A 0 + x ≤ 999
  · obtain ⟨A1, e1, e2, e3⟩ := s_look (d + 6) (gr A 40 5) 68 A b6 b7 (by omega)
    obtain ⟨A2, u1, u2, u3⟩ := s_meanOfC (d + 1) x A1 e2 g ha.1 ha.2 hm.1 (by omega) c.1 (by omega) (by omega)
    refine CP_q r (vL (100 * nv A 1 + mnS (hv A) (nv A) (nv A 0) (nv A 2) (-1) x.toNat)) ⟨A2, ?_, sc_trans (frL_sc e3) (frS_sc u3)⟩ (fun A3 f => ?_)
    · rw [r_X11_mean, q_X11_mean_0, b7.2.1.1]
      simp -implicitDefEqProofs (disch := omega) only [e1, u1, ↓reduceIte, Int.reduceEq, cI_v, cL_v, cV_v, cR_v, wid, wid64, if_pos, if_neg, Nat.add_zero, if_true, if_false, and_self, and_true, true_and, and_false, false_and, or_true, true_or, or_false, false_or]
    · obtain ⟨A4, w1, w2⟩ := s_meanOfM d x A3 (mok_sc f (REL_mok r)) (by rw [sc_nv f]; omega) c.1 (by rw [sc_nv f]; omega) (by rw [sc_nv f]; omega)
      refine ⟨A4, ?_, scm_sc w2⟩
      rw [r_X12_mean, q_X12_mean_0, s_isAhead _ x 0 200 A3 (by rw [sc_nv f]; omega) (by rw [sc_nv f]; omega) (by omega) (by omega)]
      rw [sc_hv f, sc_nv f, sc_q f, r.2.2.2.1] at w1
      simp -implicitDefEqProofs (disch := omega) only [bI_0, ite_f, decide_eq_true_eq, sc_nv f, w1, ↓reduceIte, Int.reduceEq, cI_v, cL_v, cV_v, cR_v, wid, wid64, if_pos, if_neg, Nat.add_zero, if_true, if_false, and_self, and_true, true_and, and_false, false_and, or_true, true_or, or_false, false_or]
  · refine CP_q r (vL (-1000000000000000)) ⟨A, ?_, sc_refl A⟩ (fun A1 f => ⟨A1, ?_, sc_refl A1⟩)
    · rw [r_X11_mean, q_X11_mean_0, b7.2.1.1]
      by_cases c1 : x < 0
      · simp -implicitDefEqProofs (disch := omega) only [↓reduceIte, Int.reduceEq, cI_v, cL_v, cV_v, cR_v, wid, wid64, if_pos, if_neg, Nat.add_zero, if_true, if_false, and_self, and_true, true_and, and_false, false_and, or_true, true_or, or_false, false_or]
      · by_cases c2 : 200 < x
        · simp -implicitDefEqProofs (disch := omega) only [↓reduceIte, Int.reduceEq, cI_v, cL_v, cV_v, cR_v, wid, wid64, if_pos, if_neg, Nat.add_zero, if_true, if_false, and_self, and_true, true_and, and_false, false_and, or_true, true_or, or_false, false_or]
        · simp -implicitDefEqProofs (disch := omega) only [↓reduceIte, Int.reduceEq, cI_v, cL_v, cV_v, cR_v, wid, wid64, if_pos, if_neg, Nat.add_zero, if_true, if_false, and_self, and_true, true_and, and_false, false_and, or_true, true_or, or_false, false_or]
    · rw [r_X12_mean, q_X12_mean_0, s_isAhead _ x 0 200 A1 (by rw [sc_nv f]; omega) (by rw [sc_nv f]; omega) (by omega) (by omega)]
      simp -implicitDefEqProofs (disch := omega) only [bI_0, ite_f, decide_eq_true_eq, sc_nv f, ↓reduceIte, Int.reduceEq, cI_v, cL_v, cV_v, cR_v, wid, wid64, if_pos, if_neg, Nat.add_zero, if_true, if_false, and_self, and_true, true_and, and_false, false_and, or_true, true_or, or_false, false_or]
theorem c_sits (d n : Nat) (x y : Int) (A : AH) (r : REL n A) : CP (d + 8) n 116 220 [vI x, vI y] A := by
  have g := REL_g r
  have b6 := r.2.2.1
  have b7 := r.2.1.1
  have hm := r.2.1.2.2.2.2.1
  have ha := g.2.2.2.1.2.2
  by_cases c : sit (hv A) (nv A) x = true
  · have hx := sit_num g.1 c
    have hx1 : 0 ≤ x := by unfold num at hx; omega
    have hx2 : x < 16 := by unfold num at hx; omega
    obtain ⟨A1, e1, e2, e3⟩ := s_look (d + 5) (gr A 40 5) 68 A b6 b7 (by omega)
    obtain ⟨A2, u1, u2, u3⟩ := s_regard (d + 4) x A1 e2.1 g c ha.1 ha.2
    have b2 := BS_fr u3 e2.1
    have f2 : sc A A2 := sc_trans (frL_sc e3) (frB_sc u3)
    have z1 := b2.2.2.2.1.2.2.1 x hx1 hx2
    have z2 := b2.2.2.2.1.2.2.2.1 x hx1 hx2
    rw [if_pos c] at z1 z2
    have hy : y = 0 ∨ y = 1 ∨ y = 2 ∨ y = 3 ∨ y = 4 ∨ y = 5 ∨ y = 6 ∨ y = 7 ∨ ¬ (0 ≤ y ∧ y ≤ 7) := by omega
    have k0 := u2 0 (by omega) (by omega)
    have k1 := u2 1 (by omega) (by omega)
    have k2 := u2 2 (by omega) (by omega)
    have k3 := u2 3 (by omega) (by omega)
    rw [show (0 : Int).toNat = 0 from rfl] at k0
    rw [show (1 : Int).toNat = 1 from rfl] at k1
    rw [show (2 : Int).toNat = 2 from rfl] at k2
    rw [show (3 : Int).toNat = 3 from rfl] at k3
    have l0 : fctF (hv A) (nv A) (nv A 0) (nv A 2) (-1) x 0 = keepsF (hv A) x := rfl
    have l1 : fctF (hv A) (nv A) (nv A 0) (nv A 2) (-1) x 1 = itchF (hv A) x := rfl
    have l2 : fctF (hv A) (nv A) (nv A 0) (nv A 2) (-1) x 2 = nearF (hv A) (nv A) x := rfl
    have l3 : fctF (hv A) (nv A) (nv A 0) (nv A 2) (-1) x 3 = hatedF (hv A) (nv A) x := rfl
    obtain ⟨A3, w1, w2⟩ := s_weightNow (d + 2) x A2 b2 g c ha.1 ha.2 hm.1 (by omega) u2
    obtain ⟨A4, v1, v2⟩ := s_coughNow (d + 2) x A2 b2 g c ha.1 ha.2 hm.1 (by omega) u2
    refine CP_q r (vI (if y = 0 then seatR (nv A) x else if y = 1 then partyF (hv A) (nv A) x else if y = 2 then keepsF (hv A) x else if y = 3 then itchF (hv A) x else if y = 4 then nearF (hv A) (nv A) x else if y = 5 then hatedF (hv A) (nv A) x else if y = 6 then weightF (hv A) (nv A) (nv A 0) (nv A 2) (-1) x else if y = 7 then coughF (hv A) (nv A) (nv A 0) (nv A 2) (-1) x else -1)) ?_ (fun A5 f => ?_)
    · rw [r_X11_sits, q_X11_sits_0, s_isThere _ 68 x A _ _ g.1 g.2.2.2.2 b7, c, bI_t, cI_v, if_neg (by omega), e1, cV_v, u1, cV_v]
      rcases hy with rfl | rfl | rfl | rfl | rfl | rfl | rfl | rfl | hy
      · refine ⟨A2, ?_, f2⟩
        simp -implicitDefEqProofs (disch := omega) only [z1, ↓reduceIte, Int.reduceEq, cI_v, cL_v, cV_v, cR_v, wid, wid64, if_pos, if_neg, Nat.add_zero, if_true, if_false, and_self, and_true, true_and, and_false, false_and, or_true, true_or, or_false, false_or]
      · refine ⟨A2, ?_, f2⟩
        simp -implicitDefEqProofs (disch := omega) only [z2, ↓reduceIte, Int.reduceEq, cI_v, cL_v, cV_v, cR_v, wid, wid64, if_pos, if_neg, Nat.add_zero, if_true, if_false, and_self, and_true, true_and, and_false, false_and, or_true, true_or, or_false, false_or]
      · refine ⟨A2, ?_, f2⟩
        simp -implicitDefEqProofs (disch := omega) only [k0, l0, ↓reduceIte, Int.reduceEq, cI_v, cL_v, cV_v, cR_v, wid, wid64, if_pos, if_neg, Nat.add_zero, if_true, if_false, and_self, and_true, true_and, and_false, false_and, or_true, true_or, or_false, false_or]
      · refine ⟨A2, ?_, f2⟩
        simp -implicitDefEqProofs (disch := omega) only [k1, l1, ↓reduceIte, Int.reduceEq, cI_v, cL_v, cV_v, cR_v, wid, wid64, if_pos, if_neg, Nat.add_zero, if_true, if_false, and_self, and_true, true_and, and_false, false_and, or_true, true_or, or_false, false_or]
      · refine ⟨A2, ?_, f2⟩
        simp -implicitDefEqProofs (disch := omega) only [k2, l2, ↓reduceIte, Int.reduceEq, cI_v, cL_v, cV_v, cR_v, wid, wid64, if_pos, if_neg, Nat.add_zero, if_true, if_false, and_self, and_true, true_and, and_false, false_and, or_true, true_or, or_false, false_or]
      · refine ⟨A2, ?_, f2⟩
        simp -implicitDefEqProofs (disch := omega) only [k3, l3, ↓reduceIte, Int.reduceEq, cI_v, cL_v, cV_v, cR_v, wid, wid64, if_pos, if_neg, Nat.add_zero, if_true, if_false, and_self, and_true, true_and, and_false, false_and, or_true, true_or, or_false, false_or]
      · refine ⟨A3, ?_, sc_trans f2 (frB_sc (frC_frB w2))⟩
        simp -implicitDefEqProofs (disch := omega) only [w1, ↓reduceIte, Int.reduceEq, cI_v, cL_v, cV_v, cR_v, wid, wid64, if_pos, if_neg, Nat.add_zero, if_true, if_false, and_self, and_true, true_and, and_false, false_and, or_true, true_or, or_false, false_or]
      · refine ⟨A4, ?_, sc_trans f2 (frB_sc (frC_frB v2))⟩
        simp -implicitDefEqProofs (disch := omega) only [v1, ↓reduceIte, Int.reduceEq, cI_v, cL_v, cV_v, cR_v, wid, wid64, if_pos, if_neg, Nat.add_zero, if_true, if_false, and_self, and_true, true_and, and_false, false_and, or_true, true_or, or_false, false_or]
      · refine ⟨A2, ?_, f2⟩
        simp -implicitDefEqProofs (disch := omega) only [↓reduceIte, Int.reduceEq, cI_v, cL_v, cV_v, cR_v, wid, wid64, if_pos, if_neg, Nat.add_zero, if_true, if_false, and_self, and_true, true_and, and_false, false_and, or_true, true_or, or_false, false_or]
    · have m5 := mok_sc f (REL_mok r)
      obtain ⟨B1, p1, p2⟩ := s_weightOf (d + 2) x A5 m5.1 m5.2.1 m5.2.2.2.1 m5.2.2.2.2.1 m5.2.2.2.2.2 hx m5.2.2.1
      obtain ⟨B2, q1, q2⟩ := s_coughOf (d + 2) x A5 m5.1 m5.2.1 m5.2.2.2.1 m5.2.2.2.2.1 m5.2.2.2.2.2 hx m5.2.2.1
      rw [sc_hv f, sc_nv f, sc_q f, r.2.2.2.1] at p1 q1
      rw [r_X12_sits, q_X12_sits_0, s_isIn, decide_eq_true (by omega), bI_t, cI_v, if_neg (by omega), s_doesSit _ x A5 m5.1, sc_hv f, sc_nv f, c, bI_t, cI_v, if_neg (by omega)]
      rcases hy with rfl | rfl | rfl | rfl | rfl | rfl | rfl | rfl | hy
      · refine ⟨A5, ?_, sc_refl A5⟩
        simp -implicitDefEqProofs (disch := omega) only [s_seatOf, sc_nv f, ↓reduceIte, Int.reduceEq, cI_v, cL_v, cV_v, cR_v, wid, wid64, if_pos, if_neg, Nat.add_zero, if_true, if_false, and_self, and_true, true_and, and_false, false_and, or_true, true_or, or_false, false_or]
      · refine ⟨A5, ?_, sc_refl A5⟩
        simp -implicitDefEqProofs (disch := omega) only [s_partyOf, hx, sc_nv f, sc_hv f, ↓reduceIte, Int.reduceEq, cI_v, cL_v, cV_v, cR_v, wid, wid64, if_pos, if_neg, Nat.add_zero, if_true, if_false, and_self, and_true, true_and, and_false, false_and, or_true, true_or, or_false, false_or]
      · refine ⟨A5, ?_, sc_refl A5⟩
        simp -implicitDefEqProofs (disch := omega) only [s_keepsOf, hx, sc_nv f, sc_hv f, ↓reduceIte, Int.reduceEq, cI_v, cL_v, cV_v, cR_v, wid, wid64, if_pos, if_neg, Nat.add_zero, if_true, if_false, and_self, and_true, true_and, and_false, false_and, or_true, true_or, or_false, false_or]
      · refine ⟨A5, ?_, sc_refl A5⟩
        simp -implicitDefEqProofs (disch := omega) only [s_itchesOf, hx, sc_nv f, sc_hv f, ↓reduceIte, Int.reduceEq, cI_v, cL_v, cV_v, cR_v, wid, wid64, if_pos, if_neg, Nat.add_zero, if_true, if_false, and_self, and_true, true_and, and_false, false_and, or_true, true_or, or_false, false_or]
      · refine ⟨A5, ?_, sc_refl A5⟩
        simp -implicitDefEqProofs (disch := omega) only [↓reduceIte, Int.reduceEq, cI_v, cL_v, cV_v, cR_v, wid, wid64, if_pos, if_neg, Nat.add_zero, if_true, if_false, and_self, and_true, true_and, and_false, false_and, or_true, true_or, or_false, false_or]
        rw [s_nearOf _ x A5 m5.1 m5.2.2.2.1 hx1 hx2, sc_nv f, sc_hv f]
        simp -implicitDefEqProofs (disch := omega) only [↓reduceIte, Int.reduceEq, cI_v, cL_v, cV_v, cR_v, wid, wid64, if_pos, if_neg, Nat.add_zero, if_true, if_false, and_self, and_true, true_and, and_false, false_and, or_true, true_or, or_false, false_or]
      · refine ⟨A5, ?_, sc_refl A5⟩
        simp -implicitDefEqProofs (disch := omega) only [↓reduceIte, Int.reduceEq, cI_v, cL_v, cV_v, cR_v, wid, wid64, if_pos, if_neg, Nat.add_zero, if_true, if_false, and_self, and_true, true_and, and_false, false_and, or_true, true_or, or_false, false_or]
        rw [s_hatedOf _ x A5 m5.1 m5.2.1 m5.2.2.2.1 hx1 hx2, sc_nv f, sc_hv f]
        simp -implicitDefEqProofs (disch := omega) only [↓reduceIte, Int.reduceEq, cI_v, cL_v, cV_v, cR_v, wid, wid64, if_pos, if_neg, Nat.add_zero, if_true, if_false, and_self, and_true, true_and, and_false, false_and, or_true, true_or, or_false, false_or]
      · refine ⟨B1, ?_, scm_sc p2⟩
        simp -implicitDefEqProofs (disch := omega) only [p1, ↓reduceIte, Int.reduceEq, cI_v, cL_v, cV_v, cR_v, wid, wid64, if_pos, if_neg, Nat.add_zero, if_true, if_false, and_self, and_true, true_and, and_false, false_and, or_true, true_or, or_false, false_or]
      · refine ⟨B2, ?_, scm_sc q2⟩
        simp -implicitDefEqProofs (disch := omega) only [q1, ↓reduceIte, Int.reduceEq, cI_v, cL_v, cV_v, cR_v, wid, wid64, if_pos, if_neg, Nat.add_zero, if_true, if_false, and_self, and_true, true_and, and_false, false_and, or_true, true_or, or_false, false_or]
      · refine ⟨A5, ?_, sc_refl A5⟩
        simp -implicitDefEqProofs (disch := omega) only [↓reduceIte, Int.reduceEq, cI_v, cL_v, cV_v, cR_v, wid, wid64, if_pos, if_neg, Nat.add_zero, if_true, if_false, and_self, and_true, true_and, and_false, false_and, or_true, true_or, or_false, false_or]
  · have c' : sit (hv A) (nv A) x = false := by simpa using c
    refine CP_q r (vI (-1)) ⟨A, ?_, sc_refl A⟩ (fun A5 f => ⟨A5, ?_, sc_refl A5⟩)
    · rw [r_X11_sits, q_X11_sits_0, s_isThere _ 68 x A _ _ g.1 g.2.2.2.2 b7, c', bI_f, cI_v, if_pos rfl]
    · rw [r_X12_sits, q_X12_sits_0, s_isIn]
      by_cases c1 : 0 ≤ x ∧ x ≤ 15
      · rw [decide_eq_true c1, bI_t, cI_v, if_neg (by omega), s_doesSit _ x A5 (sc_f f g.1), sc_hv f, sc_nv f, c', bI_f, cI_v, if_pos rfl]
      · rw [decide_eq_false c1, bI_f, cI_v, if_pos rfl]
