/-! a minute passes: the reference; the call minutes -/
set_option maxRecDepth 100000 in
theorem l_shift (d : Nat) (x c : Int) (A : AH) : ∀ (j n : Nat) (k : Int) (B : AH), 26 ≤ k → k + j = 143 → (∀ i : Nat, gi B 237 i = if 26 ≤ i ∧ (i : Int) < k then gi A 237 (i + 3) else gi A 237 i) → (∀ a i, a ≠ 237 → gi B a i = gi A a i) → (∀ a i, gr B a i = gr A a i) → B.2.2 = A.2.2 → 10 * j + 10 ≤ n → ∃ A' n', go true 3 (runF d) (runN d) pb_X12_isKept n 15 [vR 21 190 0, vI x, vI c, vI k] [] B = go true 3 (runF d) (runN d) pb_X12_isKept n' 56 [vR 21 190 0, vI x, vI c, vI 143] [] A' ∧ (∀ i : Nat, gi A' 237 i = if 26 ≤ i ∧ i < 143 then gi A 237 (i + 3) else gi A 237 i) ∧ (∀ a i, a ≠ 237 → gi A' a i = gi A a i) ∧ (∀ a i, gr A' a i = gr A a i) ∧ A'.2.2 = A.2.2 ∧ n - 10 * j - 5 ≤ n' := by
  intro j
  induction j with
  | zero =>
    intro n k B h1 h2 h3 h4 h5 h6 hn
    obtain ⟨n, rfl⟩ : ∃ e, n = e + 2 := ⟨n - 2, by omega⟩
    refine ⟨B, n, ?_, fun i => ?_, h4, h5, h6, by omega⟩
    · rw [q_X12_isKept_15, if_neg (by omega), show k = 143 by omega, Nat.add_zero n]
    · rw [h3 i]
      by_cases q : 26 ≤ i ∧ i < 143
      · rw [if_pos (by omega), if_pos q]
      · rw [if_neg (by omega), if_neg q]
  | succ j ih =>
    intro n k B h1 h2 h3 h4 h5 h6 hn
    obtain ⟨n, rfl⟩ : ∃ e, n = e + 10 := ⟨n - 10, by omega⟩
    have e : gi B 237 (k + 3).toNat = gi A 237 (k + 3).toNat := by rw [h3, if_neg (by omega)]
    obtain ⟨A', n', u1, u2⟩ := ih (n + 8) (k + 1) (wi B 237 k.toNat (gi A 237 (k + 3).toNat)) (by omega) (by omega) (fun i => by
      rw [gi_wi]
      by_cases q : i = k.toNat
      · rw [if_pos ⟨rfl, q⟩, if_pos (by omega), q, show (k + 3).toNat = k.toNat + 3 by omega]
      · rw [if_neg (fun z => q z.2), h3]
        by_cases q2 : 26 ≤ i ∧ (i : Int) < k
        · rw [if_pos q2, if_pos (by omega)]
        · rw [if_neg q2, if_neg (by omega)]) (fun a i h => by rw [gi_wi, if_neg (by omega)]; exact h4 a i h) h5 h6 (by omega)
    refine ⟨A', n', ?_, u2.1, u2.2.1, u2.2.2.1, u2.2.2.2.1, by omega⟩
    rw [q_X12_isKept_15, if_pos (by omega), wid (by omega) (by omega), if_pos (by omega), if_pos (by omega), e, q_X12_isKept_36, wid (by omega) (by omega)]
    exact u1
set_option maxRecDepth 100000 in
theorem s_isKept (d : Nat) (x c : Int) (A : AH) (h : 0 ≤ nv A 25 ∧ nv A 25 ≤ 40) : ∃ A', runF (d + 1) 254 [vR 21 190 0, vI x, vI c] A = some (none, A') ∧ nv A' = kpR (nv A) (nv A 0) x c ∧ (∀ a i, a ≠ 237 → gi A' a i = gi A a i) ∧ (∀ a i, gr A' a i = gr A a i) ∧ A'.2.2 = A.2.2 := by
  have e25 : gi A 237 25 = nv A 25 := rfl
  have fin : ∀ (B : AH) (n : Nat) (u3 : AV), (1 ≤ nv B 25 ∧ nv B 25 ≤ 40) → go true 3 (runF d) (runN d) pb_X12_isKept (n + 4) 56 [vR 21 190 0, vI x, vI c, u3] [] B = some (none, wi (wi (wi B 237 (23 + 3 * nv B 25).toNat (nv B 0)) 237 (24 + 3 * nv B 25).toNat x) 237 (25 + 3 * nv B 25).toNat c) := by
    intro B n u3 hb
    rw [q_X12_isKept_56, e_nv, e_nv, wid (x := 3 * nv B 25) (by omega) (by omega), wid (x := 26 + 3 * nv B 25) (by omega) (by omega), wid (x := 26 + 3 * nv B 25 - 3) (by omega) (by omega), if_pos (by omega), q_X12_isKept_83, wid (by omega) (by omega), if_pos (by omega), q_X12_isKept_92, wid (by omega) (by omega), if_pos (by omega), q_X12_isKept_101]
    rw [show 26 + 3 * nv B 25 - 3 = 23 + 3 * nv B 25 by omega, show 23 + 3 * nv B 25 + 1 = 24 + 3 * nv B 25 by omega, show 23 + 3 * nv B 25 + 2 = 25 + 3 * nv B 25 by omega]
  by_cases full : nv A 25 = 40
  · obtain ⟨B, n', u1, u2, u3, u4, u5, u6⟩ := l_shift d x c A 117 (fu + 199) 26 A (by omega) (by omega) (fun i => by rw [if_neg (by omega)]) (fun _ _ _ => rfl) (fun _ _ => rfl) rfl (by have := fu_ge; omega)
    obtain ⟨n2, rfl⟩ : ∃ e, n' = e + 4 := ⟨n' - 4, by have := fu_ge; omega⟩
    have b25 : nv B 25 = 40 := by show gi B 237 25 = 40; rw [u2, if_neg (by omega)]; exact full
    have b0 : nv B 0 = nv A 0 := by show gi B 237 0 = _; rw [u2, if_neg (by omega)]; rfl
    refine ⟨wi (wi (wi B 237 143 (nv A 0)) 237 144 x) 237 145 c, ?_, ?_, fun a i q => ?_, u4, u5⟩
    · rw [r_X12_isKept, q_X12_isKept_0, e25, if_pos full]
      have u1' : go true 3 (runF d) (runN d) pb_X12_isKept (fu + 198 + 1) 15 [vR 21 190 0, vI x, vI c, vI 26] [] A = _ := u1
      rw [u1', fin B n2 _ (by omega), b25, b0]; rfl
    · funext j
      rw [nv_wi7, nv_wi7, nv_wi7]
      unfold kpR
      rw [if_pos full]
      have : nv B j = if 26 ≤ j ∧ j < 143 then nv A (j + 3) else nv A j := u2 j
      rw [this]
      by_cases q1 : j = 145
      · rw [if_pos q1, if_neg (by omega), if_neg (by omega), if_pos q1]
      · rw [if_neg q1]
        by_cases q2 : j = 144
        · rw [if_pos q2, if_neg (by omega), if_pos q2]
        · rw [if_neg q2]
          by_cases q3 : j = 143
          · rw [if_pos q3, if_pos q3]
          · rw [if_neg q3, if_neg q3, if_neg q2, if_neg q1]
    · rw [gi_wi, if_neg (by omega), gi_wi, if_neg (by omega), gi_wi, if_neg (by omega)]; exact u3 a i q
  · obtain ⟨B, hB⟩ : ∃ B, B = wi A 237 25 (nv A 25 + 1) := ⟨_, rfl⟩
    have b25 : nv B 25 = nv A 25 + 1 := by rw [hB, nv_wi7, if_pos rfl]
    have b0 : nv B 0 = nv A 0 := by rw [hB, nv_wi7, if_neg (by omega)]
    refine ⟨wi (wi (wi B 237 (26 + 3 * nv A 25).toNat (nv A 0)) 237 (27 + 3 * nv A 25).toNat x) 237 (28 + 3 * nv A 25).toNat c, ?_, ?_, fun a i q => ?_, fun a i => by rw [hB]; rfl, by rw [hB]; rfl⟩
    · rw [r_X12_isKept, q_X12_isKept_0, e25, if_neg full, wid (by omega) (by omega), ← hB]
      have := fin B (fu + 194) vU (by omega)
      rw [b25, b0, show 23 + 3 * (nv A 25 + 1) = 26 + 3 * nv A 25 by omega, show 24 + 3 * (nv A 25 + 1) = 27 + 3 * nv A 25 by omega, show 25 + 3 * (nv A 25 + 1) = 28 + 3 * nv A 25 by omega] at this
      exact this
    · funext j
      rw [nv_wi7, nv_wi7, nv_wi7, hB, nv_wi7]
      unfold kpR
      rw [if_neg full]
      by_cases q0 : j = 25
      · rw [if_neg (by omega), if_neg (by omega), if_neg (by omega), if_pos q0, if_pos q0]
      · rw [if_neg q0, if_neg q0]
        by_cases q1 : j = (28 + 3 * nv A 25).toNat
        · rw [if_pos q1, if_neg (by omega), if_neg (by omega), if_pos q1]
        · rw [if_neg q1]
          by_cases q2 : j = (27 + 3 * nv A 25).toNat
          · rw [if_pos q2, if_neg (by omega), if_pos q2]
          · rw [if_neg q2]
            by_cases q3 : j = (26 + 3 * nv A 25).toNat
            · rw [if_pos q3, if_pos q3]
            · rw [if_neg q3, if_neg q3, if_neg q2, if_neg q1]
    · rw [gi_wi, if_neg (by omega), gi_wi, if_neg (by omega), gi_wi, if_neg (by omega), hB, gi_wi, if_neg (by omega)]
def frG (A B : AH) : Prop := (∀ a j, a ≠ 237 → ¬ (a = 190 ∧ j = 75) → ¬ scrM a j → gi B a j = gi A a j) ∧ (∀ a j, a ≠ 180 → gr B a j = gr A a j) ∧ B.2.2 = A.2.2
theorem frG_refl (A : AH) : frG A A := ⟨fun _ _ _ _ _ => rfl, fun _ _ _ => rfl, rfl⟩
theorem frG_trans {A B C : AH} (h1 : frG A B) (h2 : frG B C) : frG A C := ⟨fun a j q r t => (h2.1 a j q r t).trans (h1.1 a j q r t), fun a j q => (h2.2.1 a j q).trans (h1.2.1 a j q), h2.2.2.trans h1.2.2⟩
theorem frG_scm {A B : AH} (h : scm A B) : frG A B := ⟨fun a j _ _ t => h.1 a j t, h.2.1, h.2.2⟩
theorem frG_hv {A B : AH} (f : frG A B) : hv B = hv A := hv_fr (fun a j h1 h2 => f.1 a j (by omega) (by omega) (by unfold scrM; omega))
theorem frG_q {A B : AH} (f : frG A B) : gi B 190 65 = gi A 190 65 := f.1 190 65 (by omega) (by omega) (by unfold scrM; omega)
set_option maxRecDepth 100000 in
theorem l_mgM (d : Nat) (A : AH) {H : Nat → Nat → Int} {row : Nat → Int} {s : Int} (hH : hv A = H) (g : gok H row) (hm : 0 ≤ row 0 ∧ row 0 ≤ 999) (hq : gi A 190 65 = -1) (hs : 0 ≤ s ∧ s < 2147483648) (r25 : 0 ≤ row 25 ∧ row 25 ≤ 40) : ∀ (j i n : Nat) (u v : Int) (u4 : AV) (B : AH), i + j = 16 → frG A B → nv B = rwF H row s (min i (nPe H).toNat) → gi B 190 75 = sdF H s (min i (nPe H).toNat) → -100000 - 999 * i ≤ u → u ≤ 100000 + 999 * i → 0 ≤ v → v ≤ i → 10 * j + 10 ≤ n → ∃ A' n' u4', go true 0 (runF (d + 6)) (runN (d + 6)) pb_X12_minuteGoes n 11 [vR 21 190 0, vI u, vI v, vI i, u4] [] B = go true 0 (runF (d + 6)) (runN (d + 6)) pb_X12_minuteGoes n' 94 [vR 21 190 0, vI (u + sm (fun x => if sit H row x = true then movesF H row (row 0) (row 2) (-1) x (tb (cbF H s (nPe H).toNat) x) else 0) j i), vI (v + sm (fun x => bI (tb (cbF H s (nPe H).toNat) x)) j i), vI 16, u4'] [] A' ∧ frG A A' ∧ nv A' = rwF H row s (nPe H).toNat ∧ gi A' 190 75 = sdF H s (nPe H).toNat ∧ n - 10 * j - 5 ≤ n' := by
  have hc := g.1
  unfold cok at hc
  have cbs := cb_sp H s (nPe H).toNat (by omega)
  intro j
  induction j with
  | zero =>
    intro i n u v u4 B h1 f hn75 hs75 b1 b2 b3 b4 hn
    obtain ⟨n, rfl⟩ : ∃ e, n = e + 1 := ⟨n - 1, by omega⟩
    have ei : min i (nPe H).toNat = (nPe H).toNat := by omega
    rw [ei] at hn75 hs75
    refine ⟨B, n, u4, ?_, f, hn75, hs75, by omega⟩
    rw [q_X12_minuteGoes_11, if_neg (by omega), sm, sm, Int.add_zero, Int.add_zero, show ((i : Nat) : Int) = 16 by omega, Nat.add_zero n]
  | succ j ih =>
    intro i n u v u4 B h1 f hn75 hs75 b1 b2 b3 b4 hn
    obtain ⟨n, rfl⟩ : ∃ e, n = e + 10 := ⟨n - 10, by omega⟩
    have eh : hv B = H := by rw [frG_hv f]; exact hH
    have eq : gi B 190 65 = -1 := by rw [frG_q f]; exact hq
    have re : rowEq (nv B) row := fun k k1 k2 => by rw [hn75]; exact rw_lo2 r25 _ (by omega)
    have n0 : nv B 0 = row 0 := by rw [hn75]; exact rw_lo2 r25 _ (by omega)
    have n2 : nv B 2 = row 2 := by rw [hn75]; exact rw_lo2 r25 _ (by omega)
    have gB := gok_row re n2 g
    have mB : mok B := by unfold mok; rw [eh, n0]; exact ⟨gB.1, gB.2.1, gB.2.2.1, gB.2.2.2.1, hm.1, by omega⟩
    have sB := sit_row re g.1 (i : Int)
    have tbi := cbs.2 i
    have stp : ∀ (n' : Nat) (u' v' : Int) (u4' : AV) (C : AH), go true 0 (runF (d + 6)) (runN (d + 6)) pb_X12_minuteGoes (n' + 1) 88 [vR 21 190 0, vI u', vI v', vI i, u4'] [] C = go true 0 (runF (d + 6)) (runN (d + 6)) pb_X12_minuteGoes n' 11 [vR 21 190 0, vI u', vI v', vI ((i + 1 : Nat) : Int), u4'] [] C := fun n' u' v' u4' C => by
      rw [q_X12_minuteGoes_88, wid (by omega) (by omega), Nat.add_zero]; rfl
    by_cases c : sit H row i = true
    · have hx := sit_num g.1 c
      have hxn := hx
      unfold num at hxn
      have ib := itch_bd g.2.1 hx
      by_cases cp : (i : Int) < nPe H
      · have em : min i (nPe H).toNat = i := by omega
        have em1 : min (i + 1) (nPe H).toNat = i + 1 := by omega
        rw [em] at hn75 hs75
        have sb := sd_bd H hs i
        rw [decide_eq_true (by omega), Bool.true_and] at tbi
        have ito : ∀ (m : Nat) (C : AH), hv C = H → runF (m + 2) 204 [vR 21 190 0, vI i] C = some (some (vI (itchF H i)), C) := fun m C hC => by rw [s_itchesOf m i C hx, hC]
        have thr : ∃ B1 n1, go true 0 (runF (d + 6)) (runN (d + 6)) pb_X12_minuteGoes (n + 9) 28 [vR 21 190 0, vI u, vI v, vI i, u4] [] B = go true 0 (runF (d + 6)) (runN (d + 6)) pb_X12_minuteGoes n1 55 [vR 21 190 0, vI u, vI v, vI i, u4] [vI (bI (cgF H s i))] B1 ∧ n + 6 ≤ n1 ∧ frG A B1 ∧ nv B1 = rwF H row s i ∧ gi B1 190 75 = sdF H s (i + 1) := by
          rw [q_X12_minuteGoes_28, ito (d + 4) B eh, cI_v]
          by_cases c1 : 0 < itchF H i
          · have sd : sdF H s (i + 1) = dr (sdF H s i) := by show (if 0 < itchF H i then _ else _) = _; rw [if_pos c1]
            obtain ⟨B1, hB1⟩ : ∃ B1, B1 = wi B 190 75 (dr (sdF H s i)) := ⟨_, rfl⟩
            have f1 : frG A B1 := by rw [hB1]; exact frG_trans f ⟨fun a k q r t => by rw [gi_wi, if_neg (by omega)], fun _ _ _ => rfl, rfl⟩
            have nB1 : nv B1 = rwF H row s i := by rw [← hn75, hB1]; funext k; unfold nv; rw [gi_wi, if_neg (by omega)]
            have gB1 : gi B1 190 75 = sdF H s (i + 1) := by rw [sd, hB1]; simp -implicitDefEqProofs (disch := omega) only [gi_wi, ↓reduceIte, Int.reduceEq, cI_v, cL_v, cV_v, cR_v, wid, wid64, if_pos, if_neg, Nat.add_zero, if_true, if_false, and_self, and_true, true_and, and_false, false_and, or_true, true_or, or_false, false_or]
            rw [if_pos c1, s_drawM _ B (by rw [hs75]; omega) (by rw [hs75]; omega), cI_v, hs75, ← hB1, ito (d + 4) B1 (by rw [frG_hv f1]; exact hH), cI_v]
            by_cases c2 : dr (sdF H s i) / 64 % 100 < itchF H i
            · have cg : cgF H s i = true := by unfold cgF; rw [decide_eq_true c1, decide_eq_true c2]; rfl
              refine ⟨B1, n + 8, ?_, by omega, f1, nB1, gB1⟩
              rw [if_pos c2, cg]; rfl
            · have cg : cgF H s i = false := by unfold cgF; rw [decide_eq_true c1, decide_eq_false c2]; rfl
              refine ⟨B1, n + 7, ?_, by omega, f1, nB1, gB1⟩
              rw [if_neg c2, cg, q_X12_minuteGoes_54]; rfl
          · have sd : sdF H s (i + 1) = sdF H s i := by show (if 0 < itchF H i then _ else _) = _; rw [if_neg c1]
            have cg : cgF H s i = false := by unfold cgF; rw [decide_eq_false c1]; rfl
            refine ⟨B, n + 7, ?_, by omega, f, hn75, by rw [sd]; exact hs75⟩
            rw [if_neg c1, cg, q_X12_minuteGoes_54]; rfl
        obtain ⟨B1, n1, t1, t2, t3, t4, t5⟩ := thr
        obtain ⟨n2', rfl⟩ : ∃ e, n1 = e + 3 := ⟨n1 - 3, by omega⟩
        have re1 : rowEq (nv B1) row := fun k k1 k2 => by rw [t4]; exact rw_lo2 r25 _ (by omega)
        have m0 : nv B1 0 = row 0 := by rw [t4]; exact rw_lo2 r25 _ (by omega)
        have m2 : nv B1 2 = row 2 := by rw [t4]; exact rw_lo2 r25 _ (by omega)
        have h1' : hv B1 = H := by rw [frG_hv t3]; exact hH
        have q1' : gi B1 190 65 = -1 := by rw [frG_q t3]; exact hq
        have gB1 := gok_row re1 m2 g
        have mB1 : mok B1 := by unfold mok; rw [h1', m0]; exact ⟨gB1.1, gB1.2.1, gB1.2.2.1, gB1.2.2.2.1, hm.1, by omega⟩
        obtain ⟨B2, w1, w2⟩ := s_moves d i (cgF H s i) B1 mB1 hx
        rw [h1', m0, m2, q1', moves_row re1 g.1 _ _ _ hx] at w1
        have mb := moves_bd g.2.1 row (row 0) (row 2) (-1) hx (cgF H s i)
        have f2 := frG_trans t3 (frG_scm w2)
        have nB2 : nv B2 = rwF H row s i := by rw [scm_nv w2]; exact t4
        have gB2 : gi B2 190 75 = sdF H s (i + 1) := by rw [w2.1 190 75 (by unfold scrM; omega)]; exact t5
        by_cases cc : cgF H s i = true
        · have h2' : hv B2 = H := by rw [frG_hv f2]; exact hH
          have mB2 : mok B2 := mok_scm w2 mB1
          obtain ⟨B3, y1, y2⟩ := s_coughOf (d + 1) i B2 mB2.1 mB2.2.1 mB2.2.2.2.1 mB2.2.2.2.2.1 mB2.2.2.2.2.2 hx mB2.2.2.1
          rw [scm_nv w2, h2', m0, m2, scm_q w2, q1', cough_row re1 g.1 _ _ _ hx] at y1
          have nB3 : nv B3 = rwF H row s i := by rw [scm_nv y2]; exact nB2
          obtain ⟨B4, x1, x2, x3, x4, x5⟩ := s_isKept (d + 5) i (coughF H row (row 0) (row 2) (-1) i) B3 (by rw [nB3]; exact rw_25 r25 i)
          have n30 : nv B3 0 = row 0 := by rw [nB3]; exact rw_lo2 r25 _ (by omega)
          have rwe : rwF H row s (i + 1) = kpR (rwF H row s i) (row 0) i (coughF H row (row 0) (row 2) (-1) i) := by show (if cgF H s i = true then _ else _) = _; rw [if_pos cc]
          rw [nB3, show rwF H row s i 0 = row 0 from rw_lo2 r25 _ (by omega), ← rwe] at x2
          have f4 : frG A B4 := frG_trans f2 (frG_trans (frG_scm y2) ⟨fun a k q _ _ => x3 a k q, fun a k _ => x4 a k, x5⟩)
          have gB4 : gi B4 190 75 = sdF H s (i + 1) := by rw [x3 190 75 (by omega), y2.1 190 75 (by unfold scrM; omega)]; exact gB2
          rw [cc] at w1 mb tbi t1
          obtain ⟨A', n', u4', r1, r2⟩ := ih (i + 1) n2' (u + movesF H row (row 0) (row 2) (-1) i true) (v + 1) (vI 1) B4 (by omega) f4 (by rw [em1]; exact x2) (by rw [em1]; exact gB4) (by omega) (by omega) (by omega) (by omega) (by omega)
          refine ⟨A', n', u4', ?_, r2.1, r2.2.1, r2.2.2.1, by omega⟩
          rw [bI_t] at t1 w1
          rw [q_X12_minuteGoes_11, if_pos (by omega), s_doesSit _ _ B mB.1, eh, sB, c, bI_t, cI_v, if_neg (by omega)]
          rw [Nat.add_zero (n + 9), t1, q_X12_minuteGoes_55, w1, cI_v, if_neg (by omega), y1, cI_v, x1, cV_v, wid (by omega) (by omega), wid (by omega) (by omega), stp, r1, sm, sm, if_pos c, tbi, bI_t, Int.add_assoc, Int.add_assoc]; rfl
        · have cc' : cgF H s i = false := by simpa using cc
          have rwe : rwF H row s (i + 1) = rwF H row s i := by show (if cgF H s i = true then _ else _) = _; rw [if_neg cc]
          rw [cc'] at w1 mb tbi t1
          obtain ⟨A', n', u4', r1, r2⟩ := ih (i + 1) (n2' + 1) (u + movesF H row (row 0) (row 2) (-1) i false) v (vI 0) B2 (by omega) f2 (by rw [em1, rwe]; exact nB2) (by rw [em1]; exact gB2) (by omega) (by omega) (by omega) (by omega) (by omega)
          refine ⟨A', n', u4', ?_, r2.1, r2.2.1, r2.2.2.1, by omega⟩
          rw [bI_f] at t1 w1
          rw [q_X12_minuteGoes_11, if_pos (by omega), s_doesSit _ _ B mB.1, eh, sB, c, bI_t, cI_v, if_neg (by omega)]
          rw [Nat.add_zero (n + 9), t1, q_X12_minuteGoes_55, w1, cI_v, if_pos rfl, wid (by omega) (by omega), stp, r1, sm, sm, if_pos c, tbi, bI_f, Int.add_assoc, Int.zero_add]; rfl
      · have em : min i (nPe H).toNat = (nPe H).toNat := by omega
        have em1 : min (i + 1) (nPe H).toNat = (nPe H).toNat := by omega
        rw [em] at hn75 hs75
        rw [decide_eq_false (by omega), Bool.false_and] at tbi
        have it0 : itchF H i = 0 := by
          have := sit_exi c
          unfold exi at this
          unfold itchF; rw [if_neg (by omega)]
        obtain ⟨B2, w1, w2⟩ := s_moves d i false B mB hx
        rw [eh, n0, n2, eq, moves_row re g.1 _ _ _ hx] at w1
        have mb := moves_bd g.2.1 row (row 0) (row 2) (-1) hx false
        have f2 := frG_trans f (frG_scm w2)
        obtain ⟨A', n', u4', r1, r2⟩ := ih (i + 1) (n + 5) (u + movesF H row (row 0) (row 2) (-1) i false) v (vI 0) B2 (by omega) f2 (by rw [em1, scm_nv w2]; exact hn75) (by rw [em1, w2.1 190 75 (by unfold scrM; omega)]; exact hs75) (by omega) (by omega) (by omega) (by omega) (by omega)
        refine ⟨A', n', u4', ?_, r2.1, r2.2.1, r2.2.2.1, by omega⟩
        rw [bI_f] at w1
        rw [q_X12_minuteGoes_11, if_pos (by omega), s_doesSit _ _ B mB.1, eh, sB, c, bI_t, cI_v, if_neg (by omega)]
        rw [q_X12_minuteGoes_28, s_itchesOf _ _ B hx, eh, it0, cI_v, if_neg (by omega), q_X12_minuteGoes_54, q_X12_minuteGoes_55, w1, cI_v, if_pos rfl, wid (by omega) (by omega), stp, r1, sm, sm, if_pos c, tbi, bI_f, Int.add_assoc, Int.zero_add]; rfl
    · have c' : sit H row i = false := by simpa using c
      have cp : ¬ (i : Int) < nPe H := fun q => c (by unfold sit; rw [decide_eq_true (by omega)]; rfl)
      have em : min i (nPe H).toNat = (nPe H).toNat := by omega
      have em1 : min (i + 1) (nPe H).toNat = (nPe H).toNat := by omega
      rw [em] at hn75 hs75
      rw [decide_eq_false (by omega), Bool.false_and] at tbi
      obtain ⟨A', n', u4', r1, r2⟩ := ih (i + 1) (n + 8) u v u4 B (by omega) f (by rw [em1]; exact hn75) (by rw [em1]; exact hs75) (by omega) (by omega) (by omega) (by omega) (by omega)
      refine ⟨A', n', u4', ?_, r2.1, r2.2.1, r2.2.2.1, by omega⟩
      rw [q_X12_minuteGoes_11, if_pos (by omega), s_doesSit _ _ B mB.1, eh, sB, c', bI_f, cI_v, if_pos rfl, stp, r1, sm, sm, if_neg c, tbi, bI_f, Int.zero_add, Int.zero_add]; rfl
