/-! calls: asked, points -/
/-- bits of those that do -/
noncomputable def bsF (P : Int → Bool) : Nat → Int → Int → Int
  | 0, _, v => v
  | n + 1, k, v => bsF P n (k + 1) (if P k = true then bor v (bshl 1 k) else v)
theorem bor_bit {v k : Int} (h1 : 0 ≤ v) (h2 : v < ((2 ^ k.toNat : Nat) : Int)) (hk : 0 ≤ k) (hk2 : k ≤ 20) : 0 ≤ bor v (bshl 1 k) ∧ bor v (bshl 1 k) < ((2 ^ (k + 1).toNat : Nat) : Int) := by
  have p1 : 2 ^ k.toNat < 2 ^ 21 := Nat.pow_lt_pow_right (by omega) (by omega)
  rw [bshl_1 hk (by omega), bor_n h1 (by omega) (Int.natCast_nonneg _) (by omega)]
  refine ⟨Int.natCast_nonneg _, ?_⟩
  have e : (k + 1).toNat = k.toNat + 1 := by omega
  rw [e]
  have h3 : v.toNat < 2 ^ (k.toNat + 1) := by
    have : 2 ^ (k.toNat + 1) = 2 ^ k.toNat * 2 := Nat.pow_succ ..
    omega
  have h4 : 2 ^ k.toNat < 2 ^ (k.toNat + 1) := Nat.pow_lt_pow_right (by omega) (by omega)
  have := Nat.or_lt_two_pow h3 h4
  simp only [Int.toNat_natCast]
  omega
theorem bor_0 {v : Int} (h1 : 0 ≤ v) (h2 : v < 2147483648) : bor v 0 = v := by
  rw [bor_n h1 h2 (by omega) (by omega)]
  simp
  omega
theorem pow_up {v k : Int} (h2 : v < ((2 ^ k.toNat : Nat) : Int)) : v < ((2 ^ (k + 1).toNat : Nat) : Int) := by
  have : 2 ^ k.toNat ≤ 2 ^ (k + 1).toNat := Nat.pow_le_pow_right (by omega) (by omega)
  omega
set_option maxRecDepth 100000 in
theorem l_pointsBy (d : Nat) (by0 t : Int) {h s : Nat} {H : Nat → Nat → Int} {row : Nat → Int} (g : gok H row) (hm1 : 0 ≤ row 0) (hm2 : row 0 ≤ 999) (ht1 : 0 ≤ t) (ht2 : t < 2147483648) : ∀ (j n : Nat) (k v m0 a0 q0 : Int) (A : AH), BI A h s H row m0 a0 q0 → 0 ≤ k → k + j = nPo H → 0 ≤ v → v < ((2 ^ k.toNat : Nat) : Int) → 10 * j + 10 ≤ n → ∃ A', go true 0 (runF (d + 6)) (runN (d + 6)) pb_X1_pointsBy n 15 [vR 11 185 0, vR 13 h 0, vR 19 s 0, vI by0, vI t, vI v, vI k] [] A = some (some (vI (bsF (fun p => decide (swF H row (row 0) p (-1) t = by0)) j k v)), A') ∧ sc A A' := by
  intro j
  induction j with
  | zero =>
    intro n k v m0 a0 q0 A b h1 h2 h3 h4 hn
    obtain ⟨n, rfl⟩ : ∃ e, n = e + 10 := ⟨n - 10, by omega⟩
    have hs0 : s ≠ 0 := b.1.2.2.2.1.1
    have hh0 : h ≠ 0 := by have := b.1.2.2.1.1; omega
    refine ⟨A, ?_, sc_refl A⟩
    rw [q_X1_pointsBy_15 _ _ _ _ _ _ _ _ _ _ hh0 hs0, b.1.2.2.1.2.1.2.2.1]
    simp -implicitDefEqProofs (disch := omega) only [bsF, ↓reduceIte, Int.reduceEq, cI_v, cL_v, cV_v, cR_v, wid, wid64, if_pos, if_neg, Nat.add_zero, if_true, if_false, and_self, and_true, true_and, and_false, false_and, or_true, true_or, or_false, false_or]
  | succ j ih =>
    intro n k v m0 a0 q0 A b h1 h2 h3 h4 hn
    obtain ⟨n, rfl⟩ : ∃ e, n = e + 10 := ⟨n - 10, by omega⟩
    have hs0 : s ≠ 0 := b.1.2.2.2.1.1
    have hh0 : h ≠ 0 := by have := b.1.2.2.1.1; omega
    have hc := g.1
    unfold cok at hc
    obtain ⟨A1, e1, b1, f1⟩ := s_suppose (d + 5) (row 0) k (-1) A b
    obtain ⟨A2, e2, t2, q2, f2⟩ := s_tally d A1 b1.1 g (by omega) (by omega) hm1 (by omega) b1.2
    have b2 := BS_frT f2 b1.1
    have e3 := s_swing (d + 4) t A2 b2 g t2 ht1 ht2
    have fc := sc_trans (frL_sc f1) (frT_sc f2)
    have p1 : 2 ^ k.toNat < 2 ^ 21 := Nat.pow_lt_pow_right (by omega) (by omega)
    by_cases c : swF H row (row 0) k (-1) t = by0
    · have bb := bor_bit h3 h4 h1 (by omega)
      obtain ⟨A', u1, u2⟩ := ih (n + 8) (k + 1) (bor v (bshl 1 k)) (row 0) k (-1) A2 ⟨b2, q2⟩ (by omega) (by omega) bb.1 bb.2 (by omega)
      refine ⟨A', ?_, sc_trans fc u2⟩
      rw [q_X1_pointsBy_15 _ _ _ _ _ _ _ _ _ _ hh0 hs0, b.1.2.2.1.2.1.2.2.1, b.1.2.2.2.1.2.1.1]
      simp -implicitDefEqProofs (disch := omega) only [e1, e2, e3, ↓reduceIte, Int.reduceEq, cI_v, cL_v, cV_v, cR_v, wid, wid64, if_pos, if_neg, Nat.add_zero, if_true, if_false, and_self, and_true, true_and, and_false, false_and, or_true, true_or, or_false, false_or]
      rw [q_X1_pointsBy_68 _ _ _ _ _ _ _ _ _ _ _ _ hh0 hs0]
      simp -implicitDefEqProofs (disch := omega) only [↓reduceIte, Int.reduceEq, cI_v, cL_v, cV_v, cR_v, wid, wid64, if_pos, if_neg, Nat.add_zero, if_true, if_false, and_self, and_true, true_and, and_false, false_and, or_true, true_or, or_false, false_or]
      rw [u1, bsF, if_pos (decide_eq_true c)]
    · obtain ⟨A', u1, u2⟩ := ih (n + 7) (k + 1) v (row 0) k (-1) A2 ⟨b2, q2⟩ (by omega) (by omega) h3 (pow_up h4) (by omega)
      refine ⟨A', ?_, sc_trans fc u2⟩
      rw [q_X1_pointsBy_15 _ _ _ _ _ _ _ _ _ _ hh0 hs0, b.1.2.2.1.2.1.2.2.1, b.1.2.2.2.1.2.1.1]
      simp -implicitDefEqProofs (disch := omega) only [e1, e2, e3, ↓reduceIte, Int.reduceEq, cI_v, cL_v, cV_v, cR_v, wid, wid64, if_pos, if_neg, Nat.add_zero, if_true, if_false, and_self, and_true, true_and, and_false, false_and, or_true, true_or, or_false, false_or]
      rw [q_X1_pointsBy_68 _ _ _ _ _ _ _ _ _ _ _ _ hh0 hs0, bor_0 h3 (by omega)]
      simp -implicitDefEqProofs (disch := omega) only [↓reduceIte, Int.reduceEq, cI_v, cL_v, cV_v, cR_v, wid, wid64, if_pos, if_neg, Nat.add_zero, if_true, if_false, and_self, and_true, true_and, and_false, false_and, or_true, true_or, or_false, false_or]
      rw [u1, bsF, if_neg (by simpa using c)]
theorem tb_big {t x : Int} (h1 : 0 ≤ t) (h2 : t < 256) (hx : 8 ≤ x) : tb t x = false := by
  unfold tb
  exact Nat.testBit_lt_two_pow (Nat.lt_of_lt_of_le (show t.toNat < 2 ^ 8 by omega) (Nat.pow_le_pow_right (by omega) (by omega)))
set_option maxRecDepth 100000 in
theorem l_askedS (d : Nat) (by0 t a0 p v : Int) (ht1 : 0 ≤ t) (ht2 : t < 256) : ∀ (j n : Nat) (k w : Int) (A : AH), mok A → 0 ≤ k → k + j = 16 → -999 * k ≤ w → w ≤ 999 * k → 10 * j + 20 ≤ n → ∃ A' n', go true 0 (runF (d + 6)) (runN (d + 6)) pb_X12_asked n 56 [vR 21 190 0, vI by0, vI t, vI a0, vI v, vI p, vI w, vI k] [] A = (if w + sm (fun x => if sit (hv A) (nv A) x = true then movesF (hv A) (nv A) (nv A 0) (nv A 2) (gi A 190 65) x (tb t x) else 0) j k = by0 then go true 0 (runF (d + 6)) (runN (d + 6)) pb_X12_asked n' 128 [vR 21 190 0, vI by0, vI t, vI a0, vI (bor v (bshl 1 p)), vI p, vI (w + sm (fun x => if sit (hv A) (nv A) x = true then movesF (hv A) (nv A) (nv A 0) (nv A 2) (gi A 190 65) x (tb t x) else 0) j k), vI 16] [] A' else go true 0 (runF (d + 6)) (runN (d + 6)) pb_X12_asked n' 128 [vR 21 190 0, vI by0, vI t, vI a0, vI v, vI p, vI (w + sm (fun x => if sit (hv A) (nv A) x = true then movesF (hv A) (nv A) (nv A 0) (nv A 2) (gi A 190 65) x (tb t x) else 0) j k), vI 16] [] A') ∧ sc A A' ∧ n - 10 * j - 5 ≤ n' := by
  intro j
  induction j with
  | zero =>
    intro n k w A hm h1 h2 h3 h4 hn
    obtain ⟨n, rfl⟩ : ∃ e, n = e + 2 := ⟨n - 2, by omega⟩
    refine ⟨A, n, ?_, sc_refl A, by omega⟩
    have : k = 16 := by omega
    subst this
    rw [q_X12_asked_56]
    simp -implicitDefEqProofs (disch := omega) only [sm, Int.add_zero, ↓reduceIte, Int.reduceEq, cI_v, cL_v, cV_v, cR_v, wid, wid64, if_pos, if_neg, Nat.add_zero, if_true, if_false, and_self, and_true, true_and, and_false, false_and, or_true, true_or, or_false, false_or]
  | succ j ih =>
    intro n k w A hm h1 h2 h3 h4 hn
    obtain ⟨n, rfl⟩ : ∃ e, n = e + 10 := ⟨n - 10, by omega⟩
    by_cases c : sit (hv A) (nv A) k = true
    · have hx := sit_num hm.1 c
      have hb := moves_bd hm.2.1 (nv A) (nv A 0) (nv A 2) (gi A 190 65) hx (tb t k)
      obtain ⟨A1, e1, f1'⟩ := s_moves d k (tb t k) A hm hx
      have f1 := scm_sc f1'
      have hm1 := mok_sc f1 hm
      have E : ∀ n2, go true 0 (runF (d + 6)) (runN (d + 6)) pb_X12_asked (n + 10) 56 [vR 21 190 0, vI by0, vI t, vI a0, vI v, vI p, vI w, vI k] [] A = go true 0 (runF (d + 6)) (runN (d + 6)) pb_X12_asked n2 56 [vR 21 190 0, vI by0, vI t, vI a0, vI v, vI p, vI (w + movesF (hv A) (nv A) (nv A 0) (nv A 2) (gi A 190 65) k (tb t k)), vI (k + 1)] [] A1 ∨ n2 ≠ n + 6 ∧ n2 ≠ n + 7 ∨ True := fun _ => Or.inr (Or.inr trivial)
      have step : ∃ n2, n + 6 ≤ n2 ∧ go true 0 (runF (d + 6)) (runN (d + 6)) pb_X12_asked (n + 10) 56 [vR 21 190 0, vI by0, vI t, vI a0, vI v, vI p, vI w, vI k] [] A = go true 0 (runF (d + 6)) (runN (d + 6)) pb_X12_asked n2 56 [vR 21 190 0, vI by0, vI t, vI a0, vI v, vI p, vI (w + movesF (hv A) (nv A) (nv A 0) (nv A 2) (gi A 190 65) k (tb t k)), vI (k + 1)] [] A1 := by
        rw [q_X12_asked_56, if_pos (by omega), s_doesSit _ k A hm.1, c, bI_t, cI_v, if_neg (by omega), s_isMute, cI_v, band_tb ht1 (by omega) (by omega) (by omega)]
        by_cases cm : 10 ≤ k
        · have tf := tb_big ht1 ht2 (x := k) (by omega)
          rw [tf] at e1 hb
          rw [bI_f] at e1
          refine ⟨n + 6, by omega, ?_⟩
          rw [decide_eq_true cm, bI_t, if_neg (by omega), q_X12_asked_100, q_X12_asked_101, e1, cI_v, q_X12_asked_107, wid (by omega) (by omega), wid (by omega) (by omega), tf]
        · rw [decide_eq_false cm, bI_f, if_pos rfl]
          by_cases ct : tb t k = true
          · rw [ct, bI_t] at e1
            rw [ct] at hb
            refine ⟨n + 7, by omega, ?_⟩
            rw [ct, bI_t, if_pos rfl, q_X12_asked_101, e1, cI_v, q_X12_asked_107, wid (by omega) (by omega), wid (by omega) (by omega)]
          · have ct' : tb t k = false := by simpa using ct
            rw [ct', bI_f] at e1
            rw [ct'] at hb
            refine ⟨n + 6, by omega, ?_⟩
            rw [ct', bI_f, if_neg (by omega), q_X12_asked_100, q_X12_asked_101, e1, cI_v, q_X12_asked_107, wid (by omega) (by omega), wid (by omega) (by omega)]
      obtain ⟨n2, hn2, st⟩ := step
      obtain ⟨A', n', u1, u2, u3⟩ := ih n2 (k + 1) (w + movesF (hv A) (nv A) (nv A 0) (nv A 2) (gi A 190 65) k (tb t k)) A1 hm1 (by omega) (by omega) (by omega) (by omega) (by omega)
      rw [sc_hv f1, sc_nv f1, sc_q f1] at u1
      refine ⟨A', n', ?_, sc_trans f1 u2, by omega⟩
      rw [st, u1, sm, if_pos c, ← Int.add_assoc]
    · have c' : sit (hv A) (nv A) k = false := by simpa using c
      obtain ⟨A', n', u1, u2, u3⟩ := ih (n + 8) (k + 1) w A hm (by omega) (by omega) (by omega) (by omega) (by omega)
      refine ⟨A', n', ?_, u2, by omega⟩
      rw [q_X12_asked_56, if_pos (by omega), s_doesSit _ k A hm.1, c', bI_f, cI_v, if_pos rfl, q_X12_asked_107, wid (by omega) (by omega), sm, if_neg c, Int.zero_add]
      exact u1
set_option maxRecDepth 100000 in
theorem l_askedM (d : Nat) (by0 t : Int) (A : AH) (hm : mok A) (ht1 : 0 ≤ t) (ht2 : t < 256) : ∀ (j n : Nat) (k v : Int) (u6 u7 : AV) (B : AH), (∃ z, sc (wi A 237 2 z) B) → 0 ≤ k → k + j = nPo (hv A) → 0 ≤ v → v < ((2 ^ k.toNat : Nat) : Int) → 300 * j + 10 ≤ n → ∃ A', go true 0 (runF (d + 6)) (runN (d + 6)) pb_X12_asked n 33 [vR 21 190 0, vI by0, vI t, vI (nv A 2), vI v, vI k, u6, u7] [] B = some (some (vI (bsF (fun p => decide (swF (hv A) (nv A) (nv A 0) p (gi A 190 65) t = by0)) j k v)), A') ∧ sc A A' := by
  intro j
  have hc := hm.1
  unfold cok at hc
  induction j with
  | zero =>
    intro n k v u6 u7 B f h1 h2 h3 h4 hn
    obtain ⟨n, rfl⟩ : ∃ e, n = e + 10 := ⟨n - 10, by omega⟩
    obtain ⟨z, f⟩ := f
    refine ⟨wi B 237 2 (nv A 2), ?_, sc_back f⟩
    rw [q_X12_asked_33, s_pointMany, cI_v, sc_hv f, hv_wi7, if_neg (by omega)]; rfl
  | succ j ih =>
    intro n k v u6 u7 B f h1 h2 h3 h4 hn
    obtain ⟨n, rfl⟩ : ∃ e, n = e + 3 := ⟨n - 3, by omega⟩
    obtain ⟨z, f⟩ := f
    have f1 : sc (wi A 237 2 k) (wi B 237 2 k) := sc_over f k
    have hB : mok (wi B 237 2 k) := mok_sc f1 (mok_wi2 hm (by omega) (by omega))
    obtain ⟨A1, n1, e1, e2, e3⟩ := l_askedS d by0 t (nv A 2) k v ht1 ht2 16 (n + 1) 0 0 (wi B 237 2 k) hB (by omega) (by omega) (by omega) (by omega) (by omega)
    have q0 : nv (wi B 237 2 k) 0 = nv A 0 := by rw [sc_nv f1, nv_wi7, if_neg (by omega)]
    have q2 : nv (wi B 237 2 k) 2 = k := by rw [nv_wi7, if_pos rfl]
    have q5 : gi (wi B 237 2 k) 190 65 = gi A 190 65 := by rw [sc_q f1]; simp -implicitDefEqProofs (disch := omega) only [gi_wi, ↓reduceIte, Int.reduceEq, cI_v, cL_v, cV_v, cR_v, wid, wid64, if_pos, if_neg, Nat.add_zero, if_true, if_false, and_self, and_true, true_and, and_false, false_and, or_true, true_or, or_false, false_or]
    have qh : hv (wi B 237 2 k) = hv A := by rw [sc_hv f1, hv_wi7]
    have qs : (0 + sm (fun x => if sit (hv (wi B 237 2 k)) (nv (wi B 237 2 k)) x = true then movesF (hv (wi B 237 2 k)) (nv (wi B 237 2 k)) (nv (wi B 237 2 k) 0) (nv (wi B 237 2 k) 2) (gi (wi B 237 2 k) 190 65) x (tb t x) else 0) 16 0) = swF (hv A) (nv A) (nv A 0) k (gi A 190 65) t := by
      rw [Int.zero_add, q0, q2, q5, qh, sc_nv f1]
      exact sw_row (row_wi7 A 2 k (by omega)) hm.1 _ _ _ _
    rw [qs] at e1
    have fz := sc_trans f1 e2
    by_cases c : swF (hv A) (nv A) (nv A 0) k (gi A 190 65) t = by0
    · have bb := bor_bit h3 h4 h1 (by omega)
      obtain ⟨n2, rfl⟩ : ∃ e, n1 = e + 1 := ⟨n1 - 1, by omega⟩
      obtain ⟨A', u1, u2⟩ := ih n2 (k + 1) (bor v (bshl 1 k)) (vI (swF (hv A) (nv A) (nv A 0) k (gi A 190 65) t)) (vI 16) A1 ⟨k, fz⟩ (by omega) (by omega) bb.1 bb.2 (by omega)
      refine ⟨A', ?_, u2⟩
      rw [q_X12_asked_33, s_pointMany, cI_v, sc_hv f, hv_wi7, if_pos (by omega), q_X12_asked_50, Nat.add_zero (n + 1), e1, if_pos c, q_X12_asked_128, Nat.add_zero n2, wid (by omega) (by omega), u1, bsF, if_pos (decide_eq_true c)]
    · obtain ⟨n2, rfl⟩ : ∃ e, n1 = e + 1 := ⟨n1 - 1, by omega⟩
      obtain ⟨A', u1, u2⟩ := ih n2 (k + 1) v (vI (swF (hv A) (nv A) (nv A 0) k (gi A 190 65) t)) (vI 16) A1 ⟨k, fz⟩ (by omega) (by omega) h3 (pow_up h4) (by omega)
      refine ⟨A', ?_, u2⟩
      rw [q_X12_asked_33, s_pointMany, cI_v, sc_hv f, hv_wi7, if_pos (by omega), q_X12_asked_50, Nat.add_zero (n + 1), e1, if_neg c, q_X12_asked_128, Nat.add_zero n2, wid (by omega) (by omega), u1, bsF, if_neg (by simpa using c)]
theorem wi_self (A : AH) (a k : Nat) : sc (wi A a k (gi A a k)) A := ⟨fun b j h => by
  rw [gi_wi]
  by_cases e : b = a ∧ j = k
  · rw [if_pos e, e.1, e.2]
  · rw [if_neg e], fun _ _ _ => rfl, rfl⟩
theorem c_asked (d n : Nat) (x y : Int) (A : AH) (r : REL n A) : CP (d + 8) n 127 248 [vI x, vI y] A := by
  have g := REL_g r
  have b6 := r.2.2.1
  have b7 := r.2.1.1
  have hm := r.2.1.2.2.2.2.1
  have hc := g.1
  unfold cok at hc
  have hh0 : gr A 40 5 ≠ 0 := by have := b6.1; omega
  have p8 : 2 ^ (nPe (hv A)).toNat ≤ 2 ^ 8 := Nat.pow_le_pow_right (by omega) (by omega)
  have p0 : 0 < 2 ^ (nPe (hv A)).toNat := Nat.two_pow_pos _
  have esh : bshl 1 (nPe (hv A)) = ((2 ^ (nPe (hv A)).toNat : Nat) : Int) := bshl_1 (by omega) (by omega)
  by_cases c : 0 ≤ y ∧ y < ((2 ^ (nPe (hv A)).toNat : Nat) : Int)
  · obtain ⟨A1, e1, e2, e3⟩ := s_look (d + 4) (gr A 40 5) 68 A b6 b7 (by omega)
    obtain ⟨A2, u1, u2⟩ := l_pointsBy d x y g hm.1 hm.2 c.1 (by omega) (nPo (hv A)).toNat (fu + 199) 0 0 _ _ _ A1 e2 (by omega) (by omega) (by omega) (by decide) (by have := fu_ge; omega)
    refine CP_q r (vI (bsF (fun p => decide (swF (hv A) (nv A) (nv A 0) p (-1) y = x)) (nPo (hv A)).toNat 0 0)) ⟨A2, ?_, sc_trans (frL_sc e3) u2⟩ (fun A3 f => ?_)
    · rw [r_X11_asked, q_X11_asked_0, b6.2.1.2.1, esh, if_neg (by omega), if_neg hh0, if_pos c.2, r_X1_pointsBy, q_X1_pointsBy_0 _ _ _ _ _ _ _ _ hh0 (by omega), e1, cV_v, Nat.add_zero, u1, cI_v]
    · have m3 := mok_sc f (REL_mok r)
      obtain ⟨A4, w1, w2⟩ := l_askedM (d + 1) x y A3 m3 c.1 (by omega) (nPo (hv A3)).toNat (fu + 198) 0 0 vU vU A3 ⟨_, wi_self A3 237 2⟩ (by omega) (by rw [sc_hv f]; omega) (by omega) (by decide) (by rw [sc_hv f]; have := fu_ge; omega)
      rw [sc_hv f, sc_nv f, sc_q f, r.2.2.2.1] at w1
      refine ⟨A4, ?_, w2⟩
      rw [r_X12_asked, q_X12_asked_0, s_peopleMany, cI_v, sc_hv f, esh, wid (by omega) (by omega), s_isIn, cI_v, decide_eq_true (by omega), bI_t, if_neg (by omega), Nat.add_zero, e_nv, sc_nv f]
      exact w1
  · refine CP_q r (vI (-1)) ⟨A, ?_, sc_refl A⟩ (fun A1 f => ⟨A1, ?_, sc_refl A1⟩)
    · rw [r_X11_asked, q_X11_asked_0, b6.2.1.2.1, esh]
      by_cases c1 : y < 0
      · rw [if_pos c1]
      · rw [if_neg c1, if_neg hh0, if_neg (by omega)]
    · rw [r_X12_asked, q_X12_asked_0, s_peopleMany, cI_v, sc_hv f, esh, wid (by omega) (by omega), s_isIn, cI_v, decide_eq_false (by omega), bI_f, if_pos rfl]
