/-! calls: loudest -/
def ldF (f : Int → Int) : Nat → Int → Int → Int → Int
  | 0, _, b, _ => b
  | n + 1, k, b, v => if v < f k then ldF f n (k + 1) k (f k) else ldF f n (k + 1) b v
theorem sm_one {f g : Int → Int} (t : Int) (h : ∀ j, j ≠ t → f j = g j) : ∀ (n : Nat) (k : Int), sm f n k - sm g n k = if k ≤ t ∧ t < k + n then f t - g t else 0
  | 0, k => by unfold sm; rw [if_neg (by omega)]; rfl
  | n + 1, k => by
    have ih := sm_one t h n (k + 1)
    unfold sm
    by_cases c : k = t
    · subst c
      rw [if_neg (by omega)] at ih
      rw [if_pos (by omega)]; omega
    · rw [h k c]
      by_cases c2 : k + 1 ≤ t ∧ t < k + 1 + n
      · rw [if_pos c2] at ih
        rw [if_pos (by omega)]; omega
      · rw [if_neg c2] at ih
        rw [if_neg (by omega)]; omega
theorem mn_other {H : Nat → Nat → Int} {row : Nat → Int} {m a k : Int} (hk : 0 ≤ k) (h : H 229 (18 + 3 * k).toNat ≠ m) : mnF H row m a k = mnF H row m a (-1) := by
  have en : ∀ s, noiseF H k s m = noiseF H (-1) s m := fun s => by
    unfold noiseF
    refine sm_congr _ _ (fun j h1 h2 => ?_)
    unfold loudF
    by_cases c : j = k
    · subst c
      rw [if_pos (Or.inl rfl), if_pos (Or.inr h)]
    · by_cases c2 : H 229 (18 + 3 * j).toNat ≠ m
      · rw [if_pos (Or.inr c2), if_pos (Or.inr c2)]
      · have c3 : ¬ (j = k ∨ H 229 (18 + 3 * j).toNat ≠ m) := by omega
        have c4 : ¬ (j = -1 ∨ H 229 (18 + 3 * j).toNat ≠ m) := by omega
        rw [if_neg c3, if_neg c4]
  have ef : ∀ x, fctF H row m a k x = fctF H row m a (-1) x := fun x => by
    funext i; unfold fctF; rw [en]
  unfold mnF mmF movesF weightF coughF toldF
  simp only [ef]
def vlF (H : Nat → Nat → Int) (row : Nat → Int) (n : Nat) (k : Int) : Int := if mnS H row (row 0) (row 2) k n - mnS H row (row 0) (row 2) (-1) n < 0 then -(mnS H row (row 0) (row 2) k n - mnS H row (row 0) (row 2) (-1) n) else mnS H row (row 0) (row 2) k n - mnS H row (row 0) (row 2) (-1) n
theorem vl_eq {H : Nat → Nat → Int} {row : Nat → Int} {n : Nat} {k : Int} (hk : 0 ≤ k) : mnS H row (row 0) (row 2) k n - mnS H row (row 0) (row 2) (-1) n = if row 0 ≤ H 229 (18 + 3 * k).toNat ∧ H 229 (18 + 3 * k).toNat < row 0 + n then mnF H row (H 229 (18 + 3 * k).toNat) (row 2) k - mnF H row (H 229 (18 + 3 * k).toNat) (row 2) (-1) else 0 := by
  unfold mnS
  exact sm_one (f := fun j => mnF H row j (row 2) k) (g := fun j => mnF H row j (row 2) (-1)) (H 229 (18 + 3 * k).toNat) (fun j hj => mn_other hk (by omega)) n (row 0)
theorem vl_nn {H : Nat → Nat → Int} {row : Nat → Int} {n : Nat} {k : Int} : 0 ≤ vlF H row n k := by
  unfold vlF; split <;> omega
set_option maxRecDepth 100000 in
theorem l_ldC (d : Nat) (N : Int) {h s : Nat} {H : Nat → Nat → Int} {row : Nat → Int} (g : gok H row) (hm1 : 0 ≤ row 0) (hm2 : row 0 + N ≤ 999) (hN : 0 ≤ N) : ∀ (j n : Nat) (k b v m0 a0 q0 : Int) (u7 u8 u9 : AV) (A : AH), BI A h s H row m0 a0 q0 → 0 ≤ k → k + j = nNo H → 0 ≤ v → v ≤ 10000000 → 10 * j + 10 ≤ n → ∃ A', go true 0 (runF (d + 6)) (runN (d + 6)) pb_X1_loudestOf n 18 [vR 11 185 0, vR 13 h 0, vR 19 s 0, vI N, vI b, vI v, vI k, u7, u8, u9] [] A = some (some (vI (ldF (vlF H row N.toNat) j k b v)), A') ∧ sc A A' := by
  have hc := g.1
  unfold cok at hc
  have ha := g.2.2.2.1.2.2
  intro j
  induction j with
  | zero =>
    intro n k b v m0 a0 q0 u7 u8 u9 A bi h1 h2 h3 h4 hn
    obtain ⟨n, rfl⟩ : ∃ e, n = e + 10 := ⟨n - 10, by omega⟩
    have hs0 : s ≠ 0 := bi.1.2.2.2.1.1
    have hh0 : h ≠ 0 := by have := bi.1.2.2.1.1; omega
    refine ⟨A, ?_, sc_refl A⟩
    rw [q_X1_loudestOf_18 _ _ _ _ _ _ _ _ _ _ _ _ _ hh0 hs0, bi.1.2.2.1.2.1.2.2.2.1, if_neg (by omega), ldF]
  | succ j ih =>
    intro n k b v m0 a0 q0 u7 u8 u9 A bi h1 h2 h3 h4 hn
    obtain ⟨n, rfl⟩ : ∃ e, n = e + 10 := ⟨n - 10, by omega⟩
    have hs0 : s ≠ 0 := bi.1.2.2.2.1.1
    have hh0 : h ≠ 0 := by have := bi.1.2.2.1.1; omega
    have eS := bi.1.2.2.1.2.2.2.2.2.2.2.1 (3 * k) (by omega) (by omega)
    have bS := g.2.1.2.2.2.2.1 (18 + 3 * k).toNat (by omega) (by omega)
    have ev := vl_eq (H := H) (row := row) (n := N.toNat) h1
    obtain ⟨mk, hmk⟩ : ∃ mk, mk = H 229 (18 + 3 * k).toNat := ⟨_, rfl⟩
    rw [← hmk] at eS bS ev
    have E : ∀ x, go true 0 (runF (d + 6)) (runN (d + 6)) pb_X1_loudestOf (n + 10) 18 [vR 11 185 0, vR 13 h 0, vR 19 s 0, vI N, vI b, vI v, vI k, u7, u8, u9] [] A = x ↔ (if mk < row 0 then go true 0 (runF (d + 6)) (runN (d + 6)) pb_X1_loudestOf (n + 9) 150 [vR 11 185 0, vR 13 h 0, vR 19 s 0, vI N, vI b, vI v, vI k, vI mk, u8, u9] [] A else if mk < row 0 + N then cV (runF (d + 6) 2 [vR 10 180 0, vI mk, vI (row 2), vI (-1)] A) fun A1 => go true 0 (runF (d + 6)) (runN (d + 6)) pb_X1_loudestOf (n + 9) 72 [vR 11 185 0, vR 13 h 0, vR 19 s 0, vI N, vI b, vI v, vI k, vI mk, u8, u9] [] A1 else go true 0 (runF (d + 6)) (runN (d + 6)) pb_X1_loudestOf (n + 9) 150 [vR 11 185 0, vR 13 h 0, vR 19 s 0, vI N, vI b, vI v, vI k, vI mk, u8, u9] [] A) = x := by
      intro x
      rw [q_X1_loudestOf_18 _ _ _ _ _ _ _ _ _ _ _ _ _ hh0 hs0, bi.1.2.2.1.2.1.2.2.2.1, if_pos (by omega), wid (x := 3 * k) (by omega) (by omega), if_pos (by omega), eS, bi.1.2.2.2.1.2.1.1, bi.1.2.2.2.1.2.1.2.2, wid (x := row 0 + N) (by omega) (by omega)]
    by_cases c : row 0 ≤ mk ∧ mk < row 0 + N
    · obtain ⟨A1, e1, b1, f1⟩ := s_suppose (d + 5) mk (row 2) (-1) A bi
      obtain ⟨A2, e2, t2, q2, f2⟩ := s_tally d A1 b1.1 g ha.1 ha.2 (by omega) (by omega) b1.2
      have b2 := BS_frT f2 b1.1
      have e3 := s_meanSwing (d + 4) A2 b2 g t2
      obtain ⟨A3, e4, b3, f3⟩ := s_suppose (d + 5) mk (row 2) k A2 ⟨b2, q2⟩
      obtain ⟨A4, e5, t4, q4, f4⟩ := s_tally d A3 b3.1 g ha.1 ha.2 (by omega) (by omega) b3.2
      have b4 := BS_frT f4 b3.1
      have e6 := s_meanSwing (d + 4) A4 b4 g t4
      have bd1 := mn_bd (row := row) g.1 g.2.1 mk (row 2) (-1)
      have bd2 := mn_bd (row := row) g.1 g.2.1 mk (row 2) k
      have fc := sc_trans (sc_trans (frL_sc f1) (frT_sc f2)) (sc_trans (frL_sc f3) (frT_sc f4))
      rw [if_pos (by omega)] at ev
      have eV : (if mnF H row mk (row 2) (-1) - mnF H row mk (row 2) k < 0 then -(mnF H row mk (row 2) (-1) - mnF H row mk (row 2) k) else mnF H row mk (row 2) (-1) - mnF H row mk (row 2) k) = vlF H row N.toNat k := by
        unfold vlF
        rw [ev]
        split <;> split <;> omega
      have vb : vlF H row N.toNat k ≤ 10000000 := by rw [← eV]; split <;> omega
      have vn := vl_nn (H := H) (row := row) (n := N.toNat) (k := k)
      have core : go true 0 (runF (d + 6)) (runN (d + 6)) pb_X1_loudestOf (n + 10) 18 [vR 11 185 0, vR 13 h 0, vR 19 s 0, vI N, vI b, vI v, vI k, u7, u8, u9] [] A = go true 0 (runF (d + 6)) (runN (d + 6)) pb_X1_loudestOf (n + 8) 125 [vR 11 185 0, vR 13 h 0, vR 19 s 0, vI N, vI b, vI v, vI k, vI mk, vI (mnF H row mk (row 2) (-1)), vI (vlF H row N.toNat k)] [] A4 := by
        rw [E, if_neg (by omega), if_pos c.2, e1, cV_v, q_X1_loudestOf_72 _ _ _ _ _ _ _ _ _ _ _ _ _ hh0 hs0, e2, cV_v, e3, cI_v, b2.2.2.2.1.2.1.2.2, e4, cV_v, e5, cV_v, e6, cI_v, wid (by omega) (by omega), s_abs _ _ _ (by omega) (by omega), cI_v, eV]
      by_cases c2 : v < vlF H row N.toNat k
      · obtain ⟨A', u1, u2⟩ := ih (n + 5) (k + 1) k (vlF H row N.toNat k) mk (row 2) k (vI mk) (vI (mnF H row mk (row 2) (-1))) (vI (vlF H row N.toNat k)) A4 ⟨b4, q4⟩ (by omega) (by omega) (by omega) (by omega) (by omega)
        refine ⟨A', ?_, sc_trans fc u2⟩
        rw [core, q_X1_loudestOf_125 _ _ _ _ _ _ _ _ _ _ _ _ _ hh0 hs0, if_pos c2, q_X1_loudestOf_139 _ _ _ _ _ _ _ _ _ _ _ _ _ _ hh0 hs0, s_maxI, cI_v, Int.max_eq_right (by omega), q_X1_loudestOf_150 _ _ _ _ _ _ _ _ _ _ _ _ _ hh0 hs0, wid (by omega) (by omega), ldF, if_pos c2]
        exact u1
      · obtain ⟨A', u1, u2⟩ := ih (n + 4) (k + 1) b v mk (row 2) k (vI mk) (vI (mnF H row mk (row 2) (-1))) (vI (vlF H row N.toNat k)) A4 ⟨b4, q4⟩ (by omega) (by omega) (by omega) (by omega) (by omega)
        refine ⟨A', ?_, sc_trans fc u2⟩
        rw [core, q_X1_loudestOf_125 _ _ _ _ _ _ _ _ _ _ _ _ _ hh0 hs0, if_neg c2, q_X1_loudestOf_139 _ _ _ _ _ _ _ _ _ _ _ _ _ _ hh0 hs0, s_maxI, cI_v, Int.max_eq_left (by omega), q_X1_loudestOf_150 _ _ _ _ _ _ _ _ _ _ _ _ _ hh0 hs0, wid (by omega) (by omega), ldF, if_neg c2]
        exact u1
    · rw [if_neg (by omega)] at ev
      have c2 : ¬ v < vlF H row N.toNat k := by
        unfold vlF; rw [ev]; simp; omega
      obtain ⟨A', u1, u2⟩ := ih (n + 8) (k + 1) b v m0 a0 q0 (vI mk) u8 u9 A bi (by omega) (by omega) h3 h4 (by omega)
      refine ⟨A', ?_, u2⟩
      rw [E, ldF, if_neg c2]
      by_cases c3 : mk < row 0
      · rw [if_pos c3, q_X1_loudestOf_150 _ _ _ _ _ _ _ _ _ _ _ _ _ hh0 hs0, wid (by omega) (by omega)]
        exact u1
      · rw [if_neg c3, if_neg (by omega), q_X1_loudestOf_150 _ _ _ _ _ _ _ _ _ _ _ _ _ hh0 hs0, wid (by omega) (by omega)]
        exact u1
theorem mok_wiq {A : AH} (m : mok A) (v : Int) : mok (wi A 190 65 v) ∧ hv (wi A 190 65 v) = hv A ∧ nv (wi A 190 65 v) = nv A := by
  have e1 : hv (wi A 190 65 v) = hv A := by
    funext a j
    unfold hv
    rw [gi_wi]
    by_cases e : a = 190 ∧ j = 65
    · rw [if_pos e, if_neg (by omega), if_neg (by omega)]
    · rw [if_neg e]
  have e2 : nv (wi A 190 65 v) = nv A := by
    funext j
    unfold nv
    rw [gi_wi, if_neg (by omega)]
  refine ⟨?_, e1, e2⟩
  unfold mok
  rw [e1, e2]
  exact m
set_option maxRecDepth 100000 in
theorem l_ldM (d : Nat) (N Y : Int) (A : AH) (hm : mok A) (hm2 : nv A 0 + N ≤ 999) (hN : 0 ≤ N) (hs1 : -100000 ≤ nv A 1) (hs2 : nv A 1 ≤ 100000) (hq : gi A 190 65 = -1) (hY : Y = 100 * nv A 1 + mnS (hv A) (nv A) (nv A 0) (nv A 2) (-1) N.toNat) : ∀ (j n : Nat) (k b v : Int) (u8 u9 : AV) (B : AH), (∃ z, sc (wi A 190 65 z) B) → 0 ≤ k → k + j = nNo (hv A) → -1 ≤ v → v ≤ 100000000000 → 10 * j + 10 ≤ n → ∃ A', go true 0 (runF (d + 8)) (runN (d + 8)) pb_X12_loudest n 31 [vR 21 190 0, vI N, vL Y, vS, vI b, vL v, vS, vI k, u8, u9] [] B = some (some (vI (ldF (vlF (hv A) (nv A) N.toNat) j k b v)), A') ∧ sc A A' := by
  have hc := hm.1
  have hm0 := hm.2.2.2.2.1
  unfold cok at hc
  intro j
  induction j with
  | zero =>
    intro n k b v u8 u9 B f h1 h2 h3 h4 hn
    obtain ⟨n, rfl⟩ : ∃ e, n = e + 10 := ⟨n - 10, by omega⟩
    obtain ⟨z, f⟩ := f
    refine ⟨wi B 190 65 (-1), ?_, by rw [← hq]; exact sc_back f⟩
    rw [q_X12_loudest_31, e_nNo, sc_hv f, (mok_wiq hm z).2.1, if_neg (by omega), ldF]
  | succ j ih =>
    intro n k b v u8 u9 B f h1 h2 h3 h4 hn
    obtain ⟨n, rfl⟩ : ∃ e, n = e + 10 := ⟨n - 10, by omega⟩
    obtain ⟨z, f⟩ := f
    have f1 : sc (wi A 190 65 k) (wi B 190 65 k) := sc_over f k
    have mq := mok_wiq hm k
    have hB : mok (wi B 190 65 k) := mok_sc f1 mq.1
    have qh : hv (wi B 190 65 k) = hv A := by rw [sc_hv f1]; exact mq.2.1
    have qn : nv (wi B 190 65 k) = nv A := by rw [sc_nv f1]; exact mq.2.2
    have qq : gi (wi B 190 65 k) 190 65 = k := by simp -implicitDefEqProofs (disch := omega) only [gi_wi, ↓reduceIte, Int.reduceEq, cI_v, cL_v, cV_v, cR_v, wid, wid64, if_pos, if_neg, Nat.add_zero, if_true, if_false, and_self, and_true, true_and, and_false, false_and, or_true, true_or, or_false, false_or]
    obtain ⟨B1, e1, g1⟩ := s_meanOfM d N (wi B 190 65 k) hB (by rw [qn]; omega) hN (by rw [qn]; omega) (by rw [qn]; omega)
    rw [qh, qn, qq] at e1
    have bd1 := mnS_bd (row := nv A) hm.1 hm.2.1 (nv A 0) (nv A 2) k N.toNat
    have bd2 := mnS_bd (row := nv A) hm.1 hm.2.1 (nv A 0) (nv A 2) (-1) N.toNat
    have vn := vl_nn (H := hv A) (row := nv A) (n := N.toNat) (k := k)
    have vb : vlF (hv A) (nv A) N.toNat k ≤ 100000000000 := by unfold vlF; split <;> omega
    have fz : ∃ z, sc (wi A 190 65 z) B1 := ⟨k, sc_trans f1 (scm_sc g1)⟩
    have core : go true 0 (runF (d + 8)) (runN (d + 8)) pb_X12_loudest (n + 10) 31 [vR 21 190 0, vI N, vL Y, vS, vI b, vL v, vS, vI k, u8, u9] [] B = go true 0 (runF (d + 8)) (runN (d + 8)) pb_X12_loudest (n + 8) 70 [vR 21 190 0, vI N, vL Y, vS, vI b, vL v, vS, vI k, vL (vlF (hv A) (nv A) N.toNat k), vS] [] B1 := by
      rw [q_X12_loudest_31, e_nNo, sc_hv f, (mok_wiq hm z).2.1, if_pos (by omega), q_X12_loudest_49, e1, cL_v, hY]
      have e : 100 * nv A 1 + mnS (hv A) (nv A) (nv A 0) (nv A 2) k N.toNat - (100 * nv A 1 + mnS (hv A) (nv A) (nv A 0) (nv A 2) (-1) N.toNat) = mnS (hv A) (nv A) (nv A 0) (nv A 2) k N.toNat - mnS (hv A) (nv A) (nv A 0) (nv A 2) (-1) N.toNat := by omega
      rw [e, wid64 (x := mnS (hv A) (nv A) (nv A 0) (nv A 2) k N.toNat - mnS (hv A) (nv A) (nv A 0) (nv A 2) (-1) N.toNat) (by omega) (by omega)]
      simp only [lcp_lt]
      unfold vlF
      by_cases c : mnS (hv A) (nv A) (nv A 0) (nv A 2) k N.toNat - mnS (hv A) (nv A) (nv A 0) (nv A 2) (-1) N.toNat < 0
      · rw [if_pos c, if_pos c, wid64 (by omega) (by omega)]
      · rw [if_neg c, if_neg c]
    by_cases c2 : v < vlF (hv A) (nv A) N.toNat k
    · obtain ⟨A', u1, u2⟩ := ih (n + 5) (k + 1) k (vlF (hv A) (nv A) N.toNat k) (vL (vlF (hv A) (nv A) N.toNat k)) vS B1 fz (by omega) (by omega) (by omega) (by omega) (by omega)
      refine ⟨A', ?_, u2⟩
      rw [core, q_X12_loudest_70]
      simp only [lcp_gt]
      rw [if_pos c2, q_X12_loudest_89, wid (by omega) (by omega), ldF, if_pos c2]
      exact u1
    · obtain ⟨A', u1, u2⟩ := ih (n + 6) (k + 1) b v (vL (vlF (hv A) (nv A) N.toNat k)) vS B1 fz (by omega) (by omega) (by omega) (by omega) (by omega)
      refine ⟨A', ?_, u2⟩
      rw [core, q_X12_loudest_70]
      simp only [lcp_gt]
      rw [if_neg c2, q_X12_loudest_89, wid (by omega) (by omega), ldF, if_neg c2]
      exact u1
theorem c_loudest (d n : Nat) (x : Int) (A : AH) (r : REL n A) : CP (d + 9) n 128 249 [vI x] A := by
  have g := REL_g r
  have b6 := r.2.2.1
  have b7 := r.2.1.1
  have hm := r.2.1.2.2.2.2.1
  have hs := r.2.1.2.2.2.2.2
  have hc := g.1
  unfold cok at hc
  have hh0 : gr A 40 5 ≠ 0 := by have := b6.1; omega
  by_cases c : 1 ≤ x ∧ x ≤ 200 ∧ nv A 0 + x ≤ 999
  · have mod : ∀ A3, sc A A3 → ∃ A4, runF (d + 9) 249 [vR 21 190 0, vI x] A3 = some (some (vI (ldF (vlF (hv A) (nv A) x.toNat) (nNo (hv A)).toNat 0 (-1) (-1))), A4) ∧ sc A3 A4 := by
      intro A3 f
      have m3 := mok_sc f (REL_mok r)
      have q3 : gi A3 190 65 = -1 := by rw [sc_q f]; exact r.2.2.2.1
      obtain ⟨A5, w1, w2⟩ := s_meanOfM d x A3 m3 (by rw [sc_nv f]; omega) (by omega) (by rw [sc_nv f]; omega) (by rw [sc_nv f]; omega)
      rw [q3] at w1
      have f5 := scm_sc w2
      obtain ⟨A4, v1, v2⟩ := l_ldM d x _ A3 m3 (by rw [sc_nv f]; omega) (by omega) (by rw [sc_nv f]; omega) (by rw [sc_nv f]; omega) q3 rfl (nNo (hv A3)).toNat (fu + 198) 0 (-1) (-1) vU vU A5 ⟨_, sc_trans (wi_self A3 190 65) f5⟩ (by omega) (by rw [sc_hv f]; omega) (by omega) (by omega) (by rw [sc_hv f]; have := fu_ge; omega)
      refine ⟨A4, ?_, v2⟩
      rw [r_X12_loudest, q_X12_loudest_0, s_isAhead _ x 1 200 A3 (by rw [sc_nv f]; omega) (by rw [sc_nv f]; omega) (by omega) (by omega), cI_v, sc_nv f, decide_eq_true (by omega), bI_t, if_neg (by omega), w1, cL_v]
      rw [sc_hv f, sc_nv f] at v1
      rw [sc_hv f, sc_nv f]
      exact v1
    by_cases c0 : nNo (hv A) = 0
    · refine CP_q r (vI (-1)) ⟨A, ?_, sc_refl A⟩ (fun A3 f => ?_)
      · rw [r_X11_loudest, q_X11_loudest_0, if_neg hh0, b6.2.1.2.2.2.1, if_pos c0]
      · obtain ⟨A4, e1, e2⟩ := mod A3 f
        rw [c0] at e1
        exact ⟨A4, e1, e2⟩
    · obtain ⟨A1, e1, e2, e3⟩ := s_look (d + 5) (gr A 40 5) 68 A b6 b7 (by omega)
      obtain ⟨A2, u1, u2⟩ := l_ldC (d + 1) x g hm.1 (by omega) (by omega) (nNo (hv A)).toNat (fu + 199) 0 0 0 _ _ _ vU vU vU A1 e2 (by omega) (by omega) (by omega) (by omega) (by have := fu_ge; omega)
      have first : ldF (vlF (hv A) (nv A) x.toNat) (nNo (hv A)).toNat 0 (-1) (-1) = ldF (vlF (hv A) (nv A) x.toNat) (nNo (hv A)).toNat 0 0 0 := by
        obtain ⟨N, hN⟩ : ∃ N, (nNo (hv A)).toNat = N + 1 := ⟨(nNo (hv A)).toNat - 1, by omega⟩
        have vn := vl_nn (H := hv A) (row := nv A) (n := x.toNat) (k := 0)
        rw [hN, ldF, ldF, if_pos (by omega)]
        by_cases c1 : 0 < vlF (hv A) (nv A) x.toNat 0
        · rw [if_pos c1]
        · rw [if_neg c1, show vlF (hv A) (nv A) x.toNat 0 = 0 by omega]
      refine CP_q r (vI (ldF (vlF (hv A) (nv A) x.toNat) (nNo (hv A)).toNat 0 (-1) (-1))) ⟨A2, ?_, sc_trans (frL_sc e3) u2⟩ mod
      rw [first, r_X11_loudest, q_X11_loudest_0, if_neg hh0, b6.2.1.2.2.2.1, if_neg c0, if_neg (by omega), if_neg (by omega), b7.2.1.1, wid (by omega) (by omega), if_neg (by omega), r_X1_loudestOf, q_X1_loudestOf_0 _ _ _ _ _ _ _ hh0 (by omega), e1, cV_v, Nat.add_zero, u1, cI_v]
  · refine CP_q r (vI (-1)) ⟨A, ?_, sc_refl A⟩ (fun A1 f => ⟨A1, ?_, sc_refl A1⟩)
    · rw [r_X11_loudest, q_X11_loudest_0, if_neg hh0, b6.2.1.2.2.2.1, b7.2.1.1]
      by_cases c0 : nNo (hv A) = 0
      · rw [if_pos c0]
      · rw [if_neg c0]
        by_cases c1 : x < 1
        · rw [if_pos c1]
        · rw [if_neg c1]
          by_cases c2 : 200 < x
          · rw [if_pos c2]
          · rw [if_neg c2, wid (by omega) (by omega), if_pos (by omega)]
    · rw [r_X12_loudest, q_X12_loudest_0, s_isAhead _ x 1 200 A1 (by rw [sc_nv f]; omega) (by rw [sc_nv f]; omega) (by omega) (by omega), cI_v, sc_nv f, decide_eq_false (by omega), bI_f, if_pos rfl]
