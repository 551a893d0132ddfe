/-! the class's reader -/
theorem hz_b {f : Nat → Int} (h : ∀ i, 0 ≤ f i ∧ f i ≤ 26) : (0 ≤ hz f 0 ∧ hz f 0 ≤ 0) ∧ (0 ≤ hz f 1 ∧ hz f 1 ≤ 26) ∧ (0 ≤ hz f 2 ∧ hz f 2 ≤ 728) ∧ (0 ≤ hz f 3 ∧ hz f 3 ≤ 19682) ∧ (0 ≤ hz f 4 ∧ hz f 4 ≤ 531440) ∧ (0 ≤ hz f 5 ∧ hz f 5 ≤ 14348906) ∧ (0 ≤ hz f 6 ∧ hz f 6 ≤ 387420488) := by
  have e0 : hz f 0 = 0 := rfl
  have e1 : hz f 1 = hz f 0 * 27 + f 0 := rfl
  have e2 : hz f 2 = hz f 1 * 27 + f 1 := rfl
  have e3 : hz f 3 = hz f 2 * 27 + f 2 := rfl
  have e4 : hz f 4 = hz f 3 * 27 + f 3 := rfl
  have e5 : hz f 5 = hz f 4 * 27 + f 4 := rfl
  have e6 : hz f 6 = hz f 5 * 27 + f 5 := rfl
  have := h 0
  have := h 1
  have := h 2
  have := h 3
  have := h 4
  have := h 5
  omega
theorem hz_5 {f : Nat → Int} (h : ∀ i, 0 ≤ f i ∧ f i ≤ 26) (n : Nat) (hn : n ≤ 5) : 0 ≤ hz f n ∧ hz f n ≤ 14348906 := by
  have b := hz_b h
  match n, hn with
  | 0, _ => omega
  | 1, _ => omega
  | 2, _ => omega
  | 3, _ => omega
  | 4, _ => omega
  | 5, _ => omega
theorem vz_3 {T : Nat → Int} {s m : Nat} (h : ∀ i, i < m → 48 ≤ T (s + i) ∧ T (s + i) ≤ 57) (n : Nat) (hn : n ≤ 4) (hm : n ≤ m) : 0 ≤ vz T s n ∧ vz T s n ≤ 9999 ∧ (n ≤ 3 → vz T s n ≤ 999) := by
  have e0 : vz T s 0 = 0 := rfl
  have e1 : vz T s 1 = vz T s 0 * 10 + (T (s + 0) - 48) := rfl
  have e2 : vz T s 2 = vz T s 1 * 10 + (T (s + 1) - 48) := rfl
  have e3 : vz T s 3 = vz T s 2 * 10 + (T (s + 2) - 48) := rfl
  have e4 : vz T s 4 = vz T s 3 * 10 + (T (s + 3) - 48) := rfl
  have h0 : 0 < m → 48 ≤ T (s + 0) ∧ T (s + 0) ≤ 57 := h 0
  have h1 : 1 < m → 48 ≤ T (s + 1) ∧ T (s + 1) ≤ 57 := h 1
  have h2 : 2 < m → 48 ≤ T (s + 2) ∧ T (s + 2) ≤ 57 := h 2
  have h3 : 3 < m → 48 ≤ T (s + 3) ∧ T (s + 3) ≤ 57 := h 3
  match n, hn with
  | 0, _ => omega
  | 1, _ => have := h0 (by omega); omega
  | 2, _ => have := h0 (by omega); have := h1 (by omega); omega
  | 3, _ => have := h0 (by omega); have := h1 (by omega); have := h2 (by omega); omega
  | 4, _ => have := h0 (by omega); have := h1 (by omega); have := h2 (by omega); have := h3 (by omega); omega
/-- what a walk of the reader's may lean on -/
def RdT (A : AH) (T : Nat → Int) (L : Nat) : Prop := gr A 42 0 = 41 ∧ ln A 41 = 1600 ∧ gi A 42 1 = L ∧ (∀ j, gi A 41 j = T j) ∧ TX T L
def frX (K : List Nat) (A B : AH) : Prop := (∀ a j, ¬ (a = 42 ∧ j ∈ K) → gi B a j = gi A a j) ∧ (∀ a j, gr B a j = gr A a j) ∧ B.2.2 = A.2.2
theorem RdT_fr {A B : AH} {T : Nat → Int} {L : Nat} (h1 : gr B 42 0 = gr A 42 0) (h2 : ln B 41 = ln A 41) (h3 : gi B 42 1 = gi A 42 1) (h4 : ∀ j, gi B 41 j = gi A 41 j) (r : RdT A T L) : RdT B T L := ⟨h1.trans r.1, h2.trans r.2.1, h3.trans r.2.2.1, fun j => (h4 j).trans (r.2.2.2.1 j), r.2.2.2.2⟩
theorem ln_eq {A B : AH} (h : B.2.2 = A.2.2) (a : Nat) : ln B a = ln A a := by unfold ln; rw [h]
theorem RdT_R {A B : AH} {T : Nat → Int} {L : Nat} (f : frR A B) (r : RdT A T L) : RdT B T L := RdT_fr (f.2.1 42 0 (by omega)) (ln_eq f.2.2 41) (f.1 42 1 (by omega)) (fun j => f.1 41 j (by omega)) r
set_option maxRecDepth 100000 in
theorem l_skip (d : Nat) (T : Nat → Int) (L : Nat) : ∀ (j n s : Nat) (x1 x2 : Int) (u3 : AV) (A : AH), rn bP T L s = s + j → s ≤ L → RdT A T L → gi A 42 5 = s → 3 * j + 10 ≤ n → ∃ n' B, n ≤ n' + 3 * j + 1 ∧ go true 3 (runF d) (runN d) pb_X8_step n 61 [vR 18 42 0, vI x1, vI x2, u3] [] A = go true 3 (runF d) (runN d) pb_X8_step n' 113 [vR 18 42 0, vI x1, vI x2, u3] [] B ∧ gi B 42 5 = ((s + j : Nat) : Int) ∧ frR A B ∧ (∀ k, k ≠ 5 → gi B 42 k = gi A 42 k) ∧ gr B 42 7 = gr A 42 7 := by
  intro j
  induction j with
  | zero =>
    intro n s x1 x2 u3 A h1 h2 h3 h4 hn
    obtain ⟨n, rfl⟩ : ∃ e, n = e + 10 := ⟨n - 10, by omega⟩
    obtain ⟨t1, t2, t3, t4, t5⟩ := h3
    refine ⟨n + 9, A, by omega, ?_, by rw [h4]; rfl, frR_refl A, fun _ _ => rfl, rfl⟩
    rw [q_X8_step_61, h4, t3, t1]
    by_cases c : s < L
    · have hb := rn_end (P := bP) (T := T) h2 (by omega)
      rw [h1] at hb
      have hb2 := bP_f.mp hb
      have l1 := t5.1
      rw [Nat.add_zero] at hb2
      rw [if_pos (by omega), if_neg (by omega), if_pos (by rw [t2]; omega), Int.toNat_natCast, t4, if_neg (by omega), if_neg (by omega), if_pos (by rw [t2]; omega), if_neg (by omega)]
    · rw [if_neg (by omega)]
  | succ j ih =>
    intro n s x1 x2 u3 A h1 h2 h3 h4 hn
    obtain ⟨n, rfl⟩ : ∃ e, n = e + 10 := ⟨n - 10, by omega⟩
    have hL := rn_L (P := bP) (T := T) h2
    have hb := bP_t.mp (rn_in (P := bP) (T := T) (L := L) (s := s) s (by omega) (by omega))
    have ej : rn bP T L (s + 1) = (s + 1) + j := by rw [rn_idem (s := s) (by omega) (by omega) h2]; omega
    have h3' := h3
    obtain ⟨t1, t2, t3, t4, t5⟩ := h3
    have l1 := t5.1
    have st : go true 3 (runF d) (runN d) pb_X8_step (n + 10) 61 [vR 18 42 0, vI x1, vI x2, u3] [] A = go true 3 (runF d) (runN d) pb_X8_step (n + 7) 61 [vR 18 42 0, vI x1, vI x2, u3] [] (wi A 42 5 ((s + 1 : Nat) : Int)) := by
      have e1 : go true 3 (runF d) (runN d) pb_X8_step (n + 9) 100 [vR 18 42 0, vI x1, vI x2, u3] [] A = go true 3 (runF d) (runN d) pb_X8_step (n + 7) 61 [vR 18 42 0, vI x1, vI x2, u3] [] (wi A 42 5 ((s + 1 : Nat) : Int)) := by
        rw [q_X8_step_100, h4, wid (by omega) (by omega), q_X8_step_110]; rfl
      rw [q_X8_step_61, h4, t3, t1, if_pos (by omega), if_neg (by omega), if_pos (by rw [t2]; omega), Int.toNat_natCast, t4]
      by_cases c : T s = 32
      · rw [if_pos c]; exact e1
      · rw [if_neg c, if_neg (by omega), if_pos (by rw [t2]; omega), if_pos (by omega)]; exact e1
    have f1 : frR A (wi A 42 5 ((s + 1 : Nat) : Int)) := frR_wi _ (by omega) (frR_refl A)
    obtain ⟨n', B, i1, i2, i3, i4, i5, i6⟩ := ih (n + 7) (s + 1) x1 x2 u3 (wi A 42 5 ((s + 1 : Nat) : Int)) ej (by omega) (RdT_R f1 h3') (by rw [gi_wi, if_pos ⟨rfl, rfl⟩]) (by omega)
    refine ⟨n', B, by omega, st.trans i2, by rw [i3]; congr 1; omega, frR_trans f1 i4, fun k hk => ?_, i6⟩
    rw [i5 k hk, gi_wi, if_neg (by omega)]
set_option maxRecDepth 100000 in
theorem l_rl1 (d : Nat) (T : Nat → Int) (L s N : Nat) (hN : rn lP T L s = s + N) (hs : s ≤ L) : ∀ (j n i : Nat) (u1 : AV) (A : AH), i + j = N → RdT A T L → gi A 42 5 = s → gi A 42 2 = ((s + i : Nat) : Int) → gi A 42 3 = hz (dg T s N) (min i 6) → 5 * j + 10 ≤ n → ∃ n' B, n ≤ n' + 5 * j + 1 ∧ go true 3 (runF d) (runN d) pb_X8_readLetters n 10 [vR 18 42 0, u1] [] A = go true 3 (runF d) (runN d) pb_X8_readLetters n' 102 [vR 18 42 0, u1] [] B ∧ gi B 42 2 = ((s + N : Nat) : Int) ∧ gi B 42 3 = hz (dg T s N) (min N 6) ∧ frR A B ∧ (∀ k, k ≠ 2 → k ≠ 3 → gi B 42 k = gi A 42 k) ∧ gr B 42 7 = gr A 42 7 := by
  have hL := rn_L (P := lP) (T := T) hs
  have hl : ∀ i, i < N → lP (T (s + i)) = true := fun i hi => rn_in (P := lP) (T := T) (L := L) (s := s) (s + i) (by omega) (by omega)
  intro j
  induction j with
  | zero =>
    intro n i u1 A h1 h2 h3 h4 h5 hn
    obtain ⟨n, rfl⟩ : ∃ e, n = e + 10 := ⟨n - 10, by omega⟩
    obtain ⟨t1, t2, t3, t4, t5⟩ := h2
    have ei : i = N := by omega
    rw [ei] at h4 h5
    refine ⟨n + 9, A, by omega, ?_, h4, h5, frR_refl A, fun _ _ _ => rfl, rfl⟩
    rw [q_X8_readLetters_10, h4, t3, t1]
    by_cases c : s + N < L
    · have hb := rn_end (P := lP) (T := T) hs (by omega)
      rw [hN] at hb
      have hb2 := lP_f.mp hb
      have l1 := t5.1
      rw [if_pos (by omega), if_neg (by omega), if_pos (by rw [t2]; omega), Int.toNat_natCast, t4]
      by_cases c2 : T (s + N) < 97
      · rw [if_pos c2]
      · rw [if_neg c2, if_neg (by omega), if_pos (by rw [t2]; omega), if_pos (by omega)]
    · rw [if_neg (by omega)]
  | succ j ih =>
    intro n i u1 A h1 h2 h3 h4 h5 hn
    obtain ⟨n, rfl⟩ : ∃ e, n = e + 10 := ⟨n - 10, by omega⟩
    have h2' := h2
    obtain ⟨t1, t2, t3, t4, t5⟩ := h2
    have l1 := t5.1
    have hb := lP_t.mp (hl i (by omega))
    have st : ∃ A1, go true 3 (runF d) (runN d) pb_X8_readLetters (n + 10) 10 [vR 18 42 0, u1] [] A = go true 3 (runF d) (runN d) pb_X8_readLetters (n + 9) 89 [vR 18 42 0, u1] [] A1 ∧ gi A1 42 3 = hz (dg T s N) (min (i + 1) 6) ∧ frR A A1 ∧ (∀ k, k ≠ 3 → gi A1 42 k = gi A 42 k) ∧ gr A1 42 7 = gr A 42 7 := by
      rw [q_X8_readLetters_10, h4, t3, t1, if_pos (by omega), if_neg (by omega), if_pos (by rw [t2]; omega), Int.toNat_natCast, t4, if_neg (by omega), if_neg (by omega), if_pos (by rw [t2]; omega), if_neg (by omega), h3, wid (by omega) (by omega)]
      by_cases c : i < 6
      · rw [if_pos (by omega), if_neg (by omega), if_pos (by rw [t2]; omega)]
        refine ⟨_, rfl, ?_, frR_wi _ (by omega) (frR_refl A), fun k hk => by rw [gi_wi, if_neg (by omega)], rfl⟩
        rw [gi_wi, if_pos ⟨rfl, rfl⟩, h5, show min i 6 = i by omega, show min (i + 1) 6 = i + 1 by omega]
        have b := hz_5 (dg_bd hl) i (by omega)
        have e : hz (dg T s N) (i + 1) = hz (dg T s N) i * 27 + (T (s + i) - 96) := by
          show hz (dg T s N) i * 27 + dg T s N i = _
          unfold dg; rw [if_pos (by omega)]
        rw [wid (x := hz (dg T s N) i * 27) (by omega) (by omega), wid (x := hz (dg T s N) i * 27 + T (s + i)) (by omega) (by omega), wid (x := hz (dg T s N) i * 27 + T (s + i) - 97) (by omega) (by omega), wid (by omega) (by omega), e]
        omega
      · rw [if_neg (by omega)]
        exact ⟨A, rfl, by rw [h5, show min i 6 = 6 by omega, show min (i + 1) 6 = 6 by omega], frR_refl A, fun _ _ => rfl, rfl⟩
    obtain ⟨A1, s1, s2, s3, s4, s5⟩ := st
    have f1 : frR A (wi A1 42 2 ((s + (i + 1) : Nat) : Int)) := frR_wi _ (by omega) s3
    obtain ⟨n', B, i1, i2, i3, i4, i5, i6, i7⟩ := ih (n + 7) (i + 1) u1 (wi A1 42 2 ((s + (i + 1) : Nat) : Int)) (by omega) (RdT_R f1 h2') (by rw [gi_wi, if_neg (by omega), s4 5 (by omega)]; exact h3) (by rw [gi_wi, if_pos ⟨rfl, rfl⟩]) (by rw [gi_wi, if_neg (by omega)]; exact s2) (by omega)
    refine ⟨n', B, by omega, ?_, i3, i4, frR_trans f1 i5, fun k q1 q2 => ?_, i7.trans s5⟩
    · rw [s1, q_X8_readLetters_89, s4 2 (by omega), h4, wid (by omega) (by omega), q_X8_readLetters_99, show ((s + i : Nat) : Int) + 1 = ((s + (i + 1) : Nat) : Int) by omega]
      exact i2
    · rw [i6 k q1 q2, gi_wi, if_neg (by omega), s4 k q2]
set_option maxRecDepth 100000 in
theorem l_rl2 (d : Nat) (T : Nat → Int) (s N : Nat) (hl : ∀ i, i < N → lP (T (s + i)) = true) : ∀ (j n i : Nat) (A : AH), i + j = 6 → N ≤ i → gi A 42 3 = hz (dg T s N) i → 3 * j + 10 ≤ n → ∃ n' B, n ≤ n' + 3 * j + 2 ∧ go true 3 (runF d) (runN d) pb_X8_readLetters n 127 [vR 18 42 0, vI (i : Int)] [] A = go true 3 (runF d) (runN d) pb_X8_readLetters n' 152 [vR 18 42 0, vI 0] [] B ∧ gi B 42 3 = hz (dg T s N) 6 ∧ frR A B ∧ (∀ k, k ≠ 3 → gi B 42 k = gi A 42 k) ∧ gr B 42 7 = gr A 42 7 := by
  intro j
  induction j with
  | zero =>
    intro n i A h1 h2 h3 hn
    obtain ⟨n, rfl⟩ : ∃ e, n = e + 10 := ⟨n - 10, by omega⟩
    refine ⟨n + 8, A, by omega, ?_, by rw [h3, show i = 6 by omega], frR_refl A, fun _ _ => rfl, rfl⟩
    rw [q_X8_readLetters_127, if_neg (by omega)]
  | succ j ih =>
    intro n i A h1 h2 h3 hn
    obtain ⟨n, rfl⟩ : ∃ e, n = e + 10 := ⟨n - 10, by omega⟩
    have b := hz_5 (dg_bd hl) i (by omega)
    have e : hz (dg T s N) (i + 1) = hz (dg T s N) i * 27 := by
      show hz (dg T s N) i * 27 + dg T s N i = _
      unfold dg; rw [if_neg (by omega)]; omega
    have f1 : frR A (wi A 42 3 (hz (dg T s N) (i + 1))) := frR_wi _ (by omega) (frR_refl A)
    obtain ⟨n', B, i1, i2, i3, i4, i5, i6⟩ := ih (n + 8) (i + 1) (wi A 42 3 (hz (dg T s N) (i + 1))) (by omega) (by omega) (by rw [gi_wi, if_pos ⟨rfl, rfl⟩]) (by omega)
    refine ⟨n', B, by omega, ?_, i3, frR_trans f1 i4, fun k hk => ?_, i6⟩
    · rw [q_X8_readLetters_127, if_pos (by omega), h3, wid (by omega) (by omega), ← e, q_X8_readLetters_144, wid (by omega) (by omega), show (i : Int) + 1 = ((i + 1 : Nat) : Int) by omega]
      exact i2
    · rw [i5 k hk, gi_wi, if_neg (by omega)]
set_option maxRecDepth 100000 in
theorem l_rl3 (d : Nat) (key : Int) : ∀ (j n i : Nat) (A : AH), i + j = 37 → gi A 42 3 = key → 3 * j + 10 ≤ n → ∃ B, go true 3 (runF d) (runN d) pb_X8_readLetters n 152 [vR 18 42 0, vI (i : Int)] [] A = some (none, B) ∧ frR A B ∧ (∀ k, gi B 42 k = gi A 42 k) ∧ gr B 42 7 = (List.range' i j).foldl (fun w k => if wK.getD k 0 = key then k + 1 else w) (gr A 42 7) := by
  intro j
  induction j with
  | zero =>
    intro n i A h1 h2 hn
    obtain ⟨n, rfl⟩ : ∃ e, n = e + 10 := ⟨n - 10, by omega⟩
    exact ⟨A, by rw [q_X8_readLetters_152, if_neg (by omega)], frR_refl A, fun _ => rfl, rfl⟩
  | succ j ih =>
    intro n i A h1 h2 hn
    obtain ⟨n, rfl⟩ : ∃ e, n = e + 10 := ⟨n - 10, by omega⟩
    have ew : wdf 0 ((i : Int).toNat + 1) = wK.getD i 0 := by rw [Int.toNat_natCast]; rfl
    by_cases c : wK.getD i 0 = key
    · have f1 : frR A (wr A 42 7 (i + 1)) := frR_wr _ (frR_refl A)
      obtain ⟨B, i1, i2, i3, i4⟩ := ih (n + 8) (i + 1) (wr A 42 7 (i + 1)) (by omega) h2 (by omega)
      refine ⟨B, ?_, frR_trans f1 i2, fun k => i3 k, ?_⟩
      · rw [q_X8_readLetters_152, if_pos (by omega), if_pos (by omega), ew, h2, if_pos c, if_pos (by omega), Int.toNat_natCast, q_X8_readLetters_184, wid (by omega) (by omega), show (i : Int) + 1 = ((i + 1 : Nat) : Int) by omega]
        exact i1
      · rw [i4, List.range'_succ, List.foldl_cons, if_pos c, gr_wr, if_pos ⟨rfl, rfl⟩]
    · obtain ⟨B, i1, i2, i3, i4⟩ := ih (n + 8) (i + 1) A (by omega) h2 (by omega)
      refine ⟨B, ?_, i2, i3, ?_⟩
      · rw [q_X8_readLetters_152, if_pos (by omega), if_pos (by omega), ew, h2, if_neg c, q_X8_readLetters_184, wid (by omega) (by omega), show (i : Int) + 1 = ((i + 1 : Nat) : Int) by omega]
        exact i1
      · rw [i4, List.range'_succ, List.foldl_cons, if_neg c]
set_option maxRecDepth 100000 in
theorem s_readLetters (d : Nat) (T : Nat → Int) (L s N : Nat) (A : AH) (hN : rn lP T L s = s + N) (hs : s ≤ L) (r : RdT A T L) (h5 : gi A 42 5 = s) (h2 : gi A 42 2 = s) (h7 : gr A 42 7 = 0) : ∃ B, runF (d + 1) 87 [vR 18 42 0] A = some (none, B) ∧ gi B 42 6 = 1 ∧ gi B 42 2 = ((s + N : Nat) : Int) ∧ (N ≤ 6 → gi B 42 3 = hz (dg T s N) 6 ∧ gr B 42 7 = wordOf (hz (dg T s N) 6)) ∧ (6 < N → gr B 42 7 = 0) ∧ frR A B ∧ (∀ k, k ≠ 2 → k ≠ 3 → k ≠ 6 → gi B 42 k = gi A 42 k) := by
  have hL := rn_L (P := lP) (T := T) hs
  have hl : ∀ i, i < N → lP (T (s + i)) = true := fun i hi => rn_in (P := lP) (T := T) (L := L) (s := s) (s + i) (by omega) (by omega)
  have tL := r.2.2.2.2.1
  have f0 : frR A (wi (wi A 42 6 1) 42 3 0) := frR_wi _ (by omega) (frR_wi _ (by omega) (frR_refl A))
  obtain ⟨n1, B1, a1, a2, a3, a4, a5, a6, a7⟩ := l_rl1 d T L s N hN hs N (fu + 199) 0 vU (wi (wi A 42 6 1) 42 3 0) (by omega) (RdT_R f0 r) (by simp -implicitDefEqProofs (disch := omega) only [gi_wi, ↓reduceIte, Int.reduceEq, cI_v, cL_v, cV_v, cR_v, wid, wid64, if_pos, if_neg, Nat.add_zero, if_true, if_false, and_self, and_true, true_and, and_false, false_and, or_true, true_or, or_false, false_or]; exact h5) (by simp -implicitDefEqProofs (disch := omega) only [gi_wi, ↓reduceIte, Int.reduceEq, cI_v, cL_v, cV_v, cR_v, wid, wid64, if_pos, if_neg, Nat.add_zero, if_true, if_false, and_self, and_true, true_and, and_false, false_and, or_true, true_or, or_false, false_or]; exact h2) (by simp -implicitDefEqProofs (disch := omega) only [gi_wi, ↓reduceIte, Int.reduceEq, cI_v, cL_v, cV_v, cR_v, wid, wid64, if_pos, if_neg, Nat.add_zero, if_true, if_false, and_self, and_true, true_and, and_false, false_and, or_true, true_or, or_false, false_or]; rfl) (by have := fu_ge; omega)
  have b5 : gi B1 42 5 = s := by rw [a6 5 (by omega) (by omega)]; simp -implicitDefEqProofs (disch := omega) only [gi_wi, ↓reduceIte, Int.reduceEq, cI_v, cL_v, cV_v, cR_v, wid, wid64, if_pos, if_neg, Nat.add_zero, if_true, if_false, and_self, and_true, true_and, and_false, false_and, or_true, true_or, or_false, false_or]; exact h5
  have b6 : gi B1 42 6 = 1 := by rw [a6 6 (by omega) (by omega)]; simp -implicitDefEqProofs (disch := omega) only [gi_wi, ↓reduceIte, Int.reduceEq, cI_v, cL_v, cV_v, cR_v, wid, wid64, if_pos, if_neg, Nat.add_zero, if_true, if_false, and_self, and_true, true_and, and_false, false_and, or_true, true_or, or_false, false_or]
  have b7 : gr B1 42 7 = 0 := by rw [a7]; exact h7
  have b0 : ∀ k, k ≠ 2 → k ≠ 3 → k ≠ 6 → gi B1 42 k = gi A 42 k := fun k q1 q2 q3 => by rw [a6 k q1 q2, gi_wi, if_neg (by omega), gi_wi, if_neg (by omega)]
  have e0 : runF (d + 1) 87 [vR 18 42 0] A = go true 3 (runF d) (runN d) pb_X8_readLetters n1 102 [vR 18 42 0, vU] [] B1 := by
    rw [r_X8_readLetters, q_X8_readLetters_0]; exact a2
  have hn1 : 800000 ≤ n1 := by have := fu_ge; omega
  obtain ⟨n1, rfl⟩ : ∃ e, n1 = e + 200 := ⟨n1 - 200, by omega⟩
  have ew : w32 (gi B1 42 2 - gi B1 42 5) = (N : Int) := by rw [a3, b5, wid (by omega) (by omega)]; omega
  by_cases c : 6 < N
  · refine ⟨B1, ?_, b6, a3, fun q => by omega, fun _ => b7, frR_trans f0 a5, b0⟩
    rw [e0, q_X8_readLetters_102, ew, if_pos (by omega)]
  · obtain ⟨n2, B2, c1, c2, c3, c4, c5, c6⟩ := l_rl2 d T s N hl (6 - N) (n1 + 198) N B1 (by omega) (by omega) (by rw [a4, show min N 6 = N by omega]) (by omega)
    obtain ⟨B3, g1, g2, g3, g4⟩ := l_rl3 d (hz (dg T s N) 6) 37 n2 0 B2 (by omega) c3 (by omega)
    refine ⟨B3, ?_, by rw [g3, c5 6 (by omega)]; exact b6, by rw [g3, c5 2 (by omega)]; exact a3, fun _ => ⟨by rw [g3]; exact c3, by rw [g4, c6, b7]; rfl⟩, fun q => by omega, frR_trans f0 (frR_trans a5 (frR_trans c4 g2)), fun k q1 q2 q3 => by rw [g3, c5 k q2, b0 k q1 q2 q3]⟩
    rw [e0, q_X8_readLetters_102, ew, if_neg (by omega), Nat.add_zero (n1 + 198), c2]
    exact g1
set_option maxRecDepth 100000 in
theorem l_rd1 (d : Nat) (T : Nat → Int) (L s N : Nat) (hN : rn dP T L s = s + N) (hs : s ≤ L) : ∀ (j n i : Nat) (A : AH), i + j = N → RdT A T L → gi A 42 5 = s → gi A 42 2 = ((s + i : Nat) : Int) → gi A 42 4 = vz T s (min i 4) → 5 * j + 10 ≤ n → ∃ B, go true 3 (runF d) (runN d) pb_X8_readDigits n 10 [vR 18 42 0] [] A = some (none, B) ∧ gi B 42 2 = ((s + N : Nat) : Int) ∧ gi B 42 4 = vz T s (min N 4) ∧ frR A B ∧ (∀ k, k ≠ 2 → k ≠ 4 → gi B 42 k = gi A 42 k) ∧ gr B 42 7 = gr A 42 7 := by
  have hL := rn_L (P := dP) (T := T) hs
  have hl : ∀ i, i < N → 48 ≤ T (s + i) ∧ T (s + i) ≤ 57 := fun i hi => dP_t.mp (rn_in (P := dP) (T := T) (L := L) (s := s) (s + i) (by omega) (by omega))
  intro j
  induction j with
  | zero =>
    intro n i A h1 h2 h3 h4 h5 hn
    obtain ⟨n, rfl⟩ : ∃ e, n = e + 10 := ⟨n - 10, by omega⟩
    obtain ⟨t1, t2, t3, t4, t5⟩ := h2
    have ei : i = N := by omega
    rw [ei] at h4 h5
    refine ⟨A, ?_, h4, h5, frR_refl A, fun _ _ _ => rfl, rfl⟩
    rw [q_X8_readDigits_10, h4, t3, t1]
    by_cases c : s + N < L
    · have hb := rn_end (P := dP) (T := T) hs (by omega)
      rw [hN] at hb
      have hb2 := dP_f.mp hb
      have l1 := t5.1
      rw [if_pos (by omega), if_neg (by omega), if_pos (by rw [t2]; omega), Int.toNat_natCast, t4]
      by_cases c2 : T (s + N) < 48
      · rw [if_pos c2]
      · rw [if_neg c2, if_neg (by omega), if_pos (by rw [t2]; omega), if_pos (by omega)]
    · rw [if_neg (by omega)]
  | succ j ih =>
    intro n i A h1 h2 h3 h4 h5 hn
    obtain ⟨n, rfl⟩ : ∃ e, n = e + 10 := ⟨n - 10, by omega⟩
    have h2' := h2
    obtain ⟨t1, t2, t3, t4, t5⟩ := h2
    have l1 := t5.1
    have hb := hl i (by omega)
    have st : ∃ A1, go true 3 (runF d) (runN d) pb_X8_readDigits (n + 10) 10 [vR 18 42 0] [] A = go true 3 (runF d) (runN d) pb_X8_readDigits (n + 9) 86 [vR 18 42 0] [] A1 ∧ gi A1 42 4 = vz T s (min (i + 1) 4) ∧ frR A A1 ∧ (∀ k, k ≠ 4 → gi A1 42 k = gi A 42 k) ∧ gr A1 42 7 = gr A 42 7 := by
      rw [q_X8_readDigits_10, h4, t3, t1, if_pos (by omega), if_neg (by omega), if_pos (by rw [t2]; omega), Int.toNat_natCast, t4, if_neg (by omega), if_neg (by omega), if_pos (by rw [t2]; omega), if_neg (by omega), h3, wid (by omega) (by omega)]
      by_cases c : i < 4
      · rw [if_pos (by omega), if_neg (by omega), if_pos (by rw [t2]; omega)]
        refine ⟨_, rfl, ?_, frR_wi _ (by omega) (frR_refl A), fun k hk => by rw [gi_wi, if_neg (by omega)], rfl⟩
        rw [gi_wi, if_pos ⟨rfl, rfl⟩, h5, show min i 4 = i by omega, show min (i + 1) 4 = i + 1 by omega]
        have b := vz_3 hl i (by omega) (by omega)
        have e : vz T s (i + 1) = vz T s i * 10 + (T (s + i) - 48) := rfl
        rw [wid (x := vz T s i * 10) (by omega) (by omega), wid (x := vz T s i * 10 + T (s + i)) (by omega) (by omega), wid (by omega) (by omega), e]
        omega
      · rw [if_neg (by omega)]
        exact ⟨A, rfl, by rw [h5, show min i 4 = 4 by omega, show min (i + 1) 4 = 4 by omega], frR_refl A, fun _ _ => rfl, rfl⟩
    obtain ⟨A1, s1, s2, s3, s4, s5⟩ := st
    have f1 : frR A (wi A1 42 2 ((s + (i + 1) : Nat) : Int)) := frR_wi _ (by omega) s3
    obtain ⟨B, i2, i3, i4, i5, i6, i7⟩ := ih (n + 7) (i + 1) (wi A1 42 2 ((s + (i + 1) : Nat) : Int)) (by omega) (RdT_R f1 h2') (by rw [gi_wi, if_neg (by omega), s4 5 (by omega)]; exact h3) (by rw [gi_wi, if_pos ⟨rfl, rfl⟩]) (by rw [gi_wi, if_neg (by omega)]; exact s2) (by omega)
    refine ⟨B, ?_, i3, i4, frR_trans f1 i5, fun k q1 q2 => ?_, i7.trans s5⟩
    · rw [s1, q_X8_readDigits_86, s4 2 (by omega), h4, wid (by omega) (by omega), q_X8_readDigits_96, show ((s + i : Nat) : Int) + 1 = ((s + (i + 1) : Nat) : Int) by omega]
      exact i2
    · rw [i6 k q1 q2, gi_wi, if_neg (by omega), s4 k q2]
set_option maxRecDepth 100000 in
theorem s_readDigits (d : Nat) (T : Nat → Int) (L s N : Nat) (A : AH) (hN : rn dP T L s = s + N) (hs : s ≤ L) (r : RdT A T L) (h5 : gi A 42 5 = s) (h2 : gi A 42 2 = s) : ∃ B, runF (d + 1) 88 [vR 18 42 0] A = some (none, B) ∧ gi B 42 6 = 2 ∧ gi B 42 2 = ((s + N : Nat) : Int) ∧ gi B 42 4 = vz T s (min N 4) ∧ gr B 42 7 = gr A 42 7 ∧ frR A B ∧ (∀ k, k ≠ 2 → k ≠ 4 → k ≠ 6 → gi B 42 k = gi A 42 k) := by
  have hL := rn_L (P := dP) (T := T) hs
  have tL := r.2.2.2.2.1
  have f0 : frR A (wi (wi A 42 6 2) 42 4 0) := frR_wi _ (by omega) (frR_wi _ (by omega) (frR_refl A))
  obtain ⟨B, a2, a3, a4, a5, a6, a7⟩ := l_rd1 d T L s N hN hs N (fu + 199) 0 (wi (wi A 42 6 2) 42 4 0) (by omega) (RdT_R f0 r) (by simp -implicitDefEqProofs (disch := omega) only [gi_wi, ↓reduceIte, Int.reduceEq, cI_v, cL_v, cV_v, cR_v, wid, wid64, if_pos, if_neg, Nat.add_zero, if_true, if_false, and_self, and_true, true_and, and_false, false_and, or_true, true_or, or_false, false_or]; exact h5) (by simp -implicitDefEqProofs (disch := omega) only [gi_wi, ↓reduceIte, Int.reduceEq, cI_v, cL_v, cV_v, cR_v, wid, wid64, if_pos, if_neg, Nat.add_zero, if_true, if_false, and_self, and_true, true_and, and_false, false_and, or_true, true_or, or_false, false_or]; exact h2) (by simp -implicitDefEqProofs (disch := omega) only [gi_wi, ↓reduceIte, Int.reduceEq, cI_v, cL_v, cV_v, cR_v, wid, wid64, if_pos, if_neg, Nat.add_zero, if_true, if_false, and_self, and_true, true_and, and_false, false_and, or_true, true_or, or_false, false_or]; rfl) (by have := fu_ge; omega)
  refine ⟨B, ?_, by rw [a6 6 (by omega) (by omega)]; simp -implicitDefEqProofs (disch := omega) only [gi_wi, ↓reduceIte, Int.reduceEq, cI_v, cL_v, cV_v, cR_v, wid, wid64, if_pos, if_neg, Nat.add_zero, if_true, if_false, and_self, and_true, true_and, and_false, false_and, or_true, true_or, or_false, false_or], a3, a4, a7, frR_trans f0 a5, fun k q1 q2 q3 => by rw [a6 k q1 q2, gi_wi, if_neg (by omega), gi_wi, if_neg (by omega)]⟩
  rw [r_X8_readDigits, q_X8_readDigits_0]
  exact a2
