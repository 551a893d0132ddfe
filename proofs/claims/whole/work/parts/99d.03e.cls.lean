/-! the row of what is past -/
def oP : Nat → Nat → List (Nat × Nat × Nat × Int)
  | 0, _ => []
  | m + 1, k => (0, 9, 8, 0) :: (oS (80 + 5 * k) ++ ((2, 79, k, ((80 + 5 * k : Nat) : Int)) :: oP m (k + 1)))
set_option maxRecDepth 100000 in
theorem pq_X6_init_0 (S SN : SX) (n : Nat) (A : AH) : go false 3 S SN pb_X6_init (n + 1) 0 [vR 16 78 0, vU] [] A = go false 3 S SN pb_X6_init n 25 [vR 16 78 0, vI 0] [] (wi (wi (naq A 23 78 0 20) 78 1 0) 78 2 0) := rfl
set_option maxRecDepth 100000 in
theorem pq_X6_init_25 (S SN : SX) (n : Nat) (k : Int) (A : AH) (hA : sz A ≠ 0) : go false 3 S SN pb_X6_init (n + 1) 25 [vR 16 78 0, vI k] [] A = if k < 20 then cV (S 94 [vR 19 (sz A) 0] (nw A 9 8)) (fun A1 => if gr A 78 0 = 0 ∨ sz A = 0 then none else if 0 ≤ k ∧ k < (ln A (gr A 78 0) : Int) then go false 3 S SN pb_X6_init n 25 [vR 16 78 0, vI (w32 (k + 1))] [] (wr A1 (gr A 78 0) k.toNat (sz A)) else none) else go false 3 S SN pb_X6_init n 50 [vR 16 78 0, vI k] [] A := by
  obtain ⟨g, r, sh⟩ := A
  cases sh with
  | nil => exact absurd rfl hA
  | cons x t => rfl
set_option maxRecDepth 100000 in
theorem pq_X6_init_50 (S SN : SX) (n : Nat) (k : Int) (A : AH) : go false 3 S SN pb_X6_init (n + 1) 50 [vR 16 78 0, vI k] [] A = some (none, A) := rfl
theorem gr_no : ∀ (o : List (Nat × Nat × Nat × Int)) (A : AH) (a j : Nat), o.all (fun q => q.1 == 0 || q.1 == 1 || q.2.1 != a) = true → a < sz A → gr (hap A o) a j = gr A a j
  | [], _, _, _, _, _ => rfl
  | (0, k, n, v) :: r, A, a, j, h, hs => by
    rw [List.all_cons, Bool.and_eq_true] at h
    show gr (hap (nw A k n) r) a j = _
    rw [gr_no r _ a j h.2 (by rw [sz_nw]; omega), gr_nw, if_neg (by omega)]
  | (1, b, i, v) :: r, A, a, j, h, hs => by
    rw [List.all_cons, Bool.and_eq_true] at h
    exact gr_no r (wi A b i v) a j h.2 hs
  | (t + 2, b, i, v) :: r, A, a, j, h, hs => by
    rw [List.all_cons, Bool.and_eq_true] at h
    show gr (hap (wr A b i v.toNat) r) a j = _
    have hb : b ≠ a := by
      have := h.1
      simp at this
      exact this
    rw [gr_no r (wr A b i v.toNat) a j h.2 hs, gr_wr, if_neg (fun y => hb y.1.symm)]
theorem ln_no : ∀ (o : List (Nat × Nat × Nat × Int)) (A : AH) (a : Nat), a < sz A → ln (hap A o) a = ln A a
  | [], _, _, _ => rfl
  | (0, k, n, v) :: r, A, a, hs => by
    show ln (hap (nw A k n) r) a = _
    rw [ln_no r _ a (by rw [sz_nw]; omega), ln_nw, if_neg (by omega)]
  | (1, b, i, v) :: r, A, a, hs => ln_no r (wi A b i v) a hs
  | (t + 2, b, i, v) :: r, A, a, hs => ln_no r (wr A b i v.toNat) a hs
theorem fl_al (p : Nat) (v : Int) (a : Nat) : ∀ (m i : Nat), (flO p v m i).all (fun q => q.1 == 0 || q.1 == 1 || q.2.1 != a) = true
  | 0, _ => rfl
  | m + 1, i => by
    show (((1 == 0) || (1 == 1) || (p != a)) && (flO p v m (i + 1)).all _) = true
    rw [fl_al p v a m (i + 1)]; rfl
theorem oS_al (b a : Nat) (h : b ≠ a) : (oS b).all (fun q => q.1 == 0 || q.1 == 1 || q.2.1 != a) = true := by
  unfold oS
  rw [List.all_append, List.all_append, fl_al, fl_al]
  unfold oS0
  simp [h]
theorem hap_cons (A : AH) (o : Nat × Nat × Nat × Int) (r : List (Nat × Nat × Nat × Int)) : hap A (o :: r) = hap (hop A o) r := rfl
theorem hop_0 (A : AH) (k n : Nat) (v : Int) : hop A (0, k, n, v) = nw A k n := rfl
theorem hop_2 (A : AH) (a j s : Nat) : hop A (2, a, j, (s : Int)) = wr A a j s := rfl
set_option maxRecDepth 100000 in
theorem l_past (d : Nat) : ∀ (m k n : Nat) (A : AH), k + m = 20 → 4 * m + 10 ≤ n → sz A = 80 + 5 * k → gr A 78 0 = 79 → ln A 79 = 20 → go false 3 (run (d + 2)) (run (d + 2)) pb_X6_init n 25 [vR 16 78 0, vI (k : Int)] [] A = some (none, hap A (oP m k)) := by
  intro m
  induction m with
  | zero =>
    intro k n A h1 h2 hs hg hl
    obtain ⟨n, rfl⟩ : ∃ e, n = e + 10 := ⟨n - 10, by omega⟩
    rw [pq_X6_init_25 _ _ _ _ _ (by omega), if_neg (by omega), pq_X6_init_50]
    rfl
  | succ m ih =>
    intro k n A h1 h2 hs hg hl
    obtain ⟨n, rfl⟩ : ∃ e, n = e + 10 := ⟨n - 10, by omega⟩
    have hn : sz (nw A 9 8) = 80 + 5 * k + 1 := by rw [sz_nw, hs]
    have hz : sz (wr (hap (nw A 9 8) (oS (80 + 5 * k))) 79 k (80 + 5 * k)) = 80 + 5 * (k + 1) := by rw [sz_wr, sz_hap, hn, nwc_S]; omega
    have hg' : gr (wr (hap (nw A 9 8) (oS (80 + 5 * k))) 79 k (80 + 5 * k)) 78 0 = 79 := by
      rw [gr_wr, if_neg (by omega), gr_no _ _ _ _ (oS_al _ _ (by omega)) (by omega), gr_nw, if_neg (by omega), hg]
    have hl' : ln (wr (hap (nw A 9 8) (oS (80 + 5 * k))) 79 k (80 + 5 * k)) 79 = 20 := by
      rw [ln_wr, ln_no _ _ _ (by omega), ln_nw, if_neg (by omega), hl]
    have e := ih (k + 1) (n + 9) _ (by omega) (by omega) hz hg' hl'
    rw [pq_X6_init_25 _ _ _ _ _ (by omega), if_pos (by omega), hs, s_init_S d (80 + 5 * k) _ (by omega) hn, cV_v, hg, if_neg (by omega), hl, if_pos (by omega), Int.toNat_natCast, wid (by omega) (by omega), show (k : Int) + 1 = ((k + 1 : Nat) : Int) by omega, e]
    have eo : oP (m + 1) k = (0, 9, 8, 0) :: (oS (80 + 5 * k) ++ ((2, 79, k, ((80 + 5 * k : Nat) : Int)) :: oP m (k + 1))) := rfl
    rw [eo, hap_cons, hap_app, hap_cons, hop_0, hop_2]
def oPa : List (Nat × Nat × Nat × Int) := [(0, 23, 20, 0), (2, 78, 0, 79), (1, 78, 1, 0), (1, 78, 2, 0)] ++ oP 20 0
set_option maxRecDepth 100000 in
theorem s_init_Pa (d : Nat) (A : AH) (hs : sz A = 79) : run (d + 3) 74 [vR 16 78 0] A = some (none, hap A oPa) := by
  have e : run (d + 3) 74 [vR 16 78 0] A = go false 3 (run (d + 2)) (run (d + 2)) pb_X6_init (999999 + 1) 0 [vR 16 78 0, vU] [] A := rfl
  have e2 : wi (wi (naq A 23 78 0 20) 78 1 0) 78 2 0 = hap A [(0, 23, 20, 0), (2, 78, 0, 79), (1, 78, 1, 0), (1, 78, 2, 0)] := by
    rw [naq_hap hs]; rfl
  have hz : sz (wi (wi (naq A 23 78 0 20) 78 1 0) 78 2 0) = 80 := by rw [e2, sz_hap, hs]; rfl
  have hg : gr (wi (wi (naq A 23 78 0 20) 78 1 0) 78 2 0) 78 0 = 79 := by unfold naq; simp -implicitDefEqProofs (disch := omega) only [gr_wi, gr_wr, hs, ↓reduceIte, Int.reduceEq, cI_v, cL_v, cV_v, cR_v, wid, wid64, if_pos, if_neg, Nat.add_zero, if_true, if_false, and_self, and_true, true_and, and_false, false_and, or_true, true_or, or_false, false_or]
  have hl : ln (wi (wi (naq A 23 78 0 20) 78 1 0) 78 2 0) 79 = 20 := by unfold naq; simp -implicitDefEqProofs (disch := omega) only [ln_wi, ln_wr, ln_nw, hs, ↓reduceIte, Int.reduceEq, cI_v, cL_v, cV_v, cR_v, wid, wid64, if_pos, if_neg, Nat.add_zero, if_true, if_false, and_self, and_true, true_and, and_false, false_and, or_true, true_or, or_false, false_or]
  rw [e, pq_X6_init_0]
  have e3 := l_past d 20 0 999999 _ (by omega) (by omega) hz hg hl
  unfold oPa
  rw [hap_app, ← e2]
  exact e3

