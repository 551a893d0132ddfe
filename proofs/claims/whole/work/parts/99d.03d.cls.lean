/-! sittings -/
def flO (p : Nat) (v : Int) : Nat → Nat → List (Nat × Nat × Nat × Int)
  | 0, _ => []
  | m + 1, i => (1, p, i, v) :: flO p v m (i + 1)
theorem nwc_fl (p : Nat) (v : Int) : ∀ (m i : Nat), nwc (flO p v m i) = 0
  | 0, _ => rfl
  | m + 1, i => nwc_fl p v m (i + 1)
theorem nwc_app : ∀ (x y : List (Nat × Nat × Nat × Int)), nwc (x ++ y) = nwc x + nwc y
  | [], y => by show nwc y = 0 + nwc y; omega
  | (0, _, _, _) :: x, y => by
    show nwc (x ++ y) + 1 = nwc x + 1 + nwc y
    rw [nwc_app x y]; omega
  | (t + 1, _, _, _) :: x, y => nwc_app x y
set_option maxRecDepth 100000 in
theorem pq_J7_fill_53178_0 (S SN : SX) (n : Nat) (a0 : Nat) (n0 : Nat) (x1 : Int) (A : AH) (ha0 : a0 ≠ 0) : go false 3 S SN pb_J7_fill_53178 (n + 1) 0 [vR 30 a0 n0, vI x1, vU, vU] [] A =
    go false 3 S SN pb_J7_fill_53178 (n + 0) 5 [vR 30 a0 n0, vI x1, vI 0, vI (n0 : Int)] [] A := by
  obtain ⟨a0, rfl⟩ := Nat.exists_eq_succ_of_ne_zero ha0
  rfl

set_option maxRecDepth 100000 in
theorem pq_J7_fill_53178_5 (S SN : SX) (n : Nat) (a0 : Nat) (n0 : Nat) (x1 : Int) (x2 : Int) (x3 : Int) (A : AH) (ha0 : a0 ≠ 0) : go false 3 S SN pb_J7_fill_53178 (n + 2) 5 [vR 30 a0 n0, vI x1, vI x2, vI x3] [] A =
    if x2 < x3 then
      if (0 : Int) ≤ x2 ∧ x2 < (n0 : Int) then
        go false 3 S SN pb_J7_fill_53178 (n + 1) 14 [vR 30 a0 n0, vI x1, vI x2, vI x3] [] (wi A a0 x2.toNat x1)
      else none
    else
    some (none, A) := by
  obtain ⟨a0, rfl⟩ := Nat.exists_eq_succ_of_ne_zero ha0
  rfl

set_option maxRecDepth 100000 in
theorem pq_J7_fill_53178_14 (S SN : SX) (n : Nat) (a0 : Nat) (n0 : Nat) (x1 : Int) (x2 : Int) (x3 : Int) (A : AH) (ha0 : a0 ≠ 0) : go false 3 S SN pb_J7_fill_53178 (n + 1) 14 [vR 30 a0 n0, vI x1, vI x2, vI x3] [] A =
    go false 3 S SN pb_J7_fill_53178 (n + 0) 5 [vR 30 a0 n0, vI x1, vI (w32 (x2 + 1)), vI x3] [] A := by
  obtain ⟨a0, rfl⟩ := Nat.exists_eq_succ_of_ne_zero ha0
  rfl

set_option maxRecDepth 100000 in
theorem l_fillP (d p N : Nat) (v : Int) (hp : p ≠ 0) (hN : N ≤ 1000) : ∀ (m i n : Nat) (A : AH), i + m = N → 4 * m + 10 ≤ n → go false 3 (run d) (run d) pb_J7_fill_53178 n 5 [vR 30 p N, vI v, vI (i : Int), vI (N : Int)] [] A = some (none, hap A (flO p v m i)) := by
  intro m
  induction m with
  | zero =>
    intro i n A h1 h2
    obtain ⟨n, rfl⟩ : ∃ e, n = e + 10 := ⟨n - 10, by omega⟩
    rw [pq_J7_fill_53178_5 _ _ _ _ _ _ _ _ _ hp, if_neg (by omega)]
    rfl
  | succ m ih =>
    intro i n A h1 h2
    obtain ⟨n, rfl⟩ : ∃ e, n = e + 10 := ⟨n - 10, by omega⟩
    rw [pq_J7_fill_53178_5 _ _ _ _ _ _ _ _ _ hp, if_pos (by omega), if_pos (by omega), Int.toNat_natCast, pq_J7_fill_53178_14 _ _ _ _ _ _ _ _ _ hp, wid (by omega) (by omega), show (i : Int) + 1 = ((i + 1 : Nat) : Int) by omega]
    exact ih (i + 1) _ _ (by omega) (by omega)
set_option maxRecDepth 100000 in
theorem s_fillP (d p N : Nat) (v : Int) (A : AH) (hp : p ≠ 0) (hN : N ≤ 1000) : run (d + 1) 308 [vR 30 p N, vI v] A = some (none, hap A (flO p v N 0)) := by
  have e : run (d + 1) 308 [vR 30 p N, vI v] A = go false 3 (run d) (run d) pb_J7_fill_53178 (999999 + 1) 0 [vR 30 p N, vI v, vU, vU] [] A := rfl
  rw [e, pq_J7_fill_53178_0 _ _ _ _ _ _ _ hp]
  exact l_fillP d p N v hp hN N 0 _ A (by omega) (by omega)
def X9a (A : AH) (a : Nat) : AH := wi (naq (naq (naq (naq (wi (wi (wi A a 0 0) a 1 0) a 2 (-1)) 20 a 3 16) 20 a 4 16) 20 a 5 9) 20 a 6 40) a 7 0
set_option maxRecDepth 100000 in
theorem pq_X9_init (S SN : SX) (n a : Nat) (A : AH) (ha : a ≠ 0) : go false 3 S SN pb_X9_init (n + 1) 0 [vR 19 a 0] [] A = cV (S 308 [vR 30 (gr (X9a A a) a 3) (ln (X9a A a) (gr (X9a A a) a 3)), vI (-1)] (X9a A a)) fun A1 => cV (S 308 [vR 30 (gr A1 a 5) (ln A1 (gr A1 a 5)), vI (-1)] A1) fun A2 => some (none, A2) := by
  obtain ⟨a, rfl⟩ := Nat.exists_eq_succ_of_ne_zero ha
  rfl
def oS0 (a : Nat) : List (Nat × Nat × Nat × Int) := [(1, a, 0, 0), (1, a, 1, 0), (1, a, 2, -1), (0, 20, 16, 0), (2, a, 3, ((a + 1 : Nat) : Int)), (0, 20, 16, 0), (2, a, 4, ((a + 2 : Nat) : Int)), (0, 20, 9, 0), (2, a, 5, ((a + 3 : Nat) : Int)), (0, 20, 40, 0), (2, a, 6, ((a + 4 : Nat) : Int)), (1, a, 7, 0)]
def oS (a : Nat) : List (Nat × Nat × Nat × Int) := oS0 a ++ (flO (a + 1) (-1) 16 0 ++ flO (a + 3) (-1) 9 0)
theorem nwc_S (a : Nat) : nwc (oS a) = 4 := by
  unfold oS
  rw [nwc_app, nwc_app, nwc_fl, nwc_fl]; rfl
theorem naq_hap {A : AH} {s : Nat} (hs : sz A = s) (k a j n : Nat) : naq A k a j n = hap A [(0, k, n, 0), (2, a, j, (s : Int))] := by
  unfold naq; rw [hs]; rfl
theorem X9a_hap (A : AH) (a : Nat) (hs : sz A = a + 1) : X9a A a = hap A (oS0 a) := by
  have z0 : sz (wi (wi (wi A a 0 0) a 1 0) a 2 (-1)) = a + 1 := hs
  obtain ⟨B1, h1⟩ : ∃ B, B = naq (wi (wi (wi A a 0 0) a 1 0) a 2 (-1)) 20 a 3 16 := ⟨_, rfl⟩
  have q1 := h1.trans (naq_hap z0 20 a 3 16)
  have z1 : sz B1 = a + 2 := by rw [q1, sz_hap, z0]; rfl
  obtain ⟨B2, h2⟩ : ∃ B, B = naq B1 20 a 4 16 := ⟨_, rfl⟩
  have q2 := h2.trans (naq_hap z1 20 a 4 16)
  have z2 : sz B2 = a + 3 := by rw [q2, sz_hap, z1]; rfl
  obtain ⟨B3, h3⟩ : ∃ B, B = naq B2 20 a 5 9 := ⟨_, rfl⟩
  have q3 := h3.trans (naq_hap z2 20 a 5 9)
  have z3 : sz B3 = a + 4 := by rw [q3, sz_hap, z2]; rfl
  obtain ⟨B4, h4⟩ : ∃ B, B = naq B3 20 a 6 40 := ⟨_, rfl⟩
  have q4 := h4.trans (naq_hap z3 20 a 6 40)
  unfold X9a
  rw [← h1, ← h2, ← h3, ← h4, q4, q3, q2, q1]
  rfl
set_option maxRecDepth 100000 in
theorem s_init_S (d a : Nat) (A : AH) (ha : a ≠ 0) (hs : sz A = a + 1) : run (d + 2) 94 [vR 19 a 0] A = some (none, hap A (oS a)) := by
  have e : run (d + 2) 94 [vR 19 a 0] A = go false 3 (run (d + 1)) (run (d + 1)) pb_X9_init (999999 + 1) 0 [vR 19 a 0] [] A := rfl
  have g3 : gr (X9a A a) a 3 = a + 1 := by unfold X9a naq; simp -implicitDefEqProofs (disch := omega) only [gr_wi, gr_wr, gr_nw, sz_wi, sz_wr, sz_nw, hs, ↓reduceIte, Int.reduceEq, cI_v, cL_v, cV_v, cR_v, wid, wid64, if_pos, if_neg, Nat.add_zero, if_true, if_false, and_self, and_true, true_and, and_false, false_and, or_true, true_or, or_false, false_or]
  have g5 : gr (X9a A a) a 5 = a + 3 := by unfold X9a naq; simp -implicitDefEqProofs (disch := omega) only [gr_wi, gr_wr, gr_nw, sz_wi, sz_wr, sz_nw, hs, ↓reduceIte, Int.reduceEq, cI_v, cL_v, cV_v, cR_v, wid, wid64, if_pos, if_neg, Nat.add_zero, if_true, if_false, and_self, and_true, true_and, and_false, false_and, or_true, true_or, or_false, false_or]
  have l3 : ln (X9a A a) (a + 1) = 16 := by unfold X9a naq; simp -implicitDefEqProofs (disch := omega) only [ln_wi, ln_wr, ln_nw, sz_wi, sz_wr, sz_nw, hs, ↓reduceIte, Int.reduceEq, cI_v, cL_v, cV_v, cR_v, wid, wid64, if_pos, if_neg, Nat.add_zero, if_true, if_false, and_self, and_true, true_and, and_false, false_and, or_true, true_or, or_false, false_or]
  have l5 : ln (X9a A a) (a + 3) = 9 := by unfold X9a naq; simp -implicitDefEqProofs (disch := omega) only [ln_wi, ln_wr, ln_nw, sz_wi, sz_wr, sz_nw, hs, ↓reduceIte, Int.reduceEq, cI_v, cL_v, cV_v, cR_v, wid, wid64, if_pos, if_neg, Nat.add_zero, if_true, if_false, and_self, and_true, true_and, and_false, false_and, or_true, true_or, or_false, false_or]
  have fg : ∀ (p : Nat) (v : Int) (m i b j : Nat) (B : AH), gr (hap B (flO p v m i)) b j = gr B b j := by
    intro p v m
    induction m with
    | zero => intro i b j B; rfl
    | succ m ih => intro i b j B; exact ih (i + 1) b j (wi B p i v)
  have fs : ∀ (p : Nat) (v : Int) (m i b : Nat) (B : AH), ln (hap B (flO p v m i)) b = ln B b := by
    intro p v m
    induction m with
    | zero => intro i b B; rfl
    | succ m ih => intro i b B; exact ih (i + 1) b (wi B p i v)
  rw [e, pq_X9_init _ _ _ _ _ ha, g3, l3, s_fillP d _ _ _ _ (by omega) (by omega), cV_v, fg, fs, g5, l5, s_fillP d _ _ _ _ (by omega) (by omega), cV_v]
  unfold oS
  rw [hap_app, hap_app, X9a_hap A a hs]
