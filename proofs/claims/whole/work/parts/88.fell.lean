/-! the calls odds and fell -/
def whF (v : Int) : Int := if 0 < v then 0 else if v < 0 then 1 else 2
def odC (H : Nat → Nat → Int) (row : Nat → Int) (m a q w y : Int) (S : Nat) : Int := if whF (swF H row m a q S) = w then y + pm (gCh H S) 8 0 else y
set_option maxRecDepth 100000 in
theorem l_oddC (d h : Nat) {H : Nat → Nat → Int} {row : Nat → Int} {m a q : Int} (w : Int) (F : Nat) (A : AH) (b : BS A h 68 H row m a q) (g : gok H row) (hT : TR A H row m a q) (hF : ∀ i, F.testBit i = itB H i) : ∀ (j n S : Nat) (y : Int) (u8 u9 : AV), S + j = 256 → 0 ≤ y → y ≤ (S : Int) * 10000000000000000 → 20 * j + 20 ≤ n → go true 0 (runF (d + 2)) (runN (d + 2)) pb_X1_oddsOf n 28 [vR 11 185 0, vR 13 h 0, vR 19 68 0, vI w, vI F, vL y, vS, vI S, u8, u9] [] A = some (some (vI (((List.range' S j).filter (okS (itB H) 8)).foldl (odC H row m a q w) y / 10000000000)), A) := by
  have hh0 : h ≠ 0 := by have := b.2.2.1.1; omega
  have n68 : (68 : Nat) ≠ 0 := by omega
  intro j
  induction j with
  | zero =>
    intro n S y u8 u9 h1 h2 h3 hn
    obtain ⟨n, rfl⟩ : ∃ e, n = e + 10 := ⟨n - 10, by omega⟩
    rw [q_X1_oddsOf_28 (ha1 := hh0) (ha2 := n68), if_neg (by omega), Int.tdiv_eq_ediv_of_nonneg h2, wid64 (by omega) (by omega), wid (by omega) (by omega)]
    rfl
  | succ j ih =>
    intro n S y u8 u9 h1 h2 h3 hn
    obtain ⟨n, rfl⟩ : ∃ e, n = e + 20 := ⟨n - 20, by omega⟩
    have fz : band (S : Int) (bxor F (-1)) = 0 ↔ okS (itB H) 8 S = true := by
      rw [band_free (by omega), okS_sp]
      exact ⟨fun z i hi ht => by rw [← hF]; exact z i hi ht, fun z i hi ht => by rw [hF]; exact z i hi ht⟩
    have nx : ∀ (k : Nat) (y' : Int) (u8 u9 : AV), n + 5 ≤ k → 0 ≤ y' → y' ≤ ((S + 1 : Nat) : Int) * 10000000000000000 → go true 0 (runF (d + 2)) (runN (d + 2)) pb_X1_oddsOf (k + 1) 99 [vR 11 185 0, vR 13 h 0, vR 19 68 0, vI w, vI F, vL y', vS, vI S, u8, u9] [] A = some (some (vI (((List.range' (S + 1) j).filter (okS (itB H) 8)).foldl (odC H row m a q w) y' / 10000000000)), A) := by
      intro k y' u8 u9 hk y1 y2
      rw [q_X1_oddsOf_99 (ha1 := hh0) (ha2 := n68), wid (by omega) (by omega), show (S : Int) + 1 = ((S + 1 : Nat) : Int) by omega, Nat.add_zero k]
      exact ih k (S + 1) y' u8 u9 (by omega) y1 y2 (by omega)
    rw [q_X1_oddsOf_28 (ha1 := hh0) (ha2 := n68), if_pos (by omega), List.range'_succ, List.filter_cons]
    by_cases c : okS (itB H) 8 S = true
    · have cb := pm_bd (gCh H S) 8 0 (fun i => by have := icF_bd g.1 g.2.1 i; unfold gCh; split <;> omega)
      have e100 : (100 : Int) ^ 8 = 10000000000000000 := by decide
      rw [e100] at cb
      have fin : ∀ (k : Nat) (x : Int) (u8 : Int) (u9 : AV), n + 8 ≤ k → x = whF (swF H row m a q S) → go true 0 (runF (d + 2)) (runN (d + 2)) pb_X1_oddsOf (k + 2) 76 [vR 11 185 0, vR 13 h 0, vR 19 68 0, vI w, vI F, vL y, vS, vI S, vI u8, u9] [vI x] A = some (some (vI ((S :: (List.range' (S + 1) j).filter (okS (itB H) 8)).foldl (odC H row m a q w) y / 10000000000)), A) := by
        intro k x u8 u9 hk hx
        rw [q_X1_oddsOf_76 (ha1 := hh0) (ha2 := n68), List.foldl_cons]
        by_cases cx : x = w
        · have eo : odC H row m a q w y S = y + pm (gCh H S) 8 0 := by unfold odC; rw [← hx, if_pos cx]
          rw [if_pos cx, s_chances _ h g.1 g.2.1 A b.2.2.1 S (by omega) (by omega), cL_v, q_X1_oddsOf_96 (ha1 := hh0) (ha2 := n68), wid64 (by omega) (by omega), eo, Nat.add_zero k]
          obtain ⟨k', rfl⟩ : ∃ k', k = k' + 1 := ⟨k - 1, by omega⟩
          exact nx k' _ _ _ (by omega) (by omega) (by omega)
        · have eo : odC H row m a q w y S = y := by unfold odC; rw [← hx, if_neg cx]
          obtain ⟨k', rfl⟩ : ∃ k', k = k' + 2 := ⟨k - 2, by omega⟩
          rw [if_neg cx, Nat.add_zero (k' + 2), q_X1_oddsOf_96 (ha1 := hh0) (ha2 := n68), Int.add_zero, wid64 (by omega) (by omega), eo, Nat.add_zero (k' + 1)]
          exact nx k' _ _ _ (by omega) (by omega) (by omega)
      rw [if_pos (fz.mpr c), s_swing _ _ A b g hT (by omega) (by omega), cI_v, if_pos c]
      by_cases c1 : 0 < swF H row m a q S
      · rw [if_pos c1]; exact fin (n + 17) 0 _ _ (by omega) (by unfold whF; rw [if_pos c1])
      · rw [if_neg c1]
        by_cases c2 : swF H row m a q S < 0
        · rw [if_pos c2]; exact fin (n + 16) 1 _ _ (by omega) (by unfold whF; rw [if_neg c1, if_pos c2])
        · rw [if_neg c2]; exact fin (n + 15) 2 _ _ (by omega) (by unfold whF; rw [if_neg c1, if_neg c2])
    · rw [if_neg (fun z => c (fz.mp z)), if_neg c]
      exact nx (n + 18) y _ _ (by omega) h2 (by omega)
theorem pm_bd2 (f : Int → Int) : ∀ (n k : Nat), (∀ i : Nat, k ≤ i → i < k + n → 0 ≤ f i ∧ f i ≤ 100) → 0 ≤ pm f n k ∧ pm f n k ≤ ((100 ^ n : Nat) : Int)
  | 0, _, _ => by simp [pm]
  | n + 1, k, h => by
    have ih := pm_bd2 f n (k + 1) (fun i h1 h2 => h i (by omega) (by omega))
    have := h k (by omega) (by omega)
    rw [pm, Int.mul_comm, show (k : Int) + 1 = ((k + 1 : Nat) : Int) by omega]
    exact mul_100 ih.1 ih.2 this.1 this.2
theorem ways_bd {B A : AH} (mB : mok B) (h : LI B A 16) (s : Int) : 0 ≤ pm (gWy A s) (cn (itB (hv B)) 16) 0 ∧ pm (gWy A s) (cn (itB (hv B)) 16) 0 ≤ ((100 ^ cn (itB (hv B)) 16 : Nat) : Int) := by
  refine pm_bd2 (gWy A s) (cn (itB (hv B)) 16) 0 (fun k h1 h2 => ?_)
  obtain ⟨i, i1, i2, i3, i4, i5, i6⟩ := LI_k mB h (k := k) (by omega)
  have ib := itch_bd mB.2.1 (num_8 i1)
  unfold gWy
  rw [Int.toNat_natCast, i4, LI_hv h]
  split <;> omega
def odM (B A : AH) (w y : Int) (s : Nat) : Int := if whF (sm (oth (hv B) (nv B) (nv B 0) (nv B 2) (gi B 190 65)) 16 0 + sm (gMv A s) (cn (itB (hv B)) 16) 0) = w then y + pm (gWy A s) (cn (itB (hv B)) 16) 0 else y
set_option maxRecDepth 100000 in
theorem s_oddT (d : Nat) (w y : Int) (c : Nat) (A : AH) (u5 : AV) (h : gi A 190 69 = c) (hc : c ≤ 8) (h1 : 0 ≤ y) (h2 : y ≤ 256 * ((100 ^ c : Nat) : Int)) (n : Nat) : go true 0 (runF d) (runN d) pb_X12_odds (n + 30) 86 [vR 21 190 0, vI w, vL y, vS, vI c, u5] [] A = some (some (vI (y * 100 ^ (8 - c) / 10000000000)), A) := by
  have td : ∀ z : Int, 0 ≤ z → z.tdiv 100 = z / 100 := fun z hz => Int.tdiv_eq_ediv_of_nonneg hz
  have c9 : c = 0 ∨ c = 1 ∨ c = 2 ∨ c = 3 ∨ c = 4 ∨ c = 5 ∨ c = 6 ∨ c = 7 ∨ c = 8 := by omega
  have w3 : w32 (0 + 1) = 1 ∧ w32 (1 + 1) = 2 ∧ w32 (2 + 1) = 3 ∧ w32 (3 + 1) = 4 ∧ w32 (4 + 1) = 5 ∧ w32 (5 + 1) = 6 ∧ w32 (6 + 1) = 7 ∧ w32 (7 + 1) = 8 := ⟨wid (by omega) (by omega), wid (by omega) (by omega), wid (by omega) (by omega), wid (by omega) (by omega), wid (by omega) (by omega), wid (by omega) (by omega), wid (by omega) (by omega), wid (by omega) (by omega)⟩
  obtain ⟨v1, v2, v3, v4, v5, v6, v7, v8⟩ := w3
  have s7 : ∀ (k : Nat) (y x : Int), x < c → 0 ≤ y → y < 9000000000000000000 → go true 0 (runF d) (runN d) pb_X12_odds (k + 2) 107 [vR 21 190 0, vI w, vL y, vS, vI x, u5] [] A = go true 0 (runF d) (runN d) pb_X12_odds (k + 1) 107 [vR 21 190 0, vI w, vL (y / 100), vS, vI (w32 (x + 1)), u5] [] A := fun k y x hx hy hy2 => by
    rw [q_X12_odds_107, h, if_pos hx, td y hy, wid64 (by omega) (by omega)]
  have e7 : ∀ (k : Nat) (y x : Int), ¬ x < c → 0 ≤ y → y < 2147483648 → go true 0 (runF d) (runN d) pb_X12_odds (k + 2) 107 [vR 21 190 0, vI w, vL y, vS, vI x, u5] [] A = some (some (vI y), A) := fun k y x hx hy hy2 => by
    rw [q_X12_odds_107, h, if_neg hx, wid (by omega) (by omega)]
  have s6 : ∀ (k : Nat) (y x : Int), x < 3 → 0 ≤ y → y < 9000000000000000 → go true 0 (runF d) (runN d) pb_X12_odds (k + 2) 86 [vR 21 190 0, vI w, vL y, vS, vI x, u5] [] A = go true 0 (runF d) (runN d) pb_X12_odds (k + 1) 86 [vR 21 190 0, vI w, vL (y * 100), vS, vI (w32 (x + 1)), u5] [] A := fun k y x hx hy hy2 => by
    rw [q_X12_odds_86, if_pos hx, wid64 (by omega) (by omega)]
  have e6 : ∀ (k : Nat) (y x : Int), ¬ x < 3 → go true 0 (runF d) (runN d) pb_X12_odds (k + 2) 86 [vR 21 190 0, vI w, vL y, vS, vI x, u5] [] A = go true 0 (runF d) (runN d) pb_X12_odds k 107 [vR 21 190 0, vI w, vL y, vS, vI 3, u5] [] A := fun k y x hx => by
    rw [q_X12_odds_86, if_neg hx, Nat.add_zero k]
  rcases c9 with rfl | rfl | rfl | rfl | rfl | rfl | rfl | rfl | rfl
  · show go true 0 (runF d) (runN d) pb_X12_odds (n + 30) 86 [vR 21 190 0, vI w, vL y, vS, vI 0, u5] [] A = _
    rw [s6 (n + 28) _ _ (by omega) (by omega) (by omega), v1, s6 (n + 27) _ _ (by omega) (by omega) (by omega), v2, s6 (n + 26) _ _ (by omega) (by omega) (by omega), v3, e6 (n + 25) _ _ (by omega), e7 (n + 23) _ _ (by omega) (by omega) (by omega)]
    refine congrArg (fun z => some (some (vI z), A)) ?_
    simp only [Nat.reduceSub, Int.reducePow]; omega
  · show go true 0 (runF d) (runN d) pb_X12_odds (n + 30) 86 [vR 21 190 0, vI w, vL y, vS, vI 1, u5] [] A = _
    rw [s6 (n + 28) _ _ (by omega) (by omega) (by omega), v2, s6 (n + 27) _ _ (by omega) (by omega) (by omega), v3, e6 (n + 26) _ _ (by omega), e7 (n + 24) _ _ (by omega) (by omega) (by omega)]
    refine congrArg (fun z => some (some (vI z), A)) ?_
    simp only [Nat.reduceSub, Int.reducePow]; omega
  · show go true 0 (runF d) (runN d) pb_X12_odds (n + 30) 86 [vR 21 190 0, vI w, vL y, vS, vI 2, u5] [] A = _
    rw [s6 (n + 28) _ _ (by omega) (by omega) (by omega), v3, e6 (n + 27) _ _ (by omega), e7 (n + 25) _ _ (by omega) (by omega) (by omega)]
    refine congrArg (fun z => some (some (vI z), A)) ?_
    simp only [Nat.reduceSub, Int.reducePow]; omega
  · show go true 0 (runF d) (runN d) pb_X12_odds (n + 30) 86 [vR 21 190 0, vI w, vL y, vS, vI 3, u5] [] A = _
    rw [e6 (n + 28) _ _ (by omega), e7 (n + 26) _ _ (by omega) (by omega) (by omega)]
    refine congrArg (fun z => some (some (vI z), A)) ?_
    simp only [Nat.reduceSub, Int.reducePow]; omega
  · show go true 0 (runF d) (runN d) pb_X12_odds (n + 30) 86 [vR 21 190 0, vI w, vL y, vS, vI 4, u5] [] A = _
    rw [e6 (n + 28) _ _ (by omega), s7 (n + 26) _ _ (by omega) (by omega) (by omega), v4, e7 (n + 25) _ _ (by omega) (by omega) (by omega)]
    refine congrArg (fun z => some (some (vI z), A)) ?_
    simp only [Nat.reduceSub, Int.reducePow]; omega
  · show go true 0 (runF d) (runN d) pb_X12_odds (n + 30) 86 [vR 21 190 0, vI w, vL y, vS, vI 5, u5] [] A = _
    rw [e6 (n + 28) _ _ (by omega), s7 (n + 26) _ _ (by omega) (by omega) (by omega), v4, s7 (n + 25) _ _ (by omega) (by omega) (by omega), v5, e7 (n + 24) _ _ (by omega) (by omega) (by omega)]
    refine congrArg (fun z => some (some (vI z), A)) ?_
    simp only [Nat.reduceSub, Int.reducePow]; omega
  · show go true 0 (runF d) (runN d) pb_X12_odds (n + 30) 86 [vR 21 190 0, vI w, vL y, vS, vI 6, u5] [] A = _
    rw [e6 (n + 28) _ _ (by omega), s7 (n + 26) _ _ (by omega) (by omega) (by omega), v4, s7 (n + 25) _ _ (by omega) (by omega) (by omega), v5, s7 (n + 24) _ _ (by omega) (by omega) (by omega), v6, e7 (n + 23) _ _ (by omega) (by omega) (by omega)]
    refine congrArg (fun z => some (some (vI z), A)) ?_
    simp only [Nat.reduceSub, Int.reducePow]; omega
  · show go true 0 (runF d) (runN d) pb_X12_odds (n + 30) 86 [vR 21 190 0, vI w, vL y, vS, vI 7, u5] [] A = _
    rw [e6 (n + 28) _ _ (by omega), s7 (n + 26) _ _ (by omega) (by omega) (by omega), v4, s7 (n + 25) _ _ (by omega) (by omega) (by omega), v5, s7 (n + 24) _ _ (by omega) (by omega) (by omega), v6, s7 (n + 23) _ _ (by omega) (by omega) (by omega), v7, e7 (n + 22) _ _ (by omega) (by omega) (by omega)]
    refine congrArg (fun z => some (some (vI z), A)) ?_
    simp only [Nat.reduceSub, Int.reducePow]; omega
  · show go true 0 (runF d) (runN d) pb_X12_odds (n + 30) 86 [vR 21 190 0, vI w, vL y, vS, vI 8, u5] [] A = _
    rw [e6 (n + 28) _ _ (by omega), s7 (n + 26) _ _ (by omega) (by omega) (by omega), v4, s7 (n + 25) _ _ (by omega) (by omega) (by omega), v5, s7 (n + 24) _ _ (by omega) (by omega) (by omega), v6, s7 (n + 23) _ _ (by omega) (by omega) (by omega), v7, s7 (n + 22) _ _ (by omega) (by omega) (by omega), v8, e7 (n + 21) _ _ (by omega) (by omega) (by omega)]
    refine congrArg (fun z => some (some (vI z), A)) ?_
    simp only [Nat.reduceSub, Int.reducePow]; omega
set_option maxRecDepth 100000 in
theorem l_oddM (d : Nat) (w : Int) (B A : AH) (mB : mok B) (h : LI B A 16) : ∀ (j n s : Nat) (y : Int) (u5 : AV), s + j = 2 ^ cn (itB (hv B)) 16 → 0 ≤ y → y ≤ (s : Int) * ((100 ^ cn (itB (hv B)) 16 : Nat) : Int) → 20 * j + 60 ≤ n → go true 0 (runF (d + 3)) (runN (d + 3)) pb_X12_odds n 23 [vR 21 190 0, vI w, vL y, vS, vI s, u5] [] A = some (some (vI ((List.range' s j).foldl (odM B A w) y * 100 ^ (8 - cn (itB (hv B)) 16) / 10000000000)), A) := by
  have c8 := cn_id (itB (hv B)) 8
  rw [← cn_16 mB.1] at c8
  have c69 := h.2.2.2.1
  have p8 : 2 ^ cn (itB (hv B)) 16 ≤ 2 ^ 8 := Nat.pow_le_pow_right (by omega) c8
  have q8 : 100 ^ cn (itB (hv B)) 16 ≤ 100 ^ 8 := Nat.pow_le_pow_right (by omega) c8
  have esh : bshl 1 (gi A 190 69) = ((2 ^ cn (itB (hv B)) 16 : Nat) : Int) := by rw [c69, bshl_1 (by omega) (by omega), Int.toNat_natCast]
  obtain ⟨C, hC⟩ : ∃ C, C = cn (itB (hv B)) 16 := ⟨_, rfl⟩
  intro j
  induction j with
  | zero =>
    intro n s y u5 h1 h2 h3 hn
    obtain ⟨n, rfl⟩ : ∃ e, n = e + 33 := ⟨n - 33, by omega⟩
    have hb : y ≤ 256 * ((100 ^ cn (itB (hv B)) 16 : Nat) : Int) := Int.le_trans h3 (Int.mul_le_mul_of_nonneg_right (by omega) (Int.natCast_nonneg _))
    rw [q_X12_odds_23, esh, if_neg (by omega), c69]
    exact s_oddT _ w y _ A u5 c69 c8 h2 hb (n + 1)
  | succ j ih =>
    intro n s y u5 h1 h2 h3 hn
    obtain ⟨n, rfl⟩ : ∃ e, n = e + 30 := ⟨n - 30, by omega⟩
    have wb := ways_bd mB h s
    have h3' : y ≤ 256 * ((100 ^ cn (itB (hv B)) 16 : Nat) : Int) := Int.le_trans h3 (Int.mul_le_mul_of_nonneg_right (by omega) (Int.natCast_nonneg _))
    have up : ((s + 1 : Nat) : Int) * ((100 ^ cn (itB (hv B)) 16 : Nat) : Int) = (s : Int) * ((100 ^ cn (itB (hv B)) 16 : Nat) : Int) + ((100 ^ cn (itB (hv B)) 16 : Nat) : Int) := by
      rw [Int.natCast_add, Int.add_mul]; simp
    have fin : ∀ (k : Nat) (x : Int) (u5 : Int), n + 20 ≤ k → x = whF (sm (oth (hv B) (nv B) (nv B 0) (nv B 2) (gi B 190 65)) 16 0 + sm (gMv A s) (cn (itB (hv B)) 16) 0) → go true 0 (runF (d + 3)) (runN (d + 3)) pb_X12_odds (k + 2) 62 [vR 21 190 0, vI w, vL y, vS, vI s, vI u5] [vI x, vI w] A = some (some (vI ((s :: List.range' (s + 1) j).foldl (odM B A w) y * 100 ^ (8 - cn (itB (hv B)) 16) / 10000000000)), A) := by
      intro k x u5 hk hx
      rw [q_X12_odds_62, List.foldl_cons]
      by_cases cx : w = x
      · have eo : odM B A w y s = y + pm (gWy A s) (cn (itB (hv B)) 16) 0 := by unfold odM; rw [← hx, if_pos cx.symm]
        rw [if_pos cx, s_ways _ B A mB h s (by omega) (by omega), cL_v, wid64 (by omega) (by omega), q_X12_odds_74, wid (by omega) (by omega), eo, show (s : Int) + 1 = ((s + 1 : Nat) : Int) by omega]
        exact ih k (s + 1) _ _ (by omega) (by omega) (by rw [up]; omega) (by omega)
      · have eo : odM B A w y s = y := by unfold odM; rw [← hx, if_neg (fun z => cx z.symm)]
        rw [if_neg cx, q_X12_odds_74, wid (by omega) (by omega), eo, show (s : Int) + 1 = ((s + 1 : Nat) : Int) by omega]
        exact ih k (s + 1) _ _ (by omega) (by omega) (by rw [up]; omega) (by omega)
    rw [q_X12_odds_23, esh, if_pos (by omega), s_moved _ B A mB h s (by omega) (by omega), cI_v, List.range'_succ]
    by_cases c1 : 0 < sm (oth (hv B) (nv B) (nv B 0) (nv B 2) (gi B 190 65)) 16 0 + sm (gMv A s) (cn (itB (hv B)) 16) 0
    · rw [if_pos c1]; exact fin (n + 27) 0 _ (by omega) (by unfold whF; rw [if_pos c1])
    · rw [if_neg c1]
      by_cases c2 : sm (oth (hv B) (nv B) (nv B 0) (nv B 2) (gi B 190 65)) 16 0 + sm (gMv A s) (cn (itB (hv B)) 16) 0 < 0
      · rw [if_pos c2]; exact fin (n + 26) 1 _ (by omega) (by unfold whF; rw [if_neg c1, if_pos c2])
      · rw [if_neg c2]; exact fin (n + 25) 2 _ (by omega) (by unfold whF; rw [if_neg c1, if_neg c2])
theorem c_odds (d n : Nat) (w : Int) (A : AH) (r : REL n A) : CP (d + 9) n 122 234 [vI w] A := by
  have g := REL_g r
  have b6 := r.2.2.1
  have b7 := r.2.1.1
  have hm := r.2.1.2.2.2.2.1
  have ha := g.2.2.2.1.2.2
  have hh0 : gr A 40 5 ≠ 0 := by have := b6.1; omega
  have n68 : (68 : Nat) ≠ 0 := by omega
  by_cases c : 0 ≤ w ∧ w ≤ 2
  · obtain ⟨F, f1, f2, f3⟩ := s_itching (d + 6) (gr A 40 5) g.1 g.2.1 A b6
    obtain ⟨A1, e1, e2, e3⟩ := s_look (d + 5) (gr A 40 5) 68 A b6 b7 (by omega)
    obtain ⟨A2, t1, t2, t3, t4⟩ := s_tally (d + 1) A1 e2.1 g ha.1 ha.2 hm.1 (by omega) e2.2
    have b2 : BS A2 (gr A 40 5) 68 (hv A) (nv A) (nv A 0) (nv A 2) (-1) := BS_frT t4 e2.1
    have u := l_oddC (d + 5) (gr A 40 5) w F A2 b2 g t2 f3 256 (fu + 199) 0 0 vU vU (by omega) (by omega) (by omega) (by have := fu_ge; omega)
    refine CP_q r (vI ((prs (itB (hv A)) 8).foldl (fun y p => odC (hv A) (nv A) (nv A 0) (nv A 2) (-1) w y p.2) 0 / 10000000000)) ⟨A2, ?_, sc_trans (frL_sc e3) (frT_sc t4)⟩ (fun A3 f => ?_)
    · rw [r_X11_odds, q_X11_odds_0, if_neg (by omega), if_neg (by omega), r_X1_oddsOf, q_X1_oddsOf_0 (ha1 := hh0) (ha2 := n68), f1, cI_v, e1, cV_v, t1, cV_v, Nat.add_zero (fu + 199)]
      rw [← fold_2 (itB (hv A)) 8 (odC (hv A) (nv A) (nv A 0) (nv A 2) (-1) w) 0]
      rw [show (2 ^ 8 : Nat) = 256 from rfl]
      have u' : go true 0 (runF (d + 7)) (runN (d + 7)) pb_X1_oddsOf (fu + 199) 28 [vR 11 185 0, vR 13 (gr A 40 5) 0, vR 19 68 0, vI w, vI F, vL 0, vS, vI 0, vU, vU] [] A2 = _ := u
      rw [u', cI_v]
    · have m3 := mok_sc f (REL_mok r)
      obtain ⟨A4, l1, l2⟩ := s_laysI (d + 1) A3 m3
      have v := l_oddM (d + 5) w A3 A4 m3 l2 (2 ^ cn (itB (hv A3)) 16) (fu + 198) 0 0 vU (by omega) (by omega) (by omega) (by
        have := fu_ge
        have c8 := cn_id (itB (hv A3)) 8
        rw [← cn_16 m3.1] at c8
        have p8 : 2 ^ cn (itB (hv A3)) 16 ≤ 2 ^ 8 := Nat.pow_le_pow_right (by omega) c8
        omega)
      have v' : go true 0 (runF (d + 8)) (runN (d + 8)) pb_X12_odds (fu + 198) 23 [vR 21 190 0, vI w, vL 0, vS, vI 0, vU] [] A4 = _ := v
      refine ⟨A4, ?_, LI_sc l2⟩
      rw [r_X12_odds, q_X12_odds_0, s_isIn, cI_v, decide_eq_true c, bI_t, if_neg (by omega), l1, cV_v, Nat.add_zero (fu + 198), v']
      have eq : (prs (itB (hv A)) 8).foldl (fun y p => odC (hv A) (nv A) (nv A 0) (nv A 2) (-1) w y p.2) 0 = (List.range' 0 (2 ^ cn (itB (hv A3)) 16)).foldl (odM A3 A4 w) 0 * 100 ^ (8 - cn (itB (hv A3)) 16) := by
        rw [cn_16 m3.1, fold_1]
        have e3h : hv A = hv A3 := (sc_hv f).symm
        have e3n : nv A = nv A3 := (sc_nv f).symm
        have e3q : (-1 : Int) = gi A3 190 65 := by rw [sc_q f]; exact r.2.2.2.1.symm
        rw [e3h, e3n, e3q]
        refine fold_rel (fun x y => x = y * 100 ^ (8 - cn (itB (hv A3)) 8)) _ _ (prs (itB (hv A3)) 8) 0 0 (fun p hp x y hxy => ?_) (by simp)
        have pm1 := pr_moved m3 l2 hp
        have pw1 := pr_ways m3 l2 hp
        unfold odC odM
        rw [pm1]
        by_cases z : whF (swF (hv A3) (nv A3) (nv A3 0) (nv A3 2) (gi A3 190 65) p.2) = w
        · rw [if_pos z, if_pos z, hxy, pw1, cn_16 m3.1, Int.add_mul]
        · rw [if_neg z, if_neg z, hxy]
      rw [eq]
  · refine CP_q r (vI (-1)) ⟨A, ?_, sc_refl A⟩ (fun A1 f => ⟨A1, ?_, sc_refl A1⟩)
    · rw [r_X11_odds, q_X11_odds_0]
      by_cases c1 : w < 0
      · rw [if_pos c1]
      · rw [if_neg c1, if_pos (by omega)]
    · rw [r_X12_odds, q_X12_odds_0, s_isIn, cI_v, decide_eq_false c, bI_f, if_pos rfl]
