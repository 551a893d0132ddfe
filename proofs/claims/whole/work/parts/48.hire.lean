/-! the call hire: seats for mutes, their cost -/
def freeF (H : Nat → Nat → Int) (row : Nat → Int) : Int := ff (fun z => decide (whoF H row z = -1)) (nSe H).toNat 0
def saF (H : Nat → Nat → Int) (p t : Int) : Nat → Int → (Nat → Int) → Option (Nat → Int)
  | 0, _, row => some row
  | n + 1, k, row => if tb t k = true then (if freeF H row = -1 then none else saF H p t n (k + 1) (muR row k (freeF H row) p)) else saF H p t n (k + 1) row
def hdF (H : Nat → Nat → Int) (row : Nat → Int) (t : Int) : Nat → Int → Bool := ex (fun k => tb t k && sit H row (10 + k))
def cstF (H : Nat → Nat → Int) (t : Int) : Int := sm (fun k => if tb t k = true then H 227 (13 + 2 * k).toNat else 0) (nMu H).toNat 0
theorem free_rng {H : Nat → Nat → Int} (hc : cok H) (row : Nat → Int) : freeF H row = -1 ∨ (0 ≤ freeF H row ∧ freeF H row < nSe H ∧ whoF H row (freeF H row) = -1) := by
  unfold cok at hc
  rcases ff_rng (p := fun z => decide (whoF H row z = -1)) (nSe H).toNat 0 with h | ⟨h1, h2, h3⟩
  · exact Or.inl h
  · refine Or.inr ⟨h1, ?_, of_decide_eq_true h3⟩
    have : freeF H row < 0 + ((nSe H).toNat : Int) := h2
    omega
set_option maxRecDepth 100000 in
theorem l_freeC (d : Nat) {s : Nat} {H : Nat → Nat → Int} {row : Nat → Int} (A : AH) (hc : cok H) (hd : dok H row) (b7 : SR A s H row) : ∀ (j n : Nat) (k : Int), 0 ≤ k → k + j = nSe H → 10 * j + 10 ≤ n → go true 0 (runF (d + 1)) (runN (d + 1)) pb_X9_firstFree n 2 [vR 19 s 0, vI (nSe H), vI k] [] A = some (some (vI (ff (fun z => decide (whoF H row z = -1)) j k)), A) := by
  have hs0 : s ≠ 0 := b7.1
  have hc' := hc
  unfold cok at hc'
  intro j
  induction j with
  | zero =>
    intro n k h1 h2 hn
    obtain ⟨n, rfl⟩ : ∃ e, n = e + 10 := ⟨n - 10, by omega⟩
    rw [q_X9_firstFree_2 _ _ _ _ _ _ _ hs0, if_neg (by omega), ff]
  | succ j ih =>
    intro n k h1 h2 hn
    obtain ⟨n, rfl⟩ : ∃ e, n = e + 10 := ⟨n - 10, by omega⟩
    rw [q_X9_firstFree_2 _ _ _ _ _ _ _ hs0, if_pos (by omega), s_whoSits d s k A H row hc hd b7, cI_v, ff]
    by_cases c : whoF H row k = -1
    · rw [if_pos c, if_pos (decide_eq_true c)]
    · rw [if_neg c, if_neg (by simpa using c), wid (by omega) (by omega)]
      exact ih _ _ (by omega) (by omega) (by omega)
set_option maxRecDepth 100000 in
theorem s_freeC (d : Nat) {s : Nat} {H : Nat → Nat → Int} {row : Nat → Int} (A : AH) (hc : cok H) (hd : dok H row) (b7 : SR A s H row) : runF (d + 2) 103 [vR 19 s 0, vI (nSe H)] A = some (some (vI (freeF H row)), A) := by
  have hc' := hc
  unfold cok at hc'
  rw [r_X9_firstFree, q_X9_firstFree_0 _ _ _ _ _ _ b7.1, l_freeC d A hc hd b7 (nSe H).toNat _ 0 (by omega) (by omega) (by have := fu_ge; omega)]; rfl
set_option maxRecDepth 100000 in
theorem l_freeM (d : Nat) (A : AH) (hc : cok (hv A)) : ∀ (j n : Nat) (k : Int), 0 ≤ k → k + j = nSe (hv A) → 10 * j + 10 ≤ n → go true 0 (runF (d + 3)) (runN (d + 3)) pb_X12_freeSeat n 2 [vR 21 190 0, vI k] [] A = some (some (vI (ff (fun z => decide (whoF (hv A) (nv A) z = -1)) j k)), A) := by
  have hc' := hc
  unfold cok at hc'
  intro j
  induction j with
  | zero =>
    intro n k h1 h2 hn
    obtain ⟨n, rfl⟩ : ∃ e, n = e + 10 := ⟨n - 10, by omega⟩
    rw [q_X12_freeSeat_2, s_seatMany, cI_v, if_neg (by omega), ff]
  | succ j ih =>
    intro n k h1 h2 hn
    obtain ⟨n, rfl⟩ : ∃ e, n = e + 10 := ⟨n - 10, by omega⟩
    have e := s_sitterAt d k A hc
    rw [show ff (fun i => sit (hv A) (nv A) i && decide (seatR (nv A) i = k)) 16 0 = whoF (hv A) (nv A) k from rfl] at e
    rw [q_X12_freeSeat_2, s_seatMany, cI_v, if_pos (by omega), e, cI_v, ff]
    by_cases c : whoF (hv A) (nv A) k = -1
    · rw [if_pos c, if_pos (decide_eq_true c)]
    · rw [if_neg c, if_neg (by simpa using c), wid (by omega) (by omega)]
      exact ih _ _ (by omega) (by omega) (by omega)
set_option maxRecDepth 100000 in
theorem s_freeM (d : Nat) (A : AH) (hc : cok (hv A)) : runF (d + 4) 235 [vR 21 190 0] A = some (some (vI (freeF (hv A) (nv A))), A) := by
  have hc' := hc
  unfold cok at hc'
  rw [r_X12_freeSeat, q_X12_freeSeat_0, l_freeM d A hc (nSe (hv A)).toNat _ 0 (by omega) (by omega) (by have := fu_ge; omega)]; rfl
theorem mu_cost {H : Nat → Nat → Int} (hh : hok H) {k : Int} (h1 : 0 ≤ k) (h2 : k < 6) : 0 ≤ H 227 (13 + 2 * k).toNat ∧ H 227 (13 + 2 * k).toNat ≤ 99 := hh.2.2.1 _ (by omega) (by omega)
set_option maxRecDepth 100000 in
theorem l_costC (d : Nat) {h : Nat} {H : Nat → Nat → Int} (A : AH) (hc : cok H) (hh : hok H) (b6 : HR A h H) (t : Int) (ht1 : 0 ≤ t) (ht2 : t < 256) : ∀ (j n : Nat) (k v : Int), 0 ≤ k → k + j = nMu H → 0 ≤ v → v ≤ 99 * k → 10 * j + 10 ≤ n → go true 0 (runF d) (runN d) pb_X3_costOf n 4 [vR 13 h 0, vI t, vI v, vI k] [] A = some (some (vI (v + sm (fun k => if tb t k = true then H 227 (13 + 2 * k).toNat else 0) j k)), A) := by
  have hh0 : h ≠ 0 := by have := b6.1; omega
  unfold cok at hc
  have e5 := b6.2.1.2.2.2.2.1
  intro j
  induction j with
  | zero =>
    intro n k v h1 h2 h3 h4 hn
    obtain ⟨n, rfl⟩ : ∃ e, n = e + 10 := ⟨n - 10, by omega⟩
    rw [q_X3_costOf_4 _ _ _ _ _ _ _ _ hh0, e5, if_neg (by omega), sm, Int.add_zero]
  | succ j ih =>
    intro n k v h1 h2 h3 h4 hn
    obtain ⟨n, rfl⟩ : ∃ e, n = e + 10 := ⟨n - 10, by omega⟩
    have cb := mu_cost hh h1 (by omega)
    have e := b6.2.2.2.2.2.1 k h1 (by omega)
    rw [q_X3_costOf_4 _ _ _ _ _ _ _ _ hh0, e5, if_pos (by omega), band_tb ht1 (by omega) h1 (by omega), sm]
    by_cases c : tb t k = true
    · rw [c, bI_t, if_neg (by omega), if_pos (by omega), e, wid (by omega) (by omega), q_X3_costOf_29 _ _ _ _ _ _ _ _ hh0, wid (by omega) (by omega), if_pos rfl, ih _ _ _ (by omega) (by omega) (by omega) (by omega) (by omega), Int.add_assoc]
    · rw [show tb t k = false by simpa using c, bI_f, if_pos rfl, q_X3_costOf_29 _ _ _ _ _ _ _ _ hh0, wid (by omega) (by omega), if_neg (by simp), Int.zero_add]
      exact ih _ _ _ (by omega) (by omega) (by omega) (by omega) (by omega)
set_option maxRecDepth 100000 in
theorem s_costC (d : Nat) {h : Nat} {H : Nat → Nat → Int} (A : AH) (hc : cok H) (hh : hok H) (b6 : HR A h H) (t : Int) (ht1 : 0 ≤ t) (ht2 : t < 256) : runF (d + 1) 52 [vR 13 h 0, vI t] A = some (some (vI (cstF H t)), A) := by
  have hh0 : h ≠ 0 := by have := b6.1; omega
  have hc' := hc
  unfold cok at hc'
  rw [r_X3_costOf, q_X3_costOf_0 _ _ _ _ _ _ hh0, l_costC d A hc hh b6 t ht1 ht2 (nMu H).toNat _ 0 0 (by omega) (by omega) (by omega) (by omega) (by have := fu_ge; omega), Int.zero_add]; rfl
set_option maxRecDepth 100000 in
theorem l_costM (d : Nat) (A : AH) (hc : cok (hv A)) (hh : hok (hv A)) (t : Int) (ht1 : 0 ≤ t) (ht2 : t < 256) : ∀ (j n : Nat) (k v : Int), 0 ≤ k → k + j = nMu (hv A) → 0 ≤ v → v ≤ 99 * k → 10 * j + 10 ≤ n → go true 0 (runF (d + 1)) (runN (d + 1)) pb_X12_costsOf n 4 [vR 21 190 0, vI t, vI v, vI k] [] A = some (some (vI (v + sm (fun k => if tb t k = true then hv A 227 (13 + 2 * k).toNat else 0) j k)), A) := by
  unfold cok at hc
  intro j
  induction j with
  | zero =>
    intro n k v h1 h2 h3 h4 hn
    obtain ⟨n, rfl⟩ : ∃ e, n = e + 10 := ⟨n - 10, by omega⟩
    rw [q_X12_costsOf_4, s_muteMany, cI_v, if_neg (by omega), sm, Int.add_zero]
  | succ j ih =>
    intro n k v h1 h2 h3 h4 hn
    obtain ⟨n, rfl⟩ : ∃ e, n = e + 10 := ⟨n - 10, by omega⟩
    have cb := mu_cost hh h1 (by omega)
    rw [q_X12_costsOf_4, s_muteMany, cI_v, if_pos (by omega), band_tb ht1 (by omega) h1 (by omega), sm]
    by_cases c : tb t k = true
    · rw [c, bI_t, if_pos rfl, wid (x := 2 * k) (by omega) (by omega), wid (x := 13 + 2 * k) (by omega) (by omega), if_pos (by omega), e227 A (by omega), wid (by omega) (by omega), q_X12_costsOf_35, wid (by omega) (by omega), if_pos rfl, ih _ _ _ (by omega) (by omega) (by omega) (by omega) (by omega), Int.add_assoc]
    · rw [show tb t k = false by simpa using c, bI_f, if_neg (by omega), q_X12_costsOf_35, wid (by omega) (by omega), if_neg (by simp), Int.zero_add]
      exact ih _ _ _ (by omega) (by omega) (by omega) (by omega) (by omega)
set_option maxRecDepth 100000 in
theorem s_costM (d : Nat) (A : AH) (hc : cok (hv A)) (hh : hok (hv A)) (t : Int) (ht1 : 0 ≤ t) (ht2 : t < 256) : runF (d + 2) 238 [vR 21 190 0, vI t] A = some (some (vI (cstF (hv A) t)), A) := by
  have hc' := hc
  unfold cok at hc'
  rw [r_X12_costsOf, q_X12_costsOf_0, l_costM d A hc hh t ht1 ht2 (nMu (hv A)).toNat _ 0 0 (by omega) (by omega) (by omega) (by omega) (by have := fu_ge; omega), Int.zero_add]; rfl
theorem bits_all : ∀ k : Fin 256, k.val = 0 ∨ (bcF (k.val : Int) = 1 + bcF ((k.val &&& (k.val - 1) : Nat) : Int) ∧ (k.val &&& (k.val - 1)) < k.val) := by decide +kernel
set_option maxRecDepth 100000 in
theorem l_bits (d : Nat) (x0 : Int) (A : AH) : ∀ (m n : Nat) (s v : Int), 0 ≤ s → s ≤ m → s < 256 → 0 ≤ v → v + m ≤ 10000 → 2 * m + 10 ≤ n → go true 0 (runF d) (runN d) pb_X12_bits n 4 [vI x0, vI v, vI s] [] A = some (some (vI (v + bcF s)), A) := by
  intro m
  induction m with
  | zero =>
    intro n s v h1 h2 h3 h4 h5 hn
    obtain ⟨n, rfl⟩ : ∃ e, n = e + 10 := ⟨n - 10, by omega⟩
    have : s = 0 := by omega
    subst this
    rw [q_X12_bits_4, if_pos rfl]
    rw [show bcF 0 = 0 by decide, Int.add_zero]
  | succ m ih =>
    intro n s v h1 h2 h3 h4 h5 hn
    obtain ⟨n, rfl⟩ : ∃ e, n = e + 2 := ⟨n - 2, by omega⟩
    rw [q_X12_bits_4]
    by_cases c : s = 0
    · subst c
      rw [if_pos rfl, show bcF 0 = 0 by decide, Int.add_zero]
    · have b := bits_all ⟨s.toNat, by omega⟩
      simp only at b
      rw [show ((s.toNat : Nat) : Int) = s by omega] at b
      rcases b with b | ⟨b1, b2⟩
      · omega
      · have eb : band s (s - 1) = ((s.toNat &&& (s.toNat - 1) : Nat) : Int) := by
          rw [band_n h1 (by omega) (by omega) (by omega), show (s - 1).toNat = s.toNat - 1 by omega]
        rw [if_neg c, wid (x := v + 1) (by omega) (by omega), wid (x := s - 1) (by omega) (by omega), eb, ih (n + 1) _ (v + 1) (Int.natCast_nonneg _) (by omega) (by omega) (by omega) (by omega) (by omega), b1, Int.add_assoc]
set_option maxRecDepth 100000 in
theorem s_bitsM (d : Nat) (x : Int) (A : AH) (h1 : 0 ≤ x) (h2 : x < 256) : runF (d + 1) 237 [vI x] A = some (some (vI (bcF x)), A) := by
  rw [r_X12_bits, q_X12_bits_0, l_bits d x A 256 _ x 0 h1 (by omega) h2 (by omega) (by omega) (by have := fu_ge; omega), Int.zero_add]
def chpF (H : Nat → Nat → Int) (t b : Int) : Bool := decide (bcF t < bcF b) || (decide (bcF t = bcF b) && decide (cstF H t < cstF H b))
set_option maxRecDepth 100000 in
theorem s_isCheaper (d : Nat) {h : Nat} {H : Nat → Nat → Int} (A : AH) (hc : cok H) (hh : hok H) (b6 : HR A h H) (t b : Int) (ht1 : 0 ≤ t) (ht2 : t < 256) (hb1 : 0 ≤ b) (hb2 : b < 256) : runF (d + 2) 21 [vR 13 h 0, vI t, vI b] A = some (some (vI (bI (chpF H t b))), A) := by
  have hh0 : h ≠ 0 := by have := b6.1; omega
  have b1 := bc_bd t
  have b2 := bc_bd b
  rw [r_X1_isCheaper, q_X1_isCheaper_0 _ _ _ _ _ _ _ hh0, s_bitCount _ b A hb1 hb2, cI_v, s_bitCount _ t A ht1 ht2, cI_v, wid (by omega) (by omega)]
  unfold chpF
  by_cases c1 : bcF t < bcF b
  · rw [if_pos (by omega), q_X1_isCheaper_31 _ _ _ _ _ _ _ _ hh0, decide_eq_true c1]; rfl
  · rw [if_neg (by omega), decide_eq_false c1]
    by_cases c2 : bcF t = bcF b
    · rw [if_pos (by omega), s_costC _ A hc hh b6 t ht1 ht2, cI_v, s_costC _ A hc hh b6 b hb1 hb2, cI_v, decide_eq_true c2]
      by_cases c3 : cstF H t < cstF H b
      · rw [if_pos c3, q_X1_isCheaper_31 _ _ _ _ _ _ _ _ hh0, decide_eq_true c3]; rfl
      · rw [if_neg c3, q_X1_isCheaper_35 _ _ _ _ _ _ _ _ hh0, decide_eq_false c3]; rfl
    · rw [if_neg (by omega), q_X1_isCheaper_35 _ _ _ _ _ _ _ _ hh0, decide_eq_false c2]; rfl
/-- a row with a mute more is as sound -/
theorem mu_gok {H : Nat → Nat → Int} {row : Nat → Int} (g : gok H row) {k p z : Int} (hk1 : 0 ≤ k) (hk2 : k < nMu H) (hp : 0 ≤ p ∧ p ≤ 1) (hz : 0 ≤ z ∧ z < nSe H) (hw : whoF H row z = -1) (hs : sit H row (10 + k) = false) : gok H (muR row k z p) := by
  have hc := g.1
  unfold cok at hc
  have ms := fun y => mu_sit g.1 (row := row) (z := z) (p := p) hk1 hk2 y
  refine ⟨g.1, g.2.1, g.2.2.1, mu_rok hk1 (by omega) (by omega) hp (by omega) g.2.2.2.1, fun x hx => ?_, fun x y hx hy e => ?_⟩
  · rw [ms] at hx
    by_cases c : x = 10 + k
    · rw [mu_seat hk1 (by omega) (by omega), if_pos c]; exact hz
    · rw [if_neg c] at hx
      have := sit_num g.1 hx
      unfold num at this
      rw [mu_seat hk1 (by omega) (by omega), if_neg c]; exact g.2.2.2.2.1 x hx
  · have nx := sit_num g.1 hx
    have ny := sit_num g.1 hy
    unfold num at nx ny
    rw [ms] at hx hy
    rw [mu_seat hk1 (by omega) (by omega), mu_seat hk1 (by omega) (by omega)] at e
    by_cases cx : x = 10 + k
    · by_cases cy : y = 10 + k
      · rw [cx, cy]
      · rw [if_neg cy] at hy
        rw [if_pos cx, if_neg cy] at e
        exact absurd e.symm (who_free hw (by omega) (by omega) hy)
    · rw [if_neg cx] at hx
      by_cases cy : y = 10 + k
      · rw [if_neg cx, if_pos cy] at e
        exact absurd e (who_free hw (by omega) (by omega) hx)
      · rw [if_neg cy] at hy
        rw [if_neg cx, if_neg cy] at e
        exact g.2.2.2.2.2 x y hx hy e
set_option maxRecDepth 100000 in
theorem l_asideC (d : Nat) (p t : Int) (hp : 0 ≤ p ∧ p ≤ 1) (ht1 : 0 ≤ t) (ht2 : t < 256) {h : Nat} {H : Nat → Nat → Int} {row0 : Nat → Int} (A : AH) (b6 : HR A h H) (b7 : SR A 68 H row0) (g0 : gok H row0) : ∀ (j n : Nat) (k : Int) (u6 : AV) (row : Nat → Int) (B : AH), frW 73 A B → SR B 73 H row → gok H row → (∀ k', k ≤ k' → k' < nMu H → sit H row (10 + k') = sit H row0 (10 + k')) → (row 0 = row0 0 ∧ row 1 = row0 1 ∧ row 2 = row0 2) → 0 ≤ k → k + j = nMu H → 10 * j + 10 ≤ n → (∃ A' r, go true 2 (runF (d + 2)) (runN (d + 2)) pb_X1_seatAside n 11 [vR 11 185 0, vR 13 h 0, vR 19 68 0, vI p, vI t, vI k, u6] [] B = some (some (vI 1), A') ∧ hdF H row0 t j k = false ∧ saF H p t j k row = some r ∧ frW 73 A A' ∧ SR A' 73 H r ∧ gok H r ∧ (r 0 = row0 0 ∧ r 1 = row0 1 ∧ r 2 = row0 2)) ∨ (∃ A', go true 2 (runF (d + 2)) (runN (d + 2)) pb_X1_seatAside n 11 [vR 11 185 0, vR 13 h 0, vR 19 68 0, vI p, vI t, vI k, u6] [] B = some (some (vI 0), A') ∧ (hdF H row0 t j k = true ∨ saF H p t j k row = none) ∧ frW 73 A A') := by
  have hh0 : h ≠ 0 := by have := b6.1; omega
  have hhr := b6.1
  have hc := g0.1
  unfold cok at hc
  intro j
  induction j with
  | zero =>
    intro n k u6 row B f sB g hsame h0 h1 h2 hn
    obtain ⟨n, rfl⟩ : ∃ e, n = e + 10 := ⟨n - 10, by omega⟩
    left
    refine ⟨B, row, ?_, rfl, rfl, f, sB, g, h0⟩
    rw [q_X1_seatAside_11 _ _ _ _ _ _ _ _ _ _ hh0 (by omega), f.1 h 5 (by omega), b6.2.1.2.2.2.2.1, if_neg (by omega)]
  | succ j ih =>
    intro n k u6 row B f sB g hsame h0 h1 h2 hn
    obtain ⟨n, rfl⟩ : ∃ e, n = e + 10 := ⟨n - 10, by omega⟩
    have hde : hdF H row0 t (j + 1) k = ((tb t k && sit H row0 (10 + k)) || hdF H row0 t j (k + 1)) := rfl
    have e5 : gi B h 5 = nMu H := by rw [f.1 h 5 (by omega)]; exact b6.2.1.2.2.2.2.1
    have e1 : gi B h 1 = nSe H := by rw [f.1 h 1 (by omega)]; exact b6.2.1.1
    rw [q_X1_seatAside_11 _ _ _ _ _ _ _ _ _ _ hh0 (by omega), e5, if_pos (by omega), band_tb ht1 (by omega) h1 (by omega), e1]
    by_cases c : tb t k = true
    · have sae : saF H p t (j + 1) k row = if freeF H row = -1 then none else saF H p t j (k + 1) (muR row k (freeF H row) p) := by rw [saF, if_pos c]
      rw [c, bI_t, if_neg (by omega), s_freeC d B g.1 g.2.2.2.2 sB, cI_v]
      by_cases cf : freeF H row = -1
      · right
        refine ⟨B, ?_, Or.inr (by rw [sae, if_pos cf]), f⟩
        rw [if_pos cf]
      · rcases free_rng g.1 row with q | ⟨q1, q2, q3⟩
        · exact absurd q cf
        · have s68 : SR B 68 H row0 := SR_fr (fun a j h1 h2 => f.1 a j (by omega)) b7
          rw [if_neg cf, wid (x := 10 + k) (by omega) (by omega), s_isThere _ 68 _ B H row0 g0.1 g0.2.2.2.2 s68, cI_v]
          by_cases cs : sit H row0 (10 + k) = true
          · right
            refine ⟨B, ?_, Or.inl (by rw [hde, c, cs]; rfl), f⟩
            rw [cs, bI_t, if_neg (by omega)]
          · have cs' : sit H row0 (10 + k) = false := by simpa using cs
            have csr : sit H row (10 + k) = false := by rw [hsame k (by omega) (by omega)]; exact cs'
            have ms := fun y => mu_sit g.1 (row := row) (z := freeF H row) (p := p) h1 (by omega : k < nMu H) y
            obtain ⟨s1, s2⟩ := SR_put (row' := muR row k (freeF H row) p) (x := 10 + k) (p := p) (z := freeF H row) g.1 sB g.2.2.2.2 (by omega) (by omega) q1 q2 csr q3 ⟨mu_ne h1 (by omega) (by omega), mu_ne h1 (by omega) (by omega), mu_ne h1 (by omega) (by omega)⟩ ⟨by rw [ms, if_pos rfl, decide_eq_true (by omega)], by rw [mu_seat h1 (by omega) (by omega), if_pos rfl], by rw [mu_party h1 (by omega), if_pos rfl]⟩ (fun y hy => ⟨by rw [ms, if_neg hy], fun hs => by
              have := sit_num g.1 hs
              unfold num at this
              exact ⟨by rw [mu_seat h1 (by omega) (by omega), if_neg hy], by rw [mu_party h1 (by omega), if_neg hy]⟩⟩)
            have g' := mu_gok g h1 (by omega) hp ⟨q1, q2⟩ q3 csr
            obtain ⟨B1, hB1⟩ : ∃ B1, B1 = wi (wi (wi B (73 + 1) (10 + k).toNat (freeF H row)) (73 + 2) (10 + k).toNat p) (73 + 3) (freeF H row).toNat (10 + k) := ⟨_, rfl⟩
            rw [← hB1] at s1
            have f1 : frW 73 A B1 := by rw [hB1]; exact frW_wi _ (by omega) (frW_wi _ (by omega) (frW_wi _ (by omega) f))
            rw [cs', bI_f, if_pos rfl, s_putP _ 73 _ _ _ B (by omega) (by omega) (by omega) q1 (by omega), cV_v, ← hB1, q_X1_seatAside_78 _ _ _ _ _ _ _ _ _ _ hh0 (by omega), wid (by omega) (by omega), hde, c, cs', sae, if_neg cf]
            exact ih (n + 7) (k + 1) (vI (freeF H row)) (muR row k (freeF H row) p) B1 f1 s1 g' (fun k' k1 k2 => by rw [ms, if_neg (by omega)]; exact hsame k' (by omega) k2) ⟨by rw [mu_ne h1 (by omega) (by omega)]; exact h0.1, by rw [mu_ne h1 (by omega) (by omega)]; exact h0.2.1, by rw [mu_ne h1 (by omega) (by omega)]; exact h0.2.2⟩ (by omega) (by omega) (by omega)
    · have c' : tb t k = false := by simpa using c
      have sae : saF H p t (j + 1) k row = saF H p t j (k + 1) row := by rw [saF, if_neg c]
      rw [c', bI_f, if_pos rfl, q_X1_seatAside_78 _ _ _ _ _ _ _ _ _ _ hh0 (by omega), wid (by omega) (by omega), hde, c', sae]
      exact ih (n + 8) (k + 1) u6 row B f sB g (fun k' k1 k2 => hsame k' (by omega) k2) h0 (by omega) (by omega) (by omega)
