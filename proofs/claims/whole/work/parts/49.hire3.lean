/-! the call hire: the reference -/
theorem bs_sp (P : Int → Bool) : ∀ (n : Nat) (k v : Int), 0 ≤ k → k + n ≤ 16 → 0 ≤ v → v < ((2 ^ k.toNat : Nat) : Int) → (0 ≤ bsF P n k v ∧ bsF P n k v < ((2 ^ (k + n).toNat : Nat) : Int)) ∧ ∀ x : Int, 0 ≤ x → tb (bsF P n k v) x = (tb v x || (decide (k ≤ x ∧ x < k + n) && P x))
  | 0, k, v, h1, h2, h3, h4 => by
    refine ⟨⟨h3, ?_⟩, fun x hx => ?_⟩
    · rw [show (k + ((0 : Nat) : Int)).toNat = k.toNat by omega]; exact h4
    · rw [decide_eq_false (by omega), Bool.false_and, Bool.or_false]; rfl
  | n + 1, k, v, h1, h2, h3, h4 => by
    unfold bsF
    have ek : ((k.toNat : Nat) : Int) = k := by omega
    by_cases c : P k = true
    · rw [if_pos c]
      have b := bor_bit h3 h4 h1 (by omega)
      obtain ⟨i1, i2⟩ := bs_sp P n (k + 1) (bor v (bshl 1 k)) (by omega) (by omega) b.1 b.2
      refine ⟨⟨i1.1, by rw [show k + ((n + 1 : Nat) : Int) = k + 1 + n by omega]; exact i1.2⟩, fun x hx => ?_⟩
      have t := tb_or (i := k.toNat) h3 h4 (by omega) x hx
      rw [ek] at t
      rw [i2 x hx, t]
      by_cases cx : x = k
      · rw [decide_eq_true cx, decide_eq_true (p := k ≤ x ∧ x < k + ((n + 1 : Nat) : Int)) (by omega), cx, c]; simp
      · rw [decide_eq_false cx]
        by_cases cl : k + 1 ≤ x ∧ x < k + 1 + n
        · rw [decide_eq_true cl, decide_eq_true (p := k ≤ x ∧ x < k + ((n + 1 : Nat) : Int)) (by omega)]; simp
        · rw [decide_eq_false cl, decide_eq_false (p := k ≤ x ∧ x < k + ((n + 1 : Nat) : Int)) (by omega)]; simp
    · have c' : P k = false := by simpa using c
      rw [if_neg c]
      obtain ⟨i1, i2⟩ := bs_sp P n (k + 1) v (by omega) (by omega) h3 (pow_up h4)
      refine ⟨⟨i1.1, by rw [show k + ((n + 1 : Nat) : Int) = k + 1 + n by omega]; exact i1.2⟩, fun x hx => ?_⟩
      rw [i2 x hx]
      by_cases cx : x = k
      · rw [decide_eq_false (p := k + 1 ≤ x ∧ x < k + 1 + n) (by omega), cx, c']; simp
      · by_cases cl : k + 1 ≤ x ∧ x < k + 1 + n
        · rw [decide_eq_true cl, decide_eq_true (p := k ≤ x ∧ x < k + ((n + 1 : Nat) : Int)) (by omega)]
        · rw [decide_eq_false cl, decide_eq_false (p := k ≤ x ∧ x < k + ((n + 1 : Nat) : Int)) (by omega)]
theorem ex_iff {p : Int → Bool} : ∀ (n : Nat) (k : Int), ex p n k = true ↔ ∃ j, k ≤ j ∧ j < k + n ∧ p j = true
  | 0, k => ⟨fun h => by simp [ex] at h, fun ⟨j, h1, h2, _⟩ => by omega⟩
  | n + 1, k => by
    unfold ex
    rw [Bool.or_eq_true, ex_iff n (k + 1)]
    constructor
    · rintro (h | ⟨j, h1, h2, h3⟩)
      · exact ⟨k, by omega, by omega, h⟩
      · exact ⟨j, by omega, by omega, h3⟩
    · rintro ⟨j, h1, h2, h3⟩
      by_cases c : j = k
      · left; rw [← c]; exact h3
      · right; exact ⟨j, by omega, by omega, h3⟩
theorem hd_mask {H : Nat → Nat → Int} {row : Nat → Int} (hc : cok H) {t : Int} (ht1 : 0 ≤ t) (ht2 : t < 256) : (band t (bsF (fun k => sit H row (10 + k)) (nMu H).toNat 0 0) = 0) ↔ hdF H row t (nMu H).toNat 0 = false := by
  unfold cok at hc
  obtain ⟨b1, b2⟩ := bs_sp (fun k => sit H row (10 + k)) (nMu H).toNat 0 0 (by omega) (by omega) (by omega) (by decide)
  have p6 : 2 ^ (0 + ((nMu H).toNat : Int)).toNat ≤ 2 ^ 6 := Nat.pow_le_pow_right (by omega) (by omega)
  obtain ⟨M, hM⟩ : ∃ M, M = bsF (fun k => sit H row (10 + k)) (nMu H).toNat 0 0 := ⟨_, rfl⟩
  rw [← hM] at b1 b2 ⊢
  rw [band_n ht1 (by omega) b1.1 (by omega)]
  constructor
  · intro h
    by_cases c : hdF H row t (nMu H).toNat 0 = true
    · obtain ⟨k, k1, k2, k3⟩ := (ex_iff _ _).mp c
      rw [Bool.and_eq_true] at k3
      have e : (t.toNat &&& M.toNat).testBit k.toNat = true := by
        rw [Nat.testBit_and]
        have m := b2 k k1
        rw [decide_eq_true (by omega), k3.2] at m
        have m0 : tb M k = true := by simpa using m
        have m' : M.toNat.testBit k.toNat = true := m0
        have t' : t.toNat.testBit k.toNat = true := k3.1
        rw [t', m']; rfl
      have z : t.toNat &&& M.toNat = 0 := by omega
      rw [z, Nat.zero_testBit] at e
      cases e
    · simpa using c
  · intro h
    have z : t.toNat &&& M.toNat = 0 := by
      apply Nat.eq_of_testBit_eq
      intro i
      rw [Nat.testBit_and, Nat.zero_testBit]
      have m := b2 i (by omega)
      have m' : M.toNat.testBit i = (decide (0 ≤ (i : Int) ∧ (i : Int) < 0 + ((nMu H).toNat : Int)) && sit H row (10 + i)) := by
        have : tb M i = M.toNat.testBit i := by unfold tb; rw [Int.toNat_natCast]
        rw [← this, m]
        have t0 : tb 0 (i : Int) = false := by unfold tb; simp
        rw [t0, Bool.false_or]
      rw [m']
      by_cases c : 0 ≤ (i : Int) ∧ (i : Int) < 0 + ((nMu H).toNat : Int)
      · have := ex_false _ _ h i c.1 c.2
        have ti : tb t i = t.toNat.testBit i := by unfold tb; rw [Int.toNat_natCast]
        rw [ti] at this
        rw [decide_eq_true c, Bool.true_and]; exact this
      · rw [decide_eq_false c]; simp
    rw [z]; rfl
set_option maxRecDepth 100000 in
theorem l_asideM (d : Nat) (p t : Int) (hp : 0 ≤ p ∧ p ≤ 1) (ht1 : 0 ≤ t) (ht2 : t < 256) (A : AH) {row0 : Nat → Int} (g0 : gok (hv A) row0) : ∀ (j n : Nat) (k : Int) (u4 : AV) (row : Nat → Int) (B : AH), (∀ a i, a ≠ 237 → gi B a i = gi A a i) → (∀ i, 25 ≤ i → gi B 237 i = gi A 237 i) → (∀ a i, gr B a i = gr A a i) → B.2.2 = A.2.2 → nv B = row → gok (hv A) row → (∀ k', k ≤ k' → k' < nMu (hv A) → sit (hv A) row (10 + k') = sit (hv A) row0 (10 + k')) → (row 0 = row0 0 ∧ row 1 = row0 1 ∧ row 2 = row0 2) → hdF (hv A) row0 t j k = false → 0 ≤ k → k + j = nMu (hv A) → 10 * j + 10 ≤ n → ∃ A' v, go true 2 (runF (d + 4)) (runN (d + 4)) pb_X12_areSeated n 2 [vR 21 190 0, vI t, vI p, vI k, u4] [] B = some (some (vI v), A') ∧ (∀ a i, a ≠ 237 → gi A' a i = gi A a i) ∧ (∀ i, 25 ≤ i → gi A' 237 i = gi A 237 i) ∧ (∀ a i, gr A' a i = gr A a i) ∧ A'.2.2 = A.2.2 ∧ ((v = 0 ∧ saF (hv A) p t j k row = none) ∨ (v = 1 ∧ saF (hv A) p t j k row = some (nv A') ∧ gok (hv A) (nv A') ∧ (nv A' 0 = row0 0 ∧ nv A' 1 = row0 1 ∧ nv A' 2 = row0 2))) := by
  have hc := g0.1
  unfold cok at hc
  intro j
  induction j with
  | zero =>
    intro n k u4 row B f f2 fr fs hR g hsame h0 hd h1 h2 hn
    obtain ⟨n, rfl⟩ : ∃ e, n = e + 10 := ⟨n - 10, by omega⟩
    have eh : hv B = hv A := hv_fr (fun a i q1 q2 => f a i (by omega))
    refine ⟨B, 1, ?_, f, f2, fr, fs, Or.inr ⟨rfl, by rw [hR]; rfl, by rw [hR]; exact g, by rw [hR]; exact h0⟩⟩
    rw [q_X12_areSeated_2, s_muteMany, cI_v, eh, if_neg (by omega)]
  | succ j ih =>
    intro n k u4 row B f f2 fr fs hR g hsame h0 hd h1 h2 hn
    obtain ⟨n, rfl⟩ : ∃ e, n = e + 10 := ⟨n - 10, by omega⟩
    have eh : hv B = hv A := hv_fr (fun a i q1 q2 => f a i (by omega))
    have hde : hdF (hv A) row0 t (j + 1) k = ((tb t k && sit (hv A) row0 (10 + k)) || hdF (hv A) row0 t j (k + 1)) := rfl
    rw [hde, Bool.or_eq_false_iff] at hd
    rw [q_X12_areSeated_2, s_muteMany, cI_v, eh, if_pos (by omega), band_tb ht1 (by omega) h1 (by omega)]
    by_cases c : tb t k = true
    · have sae : saF (hv A) p t (j + 1) k row = if freeF (hv A) row = -1 then none else saF (hv A) p t j (k + 1) (muR row k (freeF (hv A) row) p) := by rw [saF, if_pos c]
      have cs' : sit (hv A) row0 (10 + k) = false := by have := hd.1; rw [c, Bool.true_and] at this; exact this
      have csr : sit (hv A) row (10 + k) = false := by rw [hsame k (by omega) (by omega)]; exact cs'
      rw [c, bI_t, if_neg (by omega), s_freeM d B (by rw [eh]; exact g.1), eh, hR, cI_v]
      by_cases cf : freeF (hv A) row = -1
      · refine ⟨B, 0, ?_, f, f2, fr, fs, Or.inl ⟨rfl, by rw [sae, if_pos cf]⟩⟩
        rw [if_pos cf]
      · rcases free_rng g.1 row with q | ⟨q1, q2, q3⟩
        · exact absurd q cf
        · have ms := fun y => mu_sit g.1 (row := row) (z := freeF (hv A) row) (p := p) h1 (by omega : k < nMu (hv A)) y
          have g' := mu_gok g h1 (by omega) hp ⟨q1, q2⟩ q3 csr
          obtain ⟨A', v, u1, u2, u3, u4', u5, u6⟩ := ih (n + 5) (k + 1) (vI (freeF (hv A) row)) (muR row k (freeF (hv A) row) p) (wi (wi B 237 (13 + k).toNat (freeF (hv A) row)) 237 (19 + k).toNat p) (fun a i q => by rw [gi_wi, if_neg (by omega), gi_wi, if_neg (by omega)]; exact f a i q) (fun i q => by rw [gi_wi, if_neg (by omega), gi_wi, if_neg (by omega)]; exact f2 i q) fr fs (by rw [nv_up, nv_up, hR]; rfl) g' (fun k' k1 k2 => by rw [ms, if_neg (by omega)]; exact hsame k' (by omega) k2) ⟨by rw [mu_ne h1 (by omega) (by omega)]; exact h0.1, by rw [mu_ne h1 (by omega) (by omega)]; exact h0.2.1, by rw [mu_ne h1 (by omega) (by omega)]; exact h0.2.2⟩ hd.2 (by omega) (by omega) (by omega)
          refine ⟨A', v, ?_, u2, u3, u4', u5, by rw [sae, if_neg cf]; exact u6⟩
          rw [if_neg cf, wid (x := 13 + k) (by omega) (by omega), if_pos (by omega), q_X12_areSeated_46, wid (x := 19 + k) (by omega) (by omega), if_pos (by omega), q_X12_areSeated_56, wid (by omega) (by omega)]
          exact u1
    · have c' : tb t k = false := by simpa using c
      have sae : saF (hv A) p t (j + 1) k row = saF (hv A) p t j (k + 1) row := by rw [saF, if_neg c]
      obtain ⟨A', v, u1, u2, u3, u4', u5, u6⟩ := ih (n + 8) (k + 1) u4 row B f f2 fr fs hR g (fun k' k1 k2 => hsame k' (by omega) k2) h0 hd.2 (by omega) (by omega) (by omega)
      refine ⟨A', v, ?_, u2, u3, u4', u5, by rw [sae]; exact u6⟩
      rw [c', bI_f, if_pos rfl, q_X12_areSeated_56, wid (by omega) (by omega)]
      exact u1
set_option maxRecDepth 100000 in
theorem l_puts (d : Nat) (A : AH) : ∀ (j n : Nat) (k : Int) (B : AH), 0 ≤ k → k + j = 146 → (∀ a i, a ≠ 238 → gi B a i = gi A a i) → (∀ i : Nat, (i : Int) < k → gi B 238 i = gi A 237 i) → (∀ a i, gr B a i = gr A a i) → B.2.2 = A.2.2 → 10 * j + 10 ≤ n → ∃ A', go true 3 (runF d) (runN d) pb_X12_putsAside n 2 [vR 21 190 0, vI k] [] B = some (none, A') ∧ (∀ a i, a ≠ 238 → gi A' a i = gi A a i) ∧ (∀ i : Nat, i < 146 → gi A' 238 i = gi A 237 i) ∧ (∀ a i, gr A' a i = gr A a i) ∧ A'.2.2 = A.2.2 := by
  intro j
  induction j with
  | zero =>
    intro n k B h1 h2 f g r s hn
    obtain ⟨n, rfl⟩ : ∃ e, n = e + 10 := ⟨n - 10, by omega⟩
    refine ⟨B, ?_, f, fun i hi => g i (by omega), r, s⟩
    rw [q_X12_putsAside_2, if_neg (by omega)]
  | succ j ih =>
    intro n k B h1 h2 f g r s hn
    obtain ⟨n, rfl⟩ : ∃ e, n = e + 10 := ⟨n - 10, by omega⟩
    obtain ⟨A', u⟩ := ih (n + 8) (k + 1) (wi B 238 k.toNat (gi A 237 k.toNat)) (by omega) (by omega) (fun a i q => by rw [gi_wi, if_neg (by omega)]; exact f a i q) (fun i hi => by
      rw [gi_wi]
      by_cases c : i = k.toNat
      · rw [if_pos ⟨rfl, c⟩, c]
      · rw [if_neg (by omega)]; exact g i (by omega)) r s (by omega)
    refine ⟨A', ?_, u.2⟩
    rw [q_X12_putsAside_2, if_pos (by omega), if_pos (by omega), if_pos (by omega), f 237 _ (by omega), q_X12_putsAside_21, wid (by omega) (by omega)]
    exact u.1
set_option maxRecDepth 100000 in
theorem l_takes (d : Nat) (A : AH) : ∀ (j n : Nat) (k : Int) (B : AH), 0 ≤ k → k + j = 146 → (∀ a i, a ≠ 237 → gi B a i = gi A a i) → (∀ i : Nat, gi B 237 i = if (i : Int) < k then gi A 238 i else gi A 237 i) → (∀ a i, gr B a i = gr A a i) → B.2.2 = A.2.2 → 10 * j + 10 ≤ n → ∃ A', go true 3 (runF d) (runN d) pb_X12_takesBack n 2 [vR 21 190 0, vI k] [] B = some (none, A') ∧ (∀ a i, a ≠ 237 → gi A' a i = gi A a i) ∧ (∀ i : Nat, gi A' 237 i = if i < 146 then gi A 238 i else gi A 237 i) ∧ (∀ a i, gr A' a i = gr A a i) ∧ A'.2.2 = A.2.2 := by
  intro j
  induction j with
  | zero =>
    intro n k B h1 h2 f g r s hn
    obtain ⟨n, rfl⟩ : ∃ e, n = e + 10 := ⟨n - 10, by omega⟩
    refine ⟨B, ?_, f, fun i => ?_, r, s⟩
    · rw [q_X12_takesBack_2, if_neg (by omega)]
    · rw [g]
      by_cases c : i < 146
      · rw [if_pos c, if_pos (by omega)]
      · rw [if_neg c, if_neg (by omega)]
  | succ j ih =>
    intro n k B h1 h2 f g r s hn
    obtain ⟨n, rfl⟩ : ∃ e, n = e + 10 := ⟨n - 10, by omega⟩
    obtain ⟨A', u⟩ := ih (n + 8) (k + 1) (wi B 237 k.toNat (gi A 238 k.toNat)) (by omega) (by omega) (fun a i q => by rw [gi_wi, if_neg (by omega)]; exact f a i q) (fun i => by
      rw [gi_wi]
      by_cases c : i = k.toNat
      · rw [if_pos ⟨rfl, c⟩, if_pos (by omega), c]
      · rw [if_neg (by omega), g]
        by_cases c2 : (i : Int) < k
        · rw [if_pos c2, if_pos (by omega)]
        · rw [if_neg c2, if_neg (by omega)]) r s (by omega)
    refine ⟨A', ?_, u.2⟩
    rw [q_X12_takesBack_2, if_pos (by omega), if_pos (by omega), if_pos (by omega), f 238 _ (by omega), q_X12_takesBack_21, wid (by omega) (by omega)]
    exact u.1
