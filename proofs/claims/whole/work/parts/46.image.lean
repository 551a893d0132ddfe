/-! the call image -/
def ckF (f : Nat → Int) : Nat → Nat → Int → Int
  | 0, _, c => c
  | n + 1, k, c => ckF f n (k + 1) ((3 * c + f k) % 251)
theorem ck_bd (f : Nat → Int) : ∀ (n k : Nat) (c : Int), 0 ≤ c → c ≤ 250 → 0 ≤ ckF f n k c ∧ ckF f n k c ≤ 250
  | 0, _, _, h1, h2 => ⟨h1, h2⟩
  | n + 1, k, c, h1, h2 => ck_bd f n (k + 1) _ (by omega) (by omega)
theorem ck_cg {f g : Nat → Int} : ∀ (n k : Nat) (c : Int), (∀ j, k ≤ j → j < k + n → f j = g j) → ckF f n k c = ckF g n k c
  | 0, _, _, _ => rfl
  | n + 1, k, c, h => by
    unfold ckF
    rw [h k (by omega) (by omega)]
    exact ck_cg n (k + 1) _ (fun j h1 h2 => h j (by omega) (by omega))
set_option maxRecDepth 100000 in
theorem l_checkC (d p N : Nat) (x : Int) (A : AH) (hp : p ≠ 0) (hx : x ≤ N) (hx2 : x ≤ 2000) (f : Nat → Int) (hf : ∀ j : Nat, (j : Int) < x → gi A p j = f j ∧ 0 ≤ f j ∧ f j ≤ 255) : ∀ (j n k : Nat) (c : Int), (k : Int) + j = x → 0 ≤ c → c ≤ 250 → 10 * j + 10 ≤ n → go true 0 (runF d) (runN d) pb_X5_checkOf n 6 [vR 30 p N, vI x, vI c, vI k] [] A = some (some (vI (ckF f j k c)), A) := by
  intro j
  induction j with
  | zero =>
    intro n k c h1 h2 h3 hn
    obtain ⟨n, rfl⟩ : ∃ e, n = e + 10 := ⟨n - 10, by omega⟩
    rw [q_X5_checkOf_6 _ _ _ _ _ _ _ _ _ hp, if_neg (by omega), ckF]
  | succ j ih =>
    intro n k c h1 h2 h3 hn
    obtain ⟨n, rfl⟩ : ∃ e, n = e + 10 := ⟨n - 10, by omega⟩
    have q := hf k (by omega)
    have tm : (3 * c + f k).tmod 251 = (3 * c + f k) % 251 := Int.tmod_eq_emod_of_nonneg (by omega)
    rw [q_X5_checkOf_6 _ _ _ _ _ _ _ _ _ hp, if_pos (by omega), if_pos (by omega), Int.toNat_natCast, q.1, wid (x := 3 * c) (by omega) (by omega), wid (x := 3 * c + f k) (by omega) (by omega), tm, wid (by omega) (by omega), ckF]
    exact ih _ (k + 1) _ (by omega) (by omega) (by omega) (by omega)
set_option maxRecDepth 100000 in
theorem s_checkC (d p N : Nat) (x : Int) (A : AH) (hp : p ≠ 0) (hx : x ≤ N) (hx0 : 0 ≤ x) (hx2 : x ≤ 2000) (f : Nat → Int) (hf : ∀ j : Nat, (j : Int) < x → gi A p j = f j ∧ 0 ≤ f j ∧ f j ≤ 255) : runF (d + 1) 70 [vR 30 p N, vI x] A = some (some (vI (ckF f x.toNat 0 229)), A) := by
  rw [r_X5_checkOf, q_X5_checkOf_0 _ _ _ _ _ _ _ hp]
  exact l_checkC d p N x A hp hx hx2 f hf x.toNat _ 0 229 (by omega) (by omega) (by omega) (by have := fu_ge; omega)
set_option maxRecDepth 100000 in
theorem l_checkM (d p N : Nat) (x : Int) (A : AH) (hp : p ≠ 0) (hx : x ≤ N) (hx2 : x ≤ 2000) (f : Nat → Int) (hf : ∀ j : Nat, (j : Int) < x → gi A p j = f j ∧ 0 ≤ f j ∧ f j ≤ 255) : ∀ (j n k : Nat) (c : Int), (k : Int) + j = x → 0 ≤ c → c ≤ 250 → 10 * j + 10 ≤ n → go true 0 (runF d) (runN d) pb_X12_checked n 6 [vR 30 p N, vI x, vI c, vI k] [] A = some (some (vI (ckF f j k c)), A) := by
  intro j
  induction j with
  | zero =>
    intro n k c h1 h2 h3 hn
    obtain ⟨n, rfl⟩ : ∃ e, n = e + 10 := ⟨n - 10, by omega⟩
    rw [q_X12_checked_6 _ _ _ _ _ _ _ _ _ hp, if_neg (by omega), ckF]
  | succ j ih =>
    intro n k c h1 h2 h3 hn
    obtain ⟨n, rfl⟩ : ∃ e, n = e + 10 := ⟨n - 10, by omega⟩
    have q := hf k (by omega)
    have tm : (3 * c + f k).tmod 251 = (3 * c + f k) % 251 := Int.tmod_eq_emod_of_nonneg (by omega)
    rw [q_X12_checked_6 _ _ _ _ _ _ _ _ _ hp, if_pos (by omega), if_pos (by omega), Int.toNat_natCast, q.1, wid (x := 3 * c) (by omega) (by omega), wid (x := 3 * c + f k) (by omega) (by omega), tm, wid (by omega) (by omega), ckF]
    exact ih _ (k + 1) _ (by omega) (by omega) (by omega) (by omega)
set_option maxRecDepth 100000 in
theorem s_checkM (d p N : Nat) (x : Int) (A : AH) (hp : p ≠ 0) (hx : x ≤ N) (hx0 : 0 ≤ x) (hx2 : x ≤ 2000) (f : Nat → Int) (hf : ∀ j : Nat, (j : Int) < x → gi A p j = f j ∧ 0 ≤ f j ∧ f j ≤ 255) : runF (d + 1) 291 [vR 30 p N, vI x] A = some (some (vI (ckF f x.toNat 0 229)), A) := by
  rw [r_X12_checked, q_X12_checked_0 _ _ _ _ _ _ _ hp]
  exact l_checkM d p N x A hp hx hx2 f hf x.toNat _ 0 229 (by omega) (by omega) (by omega) (by have := fu_ge; omega)
def imF (H : Nat → Nat → Int) (row : Nat → Int) (j : Nat) : Int := if j = 0 then row 0 / 256 else if j = 1 then row 0 % 256 else if j = 2 then (row 1 + 100000) / 65536 else if j = 3 then (row 1 + 100000) / 256 % 256 else if j = 4 then (row 1 + 100000) % 256 else if j = 5 then row 2 + 1 else if (j : Int) < 6 + nPe H then seatR row ((j : Int) - 6) else if ((j : Int) - 6 - nPe H) % 2 = 0 then seatR row (10 + ((j : Int) - 6 - nPe H) / 2) + 1 else row (19 + ((j : Int) - 6 - nPe H) / 2).toNat
def imL (H : Nat → Nat → Int) : Int := 6 + nPe H + 2 * nMu H
theorem im_bd {H : Nat → Nat → Int} {row : Nat → Int} (g : gok H row) (hm : 0 ≤ row 0 ∧ row 0 ≤ 999) (hs : -99999 ≤ row 1 ∧ row 1 ≤ 99999) (j : Nat) (hj : (j : Int) < imL H) : 0 ≤ imF H row j ∧ imF H row j ≤ 255 := by
  obtain ⟨hc, hh, hso, hr, hd⟩ := g
  unfold cok at hc
  have h2 := hr.2.2
  unfold imL at hj
  unfold imF
  by_cases c0 : j = 0
  · rw [if_pos c0]; omega
  · rw [if_neg c0]
    by_cases c1 : j = 1
    · rw [if_pos c1]; omega
    · rw [if_neg c1]
      by_cases c2 : j = 2
      · rw [if_pos c2]; omega
      · rw [if_neg c2]
        by_cases c3 : j = 3
        · rw [if_pos c3]; omega
        · rw [if_neg c3]
          by_cases c4 : j = 4
          · rw [if_pos c4]; omega
          · rw [if_neg c4]
            by_cases c5 : j = 5
            · rw [if_pos c5]; omega
            · rw [if_neg c5]
              by_cases c6 : (j : Int) < 6 + nPe H
              · rw [if_pos c6]
                have := hd.1 ((j : Int) - 6) (by unfold sit; rw [decide_eq_true (by omega)]; rfl)
                omega
              · rw [if_neg c6]
                by_cases c7 : ((j : Int) - 6 - nPe H) % 2 = 0
                · rw [if_pos c7]
                  have := seat_bd hr (x := 10 + ((j : Int) - 6 - nPe H) / 2) (by omega) (by omega)
                  omega
                · rw [if_neg c7]
                  have := hr.2.1 (19 + ((j : Int) - 6 - nPe H) / 2).toNat (by omega) (by omega)
                  omega
theorem band255_mod {x : Int} (h1 : 0 ≤ x) (h2 : x < 2147483648) : band x 255 = x % 256 := by
  rw [band_n h1 h2 (by omega) (by omega)]
  have e : x.toNat &&& 255 = x.toNat % 256 := Nat.and_two_pow_sub_one_eq_mod _ 8
  rw [show (255 : Int).toNat = 255 from rfl, e]; omega
theorem bshr_div {x : Int} (h1 : 0 ≤ x) (h2 : x < 2147483648) : bshr x 8 = x / 256 ∧ bshr x 16 = x / 65536 := by
  refine ⟨?_, ?_⟩
  · rw [bshr_n h1 h2 (by omega) (by omega), show (8 : Int).toNat = 8 from rfl, Nat.shiftRight_eq_div_pow]; omega
  · rw [bshr_n h1 h2 (by omega) (by omega), show (16 : Int).toNat = 16 from rfl, Nat.shiftRight_eq_div_pow]; omega
def frI (A B : AH) : Prop := (∀ a j, a ≠ 188 → ¬ (a = 187 ∧ j = 1) → gi B a j = gi A a j) ∧ (∀ a j, gr B a j = gr A a j) ∧ B.2.2 = A.2.2
theorem frI_wi {A B : AH} {k : Nat} (v : Int) (h2 : frI A B) : frI A (wi B 188 k v) := ⟨fun b j r t => by
  rw [gi_wi, if_neg (by omega)]; exact h2.1 b j r t, h2.2.1, h2.2.2⟩
set_option maxRecDepth 100000 in
theorem l_imC1 (d : Nat) (x3 : Int) {h : Nat} {H : Nat → Nat → Int} {row : Nat → Int} (A : AH) (b6 : HR A h H) (b7 : SR A 68 H row) (g : gok H row) : ∀ (j n k : Nat) (B : AH), frI A B → (k : Int) + j = nPe H → (∀ i : Nat, i < 6 + k → gi B 188 i = imF H row i) → 10 * j + 10 ≤ n → ∃ A' n', go true 0 (runF d) (runN d) pb_X5_write n 85 [vR 15 187 0, vR 13 h 0, vR 19 68 0, vI x3, vI k] [] B = go true 0 (runF d) (runN d) pb_X5_write n' 120 [vR 15 187 0, vR 13 h 0, vR 19 68 0, vI x3, vI 0] [] A' ∧ frI A A' ∧ (∀ i : Nat, (i : Int) < 6 + nPe H → gi A' 188 i = imF H row i) ∧ n - 10 * j - 5 ≤ n' := by
  have hc := g.1
  unfold cok at hc
  have hh0 : h ≠ 0 := by have := b6.1; omega
  have hhr := b6.1
  intro j
  induction j with
  | zero =>
    intro n k B f h1 h2 hn
    obtain ⟨n, rfl⟩ : ∃ e, n = e + 2 := ⟨n - 2, by omega⟩
    refine ⟨B, n, ?_, f, fun i hi => h2 i (by omega), by omega⟩
    rw [q_X5_write_85 _ _ _ _ _ _ _ _ hh0 (by omega), f.1 h 2 (by omega) (by omega), b6.2.1.2.1, if_neg (by omega), Nat.add_zero n]
  | succ j ih =>
    intro n k B f h1 h2 hn
    obtain ⟨n, rfl⟩ : ∃ e, n = e + 10 := ⟨n - 10, by omega⟩
    have hs : sit H row k = true := by unfold sit; rw [decide_eq_true (by omega)]; rfl
    have e : gi B (68 + 1) ((k : Int)).toNat = seatR row k := by
      rw [f.1 _ _ (by omega) (by omega), b7.2.2.1 k (by omega) (by omega), if_pos hs]
    obtain ⟨A', n', u1, u2, u3, u4⟩ := ih (n + 8) (k + 1) (wi B 188 (6 + (k : Int)).toNat (seatR row k)) (frI_wi _ f) (by omega) (fun i hi => by
      rw [gi_wi]
      by_cases ci : i = 6 + k
      · rw [if_pos (by omega)]
        unfold imF
        rw [if_neg (by omega), if_neg (by omega), if_neg (by omega), if_neg (by omega), if_neg (by omega), if_neg (by omega), if_pos (by omega), show ((i : Int) - 6) = k by omega]
      · rw [if_neg (by omega)]; exact h2 i (by omega)) (by omega)
    refine ⟨A', n', ?_, u2, u3, by omega⟩
    rw [q_X5_write_85 _ _ _ _ _ _ _ _ hh0 (by omega), f.1 h 2 (by omega) (by omega), b6.2.1.2.1, if_pos (by omega), if_pos (by omega), wid (by omega) (by omega), if_pos (by omega), e, q_X5_write_111 _ _ _ _ _ _ _ _ hh0 (by omega), wid (by omega) (by omega)]
    exact u1
set_option maxRecDepth 100000 in
theorem l_imC2 (d : Nat) (x3 : Int) {h : Nat} {H : Nat → Nat → Int} {row : Nat → Int} (A : AH) (b6 : HR A h H) (b7 : SR A 68 H row) (g : gok H row) : ∀ (j n k : Nat) (B : AH), frI A B → (k : Int) + j = nMu H → (∀ i : Nat, (i : Int) < 6 + nPe H + 2 * k → gi B 188 i = imF H row i) → 10 * j + 10 ≤ n → ∃ A' n', go true 0 (runF d) (runN d) pb_X5_write n 120 [vR 15 187 0, vR 13 h 0, vR 19 68 0, vI x3, vI k] [] B = go true 0 (runF d) (runN d) pb_X5_write n' 193 [vR 15 187 0, vR 13 h 0, vR 19 68 0, vI x3, vI (nMu H)] [] A' ∧ frI A A' ∧ (∀ i : Nat, (i : Int) < imL H → gi A' 188 i = imF H row i) ∧ n - 10 * j - 5 ≤ n' := by
  have hc := g.1
  unfold cok at hc
  have hh0 : h ≠ 0 := by have := b6.1; omega
  have hhr := b6.1
  intro j
  induction j with
  | zero =>
    intro n k B f h1 h2 hn
    obtain ⟨n, rfl⟩ : ∃ e, n = e + 2 := ⟨n - 2, by omega⟩
    refine ⟨B, n + 1, ?_, f, fun i hi => h2 i (by unfold imL at hi; omega), by omega⟩
    rw [q_X5_write_120 _ _ _ _ _ _ _ _ hh0 (by omega), f.1 h 5 (by omega) (by omega), b6.2.1.2.2.2.2.1, if_neg (by omega), Nat.add_zero (n + 1), show ((k : Nat) : Int) = nMu H by omega]
  | succ j ih =>
    intro n k B f h1 h2 hn
    obtain ⟨n, rfl⟩ : ∃ e, n = e + 10 := ⟨n - 10, by omega⟩
    have hr := g.2.2.2.1
    have e1 : gi B (68 + 1) (10 + (k : Int)).toNat = seatR row (10 + k) := by
      rw [f.1 _ _ (by omega) (by omega), b7.2.2.1 (10 + k) (by omega) (by omega)]
      by_cases c : sit H row (10 + k) = true
      · rw [if_pos c]
      · rw [if_neg c]
        unfold sit at c
        rw [decide_eq_false (p := 0 ≤ 10 + (k : Int) ∧ 10 + (k : Int) < nPe H) (by omega), decide_eq_true (p := 10 ≤ 10 + (k : Int) ∧ 10 + (k : Int) < 10 + nMu H) (by omega)] at c
        simp at c
        exact c.symm
    have e2 : gi B (68 + 2) (10 + (k : Int)).toNat = row (19 + (k : Int)).toNat := by
      rw [f.1 _ _ (by omega) (by omega), b7.2.2.2.1 (10 + k) (by omega) (by omega)]
      by_cases c : sit H row (10 + k) = true
      · rw [if_pos c]
        unfold partyF; rw [if_neg (by omega)]; congr 1; omega
      · rw [if_neg c]
        unfold sit at c
        rw [decide_eq_false (p := 0 ≤ 10 + (k : Int) ∧ 10 + (k : Int) < nPe H) (by omega), decide_eq_true (p := 10 ≤ 10 + (k : Int) ∧ 10 + (k : Int) < 10 + nMu H) (by omega)] at c
        simp at c
        have q := (hr.2.1 (19 + (k : Int)).toNat (by omega) (by omega)).2.2
        refine (q ?_).symm
        unfold seatR at c
        rw [← c]; congr 1; omega
    have sb := seat_bd hr (x := 10 + (k : Int)) (by omega) (by omega)
    obtain ⟨B1, hB1⟩ : ∃ B1, B1 = wi B 188 (6 + nPe H + 2 * (k : Int)).toNat (seatR row (10 + k) + 1) := ⟨_, rfl⟩
    have f1 : frI A B1 := by rw [hB1]; exact frI_wi _ f
    have e2' : gi B1 (68 + 2) (10 + (k : Int)).toNat = row (19 + (k : Int)).toNat := by rw [hB1, gi_wi, if_neg (by omega)]; exact e2
    obtain ⟨A', n', u1, u2, u3, u4⟩ := ih (n + 7) (k + 1) (wi B1 188 (6 + nPe H + 2 * (k : Int) + 1).toNat (row (19 + (k : Int)).toNat)) (frI_wi _ f1) (by omega) (fun i hi => by
      rw [gi_wi]
      by_cases ci : (i : Int) = 6 + nPe H + 2 * k + 1
      · rw [if_pos (by omega)]
        unfold imF
        rw [if_neg (by omega), if_neg (by omega), if_neg (by omega), if_neg (by omega), if_neg (by omega), if_neg (by omega), if_neg (by omega), if_neg (by omega), show ((i : Int) - 6 - nPe H) / 2 = k by omega]
      · rw [if_neg (by omega), hB1, gi_wi]
        by_cases ci2 : (i : Int) = 6 + nPe H + 2 * k
        · rw [if_pos (by omega)]
          unfold imF
          rw [if_neg (by omega), if_neg (by omega), if_neg (by omega), if_neg (by omega), if_neg (by omega), if_neg (by omega), if_neg (by omega), if_pos (by omega), show ((i : Int) - 6 - nPe H) / 2 = k by omega]
        · rw [if_neg (by omega)]; exact h2 i (by omega)) (by omega)
    refine ⟨A', n', ?_, u2, u3, by omega⟩
    have n2 : gi B h 2 = nPe H := by rw [f.1 h 2 (by omega) (by omega)]; exact b6.2.1.2.1
    have n2' : gi B1 h 2 = nPe H := by rw [f1.1 h 2 (by omega) (by omega)]; exact b6.2.1.2.1
    rw [q_X5_write_120 _ _ _ _ _ _ _ _ hh0 (by omega), f.1 h 5 (by omega) (by omega), b6.2.1.2.2.2.2.1, if_pos (by omega), wid (x := 10 + (k : Int)) (by omega) (by omega), if_pos (by omega), n2, wid (x := 6 + nPe H) (by omega) (by omega), wid (x := 2 * (k : Int)) (by omega) (by omega), wid (x := 6 + nPe H + 2 * (k : Int)) (by omega) (by omega), if_pos (by omega), e1, wid (x := seatR row (10 + k) + 1) (by omega) (by omega), ← hB1]
    rw [q_X5_write_158 _ _ _ _ _ _ _ _ hh0 (by omega), wid (x := 10 + (k : Int)) (by omega) (by omega), if_pos (by omega), n2', wid (x := 6 + nPe H) (by omega) (by omega), wid (x := 2 * (k : Int)) (by omega) (by omega), wid (x := 6 + nPe H + 2 * (k : Int)) (by omega) (by omega), wid (x := 6 + nPe H + 2 * (k : Int) + 1) (by omega) (by omega), if_pos (by omega), e2', q_X5_write_187 _ _ _ _ _ _ _ _ hh0 (by omega), wid (by omega) (by omega)]
    exact u1
set_option maxRecDepth 100000 in
theorem s_write (d : Nat) {h : Nat} {H : Nat → Nat → Int} {row : Nat → Int} (A : AH) (b6 : HR A h H) (b7 : SR A 68 H row) (g : gok H row) (hm : 0 ≤ row 0 ∧ row 0 ≤ 999) (hs : -99999 ≤ row 1 ∧ row 1 ≤ 99999) : ∃ A', runF (d + 2) 68 [vR 15 187 0, vR 13 h 0, vR 19 68 0] A = some (some (vI (imL H + 1)), A') ∧ gi A' 187 1 = imL H + 1 ∧ (∀ i : Nat, (i : Int) < imL H → gi A' 188 i = imF H row i) ∧ gi A' 188 (imL H).toNat = ckF (imF H row) (imL H).toNat 0 229 ∧ frI A A' := by
  have hc := g.1
  unfold cok at hc
  have hh0 : h ≠ 0 := by have := b6.1; omega
  have hhr := b6.1
  have h2 := g.2.2.2.1.2.2
  obtain ⟨X, hX⟩ : ∃ X, X = row 1 + 100000 := ⟨_, rfl⟩
  have d0 := bshr_div (x := row 0) (by omega) (by omega)
  have dX := bshr_div (x := X) (by omega) (by omega)
  have m0 := band255_mod (x := row 0) (by omega) (by omega)
  have mX := band255_mod (x := X) (by omega) (by omega)
  have mX2 := band255_mod (x := X / 256) (by omega) (by omega)
  obtain ⟨B, hB⟩ : ∃ B, B = wi (wi (wi (wi (wi (wi A 188 0 (row 0 / 256)) 188 1 (row 0 % 256)) 188 2 (X / 65536)) 188 3 (X / 256 % 256)) 188 4 (X % 256)) 188 5 (row 2 + 1) := ⟨_, rfl⟩
  have fA : frI A A := ⟨fun _ _ _ _ => rfl, fun _ _ => rfl, rfl⟩
  have fB : frI A B := by rw [hB]; exact frI_wi _ (frI_wi _ (frI_wi _ (frI_wi _ (frI_wi _ (frI_wi _ fA)))))
  have iB : ∀ i : Nat, i < 6 + 0 → gi B 188 i = imF H row i := by
    intro i hi
    have : i = 0 ∨ i = 1 ∨ i = 2 ∨ i = 3 ∨ i = 4 ∨ i = 5 := by omega
    rw [hB, hX]
    rcases this with rfl | rfl | rfl | rfl | rfl | rfl <;> simp [gi_wi, imF]
  obtain ⟨A1, n1, u1, u2, u3, u4⟩ := l_imC1 (d + 1) X A b6 b7 g (nPe H).toNat (fu + 193) 0 B fB (by omega) iB (by have := fu_ge; omega)
  obtain ⟨A2, n2, v1, v2, v3, v4⟩ := l_imC2 (d + 1) X A b6 b7 g (nMu H).toNat n1 0 A1 u2 (by omega) (fun i hi => u3 i (by omega)) (by have := fu_ge; omega)
  obtain ⟨n3, rfl⟩ : ∃ e, n2 = e + 2 := ⟨n2 - 2, by have := fu_ge; omega⟩
  have lb : 0 ≤ imL H ∧ imL H ≤ 26 := by unfold imL; omega
  obtain ⟨A3, hA3⟩ : ∃ A3, A3 = wi A2 187 1 (imL H + 1) := ⟨_, rfl⟩
  have e3 : gi A3 187 1 = imL H + 1 := by rw [hA3]; simp -implicitDefEqProofs (disch := omega) only [gi_wi, ↓reduceIte, Int.reduceEq, cI_v, cL_v, cV_v, cR_v, wid, wid64, if_pos, if_neg, Nat.add_zero, if_true, if_false, and_self, and_true, true_and, and_false, false_and, or_true, true_or, or_false, false_or]
  have ck := s_checkC d 188 27 (imL H) A3 (by omega) (by omega) (by omega) (by omega) (imF H row) (fun j hj => ⟨by rw [hA3, gi_wi, if_neg (by omega)]; exact v3 j hj, im_bd g hm hs j hj⟩)
  refine ⟨wi A3 188 (imL H).toNat (ckF (imF H row) (imL H).toNat 0 229), ?_, ?_, fun i hi => ?_, by simp -implicitDefEqProofs (disch := omega) only [gi_wi, ↓reduceIte, Int.reduceEq, cI_v, cL_v, cV_v, cR_v, wid, wid64, if_pos, if_neg, Nat.add_zero, if_true, if_false, and_self, and_true, true_and, and_false, false_and, or_true, true_or, or_false, false_or], ⟨fun a j q1 q2 => ?_, fun a j => ?_, ?_⟩⟩
  · have s0 := b7.2.1
    have e68 : ∀ (C : AH), frI A C → gi C 68 0 = row 0 ∧ gi C 68 2 = row 2 := fun C f => ⟨by rw [f.1 68 0 (by omega) (by omega)]; exact s0.1, by rw [f.1 68 2 (by omega) (by omega)]; exact s0.2.2⟩
    have len : ∀ m, runF (m + 1) 69 [vR 13 h 0] A2 = some (some (vI (imL H + 1)), A2) := fun m => by
      rw [r_X5_lengthOf, q_X5_lengthOf_0 _ _ _ _ _ hh0, v2.1 h 2 (by omega) (by omega), v2.1 h 5 (by omega) (by omega), b6.2.1.2.1, b6.2.1.2.2.2.2.1, wid (x := 6 + nPe H) (by omega) (by omega), wid (x := 2 * nMu H) (by omega) (by omega), wid (x := 6 + nPe H + 2 * nMu H) (by omega) (by omega), wid (by omega) (by omega)]; rfl
    rw [r_X5_write, q_X5_write_0 _ _ _ _ _ _ hh0 (by omega), s0.1, s0.2.1, wid (by omega) (by omega), ← hX, d0.1]
    rw [q_X5_write_21 _ _ _ _ _ _ _ _ hh0 (by omega), (e68 _ (frI_wi _ fA)).1, m0]
    rw [q_X5_write_35 _ _ _ _ _ _ _ _ hh0 (by omega), dX.2]
    rw [q_X5_write_45 _ _ _ _ _ _ _ _ hh0 (by omega), dX.1, mX2]
    rw [q_X5_write_59 _ _ _ _ _ _ _ _ hh0 (by omega), mX]
    rw [q_X5_write_70 _ _ _ _ _ _ _ _ hh0 (by omega), (e68 _ (frI_wi _ (frI_wi _ (frI_wi _ (frI_wi _ (frI_wi _ fA)))))).2, wid (by omega) (by omega), ← hB]
    rw [q_X5_write_82 _ _ _ _ _ _ _ _ hh0 (by omega)]
    have u1' : go true 0 (runF (d + 1)) (runN (d + 1)) pb_X5_write (fu + 193) 85 [vR 15 187 0, vR 13 h 0, vR 19 68 0, vI X, vI 0] [] B = _ := u1
    have v1' : go true 0 (runF (d + 1)) (runN (d + 1)) pb_X5_write n1 120 [vR 15 187 0, vR 13 h 0, vR 19 68 0, vI X, vI 0] [] A1 = _ := v1
    rw [Nat.add_zero (fu + 193), u1', v1', q_X5_write_193 _ _ _ _ _ _ _ _ hh0 (by omega), len, cI_v, ← hA3, e3, show imL H + 1 - 1 = imL H by omega, wid (by omega) (by omega), ck, cI_v, if_pos (by omega), q_X5_write_225 _ _ _ _ _ _ _ _ hh0 (by omega)]
    simp -implicitDefEqProofs (disch := omega) only [gi_wi, e3, ↓reduceIte, Int.reduceEq, cI_v, cL_v, cV_v, cR_v, wid, wid64, if_pos, if_neg, Nat.add_zero, if_true, if_false, and_self, and_true, true_and, and_false, false_and, or_true, true_or, or_false, false_or]
  · simp -implicitDefEqProofs (disch := omega) only [gi_wi, ↓reduceIte, Int.reduceEq, cI_v, cL_v, cV_v, cR_v, wid, wid64, if_pos, if_neg, Nat.add_zero, if_true, if_false, and_self, and_true, true_and, and_false, false_and, or_true, true_or, or_false, false_or]; exact e3
  · rw [gi_wi, if_neg (by omega), hA3, gi_wi, if_neg (by omega)]; exact v3 i hi
  · rw [gi_wi, if_neg (by omega), hA3, gi_wi, if_neg (by omega)]; exact v2.1 a j q1 q2
  · rw [gr_wi, hA3, gr_wi]; exact v2.2.1 a j
  · rw [show (wi A3 188 (imL H).toNat (ckF (imF H row) (imL H).toNat 0 229)).2.2 = A3.2.2 from rfl, hA3]; exact v2.2.2
/-- what the reference has written -/
def frJ (A B : AH) : Prop := (∀ a j, a ≠ 270 → ¬ (a = 190 ∧ j = 110) → gi B a j = gi A a j) ∧ (∀ a j, gr B a j = gr A a j) ∧ B.2.2 = A.2.2
set_option maxRecDepth 100000 in
theorem s_writes (d : Nat) (v : Int) (k : Nat) (A B : AH) (f : Nat → Int) (hk : k < 27) (fr : frJ A B) (e : gi B 190 110 = k) (h : ∀ i : Nat, i < k → gi B 270 i = f i) (hv : v = f k) : ∃ A', runF (d + 1) 292 [vR 21 190 0, vI v] B = some (none, A') ∧ frJ A A' ∧ gi A' 190 110 = ((k + 1 : Nat) : Int) ∧ (∀ i : Nat, i < k + 1 → gi A' 270 i = f i) := by
  refine ⟨wi (wi B 270 k v) 190 110 (k + 1), ?_, ⟨fun a j q1 q2 => ?_, fr.2.1, fr.2.2⟩, by simp -implicitDefEqProofs (disch := omega) only [gi_wi, ↓reduceIte, Int.reduceEq, cI_v, cL_v, cV_v, cR_v, wid, wid64, if_pos, if_neg, Nat.add_zero, if_true, if_false, and_self, and_true, true_and, and_false, false_and, or_true, true_or, or_false, false_or]; omega, fun i hi => ?_⟩
  · rw [r_X12_writes, q_X12_writes_0, e, if_pos (by omega), Int.toNat_natCast, q_X12_writes_10]
    have e1 : gi (wi B 270 k v) 190 110 = k := by rw [gi_wi, if_neg (by omega)]; exact e
    rw [e1, wid (by omega) (by omega), q_X12_writes_20]
  · rw [gi_wi, if_neg q2, gi_wi, if_neg (by omega)]; exact fr.1 a j q1 q2
  · rw [gi_wi, if_neg (by omega), gi_wi]
    by_cases c : i = k
    · rw [if_pos ⟨rfl, c⟩, hv, c]
    · rw [if_neg (by omega)]; exact h i (by omega)
theorem frJ_hv {A B : AH} (f : frJ A B) : hv B = hv A := hv_fr (fun a j h1 h2 => f.1 a j (by omega) (by omega))
theorem frJ_nv {A B : AH} (f : frJ A B) : nv B = nv A := by funext j; exact f.1 237 j (by omega) (by omega)
set_option maxRecDepth 100000 in
theorem l_imM1 (d : Nat) (x1 : Int) (A : AH) (g : gok (hv A) (nv A)) : ∀ (j n k : Nat) (B : AH), frJ A B → (k : Int) + j = nPe (hv A) → gi B 190 110 = ((6 + k : Nat) : Int) → (∀ i : Nat, i < 6 + k → gi B 270 i = imF (hv A) (nv A) i) → 10 * j + 10 ≤ n → ∃ A' n', go true 0 (runF (d + 1)) (runN (d + 1)) pb_X12_image n 91 [vR 21 190 0, vI x1, vI k] [] B = go true 0 (runF (d + 1)) (runN (d + 1)) pb_X12_image n' 116 [vR 21 190 0, vI x1, vI 0] [] A' ∧ frJ A A' ∧ gi A' 190 110 = 6 + nPe (hv A) ∧ (∀ i : Nat, (i : Int) < 6 + nPe (hv A) → gi A' 270 i = imF (hv A) (nv A) i) ∧ n - 10 * j - 5 ≤ n' := by
  have hc := g.1
  unfold cok at hc
  intro j
  induction j with
  | zero =>
    intro n k B f h1 h3 h2 hn
    obtain ⟨n, rfl⟩ : ∃ e, n = e + 2 := ⟨n - 2, by omega⟩
    refine ⟨B, n, ?_, f, by rw [h3]; omega, fun i hi => h2 i (by omega), by omega⟩
    rw [q_X12_image_91, s_peopleMany, cI_v, frJ_hv f, if_neg (by omega), Nat.add_zero n]
  | succ j ih =>
    intro n k B f h1 h3 h2 hn
    obtain ⟨n, rfl⟩ : ∃ e, n = e + 10 := ⟨n - 10, by omega⟩
    obtain ⟨B1, w1, w2, w3, w4⟩ := s_writes d (seatR (nv A) k) (6 + k) A B (imF (hv A) (nv A)) (by omega) f h3 h2 (by
      unfold imF
      rw [if_neg (by omega), if_neg (by omega), if_neg (by omega), if_neg (by omega), if_neg (by omega), if_neg (by omega), if_pos (by omega)]; congr 1; omega)
    obtain ⟨A', n', u1, u2⟩ := ih (n + 9) (k + 1) B1 w2 (by omega) (by rw [w3]; omega) (fun i hi => w4 i (by omega)) (by omega)
    refine ⟨A', n', ?_, u2.1, u2.2.1, u2.2.2.1, by omega⟩
    rw [q_X12_image_91, s_peopleMany, cI_v, frJ_hv f, if_pos (by omega), s_seatOf _ _ B (by omega) (by omega), frJ_nv f, cI_v, w1, cV_v, wid (by omega) (by omega)]
    exact u1
set_option maxRecDepth 100000 in
theorem l_imM2 (d : Nat) (x1 : Int) (A : AH) (g : gok (hv A) (nv A)) : ∀ (j n k : Nat) (B : AH), frJ A B → (k : Int) + j = nMu (hv A) → gi B 190 110 = 6 + nPe (hv A) + 2 * k → (∀ i : Nat, (i : Int) < 6 + nPe (hv A) + 2 * k → gi B 270 i = imF (hv A) (nv A) i) → 10 * j + 10 ≤ n → ∃ B' , (∃ n', go true 0 (runF (d + 1)) (runN (d + 1)) pb_X12_image n 116 [vR 21 190 0, vI x1, vI k] [] B = go true 0 (runF (d + 1)) (runN (d + 1)) pb_X12_image n' 116 [vR 21 190 0, vI x1, vI (nMu (hv A))] [] B' ∧ n - 10 * j ≤ n') ∧ frJ A B' ∧ gi B' 190 110 = imL (hv A) ∧ (∀ i : Nat, (i : Int) < imL (hv A) → gi B' 270 i = imF (hv A) (nv A) i) := by
  have hc := g.1
  unfold cok at hc
  intro j
  induction j with
  | zero =>
    intro n k B f h1 h3 h2 hn
    refine ⟨B, ⟨n, ?_, by omega⟩, f, by rw [h3]; unfold imL; omega, fun i hi => h2 i (by unfold imL at hi; omega)⟩
    rw [show ((k : Nat) : Int) = nMu (hv A) by omega]
  | succ j ih =>
    intro n k B f h1 h3 h2 hn
    obtain ⟨n, rfl⟩ : ∃ e, n = e + 10 := ⟨n - 10, by omega⟩
    have sb := seat_bd g.2.2.2.1 (x := 10 + (k : Int)) (by omega) (by omega)
    obtain ⟨p, hp⟩ : ∃ p : Nat, (p : Int) = 6 + nPe (hv A) + 2 * k := ⟨(6 + nPe (hv A) + 2 * (k : Int)).toNat, by omega⟩
    obtain ⟨B1, w1, w2, w3, w4⟩ := s_writes d (seatR (nv A) (10 + k) + 1) p A B (imF (hv A) (nv A)) (by omega) f (by rw [h3, hp]) (fun i hi => h2 i (by omega)) (by
      unfold imF
      rw [if_neg (by omega), if_neg (by omega), if_neg (by omega), if_neg (by omega), if_neg (by omega), if_neg (by omega), if_neg (by omega), if_pos (by omega), show ((p : Int) - 6 - nPe (hv A)) / 2 = k by omega])
    obtain ⟨B2, y1, y2, y3, y4⟩ := s_writes d (nv A (19 + (k : Int)).toNat) (p + 1) A B1 (imF (hv A) (nv A)) (by omega) w2 w3 w4 (by
      unfold imF
      rw [if_neg (by omega), if_neg (by omega), if_neg (by omega), if_neg (by omega), if_neg (by omega), if_neg (by omega), if_neg (by omega), if_neg (by omega), show (((p + 1 : Nat) : Int) - 6 - nPe (hv A)) / 2 = k by omega])
    obtain ⟨B', ⟨n', u1, u3⟩, u2⟩ := ih (n + 8) (k + 1) B2 y2 (by omega) (by rw [y3]; omega) (fun i hi => y4 i (by omega)) (by omega)
    refine ⟨B', ⟨n', ?_, by omega⟩, u2⟩
    have e5 : gi B1 237 (19 + (k : Int)).toNat = nv A (19 + (k : Int)).toNat := w2.1 237 _ (by omega) (by omega)
    rw [q_X12_image_116, s_muteMany, cI_v, frJ_hv f, if_pos (by omega), wid (x := 10 + (k : Int)) (by omega) (by omega), s_seatOf _ _ B (by omega) (by omega), frJ_nv f, cI_v, wid (x := seatR (nv A) (10 + k) + 1) (by omega) (by omega), w1, cV_v, wid (x := 19 + (k : Int)) (by omega) (by omega), if_pos (by omega), e5, y1, cV_v, q_X12_image_154, wid (by omega) (by omega)]
    exact u1
set_option maxRecDepth 100000 in
theorem s_imageM (d : Nat) (A : AH) (g : gok (hv A) (nv A)) (hm : 0 ≤ nv A 0 ∧ nv A 0 ≤ 999) (hs : -99999 ≤ nv A 1 ∧ nv A 1 ≤ 99999) : ∃ A', runF (d + 2) 293 [vR 21 190 0] A = some (some (vI (imL (hv A) + 1)), A') ∧ frJ A A' ∧ gi A' 190 110 = imL (hv A) + 1 ∧ (∀ i : Nat, (i : Int) < imL (hv A) → gi A' 270 i = imF (hv A) (nv A) i) ∧ gi A' 270 (imL (hv A)).toNat = ckF (imF (hv A) (nv A)) (imL (hv A)).toNat 0 229 := by
  have hc := g.1
  unfold cok at hc
  have h2 := g.2.2.2.1.2.2
  have lb : 0 ≤ imL (hv A) ∧ imL (hv A) ≤ 26 := by unfold imL; omega
  obtain ⟨X, hX⟩ : ∃ X, X = nv A 1 + 100000 := ⟨_, rfl⟩
  obtain ⟨f, hf⟩ : ∃ f, f = imF (hv A) (nv A) := ⟨_, rfl⟩
  obtain ⟨B0, hB0⟩ : ∃ B0, B0 = wi A 190 110 0 := ⟨_, rfl⟩
  have f0 : frJ A B0 := ⟨fun a j q1 q2 => by rw [hB0, gi_wi, if_neg q2], fun a j => by rw [hB0]; rfl, by rw [hB0]; rfl⟩
  obtain ⟨B1, a1, a2, a3, a4⟩ := s_writes d (nv A 0 / 256) 0 A B0 f (by omega) f0 (by rw [hB0]; simp -implicitDefEqProofs (disch := omega) only [gi_wi, ↓reduceIte, Int.reduceEq, cI_v, cL_v, cV_v, cR_v, wid, wid64, if_pos, if_neg, Nat.add_zero, if_true, if_false, and_self, and_true, true_and, and_false, false_and, or_true, true_or, or_false, false_or]; rfl) (fun i hi => by omega) (by rw [hf]; rfl)
  obtain ⟨B2, b1, b2, b3, b4⟩ := s_writes d (nv A 0 % 256) 1 A B1 f (by omega) a2 a3 a4 (by rw [hf]; rfl)
  obtain ⟨B3, c1, c2, c3, c4⟩ := s_writes d (X / 65536) 2 A B2 f (by omega) b2 b3 b4 (by rw [hf, hX]; rfl)
  obtain ⟨B4, e1, e2, e3, e4⟩ := s_writes d (X / 256 % 256) 3 A B3 f (by omega) c2 c3 c4 (by rw [hf, hX]; rfl)
  obtain ⟨B5, g1, g2, g3, g4⟩ := s_writes d (X % 256) 4 A B4 f (by omega) e2 e3 e4 (by rw [hf, hX]; rfl)
  obtain ⟨B6, i1, i2, i3, i4⟩ := s_writes d (nv A 2 + 1) 5 A B5 f (by omega) g2 g3 g4 (by rw [hf]; rfl)
  obtain ⟨B7, n7, k1, k2, k3, k4, k5⟩ := l_imM1 d X A g (nPe (hv A)).toNat (fu + 197) 0 B6 i2 (by omega) i3 (by rw [← hf]; exact i4) (by have := fu_ge; omega)
  obtain ⟨B8, ⟨n8, l1, l5⟩, l2, l3, l4⟩ := l_imM2 d X A g (nMu (hv A)).toNat n7 0 B7 k2 (by omega) (by rw [k3]; omega) (fun i hi => k4 i (by omega)) (by have := fu_ge; omega)
  obtain ⟨n9, rfl⟩ : ∃ e, n8 = e + 2 := ⟨n8 - 2, by have := fu_ge; omega⟩
  have ck := s_checkM d 270 27 (imL (hv A)) B8 (by omega) (by omega) (by omega) (by omega) f (fun j hj => ⟨by rw [hf]; exact l4 j hj, by rw [hf]; exact im_bd g hm hs j hj⟩)
  obtain ⟨p, hp⟩ : ∃ p : Nat, (p : Int) = imL (hv A) := ⟨(imL (hv A)).toNat, by omega⟩
  obtain ⟨F, hF⟩ : ∃ F : Nat → Int, F = fun i => if i = p then ckF f (imL (hv A)).toNat 0 229 else f i := ⟨_, rfl⟩
  obtain ⟨A', m1, m2, m3, m4⟩ := s_writes d (ckF f (imL (hv A)).toNat 0 229) p A B8 F (by omega) l2 (by rw [l3, hp]) (fun i hi => by rw [hF]; simp only []; rw [if_neg (by omega), hf]; exact l4 i (by omega)) (by rw [hF]; exact (if_pos rfl).symm)
  refine ⟨A', ?_, m2, by rw [m3]; omega, fun i hi => ?_, ?_⟩
  · have t0 : gi B0 237 0 = nv A 0 := f0.1 237 0 (by omega) (by omega)
    have t1 : gi B0 237 1 = nv A 1 := f0.1 237 1 (by omega) (by omega)
    have t2 : gi B1 237 0 = nv A 0 := a2.1 237 0 (by omega) (by omega)
    have t3 : gi B5 237 2 = nv A 2 := g2.1 237 2 (by omega) (by omega)
    have z0 : (nv A 0).tdiv 256 = nv A 0 / 256 := Int.tdiv_eq_ediv_of_nonneg hm.1
    have z1 : (nv A 0).tmod 256 = nv A 0 % 256 := Int.tmod_eq_emod_of_nonneg hm.1
    have z2 : X.tdiv 65536 = X / 65536 := Int.tdiv_eq_ediv_of_nonneg (by omega)
    have z3 : X.tdiv 256 = X / 256 := Int.tdiv_eq_ediv_of_nonneg (by omega)
    have z4 : (X / 256).tmod 256 = X / 256 % 256 := Int.tmod_eq_emod_of_nonneg (by omega)
    have z5 : X.tmod 256 = X % 256 := Int.tmod_eq_emod_of_nonneg (by omega)
    rw [r_X12_image, q_X12_image_0, ← hB0, t0, t1, z0, wid (x := nv A 0 / 256) (by omega) (by omega), wid (x := nv A 1 + 99999) (by omega) (by omega), wid (x := nv A 1 + 99999 + 1) (by omega) (by omega), show nv A 1 + 99999 + 1 = X by omega, a1, cV_v, t2, z1, b1, cV_v]
    rw [q_X12_image_46, z2, wid (x := X / 65536) (by omega) (by omega), c1, cV_v, z3, wid (x := X / 256) (by omega) (by omega), z4, e1, cV_v, z5, g1, cV_v, t3, wid (x := nv A 2 + 1) (by omega) (by omega), i1, cV_v, q_X12_image_89]
    have k1' : go true 0 (runF (d + 1)) (runN (d + 1)) pb_X12_image (fu + 197) 91 [vR 21 190 0, vI X, vI 0] [] B6 = _ := k1
    have l1' : go true 0 (runF (d + 1)) (runN (d + 1)) pb_X12_image n7 116 [vR 21 190 0, vI X, vI 0] [] B7 = _ := l1
    rw [Nat.add_zero (fu + 197), k1', l1', q_X12_image_116, s_muteMany, cI_v, frJ_hv l2, if_neg (by omega), l3, ck, cI_v, m1, cV_v, m3, show ((p + 1 : Nat) : Int) = imL (hv A) + 1 by omega]
  · have := m4 i (by omega)
    rw [this, hF]
    simp only []
    rw [if_neg (by omega), hf]
  · have := m4 p (by omega)
    rw [show (imL (hv A)).toNat = p by omega] at *
    rw [this, hF, ← hf]
    exact if_pos rfl
theorem c_image (d n : Nat) (A : AH) (r : REL n A) : CP (d + 3) n 137 293 [] A := by
  have g := REL_g r
  have sk := r.2.1
  have hm := sk.2.2.2.2.1
  have hs := sk.2.2.2.2.2
  have hc := g.1
  unfold cok at hc
  obtain ⟨A1, e1, e2, e3, e4, e5⟩ := s_write d A r.2.2.1 sk.1 g hm hs
  have eh : hv A1 = hv A := hv_fr (fun a j h1 h2 => e5.1 a j (by omega) (by omega))
  have en : nv A1 = nv A := by funext j; exact e5.1 237 j (by omega) (by omega)
  obtain ⟨A2, u1, u2, u3, u4, u5⟩ := s_imageM (d + 1) A1 (by rw [eh, en]; exact g) (by rw [en]; exact hm) (by rw [en]; exact hs)
  rw [eh, en] at u4 u5
  rw [eh] at u1 u3
  have lb : 0 ≤ imL (hv A) ∧ imL (hv A) ≤ 26 := by unfold imL; omega
  refine ⟨vI (imL (hv A) + 1), A1, A2, ?_, u1, ?_⟩
  · rw [r_X11_image, q_X11_image_0, e1, cI_v]
  · have G : ∀ a j, a ≠ 187 → a ≠ 188 → a ≠ 270 → ¬ (a = 190 ∧ j = 110) → gi A2 a j = gi A a j := fun a j h1 h2 h3 h4 => by rw [u2.1 a j h3 h4, e5.1 a j h2 (by omega)]
    have R : ∀ a j, gr A2 a j = gr A a j := fun a j => by rw [u2.2.1, e5.2.1]
    have en2 : nv A2 = nv A := by funext j; exact G 237 j (by omega) (by omega) (by omega) (by omega)
    refine REL_mk r (fun a j h => G a j (by omega) (by omega) (by omega) (by omega)) (fun a j _ => R a j) (by rw [u2.2.2, e5.2.2]) ?_ (TP_fr (fun a j h => G a j (by omega) (by omega) (by omega) (by omega)) r.2.2.2.2.1) ?_ (RF_fr (fun a j h => G a j (by omega) (by omega) (by omega) (by omega)) r.2.2.2.2.2.2.1) ?_ ?_ (PR_fr (fun a j h => G a j (by omega) (by omega) (by omega) (by omega)) (fun j => R 79 j) (hv_fr (fun a j h1 h2 => G a j (by omega) (by omega) (by omega) (by omega))) r.2.2.2.2.2.2.2.2.2.1)
    · rw [en2]
      exact SK_fr (by omega) (fun a j h1 h2 => G a j (by omega) (by omega) (by omega) (by omega)) r.2.1
    · rw [G 190 7 (by omega) (by omega) (by omega) (by omega), G 190 8 (by omega) (by omega) (by omega) (by omega), G 42 11 (by omega) (by omega) (by omega) (by omega), G 42 12 (by omega) (by omega) (by omega) (by omega)]
      exact r.2.2.2.2.2.1
    · rw [G 190 75 (by omega) (by omega) (by omega) (by omega), G 40 14 (by omega) (by omega) (by omega) (by omega)]
      exact r.2.2.2.2.2.2.2.1
    · unfold IM
      rw [u3, u2.1 187 1 (by omega) (by omega), e2]
      refine ⟨rfl, by omega, fun j hj => ?_⟩
      rw [u2.1 188 j (by omega) (by omega)]
      by_cases cj : (j : Int) = imL (hv A)
      · rw [show j = (imL (hv A)).toNat by omega, u5, e4]
      · rw [u4 j (by omega), e3 j (by omega)]
