/-! a minute passes: as a pure row; the class -/
def sdF (H : Nat → Nat → Int) (s : Int) : Nat → Int
  | 0 => s
  | i + 1 => if 0 < itchF H i then dr (sdF H s i) else sdF H s i
def cgF (H : Nat → Nat → Int) (s : Int) (i : Nat) : Bool := decide (0 < itchF H i) && decide (dr (sdF H s i) / 64 % 100 < itchF H i)
noncomputable def cbF (H : Nat → Nat → Int) (s : Int) : Nat → Int
  | 0 => 0
  | i + 1 => if cgF H s i = true then bor (cbF H s i) (bshl 1 i) else cbF H s i
def kpR (row : Nat → Int) (m w c : Int) : Nat → Int := fun j => if row 25 = 40 then (if j = 143 then m else if j = 144 then w else if j = 145 then c else if 26 ≤ j ∧ j < 143 then row (j + 3) else row j) else (if j = 25 then row 25 + 1 else if j = (26 + 3 * row 25).toNat then m else if j = (27 + 3 * row 25).toNat then w else if j = (28 + 3 * row 25).toNat then c else row j)
def rwF (H : Nat → Nat → Int) (row : Nat → Int) (s : Int) : Nat → Nat → Int
  | 0 => row
  | i + 1 => if cgF H s i = true then kpR (rwF H row s i) (row 0) i (coughF H row (row 0) (row 2) (-1) i) else rwF H row s i
noncomputable def mgR (H : Nat → Nat → Int) (row : Nat → Int) (s : Int) : Nat → Int := fun j => if j = 0 then row 0 + 1 else if j = 1 then cutF (row 1 + swF H row (row 0) (row 2) (-1) (cbF H s (nPe H).toNat)) (-99999) 99999 else rwF H row s (nPe H).toNat j
theorem sd_bd (H : Nat → Nat → Int) {s : Int} (h : 0 ≤ s ∧ s < 2147483648) : ∀ i, 0 ≤ sdF H s i ∧ sdF H s i < 2147483648
  | 0 => h
  | i + 1 => by
    unfold sdF
    by_cases c : 0 < itchF H i
    · rw [if_pos c]; exact dr_bd _
    · rw [if_neg c]; exact sd_bd H h i
theorem tb_or {v : Int} {i : Nat} (h1 : 0 ≤ v) (h2 : v < ((2 ^ i : Nat) : Int)) (hi : i ≤ 20) (x : Int) (hx : 0 ≤ x) : tb (bor v (bshl 1 i)) x = (tb v x || decide (x = i)) := by
  have p1 : 2 ^ i < 2 ^ 21 := Nat.pow_lt_pow_right (by omega) (by omega)
  rw [bshl_1 (by omega) (by omega), bor_n h1 (by omega) (Int.natCast_nonneg _) (by simp only [Int.toNat_natCast]; omega)]
  unfold tb
  simp only [Int.toNat_natCast]
  rw [Nat.testBit_or, Nat.testBit_two_pow]
  congr 1
  by_cases c : x = i
  · rw [decide_eq_true c, decide_eq_true (by omega)]
  · rw [decide_eq_false c, decide_eq_false (by omega)]
theorem cb_sp (H : Nat → Nat → Int) (s : Int) : ∀ i, i ≤ 16 → (0 ≤ cbF H s i ∧ cbF H s i < ((2 ^ i : Nat) : Int)) ∧ ∀ x : Nat, tb (cbF H s i) x = (decide (x < i) && cgF H s x)
  | 0, _ => by
    refine ⟨⟨by unfold cbF; omega, by unfold cbF; decide⟩, fun x => ?_⟩
    unfold cbF tb; simp
  | i + 1, hi => by
    obtain ⟨h1, h2⟩ := cb_sp H s i (by omega)
    have e : ((i : Int)).toNat = i := by omega
    have e2 : ((i : Int) + 1).toNat = i + 1 := by omega
    unfold cbF
    by_cases c : cgF H s i = true
    · have b := bor_bit (v := cbF H s i) (k := (i : Int)) h1.1 (by rw [e]; exact h1.2) (by omega) (by omega)
      rw [e2] at b
      rw [if_pos c]
      refine ⟨b, fun x => ?_⟩
      rw [tb_or h1.1 h1.2 (by omega) _ (by omega), h2]
      by_cases cx : x = i
      · subst cx
        rw [decide_eq_true (p := (x : Int) = x) rfl, decide_eq_true (p := x < x + 1) (by omega), c]; simp
      · rw [decide_eq_false (p := (x : Int) = i) (by omega)]
        by_cases cl : x < i
        · rw [decide_eq_true cl, decide_eq_true (p := x < i + 1) (by omega)]; simp
        · rw [decide_eq_false cl, decide_eq_false (p := x < i + 1) (by omega)]; simp
    · rw [if_neg c]
      have p := pow_up (v := cbF H s i) (k := (i : Int)) (by rw [e]; exact h1.2)
      rw [e2] at p
      refine ⟨⟨h1.1, p⟩, fun x => ?_⟩
      rw [h2]
      by_cases cx : x = i
      · subst cx
        rw [decide_eq_false (p := x < x) (by omega), show cgF H s x = false by simpa using c]; simp
      · by_cases cl : x < i
        · rw [decide_eq_true cl, decide_eq_true (p := x < i + 1) (by omega)]
        · rw [decide_eq_false cl, decide_eq_false (p := x < i + 1) (by omega)]
theorem kp_lo (row : Nat → Int) (m w c : Int) (h : 0 ≤ row 25) {j : Nat} (hj : j < 25) : kpR row m w c j = row j := by
  unfold kpR
  by_cases e : row 25 = 40
  · rw [if_pos e, if_neg (by omega), if_neg (by omega), if_neg (by omega), if_neg (by omega)]
  · rw [if_neg e, if_neg (by omega), if_neg (by omega), if_neg (by omega), if_neg (by omega)]
def KRb (b : Int) (A : AH) (s : Nat) (row : Nat → Int) : Prop := (0 ≤ gi A s 7 ∧ gi A s 7 ≤ b) ∧ row 25 = min (gi A s 7) 40 ∧ ∀ k : Int, 0 ≤ k → k < row 25 → gi A (s + 4) ((gi A s 7 - row 25 + k) % 40).toNat = (row (26 + 3 * k).toNat * 16 + row (27 + 3 * k).toNat) * 1000 + row (28 + 3 * k).toNat ∧ (0 ≤ row (26 + 3 * k).toNat ∧ row (26 + 3 * k).toNat ≤ 999) ∧ (0 ≤ row (27 + 3 * k).toNat ∧ row (27 + 3 * k).toNat ≤ 15) ∧ (0 ≤ row (28 + 3 * k).toNat ∧ row (28 + 3 * k).toNat ≤ 999)
theorem KRb_keep {b : Int} {A B : AH} {s : Nat} {row : Nat → Int} {m w c : Int} (r : KRb b A s row) (hm : 0 ≤ m ∧ m ≤ 999) (hw : 0 ≤ w ∧ w ≤ 15) (hc : 0 ≤ c ∧ c ≤ 999) (e1 : gi B s 7 = gi A s 7 + 1) (e2 : ∀ j : Nat, j < 40 → gi B (s + 4) j = if j = (gi A s 7 % 40).toNat then (m * 16 + w) * 1000 + c else gi A (s + 4) j) : KRb (b + 1) B s (kpR row m w c) := by
  obtain ⟨⟨a1, a2⟩, a3, a4⟩ := r
  unfold KRb
  rw [e1]
  by_cases full : row 25 = 40
  · have k25 : kpR row m w c 25 = 40 := by unfold kpR; rw [if_pos full, if_neg (by omega), if_neg (by omega), if_neg (by omega), if_neg (by omega)]; exact full
    rw [k25]
    refine ⟨by omega, by omega, fun k h1 h2 => ?_⟩
    by_cases ck : k = 39
    · subst ck
      have ix : (gi A s 7 + 1 - 40 + 39) % 40 = gi A s 7 % 40 := by omega
      rw [ix, e2 _ (by omega), if_pos rfl]
      have q1 : kpR row m w c (26 + 3 * (39 : Int)).toNat = m := by unfold kpR; rw [if_pos full, if_pos (by omega)]
      have q2 : kpR row m w c (27 + 3 * (39 : Int)).toNat = w := by unfold kpR; rw [if_pos full, if_neg (by omega), if_pos (by omega)]
      have q3 : kpR row m w c (28 + 3 * (39 : Int)).toNat = c := by unfold kpR; rw [if_pos full, if_neg (by omega), if_neg (by omega), if_pos (by omega)]
      rw [q1, q2, q3]
      exact ⟨rfl, hm, hw, hc⟩
    · have ix : (gi A s 7 + 1 - 40 + k) % 40 = (gi A s 7 - row 25 + (k + 1)) % 40 := by omega
      have q : ∀ z : Int, (z = 26 ∨ z = 27 ∨ z = 28) → kpR row m w c (z + 3 * k).toNat = row (z + 3 * (k + 1)).toNat := by
        intro z hz
        unfold kpR
        rw [if_pos full, if_neg (by omega), if_neg (by omega), if_neg (by omega), if_pos (by omega)]
        congr 1; omega
      rw [ix, e2 _ (by omega), if_neg (by omega), q 26 (by omega), q 27 (by omega), q 28 (by omega)]
      exact a4 (k + 1) (by omega) (by omega)
  · have k25 : kpR row m w c 25 = row 25 + 1 := by unfold kpR; rw [if_neg full, if_pos rfl]
    rw [k25]
    refine ⟨by omega, by omega, fun k h1 h2 => ?_⟩
    by_cases ck : k = row 25
    · have ix : ((gi A s 7 + 1 - (row 25 + 1) + k) % 40).toNat = (gi A s 7 % 40).toNat := by omega
      rw [ix, e2 _ (by omega), if_pos rfl]
      have q1 : kpR row m w c (26 + 3 * k).toNat = m := by unfold kpR; rw [if_neg full, if_neg (by omega), if_pos (by omega)]
      have q2 : kpR row m w c (27 + 3 * k).toNat = w := by unfold kpR; rw [if_neg full, if_neg (by omega), if_neg (by omega), if_pos (by omega)]
      have q3 : kpR row m w c (28 + 3 * k).toNat = c := by unfold kpR; rw [if_neg full, if_neg (by omega), if_neg (by omega), if_neg (by omega), if_pos (by omega)]
      rw [q1, q2, q3]
      exact ⟨rfl, hm, hw, hc⟩
    · have ix : ((gi A s 7 + 1 - (row 25 + 1) + k) % 40).toNat = ((gi A s 7 - row 25 + k) % 40).toNat := by omega
      have q : ∀ z : Int, (z = 26 ∨ z = 27 ∨ z = 28) → kpR row m w c (z + 3 * k).toNat = row (z + 3 * k).toNat := by
        intro z hz
        unfold kpR
        rw [if_neg full, if_neg (by omega), if_neg (by omega), if_neg (by omega), if_neg (by omega)]
      rw [ix, e2 _ (by omega), if_neg (by omega), q 26 (by omega), q 27 (by omega), q 28 (by omega)]
      exact a4 k h1 (by omega)
set_option maxRecDepth 100000 in
theorem s_keepCough (d : Nat) (x c : Int) (A : AH) (h1 : 0 ≤ gi A 68 7) (h2 : gi A 68 7 ≤ 2000000) (hm : 0 ≤ gi A 68 0 ∧ gi A 68 0 ≤ 999) (hx : 0 ≤ x ∧ x ≤ 15) (hc : 0 ≤ c ∧ c ≤ 999) : runF (d + 1) 105 [vR 19 68 0, vI x, vI c] A = some (none, wi (wi A 72 (gi A 68 7 % 40).toNat ((gi A 68 0 * 16 + x) * 1000 + c)) 68 7 (gi A 68 7 + 1)) := by
  have e1 : (gi A 68 7).tmod 40 = gi A 68 7 % 40 := Int.tmod_eq_emod_of_nonneg h1
  rw [r_X9_keepCough, q_X9_keepCough_0 _ _ _ _ _ _ _ (by omega), e1, if_pos (by omega), wid (x := gi A 68 0 * 16) (by omega) (by omega), wid (x := gi A 68 0 * 16 + x) (by omega) (by omega), wid (x := (gi A 68 0 * 16 + x) * 1000) (by omega) (by omega), wid (x := (gi A 68 0 * 16 + x) * 1000 + c) (by omega) (by omega), q_X9_keepCough_27 _ _ _ _ _ _ _ (by omega)]
  simp -implicitDefEqProofs (disch := omega) only [gi_wi, ↓reduceIte, Int.reduceEq, cI_v, cL_v, cV_v, cR_v, wid, wid64, if_pos, if_neg, Nat.add_zero, if_true, if_false, and_self, and_true, true_and, and_false, false_and, or_true, true_or, or_false, false_or]
  rw [q_X9_keepCough_37 _ _ _ _ _ _ _ (by omega)]
theorem SR_fr2 {A B : AH} {s : Nat} {H : Nat → Nat → Int} {row : Nat → Int} (g0 : gi B s 0 = gi A s 0 ∧ gi B s 1 = gi A s 1 ∧ gi B s 2 = gi A s 2) (g : ∀ a j, s + 1 ≤ a → a ≤ s + 3 → gi B a j = gi A a j) (r : SR A s H row) : SR B s H row := by
  unfold SR at *
  rw [g0.1, g0.2.1, g0.2.2]
  obtain ⟨r1, r2, r3, r4, r5⟩ := r
  refine ⟨r1, r2, fun x h1 h2 => ?_, fun x h1 h2 => ?_, fun x h1 h2 => ?_⟩
  · rw [g _ _ (by omega) (by omega)]; exact r3 x h1 h2
  · rw [g _ _ (by omega) (by omega)]; exact r4 x h1 h2
  · rw [g _ _ (by omega) (by omega)]; exact r5 x h1 h2
/-- what the class may touch while people cough -/
def frP (A B : AH) : Prop := (∀ a j, ¬ (a = 68 ∧ j = 7) → a ≠ 72 → ¬ (a = 40 ∧ j = 14) → gi B a j = gi A a j) ∧ (∀ a j, gr B a j = gr A a j) ∧ B.2.2 = A.2.2
theorem frP_refl (A : AH) : frP A A := ⟨fun _ _ _ _ _ => rfl, fun _ _ => rfl, rfl⟩
theorem frP_trans {A B C : AH} (h1 : frP A B) (h2 : frP B C) : frP A C := ⟨fun a j q r t => (h2.1 a j q r t).trans (h1.1 a j q r t), fun a j => (h2.2.1 a j).trans (h1.2.1 a j), h2.2.2.trans h1.2.2⟩
theorem frP_wi {A B : AH} {a k : Nat} (v : Int) (h : (a = 68 ∧ k = 7) ∨ a = 72 ∨ (a = 40 ∧ k = 14)) (h2 : frP A B) : frP A (wi B a k v) := frP_trans h2 ⟨fun b j q r t => by
  rw [gi_wi, if_neg (by omega)], fun _ _ => rfl, rfl⟩
theorem BS_frP {A B : AH} (f : frP A B) {h : Nat} {H : Nat → Nat → Int} {row : Nat → Int} {m a q : Int} (b : BS A h 68 H row m a q) : BS B h 68 H row m a q := by
  obtain ⟨⟨b1, b2⟩, ⟨b3, b4, b5⟩, b6, b7, b8⟩ := b
  refine ⟨⟨by rw [f.2.1]; exact b1, by rw [f.2.1]; exact b2⟩, ⟨?_, ?_, ?_⟩, HR_fr (fun a j q => f.1 a j (by omega) (by omega) (by omega)) (fun a j _ => f.2.1 a j) f.2.2 b6, SR_fr2 ⟨f.1 68 0 (by omega) (by omega) (by omega), f.1 68 1 (by omega) (by omega) (by omega), f.1 68 2 (by omega) (by omega) (by omega)⟩ (fun a j _ _ => f.1 a j (by omega) (by omega) (by omega)) b7, b8⟩
  · rw [f.1 180 6 (by omega) (by omega) (by omega)]; exact b3
  · rw [f.1 180 5 (by omega) (by omega) (by omega)]; exact b4
  · rw [f.1 180 4 (by omega) (by omega) (by omega)]; exact b5
set_option maxRecDepth 100000 in
theorem l_passC (d : Nat) {h : Nat} {H : Nat → Nat → Int} {row : Nat → Int} {s b0 : Int} (A : AH) (bs : BS A h 68 H row (row 0) (row 2) (-1)) (g : gok H row) (hT : TR A H row (row 0) (row 2) (-1)) (hm : 0 ≤ row 0 ∧ row 0 ≤ 999) (h40 : gr A 40 5 = h) (hb0 : b0 ≤ 1900000) : ∀ (j i n : Nat) (B : AH), (i : Int) + j = nPe H → frP A B → gi B 40 14 = sdF H s i → KRb (b0 + i) B 68 (rwF H row s i) → 10 * j + 10 ≤ n → ∃ A' n', go true 0 (runF (d + 2)) (runN (d + 2)) pb_X11_passMinute n 25 [vR 20 40 0, vI (cbF H s i), vI i] [] B = go true 0 (runF (d + 2)) (runN (d + 2)) pb_X11_passMinute n' 93 [vR 20 40 0, vI (cbF H s (nPe H).toNat), vI (nPe H)] [] A' ∧ frP A A' ∧ gi A' 40 14 = sdF H s (nPe H).toNat ∧ KRb (b0 + nPe H) A' 68 (rwF H row s (nPe H).toNat) ∧ n - 10 * j - 5 ≤ n' := by
  have hc := g.1
  unfold cok at hc
  have hh0 : h ≠ 0 := by have := bs.2.2.1.1; omega
  have hhr := bs.2.2.1.1
  intro j
  induction j with
  | zero =>
    intro i n B h1 f hs hk hn
    obtain ⟨n, rfl⟩ : ∃ e, n = e + 1 := ⟨n - 1, by omega⟩
    have ei : (nPe H).toNat = i := by omega
    refine ⟨B, n, ?_, f, by rw [ei]; exact hs, by rw [ei, show nPe H = (i : Int) by omega]; exact hk, by omega⟩
    have e2 : gi B h 2 = nPe H := by rw [f.1 h 2 (by omega) (by omega) (by omega)]; exact bs.2.2.1.2.1.2.1
    rw [q_X11_passMinute_25, f.2.1, h40, if_neg hh0, e2, if_neg (by omega), ei, show ((i : Nat) : Int) = nPe H by omega, Nat.add_zero n]
  | succ j ih =>
    intro i n B h1 f hs hk hn
    obtain ⟨n, rfl⟩ : ∃ e, n = e + 10 := ⟨n - 10, by omega⟩
    have hsit : sit H row i = true := by unfold sit; rw [decide_eq_true (by omega)]; rfl
    have hnum := sit_num g.1 hsit
    have e2 : gi B h 2 = nPe H := by rw [f.1 h 2 (by omega) (by omega) (by omega)]; exact bs.2.2.1.2.1.2.1
    have e3 : gi B (h + 3) ((i : Int)).toNat = itchF H i := by rw [f.1 (h + 3) _ (by omega) (by omega) (by omega)]; exact (bs.2.2.1.2.2.1 i (sit_exi hsit)).2
    have ib := itch_bd g.2.1 hnum
    have cb := cough_bd (H := H) row (row 0) (row 2) (-1) i
    have dcd : ∀ n', go true 0 (runF (d + 2)) (runN (d + 2)) pb_X11_passMinute (n' + 1) 87 [vR 20 40 0, vI (cbF H s i), vI i] [] B = go true 0 (runF (d + 2)) (runN (d + 2)) pb_X11_passMinute n' 25 [vR 20 40 0, vI (cbF H s i), vI ((i + 1 : Nat) : Int)] [] B := fun n' => by
      rw [q_X11_passMinute_87, wid (by omega) (by omega), Nat.add_zero]; rfl
    by_cases c1 : 0 < itchF H i
    · have fB : frP A (wi B 40 14 (dr (gi B 40 14))) := frP_wi _ (by omega) f
      have sd : sdF H s (i + 1) = dr (sdF H s i) := by show (if 0 < itchF H i then _ else _) = _; rw [if_pos c1]
      have ei2 : ∀ z, gi (wi B 40 14 z) (h + 3) ((i : Int)).toNat = itchF H i := fun z => by rw [gi_wi, if_neg (by omega)]; exact e3
      by_cases c2 : dr (sdF H s i) / 64 % 100 < itchF H i
      · have cg : cgF H s i = true := by unfold cgF; rw [decide_eq_true c1, decide_eq_true c2]; rfl
        have cbe : cbF H s (i + 1) = bor (cbF H s i) (bshl 1 i) := by show (if cgF H s i = true then _ else _) = _; rw [if_pos cg]
        have rwe : rwF H row s (i + 1) = kpR (rwF H row s i) (row 0) i (coughF H row (row 0) (row 2) (-1) i) := by show (if cgF H s i = true then _ else _) = _; rw [if_pos cg]
        obtain ⟨B1, hB1⟩ : ∃ B1, B1 = wi B 40 14 (dr (sdF H s i)) := ⟨_, rfl⟩
        have q7 : gi B1 68 7 = gi B 68 7 := by rw [hB1, gi_wi, if_neg (by omega)]
        have q0 : gi B1 68 0 = row 0 := by rw [hB1, gi_wi, if_neg (by omega), f.1 68 0 (by omega) (by omega) (by omega)]; exact bs.2.2.2.1.2.1.1
        have q183 : gi B1 183 ((i : Int)).toNat = coughF H row (row 0) (row 2) (-1) i := by rw [hB1, gi_wi, if_neg (by omega), f.1 183 _ (by omega) (by omega) (by omega)]; exact (hT i hsit).2
        have kc := s_keepCough (d + 1) i (coughF H row (row 0) (row 2) (-1) i) B1 (by rw [q7]; exact hk.1.1) (by rw [q7]; have := hk.1.2; omega) (by rw [q0]; exact hm) (by omega) cb
        rw [q7, q0] at kc
        obtain ⟨B2, hB2⟩ : ∃ B2, B2 = wi (wi B1 72 (gi B 68 7 % 40).toNat ((row 0 * 16 + i) * 1000 + coughF H row (row 0) (row 2) (-1) i)) 68 7 (gi B 68 7 + 1) := ⟨_, rfl⟩
        rw [← hB2] at kc
        have f2 : frP A B2 := by rw [hB2, hB1]; exact frP_wi _ (by omega) (frP_wi _ (by omega) (frP_wi _ (by omega) f))
        obtain ⟨A', n', u1, u2, u3, u4, u5⟩ := ih (i + 1) (n + 7) B2 (by omega) f2 (by rw [sd, hB2, hB1]; simp -implicitDefEqProofs (disch := omega) only [gi_wi, ↓reduceIte, Int.reduceEq, cI_v, cL_v, cV_v, cR_v, wid, wid64, if_pos, if_neg, Nat.add_zero, if_true, if_false, and_self, and_true, true_and, and_false, false_and, or_true, true_or, or_false, false_or]) (by
          rw [rwe]
          have := KRb_keep (B := B2) (m := row 0) (w := i) (c := coughF H row (row 0) (row 2) (-1) i) hk hm (by omega) cb (by rw [hB2]; simp -implicitDefEqProofs (disch := omega) only [gi_wi, ↓reduceIte, Int.reduceEq, cI_v, cL_v, cV_v, cR_v, wid, wid64, if_pos, if_neg, Nat.add_zero, if_true, if_false, and_self, and_true, true_and, and_false, false_and, or_true, true_or, or_false, false_or]) (fun z hz => by
            rw [hB2, gi_wi, if_neg (by omega), gi_wi, hB1]
            by_cases cz : z = (gi B 68 7 % 40).toNat
            · rw [if_pos ⟨rfl, cz⟩, if_pos cz]
            · rw [if_neg (fun q => cz q.2), if_neg cz, gi_wi, if_neg (by omega)])
          rw [show b0 + ((i + 1 : Nat) : Int) = b0 + i + 1 by omega]
          exact this) (by omega)
        refine ⟨A', n', ?_, u2, u3, u4, by omega⟩
        rw [q_X11_passMinute_25, f.2.1, h40, if_neg hh0, e2, if_pos (by omega), if_neg hh0, if_pos (by omega), e3, if_pos c1, s_drawC, cI_v, hs, ← hB1, show gr B1 40 5 = h by rw [hB1, gr_wi, f.2.1, h40], if_neg hh0, if_pos (by omega), hB1, ei2, if_pos c2, ← hB1, q_X11_passMinute_70, if_pos (by omega), q183, kc, cV_v, q_X11_passMinute_87, wid (by omega) (by omega), ← cbe]
        exact u1
      · have cg : cgF H s i = false := by unfold cgF; rw [decide_eq_true c1, decide_eq_false c2]; rfl
        have cbe : cbF H s (i + 1) = cbF H s i := by show (if cgF H s i = true then _ else _) = _; rw [cg, if_neg (by simp)]
        have rwe : rwF H row s (i + 1) = rwF H row s i := by show (if cgF H s i = true then _ else _) = _; rw [cg, if_neg (by simp)]
        obtain ⟨B1, hB1⟩ : ∃ B1, B1 = wi B 40 14 (dr (sdF H s i)) := ⟨_, rfl⟩
        have f2 : frP A B1 := by rw [hB1]; exact frP_wi _ (by omega) f
        obtain ⟨A', n', u1, u2, u3, u4, u5⟩ := ih (i + 1) (n + 8) B1 (by omega) f2 (by rw [sd, hB1]; simp -implicitDefEqProofs (disch := omega) only [gi_wi, ↓reduceIte, Int.reduceEq, cI_v, cL_v, cV_v, cR_v, wid, wid64, if_pos, if_neg, Nat.add_zero, if_true, if_false, and_self, and_true, true_and, and_false, false_and, or_true, true_or, or_false, false_or]) (by
          rw [rwe]
          obtain ⟨k1, k2, k3⟩ := hk
          unfold KRb
          rw [hB1, gi_wi, if_neg (by omega)]
          exact ⟨by omega, k2, fun k a1 a2 => by rw [gi_wi, if_neg (by omega)]; exact k3 k a1 a2⟩) (by omega)
        refine ⟨A', n', ?_, u2, u3, u4, by omega⟩
        rw [q_X11_passMinute_25, f.2.1, h40, if_neg hh0, e2, if_pos (by omega), if_neg hh0, if_pos (by omega), e3, if_pos c1, s_drawC, cI_v, hs, ← hB1, show gr B1 40 5 = h by rw [hB1, gr_wi, f.2.1, h40], if_neg hh0, if_pos (by omega), hB1, ei2, if_neg c2, ← hB1, q_X11_passMinute_87, wid (by omega) (by omega), ← cbe]
        exact u1
    · have cg : cgF H s i = false := by unfold cgF; rw [decide_eq_false c1]; rfl
      have sd : sdF H s (i + 1) = sdF H s i := by show (if 0 < itchF H i then _ else _) = _; rw [if_neg c1]
      have cbe : cbF H s (i + 1) = cbF H s i := by show (if cgF H s i = true then _ else _) = _; rw [cg, if_neg (by simp)]
      have rwe : rwF H row s (i + 1) = rwF H row s i := by show (if cgF H s i = true then _ else _) = _; rw [cg, if_neg (by simp)]
      obtain ⟨A', n', u1, u2, u3, u4, u5⟩ := ih (i + 1) (n + 8) B (by omega) f (by rw [sd]; exact hs) (by
        rw [rwe]
        obtain ⟨k1, k2, k3⟩ := hk
        exact ⟨by omega, k2, k3⟩) (by omega)
      refine ⟨A', n', ?_, u2, u3, u4, by omega⟩
      rw [q_X11_passMinute_25, f.2.1, h40, if_neg hh0, e2, if_pos (by omega), if_neg hh0, if_pos (by omega), e3, if_neg c1, q_X11_passMinute_87, wid (by omega) (by omega), ← cbe]
      exact u1
theorem rw_25 {H : Nat → Nat → Int} {row : Nat → Int} {s : Int} (h : 0 ≤ row 25 ∧ row 25 ≤ 40) : ∀ i, 0 ≤ rwF H row s i 25 ∧ rwF H row s i 25 ≤ 40
  | 0 => h
  | i + 1 => by
    have ih := rw_25 (H := H) (s := s) h i
    show 0 ≤ (if cgF H s i = true then kpR (rwF H row s i) (row 0) i (coughF H row (row 0) (row 2) (-1) i) else rwF H row s i) 25 ∧ (if cgF H s i = true then kpR (rwF H row s i) (row 0) i (coughF H row (row 0) (row 2) (-1) i) else rwF H row s i) 25 ≤ 40
    by_cases c : cgF H s i = true
    · rw [if_pos c]
      unfold kpR
      by_cases e : rwF H row s i 25 = 40
      · rw [if_pos e, if_neg (by omega), if_neg (by omega), if_neg (by omega), if_neg (by omega)]; omega
      · rw [if_neg e, if_pos rfl]; omega
    · rw [if_neg c]; exact ih
theorem rw_lo2 {H : Nat → Nat → Int} {row : Nat → Int} {s : Int} (h : 0 ≤ row 25 ∧ row 25 ≤ 40) (i : Nat) {j : Nat} (hj : j < 25) : rwF H row s i j = row j := by
  induction i with
  | zero => rfl
  | succ i ih =>
    show (if cgF H s i = true then kpR (rwF H row s i) (row 0) i (coughF H row (row 0) (row 2) (-1) i) else rwF H row s i) j = row j
    by_cases c : cgF H s i = true
    · rw [if_pos c, kp_lo _ _ _ _ (rw_25 h i).1 hj]; exact ih
    · rw [if_neg c]; exact ih
theorem mg_row {H : Nat → Nat → Int} {row : Nat → Int} {s : Int} (h : 0 ≤ row 25 ∧ row 25 ≤ 40) : rowEq (mgR H row s) row := fun j h1 h2 => by
  unfold mgR
  rw [if_neg (by omega), if_neg (by omega)]
  exact rw_lo2 h _ (by omega)
theorem gok_row {H : Nat → Nat → Int} {row row' : Nat → Int} (e : rowEq row' row) (e2 : row' 2 = row 2) (g : gok H row) : gok H row' := by
  obtain ⟨hc, hh, hs, hr, hd⟩ := g
  have si := sit_row e hc
  have se : ∀ x, sit H row x = true → seatR row' x = seatR row x := fun x hx => by
    have := sit_num hc hx
    unfold num at this
    exact seat_row e (by omega) (by omega)
  refine ⟨hc, hh, hs, ⟨fun j a b => by rw [e j a (by omega)]; exact hr.1 j a b, fun j a b => by rw [e j (by omega) (by omega), e (j - 6) (by omega) (by omega)]; exact hr.2.1 j a b, by rw [e2]; exact hr.2.2⟩, fun x hx => ?_, fun x y hx hy q => ?_⟩
  · rw [si] at hx; rw [se x hx]; exact hd.1 x hx
  · rw [si] at hx hy
    rw [se x hx, se y hy] at q
    exact hd.2 x y hx hy q
theorem SR_row {A : AH} {s : Nat} {H : Nat → Nat → Int} {row row' : Nat → Int} (hc : cok H) (e : rowEq row' row) (h0 : gi A s 0 = row' 0 ∧ gi A s 1 = row' 1 ∧ gi A s 2 = row' 2) (B : AH) (hB : SR B s H row) (g : ∀ a j, s + 1 ≤ a → a ≤ s + 3 → gi A a j = gi B a j) : SR A s H row' := by
  obtain ⟨r1, r2, r3, r4, r5⟩ := hB
  have si := sit_row e hc
  have se : ∀ x, sit H row x = true → seatR row' x = seatR row x := fun x hx => by
    have := sit_num hc hx
    unfold num at this
    exact seat_row e (by omega) (by omega)
  refine ⟨r1, h0, fun x h1 h2 => ?_, fun x h1 h2 => ?_, fun z h1 h2 => ?_⟩
  · rw [g _ _ (by omega) (by omega), r3 x h1 h2, si]
    by_cases c : sit H row x = true
    · rw [if_pos c, if_pos c, se x c]
    · rw [if_neg c, if_neg c]
  · rw [g _ _ (by omega) (by omega), r4 x h1 h2, si]
    by_cases c : sit H row x = true
    · rw [if_pos c, if_pos c, party_row e H (sit_num hc c)]
    · rw [if_neg c, if_neg c]
  · rw [g _ _ (by omega) (by omega), r5 z h1 h2]
    refine (who_cg (fun j j1 j2 => ?_)).symm
    rw [si]
    by_cases c : sit H row j = true
    · rw [se j c]
    · rw [show sit H row j = false by simpa using c]; rfl
theorem QI_row {A : AH} {H : Nat → Nat → Int} {row row' : Nat → Int} {a q : Int} (hc : cok H) (e : rowEq row' row) (h : QI A H row a q) : QI A H row' a q := by
  refine ⟨h.1, ?_⟩
  rcases h.2 with h | ⟨h1, h2, m0, h3, h4⟩
  · exact Or.inl h
  · refine Or.inr ⟨h1, h2, m0, h3, fun x hx => ?_⟩
    rw [sit_row e hc] at hx
    have hn := sit_num hc hx
    rw [weight_row e hc m0 a q hn, cough_row e hc m0 a q hn]
    exact h4 x hx
/-- all that a minute of the class may touch -/
def frM (A B : AH) : Prop := (∀ a j, ¬ (68 ≤ a ∧ a ≤ 72) → ¬ (180 ≤ a ∧ a ≤ 184) → ¬ (a = 40 ∧ j = 14) → gi B a j = gi A a j) ∧ (∀ a j, gr B a j = gr A a j) ∧ B.2.2 = A.2.2
theorem frM_trans {A B C : AH} (h1 : frM A B) (h2 : frM B C) : frM A C := ⟨fun a j q r t => (h2.1 a j q r t).trans (h1.1 a j q r t), fun a j => (h2.2.1 a j).trans (h1.2.1 a j), h2.2.2.trans h1.2.2⟩
theorem sw_bd {H : Nat → Nat → Int} {row : Nat → Int} (hc : cok H) (hh : hok H) (m a q t : Int) : -15984 ≤ swF H row m a q t ∧ swF H row m a q t ≤ 15984 := by
  have h := sm_bd (f := fun x => if sit H row x = true then movesF H row m a q x (tb t x) else 0) (lo := -999) (hi := 999) 16 0 (fun j _ _ => by
    by_cases c : sit H row j = true
    · simp only [c, if_true]; exact moves_bd hh row m a q (sit_num hc c) _
    · simp only [c]; simp)
  unfold swF
  omega
set_option maxRecDepth 100000 in
theorem s_passC (d : Nat) {h : Nat} {H : Nat → Nat → Int} {row : Nat → Int} {s b0 : Int} (A : AH) {m0 : Int} (bi : BI A h 68 H row m0 (row 2) (-1)) (g : gok H row) (hm : 0 ≤ row 0 ∧ row 0 ≤ 999) (hs1 : -99999 ≤ row 1 ∧ row 1 ≤ 99999) (h40 : gr A 40 5 = h) (hb0 : b0 ≤ 1900000) (hs : gi A 40 14 = s) (hk : KRb b0 A 68 row) : ∃ A', runF (d + 7) 146 [vR 20 40 0] A = some (some (vI (bcF (cbF H s (nPe H).toNat))), A') ∧ BI A' h 68 H (mgR H row s) (row 0) (mgR H row s 2) (-1) ∧ gok H (mgR H row s) ∧ gi A' 40 14 = sdF H s (nPe H).toNat ∧ KRb (b0 + nPe H) A' 68 (mgR H row s) ∧ frM A A' := by
  have hc := g.1
  unfold cok at hc
  have ha := g.2.2.2.1.2.2
  have r25 : 0 ≤ row 25 ∧ row 25 ≤ 40 := by have := hk.2.1; have := hk.1; omega
  have e0 : gi A 68 0 = row 0 := bi.1.2.2.2.1.2.1.1
  have b1 := BI_min bi (row 0)
  obtain ⟨A1, e1, t1, q1, f1⟩ := s_tally d _ b1.1 g ha.1 ha.2 hm.1 (by omega) b1.2
  have bs1 := BS_frT f1 b1.1
  have fT : ∀ a j, ¬ (180 ≤ a ∧ a ≤ 184) → gi A1 a j = gi A a j := fun a j q => by rw [f1.1 a j (by omega) (by omega), gi_wi, if_neg (by omega)]
  have h40' : gr A1 40 5 = h := by rw [f1.2.1]; exact h40
  obtain ⟨A2, n2, u1, u2, u3, u4, u5⟩ := l_passC (d + 4) (s := s) (b0 := b0) A1 bs1 g t1 hm h40' hb0 (nPe H).toNat 0 (fu + 198) A1 (by omega) (frP_refl A1) (by rw [fT 40 14 (by omega)]; exact hs) (by
    obtain ⟨k1, k2, k3⟩ := hk
    unfold KRb
    rw [fT 68 7 (by omega)]
    exact ⟨by omega, k2, fun k a1 a2 => by rw [fT _ _ (by omega)]; exact k3 k a1 a2⟩) (by have := fu_ge; omega)
  obtain ⟨n3, rfl⟩ : ∃ e, n2 = e + 5 := ⟨n2 - 5, by have := fu_ge; omega⟩
  have bs2 := BS_frP u2 bs1
  have t2 : TR A2 H row (row 0) (row 2) (-1) := fun x hx => by rw [u2.1 182 _ (by omega) (by omega) (by omega), u2.1 183 _ (by omega) (by omega) (by omega)]; exact t1 x hx
  have cbs := cb_sp H s (nPe H).toNat (by omega)
  have p8 : 2 ^ (nPe H).toNat ≤ 2 ^ 8 := Nat.pow_le_pow_right (by omega) (by omega)
  have e7 := s_swing (d + 4) (cbF H s (nPe H).toNat) A2 bs2 g t2 cbs.1.1 (by have := cbs.1.2; omega)
  have sb := sw_bd (row := row) g.1 g.2.1 (row 0) (row 2) (-1) (cbF H s (nPe H).toNat)
  have z1 : gi A2 68 1 = row 1 := bs2.2.2.2.1.2.1.2.1
  have z0 : gi A2 68 0 = row 0 := bs2.2.2.2.1.2.1.1
  have me : rowEq (mgR H row s) row := mg_row r25
  have m2 : mgR H row s 2 = row 2 := by unfold mgR; rw [if_neg (by omega), if_neg (by omega)]; exact rw_lo2 r25 _ (by omega)
  have mg0 : mgR H row s 0 = row 0 + 1 := by unfold mgR; rw [if_pos rfl]
  have mg1 : mgR H row s 1 = cutF (row 1 + swF H row (row 0) (row 2) (-1) (cbF H s (nPe H).toNat)) (-99999) 99999 := by unfold mgR; rw [if_neg (by omega), if_pos rfl]
  have g' := gok_row me m2 g
  obtain ⟨A3, hA3⟩ : ∃ A3, A3 = wi (wi A2 68 1 (cutF (row 1 + swF H row (row 0) (row 2) (-1) (cbF H s (nPe H).toNat)) (-99999) 99999)) 68 0 (row 0 + 1) := ⟨_, rfl⟩
  have f3 : ∀ a j, ¬ (a = 68 ∧ (j = 0 ∨ j = 1)) → gi A3 a j = gi A2 a j := fun a j q => by rw [hA3, gi_wi, if_neg (by omega), gi_wi, if_neg (by omega)]
  refine ⟨A3, ?_, ⟨⟨⟨?_, ?_⟩, ⟨?_, ?_, ?_⟩, ?_, ?_, by omega⟩, ?_⟩, g', ?_, ?_, ⟨fun a j q1 q2 q3 => ?_, fun a j => ?_, ?_⟩⟩
  · rw [r_X11_passMinute, q_X11_passMinute_0, e0, q_X11_passMinute_14, e1, cV_v]
    have u1' : go true 0 (runF (d + 6)) (runN (d + 6)) pb_X11_passMinute (fu + 198) 25 [vR 20 40 0, vI 0, vI 0] [] A1 = _ := u1
    rw [Nat.add_zero (fu + 198), u1', q_X11_passMinute_93, e7, cI_v, z1, wid (by omega) (by omega), s_cut _ _ _ _ _ (by omega) (by omega), cI_v, q_X11_passMinute_126]
    have z0' : ∀ v, gi (wi A2 68 1 v) 68 0 = row 0 := fun v => by rw [gi_wi, if_neg (by omega)]; exact z0
    rw [z0', wid (by omega) (by omega), ← hA3, q_X11_passMinute_139, s_bitCount _ _ _ cbs.1.1 (by have := cbs.1.2; omega), cI_v]
  · rw [hA3, gr_wi, gr_wi]; exact bs2.1.1
  · rw [hA3, gr_wi, gr_wi]; exact bs2.1.2
  · rw [f3 180 6 (by omega)]; exact bs2.2.1.1
  · rw [f3 180 5 (by omega), m2]; exact bs2.2.1.2.1
  · rw [f3 180 4 (by omega)]; exact bs2.2.1.2.2
  · have hh := bs2.2.2.1.1
    exact HR_fr (fun a j q => f3 a j (by omega)) (fun a j _ => by rw [hA3]; rfl) (by rw [hA3]; rfl) bs2.2.2.1
  · refine SR_row g.1 me ⟨?_, ?_, ?_⟩ A2 bs2.2.2.2.1 (fun a j h1 h2 => f3 a j (by omega))
    · rw [hA3, gi_wi, if_pos (by omega), mg0]
    · rw [hA3, gi_wi, if_neg (by omega), gi_wi, if_pos (by omega), mg1]
    · rw [f3 68 2 (by omega), m2]; exact bs2.2.2.2.1.2.1.2.2
  · refine QI_row g.1 me ?_
    rw [m2]
    refine ⟨?_, ?_⟩
    · rw [f3 180 2 (by omega), u2.1 180 2 (by omega) (by omega) (by omega)]; exact q1.1
    · rw [f3 180 3 (by omega), u2.1 180 3 (by omega) (by omega) (by omega)]
      rcases q1.2 with q | ⟨q1', q2', m1, q3, q4⟩
      · exact Or.inl q
      · exact Or.inr ⟨q1', q2', m1, q3, fun x hx => by rw [f3 182 _ (by omega), f3 183 _ (by omega), u2.1 182 _ (by omega) (by omega) (by omega), u2.1 183 _ (by omega) (by omega) (by omega)]; exact q4 x hx⟩
  · rw [f3 40 14 (by omega)]; exact u3
  · obtain ⟨k1, k2, k3⟩ := u4
    have mk : ∀ j, 2 ≤ j → mgR H row s j = rwF H row s (nPe H).toNat j := fun j hj => by unfold mgR; rw [if_neg (by omega), if_neg (by omega)]
    unfold KRb
    rw [f3 68 7 (by omega), mk 25 (by omega)]
    refine ⟨k1, k2, fun k a1 a2 => ?_⟩
    rw [f3 _ _ (by omega), mk _ (by omega), mk _ (by omega), mk _ (by omega)]
    exact k3 k a1 a2
  · rw [f3 a j (by omega), u2.1 a j (by omega) (by omega) q3, fT a j q2]
  · rw [hA3, gr_wi, gr_wi, u2.2.1, f1.2.1]; rfl
  · rw [hA3]
    show A2.2.2 = A.2.2
    rw [u2.2.2, f1.2.2]; rfl
