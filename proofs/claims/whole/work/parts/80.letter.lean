/-! the call letter -/
def dvF : Nat → Int → Int
  | 0, v => v
  | j + 1, v => dvF j (v / 27)
def lnF : Nat → Int → Int
  | 0, _ => 0
  | j + 1, v => if 0 < v then 1 + lnF j (v / 27) else 0
theorem lnF_bd : ∀ (j : Nat) (v : Int), 0 ≤ lnF j v ∧ lnF j v ≤ j
  | 0, _ => by unfold lnF; omega
  | j + 1, v => by
    have := lnF_bd j (v / 27)
    unfold lnF
    split <;> omega
theorem td27 {v : Int} (h : 0 ≤ v) : v.tdiv 27 = v / 27 := Int.tdiv_eq_ediv_of_nonneg h
theorem tm27 {v : Int} (h : 0 ≤ v) : v.tmod 27 = v % 27 := Int.tmod_eq_emod_of_nonneg h
set_option maxRecDepth 100000 in
theorem l_letterC (d h : Nat) (hh : h ≠ 0) (x k : Int) (hk : 0 ≤ k) (A : AH) : ∀ (j n : Nat) (v z : Int), z = k + j → z ≤ 5 → 0 ≤ v → v < 2147483648 → 3 * j + 5 ≤ n → go true 0 (runF d) (runN d) pb_X3_letterOf n 10 [vR 13 h 0, vI x, vI k, vI v, vI z] [] A = some (some (vI (dvF j v % 27)), A) := by
  intro j
  induction j with
  | zero =>
    intro n v z h1 h5 h2 h3 hn
    obtain ⟨n, rfl⟩ : ∃ e, n = e + 3 := ⟨n - 3, by omega⟩
    rw [q_X3_letterOf_10 _ _ _ _ _ _ _ _ _ hh, if_neg (by omega), tm27 h2, dvF]
  | succ j ih =>
    intro n v z h1 h5 h2 h3 hn
    obtain ⟨n, rfl⟩ : ∃ e, n = e + 3 := ⟨n - 3, by omega⟩
    rw [q_X3_letterOf_10 _ _ _ _ _ _ _ _ _ hh, if_pos (by omega), td27 h2, wid (by omega) (by omega), wid (by omega) (by omega), ih _ _ _ (by omega) (by omega) (by omega) (by omega) (by omega), dvF]
set_option maxRecDepth 100000 in
theorem s_letterOf (d h : Nat) (hh : h ≠ 0) (x k : Int) (hk : 0 ≤ k ∧ k < 6) (hx : 0 ≤ x ∧ x < 20) (A : AH) (hv : 0 ≤ gi A (h + 1) x.toNat ∧ gi A (h + 1) x.toNat < 2147483648) : runF (d + 1) 48 [vR 13 h 0, vI x, vI k] A = some (some (vI (dvF (5 - k).toNat (gi A (h + 1) x.toNat) % 27)), A) := by
  rw [r_X3_letterOf, q_X3_letterOf_0 (ha0 := hh), if_pos hx, Nat.add_zero (fu + 199), l_letterC d h hh x k hk.1 A (5 - k).toNat _ _ _ (by omega) (by omega) hv.1 hv.2 (by have := fu_ge; omega)]
set_option maxRecDepth 100000 in
theorem l_letterM2 (d : Nat) (x w k z : Int) (hk : 0 ≤ k) (A : AH) : ∀ (j n : Nat) (v q : Int), q = k + j → q ≤ 5 → 0 ≤ v → v < 2147483648 → 3 * j + 5 ≤ n → go true 0 (runF d) (runN d) pb_X12_letter n 105 [vR 21 190 0, vI x, vI w, vI k, vL v, vS, vI z, vI q, vS] [] A = some (some (vI (dvF j v % 27)), A) := by
  intro j
  induction j with
  | zero =>
    intro n v q h1 h5 h2 h3 hn
    obtain ⟨n, rfl⟩ : ∃ e, n = e + 3 := ⟨n - 3, by omega⟩
    rw [q_X12_letter_105, if_neg (by omega), tm27 h2, wid (by omega) (by omega), dvF]
  | succ j ih =>
    intro n v q h1 h5 h2 h3 hn
    obtain ⟨n, rfl⟩ : ∃ e, n = e + 3 := ⟨n - 3, by omega⟩
    rw [q_X12_letter_105, if_pos (by omega), td27 h2, wid64 (by omega) (by omega), wid (by omega) (by omega), ih _ _ _ (by omega) (by omega) (by omega) (by omega) (by omega), dvF]
set_option maxRecDepth 100000 in
theorem l_letterM1 (d : Nat) (x w k v : Int) (hk : 0 ≤ k) (h0 : 0 ≤ v) (h1 : v < 2147483648) (A : AH) : ∀ (j n : Nat) (y z : Int), y < ((27 ^ j : Nat) : Int) → 0 ≤ y → 0 ≤ z → z + j ≤ 6 → 3 * j + 40 ≤ n → go true 0 (runF d) (runN d) pb_X12_letter n 70 [vR 21 190 0, vI x, vI w, vI k, vL v, vS, vI z, vL y, vS] [] A = some (some (vI (if k < z + lnF j y then dvF (z + lnF j y - 1 - k).toNat v % 27 else 0)), A) := by
  intro j
  induction j with
  | zero =>
    intro n y z h2 h3 h4 h5 hn
    obtain ⟨n, rfl⟩ : ∃ e, n = e + 3 := ⟨n - 3, by omega⟩
    have y0 : y = 0 := by simp at h2; omega
    rw [q_X12_letter_70]
    simp only [lcp_gt]
    rw [if_neg (by omega), lnF, Int.add_zero]
    by_cases c : k < z
    · rw [if_pos c, if_pos c, wid (by omega) (by omega), Nat.add_zero n, l_letterM2 d x w k z hk A (z - 1 - k).toNat _ _ _ (by omega) (by omega) h0 h1 (by omega)]
    · rw [if_neg c, if_neg c]
  | succ j ih =>
    intro n y z h2 h3 h4 h5 hn
    obtain ⟨n, rfl⟩ : ∃ e, n = e + 3 := ⟨n - 3, by omega⟩
    have p : ((27 ^ (j + 1) : Nat) : Int) = 27 * ((27 ^ j : Nat) : Int) := by rw [Nat.pow_succ]; push_cast; omega
    have p6 : 27 ^ (j + 1) ≤ 27 ^ 6 := Nat.pow_le_pow_right (by omega) (by omega)
    rw [q_X12_letter_70]
    simp only [lcp_gt]
    rw [lnF]
    by_cases c : 0 < y
    · rw [if_pos c, if_pos c, td27 h3, wid64 (by omega) (by omega), wid (by omega) (by omega), ih (n + 2) _ _ (by omega) (by omega) (by omega) (by omega) (by omega), show z + 1 + lnF j (y / 27) = z + (1 + lnF j (y / 27)) by omega]
    · rw [if_neg c, if_neg c, Int.add_zero]
      by_cases c : k < z
      · rw [if_pos c, if_pos c, wid (by omega) (by omega), Nat.add_zero n, l_letterM2 d x w k z hk A (z - 1 - k).toNat _ _ _ (by omega) (by omega) h0 h1 (by omega)]
      · rw [if_neg c, if_neg c]
theorem pad_dv (v k : Int) (h0 : 0 ≤ v) (h1 : v < 387420489) (hk : 0 ≤ k ∧ k < 6) : dvF (5 - k).toNat (padN v) % 27 = if k < lnF 6 v then dvF (lnF 6 v - 1 - k).toNat v % 27 else 0 := by
  have e : (v = 0 ∧ lnF 6 v = 0 ∧ padN v = 0) ∨ (0 < v ∧ v < 27 ∧ lnF 6 v = 1 ∧ padN v = v * 14348907) ∨ (27 ≤ v ∧ v < 729 ∧ lnF 6 v = 2 ∧ padN v = v * 531441) ∨ (729 ≤ v ∧ v < 19683 ∧ lnF 6 v = 3 ∧ padN v = v * 19683) ∨ (19683 ≤ v ∧ v < 531441 ∧ lnF 6 v = 4 ∧ padN v = v * 729) ∨ (531441 ≤ v ∧ v < 14348907 ∧ lnF 6 v = 5 ∧ padN v = v * 27) ∨ (14348907 ≤ v ∧ lnF 6 v = 6 ∧ padN v = v) := by
    unfold padN
    simp only [lnF]
    by_cases c0 : v = 0
    · left; rw [if_neg (by omega), if_pos (by omega)]; omega
    · rw [if_pos (by omega)]
      by_cases c1 : v < 27
      · rw [if_neg (by omega), if_pos c1]; omega
      · rw [if_pos (by omega), if_neg c1]
        by_cases c2 : v < 729
        · rw [if_neg (by omega), if_pos c2]; omega
        · rw [if_pos (by omega), if_neg c2]
          by_cases c3 : v < 19683
          · rw [if_neg (by omega), if_pos c3]; omega
          · rw [if_pos (by omega), if_neg c3]
            by_cases c4 : v < 531441
            · rw [if_neg (by omega), if_pos c4]; omega
            · rw [if_pos (by omega), if_neg c4]
              by_cases c5 : v < 14348907
              · rw [if_neg (by omega), if_pos c5]; omega
              · rw [if_pos (by omega), if_neg c5]; omega
  have hk6 : k = 0 ∨ k = 1 ∨ k = 2 ∨ k = 3 ∨ k = 4 ∨ k = 5 := by omega
  have d0 : ∀ x, dvF 0 x = x := fun x => rfl
  have d1 : ∀ x, dvF 1 x = x / 27 := fun x => rfl
  have d2 : ∀ x, dvF 2 x = x / 27 / 27 := fun x => rfl
  have d3 : ∀ x, dvF 3 x = x / 27 / 27 / 27 := fun x => rfl
  have d4 : ∀ x, dvF 4 x = x / 27 / 27 / 27 / 27 := fun x => rfl
  have d5 : ∀ x, dvF 5 x = x / 27 / 27 / 27 / 27 / 27 := fun x => rfl
  rcases e with ⟨_, e1, e2⟩ | ⟨_, _, e1, e2⟩ | ⟨_, _, e1, e2⟩ | ⟨_, _, e1, e2⟩ | ⟨_, _, e1, e2⟩ | ⟨_, _, e1, e2⟩ | ⟨_, e1, e2⟩ <;> rw [e1, e2] <;> rcases hk6 with rfl | rfl | rfl | rfl | rfl | rfl <;> simp only [Int.reduceSub, Int.reduceToNat, Int.reduceLT, if_true, if_false, d0, d1, d2, d3, d4, d5] <;> omega
theorem padN_bd {v : Int} (h0 : 0 ≤ v) (h1 : v < 387420489) : 0 ≤ padN v ∧ padN v < 2147483648 := by
  unfold padN
  split
  · omega
  · split
    · omega
    · split
      · omega
      · split
        · omega
        · split <;> omega
theorem c_letter (d n : Nat) (x w k : Int) (A : AH) (r : REL n A) : CP (d + 4) n 115 219 [vI x, vI w, vI k] A := by
  have g := REL_g r
  have b6 := r.2.2.1
  have hh0 : gr A 40 5 ≠ 0 := by have := b6.1; omega
  have hc := g.1
  unfold cok at hc
  have h225 := g.2.1.2.2.2.2.2.2
  have n1 := b6.2.2.2.2.2.2.2.2.2.1
  have n2 := b6.2.2.2.2.2.2.2.2.2.2.1
  have n3 := b6.2.2.2.2.2.2.2.2.2.2.2.1
  have cls : ∀ (y : Int) (j : Nat), 24 ≤ j → j < 48 → 0 ≤ y → y < 20 → 0 ≤ k → k < 6 → gi A (gr A 40 5 + 1) y.toNat = padN (hv A 225 j) → runF (d + 3) 48 [vR 13 (gr A 40 5) 0, vI y, vI k] A = some (some (vI (if k < lnF 6 (hv A 225 j) then dvF (lnF 6 (hv A 225 j) - 1 - k).toNat (hv A 225 j) % 27 else 0)), A) := by
    intro y j j1 j2 y1 y2 k1 k2 e
    have hb := h225 j j1 j2
    rw [s_letterOf _ _ hh0 y k ⟨k1, k2⟩ ⟨y1, y2⟩ A (by rw [e]; exact padN_bd hb.1 hb.2), e, pad_dv _ k hb.1 hb.2 ⟨k1, k2⟩]
  by_cases c : (0 ≤ k ∧ k ≤ 5) ∧ (x = 0 ∧ (0 ≤ w ∧ w < nPe (hv A)) ∨ x = 1 ∧ (0 ≤ w ∧ w < nMu (hv A)) ∨ x = 2 ∧ (0 ≤ w ∧ w < nPo (hv A)))
  · obtain ⟨J, hJ⟩ : ∃ J, J = (24 + 8 * x + w).toNat := ⟨_, rfl⟩
    refine CP_q r (vI (if k < lnF 6 (hv A 225 J) then dvF (lnF 6 (hv A 225 J) - 1 - k).toNat (hv A 225 J) % 27 else 0)) ⟨A, ?_, sc_refl A⟩ (fun A1 f => ⟨A1, ?_, sc_refl A1⟩)
    · rw [r_X11_letter, q_X11_letter_0, if_neg (by omega), if_pos (by omega)]
      rcases c.2 with ⟨rfl, c1⟩ | ⟨rfl, c1⟩ | ⟨rfl, c1⟩
      · rw [if_pos rfl, if_neg (by omega), if_neg hh0, b6.2.1.2.1, if_pos c1.2, if_neg hh0, cls w J (by omega) (by omega) (by omega) (by omega) (by omega) (by omega) (by rw [n1 w c1.1 c1.2]; congr 2; omega), cI_v]
      · rw [if_neg (by omega), if_pos rfl, if_neg hh0, s_isMuteC _ _ w A _ b6, cI_v, decide_eq_true c1, bI_t, if_neg (by omega), if_neg hh0, wid (by omega) (by omega), cls (10 + w) J (by omega) (by omega) (by omega) (by omega) (by omega) (by omega) (by rw [n2 w c1.1 c1.2]; congr 2; omega), cI_v]
      · rw [if_neg (by omega), if_neg (by omega), if_pos rfl, if_neg hh0, s_isPointC _ _ w A _ b6, cI_v, decide_eq_true c1, bI_t, if_neg (by omega), if_neg hh0, wid (by omega) (by omega), cls (16 + w) J (by omega) (by omega) (by omega) (by omega) (by omega) (by omega) (by rw [n3 w c1.1 c1.2]; congr 2; omega), cI_v]
    · have cnt : gi A1 224 (6 + x).toNat = if x = 0 then nPe (hv A) else if x = 1 then nMu (hv A) else nPo (hv A) := by
        rcases c.2 with ⟨rfl, c1⟩ | ⟨rfl, c1⟩ | ⟨rfl, c1⟩
        · rw [if_pos rfl]; rw [← sc_hv f]; rfl
        · rw [if_neg (by omega), if_pos rfl]; rw [← sc_hv f]; rfl
        · rw [if_neg (by omega), if_neg (by omega)]; rw [← sc_hv f]; rfl
      have wl : 0 ≤ w ∧ w ≤ (if x = 0 then nPe (hv A) else if x = 1 then nMu (hv A) else nPo (hv A)) - 1 := by
        rcases c.2 with ⟨rfl, c1⟩ | ⟨rfl, c1⟩ | ⟨rfl, c1⟩
        · rw [if_pos rfl]; omega
        · rw [if_neg (by omega), if_pos rfl]; omega
        · rw [if_neg (by omega), if_neg (by omega)]; omega
      have cb : 0 ≤ (if x = 0 then nPe (hv A) else if x = 1 then nMu (hv A) else nPo (hv A)) ∧ (if x = 0 then nPe (hv A) else if x = 1 then nMu (hv A) else nPo (hv A)) ≤ 8 := by
        split
        · omega
        · split <;> omega
      have hb := h225 J (by omega) (by omega)
      rw [r_X12_letter, q_X12_letter_0, s_isIn, cI_v, decide_eq_true (by omega), bI_t, if_neg (by omega), wid (x := 6 + x) (by omega) (by omega), if_pos (by omega), s_isIn, cI_v, cnt, wid (by omega) (by omega), decide_eq_true wl, bI_t, if_neg (by omega), s_isIn, cI_v, decide_eq_true (by omega), bI_t, if_neg (by omega), q_X12_letter_47, wid (x := 8 * x) (by omega) (by omega), wid (x := 24 + 8 * x) (by omega) (by omega), wid (x := 24 + 8 * x + w) (by omega) (by omega), if_pos (by omega), ← hJ, e225 A1 (by omega), sc_hv f, l_letterM1 _ x w k _ (by omega) hb.1 (by omega) A1 6 _ _ 0 hb.2 hb.1 (by omega) (by omega) (by have := fu_ge; omega), Int.zero_add]
  · refine CP_q r (vI (-1)) ⟨A, ?_, sc_refl A⟩ (fun A1 f => ⟨A1, ?_, sc_refl A1⟩)
    · rw [r_X11_letter, q_X11_letter_0]
      by_cases k0 : k < 0
      · rw [if_pos k0]
      · rw [if_neg k0]
        by_cases k6 : k < 6
        · rw [if_pos k6]
          by_cases x0 : x = 0
          · rw [if_pos x0]
            by_cases w0 : w < 0
            · rw [if_pos w0, q_X11_letter_67]
            · rw [if_neg w0, if_neg hh0, b6.2.1.2.1, if_neg (by omega), q_X11_letter_67]
          · rw [if_neg x0]
            by_cases x1 : x = 1
            · rw [if_pos x1, if_neg hh0, s_isMuteC _ _ w A _ b6, cI_v, decide_eq_false (by omega), bI_f, if_pos rfl]
            · rw [if_neg x1]
              by_cases x2 : x = 2
              · rw [if_pos x2, if_neg hh0, s_isPointC _ _ w A _ b6, cI_v, decide_eq_false (by omega), bI_f, if_pos rfl]
              · rw [if_neg x2]
        · rw [if_neg k6]
    · rw [r_X12_letter, q_X12_letter_0, s_isIn, cI_v]
      by_cases x0 : 0 ≤ x ∧ x ≤ 2
      · have cnt : gi A1 224 (6 + x).toNat = if x = 0 then nPe (hv A) else if x = 1 then nMu (hv A) else nPo (hv A) := by
          have : x = 0 ∨ x = 1 ∨ x = 2 := by omega
          rcases this with rfl | rfl | rfl
          · rw [if_pos rfl]; rw [← sc_hv f]; rfl
          · rw [if_neg (by omega), if_pos rfl]; rw [← sc_hv f]; rfl
          · rw [if_neg (by omega), if_neg (by omega)]; rw [← sc_hv f]; rfl
        have cb : 0 ≤ (if x = 0 then nPe (hv A) else if x = 1 then nMu (hv A) else nPo (hv A)) ∧ (if x = 0 then nPe (hv A) else if x = 1 then nMu (hv A) else nPo (hv A)) ≤ 8 := by
          split
          · omega
          · split <;> omega
        rw [decide_eq_true x0, bI_t, if_neg (by omega), wid (x := 6 + x) (by omega) (by omega), if_pos (by omega), s_isIn, cI_v, cnt, wid (by omega) (by omega)]
        by_cases wl : 0 ≤ w ∧ w ≤ (if x = 0 then nPe (hv A) else if x = 1 then nMu (hv A) else nPo (hv A)) - 1
        · rw [decide_eq_true wl, bI_t, if_neg (by omega), s_isIn, cI_v, decide_eq_false, bI_f, if_pos rfl]
          intro q
          apply c
          have : x = 0 ∨ x = 1 ∨ x = 2 := by omega
          rcases this with rfl | rfl | rfl
          · rw [if_pos rfl] at wl; omega
          · rw [if_neg (by omega), if_pos rfl] at wl; omega
          · rw [if_neg (by omega), if_neg (by omega)] at wl; omega
        · rw [decide_eq_false wl, bI_f, if_pos rfl]
      · rw [decide_eq_false x0, bI_f, if_pos rfl]
