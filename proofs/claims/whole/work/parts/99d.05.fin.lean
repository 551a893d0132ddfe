/-! as both objects are made: the layout, and how they stand -/
def AI (L : Nat) (xs : Nat → Int32) : AH := hap (A0 L xs) oAll
def EI0 (a j : Nat) : Int := (gOp 40 oAll a j none).getD 0
def ER0 (a j : Nat) : Nat := (rOp 40 oAll a j none).getD 0
theorem gi_I (L : Nat) (xs : Nat → Int32) (a j : Nat) (h : 40 ≤ a) : gi (AI L xs) a j = EI0 a j := by
  have := gi_hap oAll (A0 L xs) a j none 0 (by
    show (if a = 39 ∧ j < L then (xs j).toInt else 0) = 0
    rw [if_neg (by omega)])
  rw [sz_A0] at this
  exact this
theorem gr_I (L : Nat) (xs : Nat → Int32) (a j : Nat) : gr (AI L xs) a j = ER0 a j := by
  have := gr_hap oAll (A0 L xs) a j none 0 rfl
  rw [sz_A0] at this
  exact this
theorem nwc_I : nwc oAll = 231 := by decide +kernel
theorem sz_I (L : Nat) (xs : Nat → Int32) : sz (AI L xs) = 271 := by
  unfold AI
  rw [sz_hap, sz_A0, nwc_I]
def shI : List (Nat × Nat) := List.replicate 40 (99, 0) ++ sT oAll
theorem sh_I (L : Nat) (xs : Nat → Int32) : (AI L xs).2.2 = shI := sh_hap oAll (A0 L xs)
theorem kd_I (L : Nat) (xs : Nat → Int32) (a : Nat) : kd (AI L xs) a = (shI.getD a (99, 0)).1 := by unfold kd; rw [sh_I]
theorem ln_I (L : Nat) (xs : Nat → Int32) (a : Nat) : ln (AI L xs) a = (shI.getD a (99, 0)).2 := by unfold ln; rw [sh_I]
theorem sl_I (L : Nat) (xs : Nat → Int32) : sl (AI L xs) ≤ 40000 := by
  unfold sl
  rw [sh_I]
  decide +kernel
theorem lyo_big (k j : Nat) (h : 120 ≤ j) : (lyo k j).1 = 0 := by
  unfold lyo
  have hl : ∀ l ∈ lyoT, l.length ≤ 120 := by decide +kernel
  have : (lyoT.getD k []).length ≤ 120 := by
    rw [List.getD_eq_getElem?_getD]
    cases hk : lyoT[k]? with
    | none => exact Nat.zero_le _
    | some l => exact hl l (List.mem_of_getElem? hk)
  rw [List.getD_eq_getElem?_getD (l := lyoT.getD k []), List.getElem?_eq_none (by omega)]
  rfl
def lyB (a j : Nat) : Bool := (lyo (shI.getD a (99, 0)).1 j).1 == 0 || ((ER0 a j == lad (shI.getD a (99, 0)).1 j a) && Nat.blt (ER0 a j) 271 && (Nat.blt (fty (shI.getD a (99, 0)).1 j) 30 || ((shI.getD (ER0 a j) (99, 0)).2 == (lyo (shI.getD a (99, 0)).1 j).2.1)))
theorem lyB_all : ∀ i, i < 231 → ∀ j, j < 120 → lyB (40 + i) j = true := by decide +kernel
theorem lay_I (L : Nat) (xs : Nat → Int32) : LayOK (AI L xs) := by
  intro a h1 h2 j hj
  rw [sz_I] at h2 ⊢
  rw [kd_I] at hj ⊢
  rw [gr_I, ln_I]
  have hj2 : j < 120 := by
    rcases Nat.lt_or_ge j 120 with q | q
    · exact q
    · exact absurd (lyo_big _ j q) hj
  have := lyB_all (a - 40) (by omega) j hj2
  rw [show 40 + (a - 40) = a by omega] at this
  unfold lyB at this
  rw [Bool.or_eq_true] at this
  rcases this with q | q
  · exact absurd (by simpa using q) hj
  · rw [Bool.and_eq_true, Bool.and_eq_true, Bool.or_eq_true] at q
    obtain ⟨⟨q1, q2⟩, q3⟩ := q
    refine ⟨by simpa using q1, Nat.le_of_ble_eq_true q2, fun h30 => ?_⟩
    rcases q3 with q3 | q3
    · have := Nat.le_of_ble_eq_true q3; omega
    · simpa using q3
/-! rows in which nothing is written -/
theorem z_no (a j : Nat) (h1 : oAll.all (fun q => q.1 != 1 || q.2.1 != a) = true) (h2 : 40 ≤ a ∧ a < 271) : EI0 a j = 0 := by
  unfold EI0
  rw [gOp_no oAll 40 a j none h1, nwc_I, if_pos (by omega)]
  rfl
theorem z_all : ∀ a ∈ [41, 61, 67, 191, 189, 192, 224, 225, 226, 227, 228, 229, 230, 232, 233], oAll.all (fun q => q.1 != 1 || q.2.1 != a) = true := by decide +kernel
theorem z_row (L : Nat) (xs : Nat → Int32) (a j : Nat) (h : a ∈ [41, 61, 67, 191, 189, 192, 224, 225, 226, 227, 228, 229, 230, 232, 233]) : gi (AI L xs) a j = 0 := by
  have h2 : 40 ≤ a ∧ a < 271 := by simp at h; omega
  rw [gi_I _ _ _ _ h2.1]
  exact z_no a j (z_all a h) h2
theorem hv_I (L : Nat) (xs : Nat → Int32) (a j : Nat) (h : a ≠ 231) : hv (AI L xs) a j = 0 := by
  unfold hv
  split
  · rename_i c
    exact z_row L xs a j (by simp; omega)
  · rfl
theorem e_231 : EI0 231 2 = -1 ∧ EI0 231 3 = -1 := by decide +kernel
theorem hv_231 (L : Nat) (xs : Nat → Int32) : hv (AI L xs) 231 2 = -1 ∧ hv (AI L xs) 231 3 = -1 := by
  unfold hv
  rw [if_pos (by omega), if_pos (by omega), gi_I _ _ _ _ (by omega), gi_I _ _ _ _ (by omega)]
  exact e_231
theorem n_I (L : Nat) (xs : Nat → Int32) : nSe (hv (AI L xs)) = 0 ∧ nPe (hv (AI L xs)) = 0 ∧ nMu (hv (AI L xs)) = 0 ∧ nPo (hv (AI L xs)) = 0 ∧ nNo (hv (AI L xs)) = 0 ∧ nHa (hv (AI L xs)) = 0 := ⟨hv_I L xs 224 11 (by omega), hv_I L xs 224 6 (by omega), hv_I L xs 224 7 (by omega), hv_I L xs 224 8 (by omega), hv_I L xs 224 9 (by omega), hv_I L xs 224 10 (by omega)⟩
theorem e_sit : (∀ j, j < 16 → EI0 69 j = -1) ∧ (∀ j, j < 16 → EI0 70 j = 0) ∧ (∀ j, j < 9 → EI0 71 j = -1) ∧ (EI0 68 0 = EI0 237 0 ∧ EI0 68 1 = EI0 237 1 ∧ EI0 68 2 = EI0 237 2) ∧ EI0 68 7 = 0 ∧ EI0 237 25 = 0 ∧ (∀ j, j < 19 → 3 ≤ j → -1 ≤ EI0 237 j ∧ EI0 237 j ≤ 8) ∧ (∀ j, j < 25 → 19 ≤ j → EI0 237 j = 0) ∧ EI0 237 0 = 0 ∧ EI0 237 1 = 0 ∧ EI0 237 2 = -1 := by decide +kernel
theorem e_one : ER0 40 5 = 58 ∧ ER0 58 16 = 0 ∧ ER0 58 17 = 0 ∧ (EI0 58 1 = 0 ∧ EI0 58 2 = 0 ∧ EI0 58 3 = 0 ∧ EI0 58 4 = 0 ∧ EI0 58 5 = 0 ∧ EI0 58 6 = 0 ∧ EI0 58 18 = 0) ∧ (EI0 190 65 = -1 ∧ EI0 190 1 = 0 ∧ EI0 40 1 = 0 ∧ EI0 190 7 = 0 ∧ EI0 190 8 = -1 ∧ EI0 42 11 = 0 ∧ EI0 42 12 = -1) ∧ (EI0 190 75 = 1 ∧ EI0 40 14 = 1 ∧ EI0 190 110 = 0 ∧ EI0 187 1 = 0) ∧ (EI0 78 2 = 0 ∧ EI0 190 73 = 0 ∧ EI0 78 1 = 0 ∧ EI0 190 74 = 0 ∧ EI0 190 53 = 0) ∧ (∀ i, i < 20 → ER0 79 i = 80 + 5 * i) ∧ (shI.getD 41 (99, 0)).2 = 1600 := by decide +kernel
theorem e_wd : ∀ r, r < 267 → (193 ≤ r ∧ r ≤ 223) ∨ (244 ≤ r ∧ r ≤ 266) → ∀ i, i < (wl (wo r)).length → EI0 r i = 96 + (wl (wo r)).getD i 0 := by decide +kernel
theorem sit_I (L : Nat) (xs : Nat → Int32) (row : Nat → Int) (x : Int) : sit (hv (AI L xs)) row x = false := by
  obtain ⟨n1, n2, n3, n4, n5, n6⟩ := n_I L xs
  unfold sit
  rw [n2, n3, decide_eq_false (by omega), decide_eq_false (show ¬ (10 ≤ x ∧ x < 10 + 0) by omega)]
  rfl
theorem rel_I (L : Nat) (xs : Nat → Int32) : REL 0 (AI L xs) := by
  obtain ⟨n1, n2, n3, n4, n5, n6⟩ := n_I L xs
  obtain ⟨s1, s2, s3, s4, s5, s6, s7, s8, s9, s10, s11⟩ := e_sit
  obtain ⟨o1, o2, o3, ⟨o4, o5, o6, o7, o8, o9, o10⟩, ⟨o11, o12, o13, o14, o15, o16, o17⟩, ⟨o18, o19, o20, o21⟩, ⟨o22, o23, o24, o25, o26⟩, o27, o28⟩ := e_one
  obtain ⟨h1, h2⟩ := hv_231 L xs
  have G : ∀ a j, 40 ≤ a → gi (AI L xs) a j = EI0 a j := fun a j h => gi_I L xs a j h
  have R : ∀ a j, gr (AI L xs) a j = ER0 a j := gr_I L xs
  have nvE : ∀ j, nv (AI L xs) j = EI0 237 j := fun j => G 237 j (by omega)
  have sI := sit_I L xs (nv (AI L xs))
  have ex : ∀ x, ¬ exi (hv (AI L xs)) x := fun x => by unfold exi; rw [n2, n3]; omega
  unfold REL
  refine ⟨⟨?_, ?_, ?_⟩, ?_, ?_, ?_, ?_, ?_, ?_, ?_, ?_, ?_, ?_, ?_, ?_⟩
  · unfold cok; rw [n1, n2, n3, n4, n5, n6]; omega
  · unfold hok
    refine ⟨fun j _ _ => ?_, fun j _ => ?_, fun j _ _ => ?_, fun j _ _ => ?_, fun j _ _ => ?_, fun j _ _ => ?_, fun j _ _ => ?_⟩ <;> rw [hv_I L xs _ _ (by omega)] <;> omega
  · exact ⟨Or.inl h1, Or.inl h2⟩
  · refine ⟨⟨by omega, ⟨by rw [G 68 0 (by omega), nvE]; exact s4.1, by rw [G 68 1 (by omega), nvE]; exact s4.2.1, by rw [G 68 2 (by omega), nvE]; exact s4.2.2⟩, fun x x1 x2 => ?_, fun x x1 x2 => ?_, fun z z1 z2 => ?_⟩, ⟨by rw [G 68 7 (by omega), s5]; omega, by rw [G 68 7 (by omega), s5, nvE, s6]; rfl, fun k k1 k2 => by rw [nvE, s6] at k2; omega⟩, ⟨fun j j1 j2 => by rw [nvE]; exact s7 j j2 j1, fun j j1 j2 => ?_, ?_⟩, ⟨fun x hx => by rw [sI x] at hx; cases hx, fun x y hx => by rw [sI x] at hx; cases hx⟩, by rw [nvE, s9]; omega, by rw [nvE, s10]; omega⟩
    · rw [sI x, if_neg (by simp), G 69 _ (by omega)]; exact s1 _ (by omega)
    · rw [sI x, if_neg (by simp), G 70 _ (by omega)]; exact s2 _ (by omega)
    · have ew : whoF (hv (AI L xs)) (nv (AI L xs)) z = -1 := by
        unfold whoF
        rw [show (fun i => sit (hv (AI L xs)) (nv (AI L xs)) i && decide (seatR (nv (AI L xs)) i = z)) = fun _ => false by funext i; rw [sI i]; rfl]
        decide
      rw [ew, G 71 _ (by omega)]; exact s3 _ (by omega)
    · rw [nvE, s8 j j2 j1]; exact ⟨by omega, by omega, fun _ => rfl⟩
    · rw [nvE, s11, n4]; omega
  · rw [R, o1]
    refine ⟨by omega, ?_, fun x hx => absurd hx (ex x), fun x x1 x2 _ => z_row L xs 61 _ (by simp), fun k k1 k2 => by rw [n2] at k2; omega, fun k k1 k2 => by rw [n3] at k2; omega, fun k k1 k2 => by rw [n4] at k2; omega, fun k k1 k2 => by rw [n5] at k2; omega, fun k k1 k2 => ?_, fun k k1 k2 => by rw [n2] at k2; omega, fun k k1 k2 => by rw [n3] at k2; omega, fun k k1 k2 => by rw [n4] at k2; omega, Or.inl ⟨h1, by rw [R]; exact o2⟩, Or.inl ⟨h2, by rw [R]; exact o3⟩, Or.inl (by rw [G 58 18 (by omega)]; exact o10), fun _ => ?_⟩
    · rw [G 58 1 (by omega), G 58 2 (by omega), G 58 3 (by omega), G 58 4 (by omega), G 58 5 (by omega), G 58 6 (by omega), n1, n2, n3, n4, n5, n6]
      exact ⟨o4, o5, o6, o7, o8, o9⟩
    · rw [z_row L xs 67 _ (by simp), hv_I L xs _ _ (by omega)]
    · intro w w1 w2 hw
      have : w = 0 ∨ w = 1 := by omega
      rcases this with z | z
      · rw [z] at hw; exact absurd h1 hw
      · rw [z] at hw; exact absurd h2 hw
  · rw [G 190 65 (by omega)]; exact o11
  · refine ⟨by rw [G 190 1 (by omega), G 40 1 (by omega), o12, o13], by rw [G 40 1 (by omega), o13]; omega, fun j hj => ?_⟩
    rw [z_row L xs 191 _ (by simp), z_row L xs 41 _ (by simp)]
    omega
  · rw [G 190 7 (by omega), G 190 8 (by omega), G 42 11 (by omega), G 42 12 (by omega), o14, o15, o16, o17]
    exact ⟨rfl, rfl⟩
  · intro j hj
    rw [z_row L xs 192 _ (by simp), z_row L xs 189 _ (by simp)]
    omega
  · rw [G 190 75 (by omega), G 40 14 (by omega), o18, o19]; omega
  · refine ⟨by rw [G 190 110 (by omega), G 187 1 (by omega), o20, o21], by rw [G 187 1 (by omega), o21]; omega, fun j hj => by rw [G 187 1 (by omega), o21] at hj; omega⟩
  · refine ⟨by rw [G 78 2 (by omega), o22]; omega, by rw [G 190 73 (by omega), G 78 2 (by omega), o22, o23], by rw [G 78 1 (by omega), o24]; omega, by rw [G 190 74 (by omega), o25]; omega, fun i hi => by rw [R]; exact o27 i hi, fun i i1 i2 => by rw [G 78 2 (by omega), o22] at i2; omega⟩
  · refine ⟨fun j _ => ?_, fun j _ => ?_, fun j _ => ?_, fun j _ => ?_, fun j _ => ?_, fun j _ => ?_⟩
    · rw [z_row L xs 226 _ (by simp)]; omega
    · rw [z_row L xs 226 _ (by simp)]; omega
    · rw [z_row L xs 227 _ (by simp)]; omega
    · rw [z_row L xs 228 _ (by simp)]; omega
    · rw [z_row L xs 229 _ (by simp)]; omega
    · rw [z_row L xs 225 _ (by simp)]; omega
  · refine ⟨Or.inr ⟨by rw [G 190 53 (by omega)]; exact o26, n1⟩, by rw [ln_I]; exact o28, fun r hr i hi => ?_⟩
    rw [G r i (by omega)]
    exact e_wd r (by omega) hr i hi
  · have hsl := sl_I L xs
    unfold RM
    rw [sz_I, R, o1, R, R, o2, o3]
    omega
