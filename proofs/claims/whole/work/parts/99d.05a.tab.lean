/-! as both objects are made: the layout, and how they stand -/
def AI (L : Nat) (xs : Nat → Int32) : AH := hap (A0 L xs) oAll
def EI0 (a j : Nat) : Int := (gOp 40 oAll a j none).getD 0
def ER0 (a j : Nat) : Nat := (rOp 40 oAll a j none).getD 0
theorem gi_I (L : Nat) (xs : Nat → Int32) (a j : Nat) (h : 40 ≤ a) : gi (AI L xs) a j = EI0 a j := by
  have := gi_hap oAll (A0 L xs) a j none 0 (by
    show (if a = 39 ∧ j < L then (xs j).toInt else 0) = 0
    rw [if_neg (by omega)])
  rw [sz_A0] at this
  exact this
theorem gr_I (L : Nat) (xs : Nat → Int32) (a j : Nat) : gr (AI L xs) a j = ER0 a j := by
  have := gr_hap oAll (A0 L xs) a j none 0 rfl
  rw [sz_A0] at this
  exact this
theorem nwc_I : nwc oAll = 231 := by decide +kernel
theorem sz_I (L : Nat) (xs : Nat → Int32) : sz (AI L xs) = 271 := by
  unfold AI
  rw [sz_hap, sz_A0, nwc_I]
def shL : List (Nat × Nat) := [(10, 15), (20, 1600), (8, 13), (20, 0), (2, 5), (20, 1600), (4, 4), (20, 3), (3, 19), (20, 20), (20, 16), (20, 16), (20, 8), (20, 8), (20, 6), (20, 8), (20, 18), (20, 16), (3, 19), (20, 20), (20, 16), (20, 16), (20, 8), (20, 8), (20, 6), (20, 8), (20, 18), (20, 16), (9, 8), (20, 16), (20, 16), (20, 9), (20, 40), (9, 8), (20, 16), (20, 16), (20, 9), (20, 40), (6, 3), (23, 20), (9, 8), (20, 16), (20, 16), (20, 9), (20, 40), (9, 8), (20, 16), (20, 16), (20, 9), (20, 40), (9, 8), (20, 16), (20, 16), (20, 9), (20, 40), (9, 8), (20, 16), (20, 16), (20, 9), (20, 40), (9, 8), (20, 16), (20, 16), (20, 9), (20, 40), (9, 8), (20, 16), (20, 16), (20, 9), (20, 40), (9, 8), (20, 16), (20, 16), (20, 9), (20, 40), (9, 8), (20, 16), (20, 16), (20, 9), (20, 40), (9, 8), (20, 16), (20, 16), (20, 9), (20, 40), (9, 8), (20, 16), (20, 16), (20, 9), (20, 40), (9, 8), (20, 16), (20, 16), (20, 9), (20, 40), (9, 8), (20, 16), (20, 16), (20, 9), (20, 40), (9, 8), (20, 16), (20, 16), (20, 9), (20, 40), (9, 8), (20, 16), (20, 16), (20, 9), (20, 40), (9, 8), (20, 16), (20, 16), (20, 9), (20, 40), (9, 8), (20, 16), (20, 16), (20, 9), (20, 40), (9, 8), (20, 16), (20, 16), (20, 9), (20, 40), (9, 8), (20, 16), (20, 16), (20, 9), (20, 40), (9, 8), (20, 16), (20, 16), (20, 9), (20, 40), (9, 8), (20, 16), (20, 16), (20, 9), (20, 40), (0, 12), (20, 10), (20, 16), (20, 16), (20, 64), (1, 2), (7, 4), (5, 2), (20, 27), (20, 6), (11, 111), (20, 1600), (20, 6), (22, 4), (22, 6), (22, 5), (22, 6), (22, 3), (22, 5), (22, 5), (22, 6), (22, 2), (22, 5), (22, 5), (22, 5), (22, 4), (22, 4), (22, 4), (22, 5), (22, 5), (22, 5), (22, 4), (22, 5), (22, 5), (22, 6), (22, 6), (22, 5), (22, 2), (22, 3), (22, 3), (22, 3), (22, 3), (22, 3), (22, 6), (20, 12), (21, 48), (20, 64), (20, 24), (20, 16), (20, 36), (20, 32), (20, 4), (20, 4), (20, 3200), (20, 1700), (21, 1700), (20, 8), (20, 146), (20, 146), (20, 8), (20, 8), (20, 8), (21, 12), (20, 2920), (22, 5), (22, 4), (22, 5), (22, 5), (22, 4), (22, 5), (22, 3), (22, 3), (22, 2), (22, 3), (22, 3), (22, 3), (22, 5), (22, 6), (22, 4), (22, 5), (22, 5), (22, 5), (22, 4), (22, 6), (22, 6), (22, 5), (22, 6), (20, 1700), (20, 1700), (21, 1700), (20, 27)]
def obL : List (Nat × Nat) := [(40, 10), (42, 8), (44, 2), (46, 4), (48, 3), (58, 3), (68, 9), (73, 9), (78, 6), (80, 9), (85, 9), (90, 9), (95, 9), (100, 9), (105, 9), (110, 9), (115, 9), (120, 9), (125, 9), (130, 9), (135, 9), (140, 9), (145, 9), (150, 9), (155, 9), (160, 9), (165, 9), (170, 9), (175, 9), (180, 0), (185, 1), (186, 7), (187, 5), (190, 11)]
theorem shL_eq : sT oAll = shL := by decide +kernel
def shI : List (Nat × Nat) := List.replicate 40 (99, 0) ++ shL
theorem sh_I (L : Nat) (xs : Nat → Int32) : (AI L xs).2.2 = shI := by
  unfold AI shI
  rw [sh_hap, shL_eq]
  unfold A0
  rfl
theorem kd_I (L : Nat) (xs : Nat → Int32) (a : Nat) : kd (AI L xs) a = (shI.getD a (99, 0)).1 := by unfold kd; rw [sh_I]
theorem ln_I (L : Nat) (xs : Nat → Int32) (a : Nat) : ln (AI L xs) a = (shI.getD a (99, 0)).2 := by unfold ln; rw [sh_I]
theorem sl_I (L : Nat) (xs : Nat → Int32) : sl (AI L xs) ≤ 40000 := by
  unfold sl
  rw [sh_I]
  decide +kernel
theorem lyo_b120 (k j : Nat) (h : 120 ≤ j) : (lyo k j).1 = 0 := by
  unfold lyo
  have hl : ∀ l ∈ lyoT, l.length ≤ 120 := by decide +kernel
  have : (lyoT.getD k []).length ≤ 120 := by
    rw [List.getD_eq_getElem?_getD]
    cases hk : lyoT[k]? with
    | none => exact Nat.zero_le _
    | some l => exact hl l (List.mem_of_getElem? hk)
  rw [List.getD_eq_getElem?_getD (l := lyoT.getD k []), List.getElem?_eq_none (by omega)]
  rfl
/-! the same, quicker to reckon -/
def gB : Nat → List (Nat × Nat × Nat × Int) → Nat → Nat → Option Int → Option Int
  | _, [], _, _, x => x
  | s, (0, _, _, _) :: r, a, j, x => gB (s + 1) r a j (match Nat.beq a s with | true => some 0 | false => x)
  | s, (1, b, i, v) :: r, a, j, x => gB s r a j (match Nat.beq a b with | true => (match Nat.beq j i with | true => some v | false => x) | false => x)
  | s, (_ + 2, _, _, _) :: r, a, j, x => gB s r a j x
theorem beq_c {α : Type} (a s : Nat) (x y : α) : (match Nat.beq a s with | true => x | false => y) = if a = s then x else y := by
  by_cases c : a = s
  · rw [if_pos c, c, Nat.beq_refl]
  · rw [if_neg c]
    cases h : Nat.beq a s with
    | true => exact absurd (Nat.eq_of_beq_eq_true h) c
    | false => rfl
theorem gB_eq : ∀ (l : List (Nat × Nat × Nat × Int)) (s a j : Nat) (x : Option Int), gB s l a j x = gOp s l a j x
  | [], _, _, _, _ => rfl
  | (0, k, n, v) :: r, s, a, j, x => by
    show gB (s + 1) r a j (match Nat.beq a s with | true => some 0 | false => x) = gOp (s + 1) r a j (if a = s then some 0 else x)
    rw [beq_c, gB_eq r]
  | (1, b, i, v) :: r, s, a, j, x => by
    show gB s r a j (match Nat.beq a b with | true => (match Nat.beq j i with | true => some v | false => x) | false => x) = gOp s r a j (if a = b ∧ j = i then some v else x)
    rw [beq_c, beq_c, gB_eq r]
    by_cases c : a = b
    · by_cases c2 : j = i
      · rw [if_pos c, if_pos c2, if_pos ⟨c, c2⟩]
      · rw [if_pos c, if_neg c2, if_neg (fun y => c2 y.2)]
    · rw [if_neg c, if_neg (fun y => c y.1)]
  | (t + 2, b, i, v) :: r, s, a, j, x => gB_eq r s a j x
def rB : Nat → List (Nat × Nat × Nat × Int) → Nat → Nat → Option Nat → Option Nat
  | _, [], _, _, x => x
  | s, (0, _, _, _) :: r, a, j, x => rB (s + 1) r a j (match Nat.beq a s with | true => some 0 | false => x)
  | s, (1, _, _, _) :: r, a, j, x => rB s r a j x
  | s, (_ + 2, b, i, v) :: r, a, j, x => rB s r a j (match Nat.beq a b with | true => (match Nat.beq j i with | true => some v.toNat | false => x) | false => x)
theorem rB_eq : ∀ (l : List (Nat × Nat × Nat × Int)) (s a j : Nat) (x : Option Nat), rB s l a j x = rOp s l a j x
  | [], _, _, _, _ => rfl
  | (0, k, n, v) :: r, s, a, j, x => by
    show rB (s + 1) r a j (match Nat.beq a s with | true => some 0 | false => x) = rOp (s + 1) r a j (if a = s then some 0 else x)
    rw [beq_c, rB_eq r]
  | (1, b, i, v) :: r, s, a, j, x => rB_eq r s a j x
  | (t + 2, b, i, v) :: r, s, a, j, x => by
    show rB s r a j (match Nat.beq a b with | true => (match Nat.beq j i with | true => some v.toNat | false => x) | false => x) = rOp s r a j (if a = b ∧ j = i then some v.toNat else x)
    rw [beq_c, beq_c, rB_eq r]
    by_cases c : a = b
    · by_cases c2 : j = i
      · rw [if_pos c, if_pos c2, if_pos ⟨c, c2⟩]
      · rw [if_pos c, if_neg c2, if_neg (fun y => c2 y.2)]
    · rw [if_neg c, if_neg (fun y => c y.1)]
def EB (a j : Nat) : Int := (gB 40 oAll a j none).getD 0
def RB (a j : Nat) : Nat := (rB 40 oAll a j none).getD 0
theorem EB_eq (a j : Nat) : EB a j = EI0 a j := by unfold EB EI0; rw [gB_eq]
theorem RB_eq (a j : Nat) : RB a j = ER0 a j := by unfold RB ER0; rw [rB_eq]
def lyC (a k j : Nat) : Bool := match Nat.beq (lyo k j).1 0 with
  | true => true
  | false => Nat.beq (RB a j) (lad k j a) && Nat.blt (RB a j) 271 && (Nat.blt (fty k j) 30 || Nat.beq (shI.getD (RB a j) (99, 0)).2 (lyo k j).2.1)
theorem lyc_40 : ∀ j, j < 120 → lyC 40 10 j = true := by decide +kernel
theorem lyc_42 : ∀ j, j < 120 → lyC 42 8 j = true := by decide +kernel
theorem lyc_44 : ∀ j, j < 120 → lyC 44 2 j = true := by decide +kernel
theorem lyc_46 : ∀ j, j < 120 → lyC 46 4 j = true := by decide +kernel
theorem lyc_48 : ∀ j, j < 120 → lyC 48 3 j = true := by decide +kernel
theorem lyc_58 : ∀ j, j < 120 → lyC 58 3 j = true := by decide +kernel
theorem lyc_68 : ∀ j, j < 120 → lyC 68 9 j = true := by decide +kernel
theorem lyc_73 : ∀ j, j < 120 → lyC 73 9 j = true := by decide +kernel
theorem lyc_78 : ∀ j, j < 120 → lyC 78 6 j = true := by decide +kernel
theorem lyc_80 : ∀ j, j < 120 → lyC 80 9 j = true := by decide +kernel
theorem lyc_85 : ∀ j, j < 120 → lyC 85 9 j = true := by decide +kernel
theorem lyc_90 : ∀ j, j < 120 → lyC 90 9 j = true := by decide +kernel
theorem lyc_95 : ∀ j, j < 120 → lyC 95 9 j = true := by decide +kernel
theorem lyc_100 : ∀ j, j < 120 → lyC 100 9 j = true := by decide +kernel
theorem lyc_105 : ∀ j, j < 120 → lyC 105 9 j = true := by decide +kernel
theorem lyc_110 : ∀ j, j < 120 → lyC 110 9 j = true := by decide +kernel
theorem lyc_115 : ∀ j, j < 120 → lyC 115 9 j = true := by decide +kernel
theorem lyc_120 : ∀ j, j < 120 → lyC 120 9 j = true := by decide +kernel
theorem lyc_125 : ∀ j, j < 120 → lyC 125 9 j = true := by decide +kernel
theorem lyc_130 : ∀ j, j < 120 → lyC 130 9 j = true := by decide +kernel
theorem lyc_135 : ∀ j, j < 120 → lyC 135 9 j = true := by decide +kernel
theorem lyc_140 : ∀ j, j < 120 → lyC 140 9 j = true := by decide +kernel
theorem lyc_145 : ∀ j, j < 120 → lyC 145 9 j = true := by decide +kernel
theorem lyc_150 : ∀ j, j < 120 → lyC 150 9 j = true := by decide +kernel
theorem lyc_155 : ∀ j, j < 120 → lyC 155 9 j = true := by decide +kernel
theorem lyc_160 : ∀ j, j < 120 → lyC 160 9 j = true := by decide +kernel
theorem lyc_165 : ∀ j, j < 120 → lyC 165 9 j = true := by decide +kernel
theorem lyc_170 : ∀ j, j < 120 → lyC 170 9 j = true := by decide +kernel
theorem lyc_175 : ∀ j, j < 120 → lyC 175 9 j = true := by decide +kernel
theorem lyc_180 : ∀ j, j < 120 → lyC 180 0 j = true := by decide +kernel
theorem lyc_185 : ∀ j, j < 120 → lyC 185 1 j = true := by decide +kernel
theorem lyc_186 : ∀ j, j < 120 → lyC 186 7 j = true := by decide +kernel
theorem lyc_187 : ∀ j, j < 120 → lyC 187 5 j = true := by decide +kernel
theorem lyc_190 : ∀ j, j < 120 → lyC 190 11 j = true := by decide +kernel
theorem lyC_all : ∀ q ∈ obL, ∀ j, j < 120 → lyC q.1 q.2 j = true := by
  unfold obL
  intro q hq
  simp only [List.mem_cons, List.not_mem_nil, or_false] at hq
  rcases hq with rfl | rfl | rfl | rfl | rfl | rfl | rfl | rfl | rfl | rfl | rfl | rfl | rfl | rfl | rfl | rfl | rfl | rfl | rfl | rfl | rfl | rfl | rfl | rfl | rfl | rfl | rfl | rfl | rfl | rfl | rfl | rfl | rfl | rfl
  · exact lyc_40
  · exact lyc_42
  · exact lyc_44
  · exact lyc_46
  · exact lyc_48
  · exact lyc_58
  · exact lyc_68
  · exact lyc_73
  · exact lyc_78
  · exact lyc_80
  · exact lyc_85
  · exact lyc_90
  · exact lyc_95
  · exact lyc_100
  · exact lyc_105
  · exact lyc_110
  · exact lyc_115
  · exact lyc_120
  · exact lyc_125
  · exact lyc_130
  · exact lyc_135
  · exact lyc_140
  · exact lyc_145
  · exact lyc_150
  · exact lyc_155
  · exact lyc_160
  · exact lyc_165
  · exact lyc_170
  · exact lyc_175
  · exact lyc_180
  · exact lyc_185
  · exact lyc_186
  · exact lyc_187
  · exact lyc_190
theorem ob_all : ∀ i, i < 231 → (40 + i, (shL.getD i (99, 0)).1) ∈ obL ∨ 12 ≤ (shL.getD i (99, 0)).1 := by decide +kernel
theorem shI_get (i : Nat) : shI.getD (40 + i) (99, 0) = shL.getD i (99, 0) := by
  unfold shI
  rw [List.getD_eq_getElem?_getD, List.getD_eq_getElem?_getD, List.getElem?_append_right (by rw [List.length_replicate]; omega), List.length_replicate, show 40 + i - 40 = i by omega]
theorem lay_I (L : Nat) (xs : Nat → Int32) : LayOK (AI L xs) := by
  intro a h1 h2 j hj
  rw [sz_I] at h2 ⊢
  rw [kd_I] at hj ⊢
  rw [gr_I, ln_I]
  obtain ⟨i, rfl⟩ : ∃ i, a = 40 + i := ⟨a - 40, by omega⟩
  have hj2 : j < 120 := by
    rcases Nat.lt_or_ge j 120 with q | q
    · exact q
    · exact absurd (lyo_b120 _ j q) hj
  rw [shI_get] at hj ⊢
  rcases ob_all i (by omega) with q | q
  · have := lyC_all _ q j hj2
    unfold lyC at this
    simp only at this
    split at this
    · rename_i q2
      exact absurd (Nat.eq_of_beq_eq_true q2) hj
    · rw [Bool.and_eq_true, Bool.and_eq_true, Bool.or_eq_true, RB_eq] at this
      obtain ⟨⟨q1, q2⟩, q3⟩ := this
      refine ⟨Nat.eq_of_beq_eq_true q1, Nat.le_of_ble_eq_true q2, fun h30 => ?_⟩
      rcases q3 with q3 | q3
      · have := Nat.le_of_ble_eq_true q3; omega
      · exact Nat.eq_of_beq_eq_true q3
  · rw [lyo_big q] at hj
    exact absurd rfl hj
/-! rows in which nothing is written -/
theorem z_no (a j : Nat) (h1 : oAll.all (fun q => q.1 != 1 || q.2.1 != a) = true) (h2 : 40 ≤ a ∧ a < 271) : EI0 a j = 0 := by
  unfold EI0
  rw [gOp_no oAll 40 a j none h1, nwc_I, if_pos (by omega)]
  rfl
theorem z_all : ∀ a ∈ [41, 61, 67, 191, 189, 192, 224, 225, 226, 227, 228, 229, 230, 232, 233], oAll.all (fun q => q.1 != 1 || q.2.1 != a) = true := by decide +kernel
theorem z_row (L : Nat) (xs : Nat → Int32) (a j : Nat) (h : a ∈ [41, 61, 67, 191, 189, 192, 224, 225, 226, 227, 228, 229, 230, 232, 233]) : gi (AI L xs) a j = 0 := by
  have h2 : 40 ≤ a ∧ a < 271 := by simp at h; omega
  rw [gi_I _ _ _ _ h2.1]
  exact z_no a j (z_all a h) h2
theorem hv_I (L : Nat) (xs : Nat → Int32) (a j : Nat) (h : a ≠ 231) : hv (AI L xs) a j = 0 := by
  unfold hv
  split
  · rename_i c
    exact z_row L xs a j (by simp; omega)
  · rfl
theorem e_231 : EI0 231 2 = -1 ∧ EI0 231 3 = -1 := by decide +kernel
theorem hv_231 (L : Nat) (xs : Nat → Int32) : hv (AI L xs) 231 2 = -1 ∧ hv (AI L xs) 231 3 = -1 := by
  unfold hv
  rw [if_pos (by omega), if_pos (by omega), gi_I _ _ _ _ (by omega), gi_I _ _ _ _ (by omega)]
  exact e_231
theorem n_I (L : Nat) (xs : Nat → Int32) : nSe (hv (AI L xs)) = 0 ∧ nPe (hv (AI L xs)) = 0 ∧ nMu (hv (AI L xs)) = 0 ∧ nPo (hv (AI L xs)) = 0 ∧ nNo (hv (AI L xs)) = 0 ∧ nHa (hv (AI L xs)) = 0 := ⟨hv_I L xs 224 11 (by omega), hv_I L xs 224 6 (by omega), hv_I L xs 224 7 (by omega), hv_I L xs 224 8 (by omega), hv_I L xs 224 9 (by omega), hv_I L xs 224 10 (by omega)⟩
theorem e_sit : (∀ j, j < 16 → EI0 69 j = -1) ∧ (∀ j, j < 16 → EI0 70 j = 0) ∧ (∀ j, j < 9 → EI0 71 j = -1) ∧ (EI0 68 0 = EI0 237 0 ∧ EI0 68 1 = EI0 237 1 ∧ EI0 68 2 = EI0 237 2) ∧ EI0 68 7 = 0 ∧ EI0 237 25 = 0 ∧ (∀ j, j < 19 → 3 ≤ j → -1 ≤ EI0 237 j ∧ EI0 237 j ≤ 8) ∧ (∀ j, j < 25 → 19 ≤ j → EI0 237 j = 0) ∧ EI0 237 0 = 0 ∧ EI0 237 1 = 0 ∧ EI0 237 2 = -1 := by decide +kernel
theorem e_one : ER0 40 5 = 58 ∧ ER0 58 16 = 0 ∧ ER0 58 17 = 0 ∧ (EI0 58 1 = 0 ∧ EI0 58 2 = 0 ∧ EI0 58 3 = 0 ∧ EI0 58 4 = 0 ∧ EI0 58 5 = 0 ∧ EI0 58 6 = 0 ∧ EI0 58 18 = 0) ∧ (EI0 190 65 = -1 ∧ EI0 190 1 = 0 ∧ EI0 40 1 = 0 ∧ EI0 190 7 = 0 ∧ EI0 190 8 = -1 ∧ EI0 42 11 = 0 ∧ EI0 42 12 = -1) ∧ (EI0 190 75 = 1 ∧ EI0 40 14 = 1 ∧ EI0 190 110 = 0 ∧ EI0 187 1 = 0) ∧ (EI0 78 2 = 0 ∧ EI0 190 73 = 0 ∧ EI0 78 1 = 0 ∧ EI0 190 74 = 0 ∧ EI0 190 53 = 0) ∧ (∀ i, i < 20 → ER0 79 i = 80 + 5 * i) ∧ (shI.getD 41 (99, 0)).2 = 1600 := by decide +kernel
def wdB (r : Nat) : Bool := (List.range (wl (wo r)).length).all (fun i => EB r i == 96 + (wl (wo r)).getD i 0)
theorem wdB_193 : (List.range 8).all (fun i => wdB (193 + i)) = true := by decide +kernel
theorem wdB_201 : (List.range 8).all (fun i => wdB (201 + i)) = true := by decide +kernel
theorem wdB_209 : (List.range 8).all (fun i => wdB (209 + i)) = true := by decide +kernel
theorem wdB_217 : (List.range 7).all (fun i => wdB (217 + i)) = true := by decide +kernel
theorem wdB_244 : (List.range 8).all (fun i => wdB (244 + i)) = true := by decide +kernel
theorem wdB_252 : (List.range 8).all (fun i => wdB (252 + i)) = true := by decide +kernel
theorem wdB_260 : (List.range 7).all (fun i => wdB (260 + i)) = true := by decide +kernel
theorem wd_of {a n r : Nat} (h : (List.range n).all (fun i => wdB (a + i)) = true) (h1 : a ≤ r) (h2 : r < a + n) {i : Nat} (hi : i < (wl (wo r)).length) : EI0 r i = 96 + (wl (wo r)).getD i 0 := by
  have e := List.all_eq_true.mp h (r - a) (List.mem_range.mpr (by omega))
  rw [show a + (r - a) = r by omega] at e
  unfold wdB at e
  have e2 := List.all_eq_true.mp e i (List.mem_range.mpr hi)
  rw [EB_eq] at e2
  exact eq_of_beq e2
theorem e_wd (r : Nat) (hr : (193 ≤ r ∧ r ≤ 223) ∨ (244 ≤ r ∧ r ≤ 266)) (i : Nat) (hi : i < (wl (wo r)).length) : EI0 r i = 96 + (wl (wo r)).getD i 0 := by
  by_cases c1 : r < 201
  · exact wd_of wdB_193 (by omega) (by omega) hi
  by_cases c2 : r < 209
  · exact wd_of wdB_201 (by omega) (by omega) hi
  by_cases c3 : r < 217
  · exact wd_of wdB_209 (by omega) (by omega) hi
  by_cases c4 : r < 224
  · exact wd_of wdB_217 (by omega) (by omega) hi
  by_cases c5 : r < 252
  · exact wd_of wdB_244 (by omega) (by omega) hi
  by_cases c6 : r < 260
  · exact wd_of wdB_252 (by omega) (by omega) hi
  · exact wd_of wdB_260 (by omega) (by omega) hi
