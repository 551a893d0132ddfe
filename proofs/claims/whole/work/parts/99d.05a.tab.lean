/-! as both objects are made: the layout, and how they stand -/
def AI (L : Nat) (xs : Nat → Int32) : AH := hap (A0 L xs) oAll
def EI0 (a j : Nat) : Int := (gOp 40 oAll a j none).getD 0
def ER0 (a j : Nat) : Nat := (rOp 40 oAll a j none).getD 0
theorem gi_I (L : Nat) (xs : Nat → Int32) (a j : Nat) (h : 40 ≤ a) : gi (AI L xs) a j = EI0 a j := by
  have := gi_hap oAll (A0 L xs) a j none 0 (by
    show (if a = 39 ∧ j < L then (xs j).toInt else 0) = 0
    rw [if_neg (by omega)])
  rw [sz_A0] at this
  exact this
theorem gr_I (L : Nat) (xs : Nat → Int32) (a j : Nat) : gr (AI L xs) a j = ER0 a j := by
  have := gr_hap oAll (A0 L xs) a j none 0 rfl
  rw [sz_A0] at this
  exact this
theorem nwc_I : nwc oAll = 231 := by decide +kernel
theorem sz_I (L : Nat) (xs : Nat → Int32) : sz (AI L xs) = 271 := by
  unfold AI
  rw [sz_hap, sz_A0, nwc_I]
def shL : List (Nat × Nat) := [(10, 15), (20, 1600), (8, 13), (20, 0), (2, 5), (20, 1600), (4, 4), (20, 3), (3, 19), (20, 20), (20, 16), (20, 16), (20, 8), (20, 8), (20, 6), (20, 8), (20, 18), (20, 16), (3, 19), (20, 20), (20, 16), (20, 16), (20, 8), (20, 8), (20, 6), (20, 8), (20, 18), (20, 16), (9, 8), (20, 16), (20, 16), (20, 9), (20, 40), (9, 8), (20, 16), (20, 16), (20, 9), (20, 40), (6, 3), (23, 20), (9, 8), (20, 16), (20, 16), (20, 9), (20, 40), (9, 8), (20, 16), (20, 16), (20, 9), (20, 40), (9, 8), (20, 16), (20, 16), (20, 9), (20, 40), (9, 8), (20, 16), (20, 16), (20, 9), (20, 40), (9, 8), (20, 16), (20, 16), (20, 9), (20, 40), (9, 8), (20, 16), (20, 16), (20, 9), (20, 40), (9, 8), (20, 16), (20, 16), (20, 9), (20, 40), (9, 8), (20, 16), (20, 16), (20, 9), (20, 40), (9, 8), (20, 16), (20, 16), (20, 9), (20, 40), (9, 8), (20, 16), (20, 16), (20, 9), (20, 40), (9, 8), (20, 16), (20, 16), (20, 9), (20, 40), (9, 8), (20, 16), (20, 16), (20, 9), (20, 40), (9, 8), (20, 16), (20, 16), (20, 9), (20, 40), (9, 8), (20, 16), (20, 16), (20, 9), (20, 40), (9, 8), (20, 16), (20, 16), (20, 9), (20, 40), (9, 8), (20, 16), (20, 16), (20, 9), (20, 40), (9, 8), (20, 16), (20, 16), (20, 9), (20, 40), (9, 8), (20, 16), (20, 16), (20, 9), (20, 40), (9, 8), (20, 16), (20, 16), (20, 9), (20, 40), (9, 8), (20, 16), (20, 16), (20, 9), (20, 40), (0, 12), (20, 10), (20, 16), (20, 16), (20, 64), (1, 2), (7, 4), (5, 2), (20, 27), (20, 6), (11, 111), (20, 1600), (20, 6), (22, 4), (22, 6), (22, 5), (22, 6), (22, 3), (22, 5), (22, 5), (22, 6), (22, 2), (22, 5), (22, 5), (22, 5), (22, 4), (22, 4), (22, 4), (22, 5), (22, 5), (22, 5), (22, 4), (22, 5), (22, 5), (22, 6), (22, 6), (22, 5), (22, 2), (22, 3), (22, 3), (22, 3), (22, 3), (22, 3), (22, 6), (20, 12), (21, 48), (20, 64), (20, 24), (20, 16), (20, 36), (20, 32), (20, 4), (20, 4), (20, 3200), (20, 1700), (21, 1700), (20, 8), (20, 146), (20, 146), (20, 8), (20, 8), (20, 8), (21, 12), (20, 2920), (22, 5), (22, 4), (22, 5), (22, 5), (22, 4), (22, 5), (22, 3), (22, 3), (22, 2), (22, 3), (22, 3), (22, 3), (22, 5), (22, 6), (22, 4), (22, 5), (22, 5), (22, 5), (22, 4), (22, 6), (22, 6), (22, 5), (22, 6), (20, 1700), (20, 1700), (21, 1700), (20, 27)]
def obL : List (Nat × Nat) := [(40, 10), (42, 8), (44, 2), (46, 4), (48, 3), (58, 3), (68, 9), (73, 9), (78, 6), (80, 9), (85, 9), (90, 9), (95, 9), (100, 9), (105, 9), (110, 9), (115, 9), (120, 9), (125, 9), (130, 9), (135, 9), (140, 9), (145, 9), (150, 9), (155, 9), (160, 9), (165, 9), (170, 9), (175, 9), (180, 0), (185, 1), (186, 7), (187, 5), (190, 11)]
theorem shL_eq : sT oAll = shL := by decide +kernel
def shI : List (Nat × Nat) := List.replicate 40 (99, 0) ++ shL
theorem sh_I (L : Nat) (xs : Nat → Int32) : (AI L xs).2.2 = shI := by
  unfold AI shI
  rw [sh_hap, shL_eq]
  unfold A0
  rfl
theorem kd_I (L : Nat) (xs : Nat → Int32) (a : Nat) : kd (AI L xs) a = (shI.getD a (99, 0)).1 := by unfold kd; rw [sh_I]
theorem ln_I (L : Nat) (xs : Nat → Int32) (a : Nat) : ln (AI L xs) a = (shI.getD a (99, 0)).2 := by unfold ln; rw [sh_I]
theorem sl_I (L : Nat) (xs : Nat → Int32) : sl (AI L xs) ≤ 40000 := by
  unfold sl
  rw [sh_I]
  decide +kernel
theorem lyo_b120 (k j : Nat) (h : 120 ≤ j) : (lyo k j).1 = 0 := by
  unfold lyo
  have hl : ∀ l ∈ lyoT, l.length ≤ 120 := by decide +kernel
  have : (lyoT.getD k []).length ≤ 120 := by
    rw [List.getD_eq_getElem?_getD]
    cases hk : lyoT[k]? with
    | none => exact Nat.zero_le _
    | some l => exact hl l (List.mem_of_getElem? hk)
  rw [List.getD_eq_getElem?_getD (l := lyoT.getD k []), List.getElem?_eq_none (by omega)]
  rfl
/-! the same, quicker to reckon -/
def gB : Nat → List (Nat × Nat × Nat × Int) → Nat → Nat → Option Int → Option Int
  | _, [], _, _, x => x
  | s, (0, _, _, _) :: r, a, j, x => gB (s + 1) r a j (match Nat.beq a s with | true => some 0 | false => x)
  | s, (1, b, i, v) :: r, a, j, x => gB s r a j (match Nat.beq a b with | true => (match Nat.beq j i with | true => some v | false => x) | false => x)
  | s, (_ + 2, _, _, _) :: r, a, j, x => gB s r a j x
theorem beq_c {α : Type} (a s : Nat) (x y : α) : (match Nat.beq a s with | true => x | false => y) = if a = s then x else y := by
  by_cases c : a = s
  · rw [if_pos c, c, Nat.beq_refl]
  · rw [if_neg c]
    cases h : Nat.beq a s with
    | true => exact absurd (Nat.eq_of_beq_eq_true h) c
    | false => rfl
theorem gB_eq : ∀ (l : List (Nat × Nat × Nat × Int)) (s a j : Nat) (x : Option Int), gB s l a j x = gOp s l a j x
  | [], _, _, _, _ => rfl
  | (0, k, n, v) :: r, s, a, j, x => by
    show gB (s + 1) r a j (match Nat.beq a s with | true => some 0 | false => x) = gOp (s + 1) r a j (if a = s then some 0 else x)
    rw [beq_c, gB_eq r]
  | (1, b, i, v) :: r, s, a, j, x => by
    show gB s r a j (match Nat.beq a b with | true => (match Nat.beq j i with | true => some v | false => x) | false => x) = gOp s r a j (if a = b ∧ j = i then some v else x)
    rw [beq_c, beq_c, gB_eq r]
    by_cases c : a = b
    · by_cases c2 : j = i
      · rw [if_pos c, if_pos c2, if_pos ⟨c, c2⟩]
      · rw [if_pos c, if_neg c2, if_neg (fun y => c2 y.2)]
    · rw [if_neg c, if_neg (fun y => c y.1)]
  | (t + 2, b, i, v) :: r, s, a, j, x => gB_eq r s a j x
def rB : Nat → List (Nat × Nat × Nat × Int) → Nat → Nat → Option Nat → Option Nat
  | _, [], _, _, x => x
  | s, (0, _, _, _) :: r, a, j, x => rB (s + 1) r a j (match Nat.beq a s with | true => some 0 | false => x)
  | s, (1, _, _, _) :: r, a, j, x => rB s r a j x
  | s, (_ + 2, b, i, v) :: r, a, j, x => rB s r a j (match Nat.beq a b with | true => (match Nat.beq j i with | true => some v.toNat | false => x) | false => x)
theorem rB_eq : ∀ (l : List (Nat × Nat × Nat × Int)) (s a j : Nat) (x : Option Nat), rB s l a j x = rOp s l a j x
  | [], _, _, _, _ => rfl
  | (0, k, n, v) :: r, s, a, j, x => by
    show rB (s + 1) r a j (match Nat.beq a s with | true => some 0 | false => x) = rOp (s + 1) r a j (if a = s then some 0 else x)
    rw [beq_c, rB_eq r]
  | (1, b, i, v) :: r, s, a, j, x => rB_eq r s a j x
  | (t + 2, b, i, v) :: r, s, a, j, x => by
    show rB s r a j (match Nat.beq a b with | true => (match Nat.beq j i with | true => some v.toNat | false => x) | false => x) = rOp s r a j (if a = b ∧ j = i then some v.toNat else x)
    rw [beq_c, beq_c, rB_eq r]
    by_cases c : a = b
    · by_cases c2 : j = i
      · rw [if_pos c, if_pos c2, if_pos ⟨c, c2⟩]
      · rw [if_pos c, if_neg c2, if_neg (fun y => c2 y.2)]
    · rw [if_neg c, if_neg (fun y => c y.1)]
def EB (a j : Nat) : Int := (gB 40 oAll a j none).getD 0
def RB (a j : Nat) : Nat := (rB 40 oAll a j none).getD 0
theorem EB_eq (a j : Nat) : EB a j = EI0 a j := by unfold EB EI0; rw [gB_eq]
theorem RB_eq (a j : Nat) : RB a j = ER0 a j := by unfold RB ER0; rw [rB_eq]
def lyC (a k j : Nat) : Bool := match Nat.beq (lyo k j).1 0 with
  | true => true
  | false => Nat.beq (RB a j) (lad k j a) && Nat.blt (RB a j) 271 && (Nat.blt (fty k j) 30 || Nat.beq (shI.getD (RB a j) (99, 0)).2 (lyo k j).2.1)
