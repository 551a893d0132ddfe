/-! the class: the facts of one who sits -/
theorem sm_add (f g : Int → Int) : ∀ (n : Nat) (k : Int), sm (fun i => f i + g i) n k = sm f n k + sm g n k
  | 0, _ => rfl
  | n + 1, k => by unfold sm; rw [sm_add f g n (k + 1)]; omega
theorem sm_zero {f : Int → Int} : ∀ (n : Nat) (k : Int), (∀ j, k ≤ j → j < k + n → f j = 0) → sm f n k = 0
  | 0, _, _ => rfl
  | n + 1, k, h => by unfold sm; rw [h k (by omega) (by omega), sm_zero n (k + 1) (fun j h1 h2 => h j (by omega) (by omega))]; rfl
theorem sm_uq {p q : Int → Bool} : ∀ (n : Nat) (k : Int), 0 ≤ k → (∀ i j, k ≤ i → i < k + n → k ≤ j → j < k + n → p i = true → p j = true → i = j) → sm (fun i => bI (p i && q i)) n k = if ff p n k = -1 then 0 else bI (q (ff p n k))
  | 0, _, _, _ => rfl
  | n + 1, k, hk, hu => by
    unfold sm ff
    by_cases c : p k = true
    · rw [if_pos c, if_neg (by omega), sm_zero n (k + 1) (fun j h1 h2 => ?_), c, Bool.true_and, Int.add_zero]
      have : p j = false := by
        by_cases c2 : p j = true
        · have := hu k j (by omega) (by omega) (by omega) (by omega) c c2; omega
        · simpa using c2
      rw [this]; rfl
    · have c' : p k = false := by simpa using c
      rw [if_neg c, sm_uq n (k + 1) (by omega) (fun i j h1 h2 h3 h4 => hu i j (by omega) (by omega) (by omega) (by omega)), c']
      simp [bI]
theorem who_uq {H : Nat → Nat → Int} {row : Nat → Int} (hd : dok H row) (z : Int) (q : Int → Bool) : sm (fun i => bI ((sit H row i && decide (seatR row i = z)) && q i)) 16 0 = if whoF H row z = -1 then 0 else bI (q (whoF H row z)) := by
  rw [sm_uq 16 0 (by omega) (fun i j _ _ _ _ h1 h2 => ?_)]; rfl
  simp only [Bool.and_eq_true, decide_eq_true_eq] at h1 h2
  exact hd.2 i j h1.1 h2.1 (by omega)
theorem near_eq {H : Nat → Nat → Int} {row : Nat → Int} (hd : dok H row) (x : Int) : nearF H row x = (if whoF H row (seatR row x - 1) = -1 then 0 else 1) + (if whoF H row (seatR row x + 1) = -1 then 0 else 1) := by
  have e1 := who_uq hd (seatR row x - 1) (fun _ => true)
  have e2 := who_uq hd (seatR row x + 1) (fun _ => true)
  rw [show bI true = 1 from rfl] at e1 e2
  rw [← e1, ← e2, ← sm_add]
  unfold nearF
  refine sm_congr 16 0 (fun j _ _ => ?_)
  unfold besideF
  by_cases c : sit H row j = true
  · by_cases c1 : seatR row j = seatR row x - 1
    · simp [c, c1, bI]; omega
    · by_cases c2 : seatR row j = seatR row x + 1
      · simp [c, c2, bI]; omega
      · have d1 : ¬ seatR row j - seatR row x = 1 := by omega
        have d2 : ¬ seatR row x - seatR row j = 1 := by omega
        simp [c, c1, c2, d1, d2, bI]
  · simp [c, bI]
theorem foe_comm (H : Nat → Nat → Int) (x y : Int) : foeF H x y = foeF H y x := by unfold foeF; rw [Bool.or_comm]
theorem hated_eq {H : Nat → Nat → Int} {row : Nat → Int} (hd : dok H row) (x : Int) : hatedF H row x = (if whoF H row (seatR row x - 1) = -1 then 0 else bI (foeF H x (whoF H row (seatR row x - 1)))) + (if whoF H row (seatR row x + 1) = -1 then 0 else bI (foeF H x (whoF H row (seatR row x + 1)))) := by
  have e1 := who_uq hd (seatR row x - 1) (fun i => foeF H x i)
  have e2 := who_uq hd (seatR row x + 1) (fun i => foeF H x i)
  rw [← e1, ← e2, ← sm_add]
  unfold hatedF
  refine sm_congr 16 0 (fun j _ _ => ?_)
  rw [foe_comm H j x]
  unfold besideF
  by_cases c : sit H row j = true
  · by_cases c1 : seatR row j = seatR row x - 1
    · have d1 : ¬ seatR row x - 1 - seatR row x = 1 := by omega
      have d2 : seatR row x - (seatR row x - 1) = 1 := by omega
      have d3 : ¬ seatR row x - 1 = seatR row x + 1 := by omega
      simp [c, c1, d1, d2, d3, bI]
    · by_cases c2 : seatR row j = seatR row x + 1
      · have d1 : seatR row x + 1 - seatR row x = 1 := by omega
        have d3 : ¬ seatR row x + 1 = seatR row x - 1 := by omega
        simp [c, c2, d1, d3, bI]
      · have d1 : ¬ seatR row j - seatR row x = 1 := by omega
        have d2 : ¬ seatR row x - seatR row j = 1 := by omega
        simp [c, c1, c2, d1, d2, bI]
  · simp [c, bI]
theorem who_num {H : Nat → Nat → Int} {row : Nat → Int} (z : Int) : whoF H row z = -1 ∨ (0 ≤ whoF H row z ∧ whoF H row z < 16 ∧ sit H row (whoF H row z) = true ∧ seatR row (whoF H row z) = z) := by
  rcases ff_rng (p := fun i => sit H row i && decide (seatR row i = z)) 16 0 with h | ⟨h1, h2, h3⟩
  · exact Or.inl h
  · simp only [Bool.and_eq_true, decide_eq_true_eq] at h3
    exact Or.inr ⟨h1, by have : whoF H row z < 0 + ((16 : Nat) : Int) := h2; omega, h3.1, h3.2⟩
def frB (A B : AH) : Prop := (∀ a j, a ≠ 181 → a ≠ 184 → ¬ (a = 180 ∧ j = 11) → gi B a j = gi A a j) ∧ (∀ a j, gr B a j = gr A a j) ∧ B.2.2 = A.2.2
theorem frB_refl (A : AH) : frB A A := ⟨fun _ _ _ _ _ => rfl, fun _ _ => rfl, rfl⟩
theorem frB_trans {A B C : AH} (h1 : frB A B) (h2 : frB B C) : frB A C := ⟨fun a j q r t => (h2.1 a j q r t).trans (h1.1 a j q r t), fun a j => (h2.2.1 a j).trans (h1.2.1 a j), h2.2.2.trans h1.2.2⟩
theorem frB_wi {A B : AH} {a k : Nat} (v : Int) (h : a = 181 ∨ a = 184 ∨ (a = 180 ∧ k = 11)) (h2 : frB A B) : frB A (wi B a k v) := frB_trans h2 ⟨fun b j q r t => by
  rw [gi_wi, if_neg (by omega)], fun _ _ => rfl, rfl⟩
theorem frB_sc {A B : AH} (h : frB A B) : sc A B := ⟨fun a j q => h.1 a j (by unfold scr at q; omega) (by unfold scr at q; omega) (by unfold scr at q; omega), fun a j _ => h.2.1 a j, h.2.2⟩
/-- what the bench looks at -/
def BS (A : AH) (h s : Nat) (H : Nat → Nat → Int) (row : Nat → Int) (m a q : Int) : Prop := (gr A 180 0 = h ∧ gr A 180 1 = s) ∧ (gi A 180 6 = m ∧ gi A 180 5 = a ∧ gi A 180 4 = q) ∧ HR A h H ∧ SR A s H row ∧ s + 4 < 180
theorem BS_fr {A B : AH} (f : frB A B) {h s : Nat} {H : Nat → Nat → Int} {row : Nat → Int} {m a q : Int} (b : BS A h s H row m a q) : BS B h s H row m a q := by
  obtain ⟨⟨b1, b2⟩, ⟨b3, b4, b5⟩, b6, b7, b8⟩ := b
  refine ⟨⟨by rw [f.2.1]; exact b1, by rw [f.2.1]; exact b2⟩, ⟨?_, ?_, ?_⟩, HR_sc (frB_sc f) b6, SR_fr (fun a j _ _ => f.1 a j (by omega) (by omega) (by omega)) b7, b8⟩
  · rw [f.1 180 6 (by omega) (by omega) (by omega)]; exact b3
  · rw [f.1 180 5 (by omega) (by omega) (by omega)]; exact b4
  · rw [f.1 180 4 (by omega) (by omega) (by omega)]; exact b5
/-- hall and sitting are sound -/
def gok (H : Nat → Nat → Int) (row : Nat → Int) : Prop := cok H ∧ hok H ∧ sok H ∧ rok H row ∧ dok H row
set_option maxRecDepth 100000 in
theorem s_regard (d : Nat) (x : Int) (A : AH) {h s : Nat} {H : Nat → Nat → Int} {row : Nat → Int} {m a q : Int} (b : BS A h s H row m a q) (g : gok H row) (hx : sit H row x = true) (ha1 : -1 ≤ a) (ha2 : a < nPo H) : ∃ A', runF (d + 3) 4 [vR 10 180 0, vI x] A = some (none, A') ∧ (∀ i : Int, 0 ≤ i → i < 10 → gi A' 181 i.toNat = fctF H row m a q x i) ∧ frB A A' := by
  obtain ⟨hc, hh, hs, hr, hd⟩ := g
  have hn := sit_num hc hx
  have hn1 : 0 ≤ x := by unfold num at hn; omega
  have hn2 : x < 16 := by unfold num at hn; omega
  have b6 := hd.1 x hx
  have b7 := seat_bd hr hn1 hn2
  have hs0 : s ≠ 0 := b.2.2.2.1.1
  have hh0 : h ≠ 0 := by have := b.2.2.1.1; omega
  have bp := party_ok hh hr hn
  have eb := b.2.2.2.1.2.2.1 x hn1 hn2
  have ep := b.2.2.2.1.2.2.2.1 x hn1 hn2
  rw [if_pos hx] at eb ep
  have ek := b.2.2.1.2.2.1 x (sit_exi hx)
  obtain ⟨l, hl⟩ : ∃ l, l = whoF H row (seatR row x - 1) := ⟨_, rfl⟩
  obtain ⟨r, hr'⟩ : ∃ r, r = whoF H row (seatR row x + 1) := ⟨_, rfl⟩
  have bl : l = -1 ∨ (0 ≤ l ∧ l < 16) := by
    rcases who_num (H := H) (row := row) (seatR row x - 1) with e | e
    · left; rw [hl]; exact e
    · right; rw [hl]; exact ⟨e.1, e.2.1⟩
  have br : r = -1 ∨ (0 ≤ r ∧ r < 16) := by
    rcases who_num (H := H) (row := row) (seatR row x + 1) with e | e
    · left; rw [hr']; exact e
    · right; rw [hr']; exact ⟨e.1, e.2.1⟩
  have eN := near_eq hd x
  have eH := hated_eq hd x
  rw [← hl, ← hr'] at eN eH
  have F : ∀ (B : AH) (j : Nat) (v : Int), frB A B → frB A (wi B 181 j v) := fun B j v f => frB_wi v (Or.inl rfl) f
  obtain ⟨A1, eA1⟩ : ∃ A1, A1 = wi A 181 0 (keepsF H x) := ⟨_, rfl⟩
  have c1 : frB A A1 := by rw [eA1]; exact F _ _ _ (frB_refl A)
  obtain ⟨A2, eA2⟩ : ∃ A2, A2 = wi A1 181 1 (itchF H x) := ⟨_, rfl⟩
  have c2 : frB A A2 := by rw [eA2]; exact F _ _ _ c1
  obtain ⟨A3, eA3⟩ : ∃ A3, A3 = wi A2 181 2 (nearF H row x) := ⟨_, rfl⟩
  have c3 : frB A A3 := by rw [eA3]; exact F _ _ _ c2
  obtain ⟨A4, eA4⟩ : ∃ A4, A4 = wi A3 181 3 (hatedF H row x) := ⟨_, rfl⟩
  have c4 : frB A A4 := by rw [eA4]; exact F _ _ _ c3
  obtain ⟨A5, eA5⟩ : ∃ A5, A5 = wi A4 181 4 (askedF H row a x) := ⟨_, rfl⟩
  have c5 : frB A A5 := by rw [eA5]; exact F _ _ _ c4
  obtain ⟨A6, eA6⟩ : ∃ A6, A6 = wi A5 181 5 (noiseF H q (seatR row x) m) := ⟨_, rfl⟩
  have c6 : frB A A6 := by rw [eA6]; exact F _ _ _ c5
  obtain ⟨A7, eA7⟩ : ∃ A7, A7 = wi A6 181 6 (seatR row x) := ⟨_, rfl⟩
  have c7 : frB A A7 := by rw [eA7]; exact F _ _ _ c6
  obtain ⟨A8, eA8⟩ : ∃ A8, A8 = wi A7 181 7 m := ⟨_, rfl⟩
  have c8 : frB A A8 := by rw [eA8]; exact F _ _ _ c7
  obtain ⟨A9, eA9⟩ : ∃ A9, A9 = wi (wi A8 181 8 x) 181 9 (partyF H row x) := ⟨_, rfl⟩
  have c9 : frB A A9 := by rw [eA9]; exact F _ _ _ (F _ _ _ c8)
  refine ⟨A9, ?_, ?_, c9⟩
  · have q1 := BS_fr c1 b
    have q2 := BS_fr c2 b
    have q3 := BS_fr c3 b
    have q4 := BS_fr c4 b
    have q5 := BS_fr c5 b
    have q7 := BS_fr c7 b
    rw [r_X0_regard, q_X0_regard_0]
    simp -implicitDefEqProofs (disch := omega) only [b.1.2, eb, ep, ↓reduceIte, Int.reduceEq, cI_v, cL_v, cV_v, cR_v, wid, wid64, if_pos, if_neg, Nat.add_zero, if_true, if_false, and_self, and_true, true_and, and_false, false_and, or_true, true_or, or_false, false_or]
    rw [s_whoSits (d + 1) s _ A H row hc hd b.2.2.2.1, ← hl]
    simp -implicitDefEqProofs (disch := omega) only [b.1.2, ↓reduceIte, Int.reduceEq, cI_v, cL_v, cV_v, cR_v, wid, wid64, if_pos, if_neg, Nat.add_zero, if_true, if_false, and_self, and_true, true_and, and_false, false_and, or_true, true_or, or_false, false_or]
    rw [s_whoSits (d + 1) s _ A H row hc hd b.2.2.2.1, ← hr']
    simp -implicitDefEqProofs (disch := omega) only [↓reduceIte, Int.reduceEq, cI_v, cL_v, cV_v, cR_v, wid, wid64, if_pos, if_neg, Nat.add_zero, if_true, if_false, and_self, and_true, true_and, and_false, false_and, or_true, true_or, or_false, false_or]
    rw [q_X0_regard_44, b.1.1]
    simp -implicitDefEqProofs (disch := omega) only [ek.1, ↓reduceIte, Int.reduceEq, cI_v, cL_v, cV_v, cR_v, wid, wid64, if_pos, if_neg, Nat.add_zero, if_true, if_false, and_self, and_true, true_and, and_false, false_and, or_true, true_or, or_false, false_or]
    rw [← eA1, q_X0_regard_59, q1.1.1]
    simp -implicitDefEqProofs (disch := omega) only [(q1.2.2.1.2.2.1 x (sit_exi hx)).2, ↓reduceIte, Int.reduceEq, cI_v, cL_v, cV_v, cR_v, wid, wid64, if_pos, if_neg, Nat.add_zero, if_true, if_false, and_self, and_true, true_and, and_false, false_and, or_true, true_or, or_false, false_or]
    rw [← eA2]
    have near : ∀ n, go true 3 (runF (d + 2)) (runN (d + 2)) pb_X0_regard (n + 20) 74 [vR 10 180 0, vI x, vI (seatR row x), vI (partyF H row x), vI l, vI r] [] A2 = some (none, A9) := by
      intro n
      have ask : ∀ n, go true 3 (runF (d + 2)) (runN (d + 2)) pb_X0_regard (n + 8) 202 [vR 10 180 0, vI x, vI (seatR row x), vI (partyF H row x), vI l, vI r] [vI (askedF H row a x), vI 4, vR 30 181 10] A4 = some (none, A9) := by
        intro n
        rw [q_X0_regard_202]
        simp -implicitDefEqProofs (disch := omega) only [↓reduceIte, Int.reduceEq, cI_v, cL_v, cV_v, cR_v, wid, wid64, if_pos, if_neg, Nat.add_zero, if_true, if_false, and_self, and_true, true_and, and_false, false_and, or_true, true_or, or_false, false_or]
        rw [show (4 : Int).toNat = 4 from rfl, ← eA5, q5.1.1, q5.2.1.1, q5.2.1.2.2]
        simp -implicitDefEqProofs (disch := omega) only [↓reduceIte, Int.reduceEq, cI_v, cL_v, cV_v, cR_v, wid, wid64, if_pos, if_neg, Nat.add_zero, if_true, if_false, and_self, and_true, true_and, and_false, false_and, or_true, true_or, or_false, false_or]
        rw [s_noiseC d h _ _ _ A5 H hc hh q5.2.2.1 (by omega) (by omega)]
        simp -implicitDefEqProofs (disch := omega) only [↓reduceIte, Int.reduceEq, cI_v, cL_v, cV_v, cR_v, wid, wid64, if_pos, if_neg, Nat.add_zero, if_true, if_false, and_self, and_true, true_and, and_false, false_and, or_true, true_or, or_false, false_or]
        rw [← eA6, q_X0_regard_225, ← eA7, q7.2.1.1, ← eA8, q_X0_regard_244, ← eA9, q_X0_regard_260]
      have hat : ∀ n y z, y + z = hatedF H row x → 0 ≤ y → y ≤ 1 → 0 ≤ z → z ≤ 1 → go true 3 (runF (d + 2)) (runN (d + 2)) pb_X0_regard (n + 12) 156 [vR 10 180 0, vI x, vI (seatR row x), vI (partyF H row x), vI l, vI r] [vI z, vI y, vI 3, vR 30 181 10] A3 = some (none, A9) := by
        intro n y z hyz y1 y2 z1 z2
        rw [q_X0_regard_156]
        simp -implicitDefEqProofs (disch := omega) only [hyz, ↓reduceIte, Int.reduceEq, cI_v, cL_v, cV_v, cR_v, wid, wid64, if_pos, if_neg, Nat.add_zero, if_true, if_false, and_self, and_true, true_and, and_false, false_and, or_true, true_or, or_false, false_or]
        rw [show (3 : Int).toNat = 3 from rfl, ← eA4, q4.1.1, q4.2.1.2.1]
        by_cases e1 : partyF H row x = 2
        · simp -implicitDefEqProofs (disch := omega) only [q_X0_regard_182, ↓reduceIte, Int.reduceEq, cI_v, cL_v, cV_v, cR_v, wid, wid64, if_pos, if_neg, Nat.add_zero, if_true, if_false, and_self, and_true, true_and, and_false, false_and, or_true, true_or, or_false, false_or]
          rw [← ask (n + 2)]
          congr 4
          unfold askedF; rw [if_pos (Or.inr e1)]
        · simp -implicitDefEqProofs (disch := omega) only [s_isPointC (d + 1) h a A4 H q4.2.2.1, bI_0, ite_f, decide_eq_true_eq, ↓reduceIte, Int.reduceEq, cI_v, cL_v, cV_v, cR_v, wid, wid64, if_pos, if_neg, Nat.add_zero, if_true, if_false, and_self, and_true, true_and, and_false, false_and, or_true, true_or, or_false, false_or]
          by_cases e2 : a = -1
          · simp -implicitDefEqProofs (disch := omega) only [q_X0_regard_182, ↓reduceIte, Int.reduceEq, cI_v, cL_v, cV_v, cR_v, wid, wid64, if_pos, if_neg, Nat.add_zero, if_true, if_false, and_self, and_true, true_and, and_false, false_and, or_true, true_or, or_false, false_or]
            rw [← ask (n + 2)]
            congr 4
            unfold askedF; rw [if_pos (Or.inl e2)]
          · unfold cok at hc
            simp -implicitDefEqProofs (disch := omega) only [q4.1.1, q4.2.1.2.1, ↓reduceIte, Int.reduceEq, cI_v, cL_v, cV_v, cR_v, wid, wid64, if_pos, if_neg, Nat.add_zero, if_true, if_false, and_self, and_true, true_and, and_false, false_and, or_true, true_or, or_false, false_or]
            rw [← ask (n + 2), q4.2.2.1.2.2.2.2.2.2.1 (2 * a + partyF H row x) (by omega) (by omega)]
            congr 4
            unfold askedF; rw [if_neg (by omega), ← Int.add_assoc]
      have mid : ∀ n y z, y + z = nearF H row x → 0 ≤ y → y ≤ 1 → 0 ≤ z → z ≤ 1 → go true 3 (runF (d + 2)) (runN (d + 2)) pb_X0_regard (n + 16) 101 [vR 10 180 0, vI x, vI (seatR row x), vI (partyF H row x), vI l, vI r] [vI z, vI y, vI 2, vR 30 181 10] A2 = some (none, A9) := by
        intro n y z hyz y1 y2 z1 z2
        have lft : ∀ n y, (y + if r = -1 then 0 else bI (foeF H x r)) = hatedF H row x → 0 ≤ y → y ≤ 1 → go true 3 (runF (d + 2)) (runN (d + 2)) pb_X0_regard (n + 14) 132 [vR 10 180 0, vI x, vI (seatR row x), vI (partyF H row x), vI l, vI r] [vI y, vI 3, vR 30 181 10] A3 = some (none, A9) := by
          intro n y hy y1 y2
          rw [q_X0_regard_132]
          by_cases e1 : r = -1
          · rw [if_pos e1] at hy
            simp -implicitDefEqProofs (disch := omega) only [q_X0_regard_155, ↓reduceIte, Int.reduceEq, cI_v, cL_v, cV_v, cR_v, wid, wid64, if_pos, if_neg, Nat.add_zero, if_true, if_false, and_self, and_true, true_and, and_false, false_and, or_true, true_or, or_false, false_or]
            exact hat n y 0 hy y1 y2 (by omega) (by omega)
          · rw [if_neg e1] at hy
            simp -implicitDefEqProofs (disch := omega) only [q3.1.1, ↓reduceIte, Int.reduceEq, cI_v, cL_v, cV_v, cR_v, wid, wid64, if_pos, if_neg, Nat.add_zero, if_true, if_false, and_self, and_true, true_and, and_false, false_and, or_true, true_or, or_false, false_or]
            rw [s_areFoes (d + 1) h x r A3 H hh q3.2.2.1 hn1 hn2 (by omega) (by omega)]
            simp -implicitDefEqProofs (disch := omega) only [bI_0, ite_f, q_X0_regard_155, ↓reduceIte, Int.reduceEq, cI_v, cL_v, cV_v, cR_v, wid, wid64, if_pos, if_neg, Nat.add_zero, if_true, if_false, and_self, and_true, true_and, and_false, false_and, or_true, true_or, or_false, false_or]
            by_cases e2 : foeF H x r = true
            · rw [e2] at hy
              simp -implicitDefEqProofs (disch := omega) only [e2, ↓reduceIte, Int.reduceEq, cI_v, cL_v, cV_v, cR_v, wid, wid64, if_pos, if_neg, Nat.add_zero, if_true, if_false, and_self, and_true, true_and, and_false, false_and, or_true, true_or, or_false, false_or]
              exact hat (n + 1) y 1 hy y1 y2 (by omega) (by omega)
            · have e2' : foeF H x r = false := by simpa using e2
              rw [e2'] at hy
              simp -implicitDefEqProofs (disch := omega) only [e2', Bool.false_eq_true, ↓reduceIte, Int.reduceEq, cI_v, cL_v, cV_v, cR_v, wid, wid64, if_pos, if_neg, Nat.add_zero, if_true, if_false, and_self, and_true, true_and, and_false, false_and, or_true, true_or, or_false, false_or]
              exact hat n y 0 hy y1 y2 (by omega) (by omega)
        rw [q_X0_regard_101]
        simp -implicitDefEqProofs (disch := omega) only [hyz, ↓reduceIte, Int.reduceEq, cI_v, cL_v, cV_v, cR_v, wid, wid64, if_pos, if_neg, Nat.add_zero, if_true, if_false, and_self, and_true, true_and, and_false, false_and, or_true, true_or, or_false, false_or]
        rw [show (2 : Int).toNat = 2 from rfl, ← eA3, q3.1.1]
        by_cases e1 : l = -1
        · simp -implicitDefEqProofs (disch := omega) only [q_X0_regard_131, ↓reduceIte, Int.reduceEq, cI_v, cL_v, cV_v, cR_v, wid, wid64, if_pos, if_neg, Nat.add_zero, if_true, if_false, and_self, and_true, true_and, and_false, false_and, or_true, true_or, or_false, false_or]
          refine lft n 0 ?_ (by omega) (by omega)
          rw [eH, if_pos e1]
        · simp -implicitDefEqProofs (disch := omega) only [↓reduceIte, Int.reduceEq, cI_v, cL_v, cV_v, cR_v, wid, wid64, if_pos, if_neg, Nat.add_zero, if_true, if_false, and_self, and_true, true_and, and_false, false_and, or_true, true_or, or_false, false_or]
          rw [s_areFoes (d + 1) h x l A3 H hh q3.2.2.1 hn1 hn2 (by omega) (by omega)]
          simp -implicitDefEqProofs (disch := omega) only [bI_0, ite_f, q_X0_regard_131, ↓reduceIte, Int.reduceEq, cI_v, cL_v, cV_v, cR_v, wid, wid64, if_pos, if_neg, Nat.add_zero, if_true, if_false, and_self, and_true, true_and, and_false, false_and, or_true, true_or, or_false, false_or]
          by_cases e2 : foeF H x l = true
          · simp -implicitDefEqProofs (disch := omega) only [e2, ↓reduceIte, Int.reduceEq, cI_v, cL_v, cV_v, cR_v, wid, wid64, if_pos, if_neg, Nat.add_zero, if_true, if_false, and_self, and_true, true_and, and_false, false_and, or_true, true_or, or_false, false_or]
            refine lft (n + 1) 1 ?_ (by omega) (by omega)
            rw [eH, if_neg e1, e2]; rfl
          · have e2' : foeF H x l = false := by simpa using e2
            simp -implicitDefEqProofs (disch := omega) only [e2', Bool.false_eq_true, ↓reduceIte, Int.reduceEq, cI_v, cL_v, cV_v, cR_v, wid, wid64, if_pos, if_neg, Nat.add_zero, if_true, if_false, and_self, and_true, true_and, and_false, false_and, or_true, true_or, or_false, false_or]
            refine lft n 0 ?_ (by omega) (by omega)
            rw [eH, if_neg e1, e2']; rfl
      rw [q_X0_regard_74]
      by_cases e1 : l = -1
      · simp -implicitDefEqProofs (disch := omega) only [q_X0_regard_90, ↓reduceIte, Int.reduceEq, cI_v, cL_v, cV_v, cR_v, wid, wid64, if_pos, if_neg, Nat.add_zero, if_true, if_false, and_self, and_true, true_and, and_false, false_and, or_true, true_or, or_false, false_or]
        by_cases e2 : r = -1
        · simp -implicitDefEqProofs (disch := omega) only [↓reduceIte, Int.reduceEq, cI_v, cL_v, cV_v, cR_v, wid, wid64, if_pos, if_neg, Nat.add_zero, if_true, if_false, and_self, and_true, true_and, and_false, false_and, or_true, true_or, or_false, false_or]
          exact mid n 0 0 (by rw [eN, if_pos e1, if_pos e2]) (by omega) (by omega) (by omega) (by omega)
        · simp -implicitDefEqProofs (disch := omega) only [↓reduceIte, Int.reduceEq, cI_v, cL_v, cV_v, cR_v, wid, wid64, if_pos, if_neg, Nat.add_zero, if_true, if_false, and_self, and_true, true_and, and_false, false_and, or_true, true_or, or_false, false_or]
          exact mid (n + 1) 0 1 (by rw [eN, if_pos e1, if_neg e2]) (by omega) (by omega) (by omega) (by omega)
      · simp -implicitDefEqProofs (disch := omega) only [q_X0_regard_90, ↓reduceIte, Int.reduceEq, cI_v, cL_v, cV_v, cR_v, wid, wid64, if_pos, if_neg, Nat.add_zero, if_true, if_false, and_self, and_true, true_and, and_false, false_and, or_true, true_or, or_false, false_or]
        by_cases e2 : r = -1
        · simp -implicitDefEqProofs (disch := omega) only [↓reduceIte, Int.reduceEq, cI_v, cL_v, cV_v, cR_v, wid, wid64, if_pos, if_neg, Nat.add_zero, if_true, if_false, and_self, and_true, true_and, and_false, false_and, or_true, true_or, or_false, false_or]
          exact mid (n + 1) 1 0 (by rw [eN, if_neg e1, if_pos e2]) (by omega) (by omega) (by omega) (by omega)
        · simp -implicitDefEqProofs (disch := omega) only [↓reduceIte, Int.reduceEq, cI_v, cL_v, cV_v, cR_v, wid, wid64, if_pos, if_neg, Nat.add_zero, if_true, if_false, and_self, and_true, true_and, and_false, false_and, or_true, true_or, or_false, false_or]
          exact mid (n + 2) 1 1 (by rw [eN, if_neg e1, if_neg e2]) (by omega) (by omega) (by omega) (by omega)
    exact near (fu + 177)
  · intro i i1 i2
    have : i = 0 ∨ i = 1 ∨ i = 2 ∨ i = 3 ∨ i = 4 ∨ i = 5 ∨ i = 6 ∨ i = 7 ∨ i = 8 ∨ i = 9 := by omega
    rw [eA9, eA8, eA7, eA6, eA5, eA4, eA3, eA2, eA1]
    rcases this with rfl | rfl | rfl | rfl | rfl | rfl | rfl | rfl | rfl | rfl <;> simp [gi_wi, fctF]
