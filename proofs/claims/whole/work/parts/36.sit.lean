/-! the class: what changes a sitting -/
def frW (s : Nat) (A B : AH) : Prop := (∀ a j, ¬ (s ≤ a ∧ a ≤ s + 4) → gi B a j = gi A a j) ∧ (∀ a j, gr B a j = gr A a j) ∧ B.2.2 = A.2.2
theorem frW_refl (s : Nat) (A : AH) : frW s A A := ⟨fun _ _ _ => rfl, fun _ _ => rfl, rfl⟩
theorem frW_trans {s : Nat} {A B C : AH} (h1 : frW s A B) (h2 : frW s B C) : frW s A C := ⟨fun a j r => (h2.1 a j r).trans (h1.1 a j r), fun a j => (h2.2.1 a j).trans (h1.2.1 a j), h2.2.2.trans h1.2.2⟩
theorem frW_wi {s : Nat} {A B : AH} {a k : Nat} (v : Int) (h : s ≤ a ∧ a ≤ s + 4) (h2 : frW s A B) : frW s A (wi B a k v) := frW_trans h2 ⟨fun b j r => by
  rw [gi_wi, if_neg (by omega)], fun _ _ => rfl, rfl⟩
theorem frW_sc {A B : AH} (h : frW 73 A B) : sc A B := ⟨fun a j q => h.1 a j (by unfold scr at q; omega), fun a j _ => h.2.1 a j, h.2.2⟩
def cpS (A B : AH) (s t : Nat) : Prop := (gi B s 0 = gi A t 0 ∧ gi B s 1 = gi A t 1 ∧ gi B s 2 = gi A t 2 ∧ gi B s 7 = gi A t 7) ∧ (∀ j, j < 16 → gi B (s + 1) j = gi A (t + 1) j ∧ gi B (s + 2) j = gi A (t + 2) j) ∧ (∀ j, j < 9 → gi B (s + 3) j = gi A (t + 3) j) ∧ (∀ j, j < 40 → gi B (s + 4) j = gi A (t + 4) j)
set_option maxRecDepth 100000 in
theorem s_copyP (d : Nat) (s t : Nat) (A : AH) (hs : s ≠ 0) (ht : t ≠ 0) (hd : s + 4 < t ∨ t + 4 < s) : ∃ A', runF (d + 1) 97 [vR 19 s 0, vR 19 t 0] A = some (none, A') ∧ cpS A A' s t ∧ frW s A A' := by
  refine ⟨cpa (cpa (cpa (cpa (wi (wi (wi (wi A s 0 (gi A t 0)) s 1 (gi A t 1)) s 2 (gi A t 2)) s 7 (gi A t 7)) (t + 1) 0 (s + 1) 0 16) (t + 2) 0 (s + 2) 0 16) (t + 3) 0 (s + 3) 0 9) (t + 4) 0 (s + 4) 0 40, ?_, ⟨⟨?_, ?_, ?_, ?_⟩, fun j hj => ⟨?_, ?_⟩, fun j hj => ?_, fun j hj => ?_⟩, ⟨fun a j h => ?_, fun _ _ => rfl, rfl⟩⟩
  · rw [r_X9_copy, q_X9_copy_0 _ _ _ _ _ _ hs ht, q_X9_copy_16 _ _ _ _ _ _ hs ht, q_X9_copy_32 _ _ _ _ _ _ hs ht, if_neg (by omega), if_neg (by omega), if_neg (by omega), q_X9_copy_77 _ _ _ _ _ _ hs ht, if_neg (by omega)]
    simp -implicitDefEqProofs (disch := omega) only [gi_wi, ↓reduceIte, Int.reduceEq, cI_v, cL_v, cV_v, cR_v, wid, wid64, if_pos, if_neg, Nat.add_zero, if_true, if_false, and_self, and_true, true_and, and_false, false_and, or_true, true_or, or_false, false_or]
  · simp -implicitDefEqProofs (disch := omega) only [gi_cpa, gi_wi, ↓reduceIte, Int.reduceEq, cI_v, cL_v, cV_v, cR_v, wid, wid64, if_pos, if_neg, Nat.add_zero, if_true, if_false, and_self, and_true, true_and, and_false, false_and, or_true, true_or, or_false, false_or]
  · simp -implicitDefEqProofs (disch := omega) only [gi_cpa, gi_wi, ↓reduceIte, Int.reduceEq, cI_v, cL_v, cV_v, cR_v, wid, wid64, if_pos, if_neg, Nat.add_zero, if_true, if_false, and_self, and_true, true_and, and_false, false_and, or_true, true_or, or_false, false_or]
  · simp -implicitDefEqProofs (disch := omega) only [gi_cpa, gi_wi, ↓reduceIte, Int.reduceEq, cI_v, cL_v, cV_v, cR_v, wid, wid64, if_pos, if_neg, Nat.add_zero, if_true, if_false, and_self, and_true, true_and, and_false, false_and, or_true, true_or, or_false, false_or]
  · simp -implicitDefEqProofs (disch := omega) only [gi_cpa, gi_wi, ↓reduceIte, Int.reduceEq, cI_v, cL_v, cV_v, cR_v, wid, wid64, if_pos, if_neg, Nat.add_zero, if_true, if_false, and_self, and_true, true_and, and_false, false_and, or_true, true_or, or_false, false_or]
  · simp -implicitDefEqProofs (disch := omega) only [gi_cpa, gi_wi, Nat.zero_add, Nat.sub_zero, ↓reduceIte, Int.reduceEq, cI_v, cL_v, cV_v, cR_v, wid, wid64, if_pos, if_neg, Nat.add_zero, if_true, if_false, and_self, and_true, true_and, and_false, false_and, or_true, true_or, or_false, false_or]
  · simp -implicitDefEqProofs (disch := omega) only [gi_cpa, gi_wi, Nat.zero_add, Nat.sub_zero, ↓reduceIte, Int.reduceEq, cI_v, cL_v, cV_v, cR_v, wid, wid64, if_pos, if_neg, Nat.add_zero, if_true, if_false, and_self, and_true, true_and, and_false, false_and, or_true, true_or, or_false, false_or]
  · simp -implicitDefEqProofs (disch := omega) only [gi_cpa, gi_wi, Nat.zero_add, Nat.sub_zero, ↓reduceIte, Int.reduceEq, cI_v, cL_v, cV_v, cR_v, wid, wid64, if_pos, if_neg, Nat.add_zero, if_true, if_false, and_self, and_true, true_and, and_false, false_and, or_true, true_or, or_false, false_or]
  · simp -implicitDefEqProofs (disch := omega) only [gi_cpa, gi_wi, Nat.zero_add, Nat.sub_zero, ↓reduceIte, Int.reduceEq, cI_v, cL_v, cV_v, cR_v, wid, wid64, if_pos, if_neg, Nat.add_zero, if_true, if_false, and_self, and_true, true_and, and_false, false_and, or_true, true_or, or_false, false_or]
  · simp -implicitDefEqProofs (disch := omega) only [gi_cpa, gi_wi, ↓reduceIte, Int.reduceEq, cI_v, cL_v, cV_v, cR_v, wid, wid64, if_pos, if_neg, Nat.add_zero, if_true, if_false, and_self, and_true, true_and, and_false, false_and, or_true, true_or, or_false, false_or]
theorem SR_cp {A B : AH} {s t : Nat} {H : Nat → Nat → Int} {row : Nat → Int} (hs : s ≠ 0) (c : cpS A B s t) (r : SR A t H row) : SR B s H row := by
  obtain ⟨c1, c2, c3, c4⟩ := c
  obtain ⟨r1, r2, r3, r4, r5⟩ := r
  refine ⟨hs, ⟨c1.1.trans r2.1, c1.2.1.trans r2.2.1, c1.2.2.1.trans r2.2.2⟩, fun x h1 h2 => ?_, fun x h1 h2 => ?_, fun z h1 h2 => ?_⟩
  · rw [(c2 x.toNat (by omega)).1]; exact r3 x h1 h2
  · rw [(c2 x.toNat (by omega)).2]; exact r4 x h1 h2
  · rw [c3 z.toNat (by omega)]; exact r5 z h1 h2
theorem KR_cp {n : Nat} {A B : AH} {s t : Nat} {row : Nat → Int} (c : cpS A B s t) (r : KR n A t row) : KR n B s row := by
  obtain ⟨c1, c2, c3, c4⟩ := c
  unfold KR at *
  rw [c1.2.2.2]
  refine ⟨r.1, r.2.1, fun k h1 h2 => ?_⟩
  have : ((gi A t 7 - row 25 + k) % 40).toNat < 40 := by omega
  rw [c4 _ this]
  exact r.2.2 k h1 h2
theorem who_cg {H : Nat → Nat → Int} {row row' : Nat → Int} {z : Int} (h : ∀ j, 0 ≤ j → j < 16 → (sit H row' j && decide (seatR row' j = z)) = (sit H row j && decide (seatR row j = z))) : whoF H row' z = whoF H row z := ff_congr 16 0 (fun j h1 h2 => h j h1 (by omega))
theorem who_is {H : Nat → Nat → Int} {row : Nat → Int} (hc : cok H) (hd : dok H row) {x : Int} (hx : sit H row x = true) : whoF H row (seatR row x) = x := by
  have hn := sit_num hc hx
  unfold num at hn
  refine ff_uniq 16 0 (by omega) (by omega) (by simp [hx]) (fun j _ _ hj => ?_)
  simp only [Bool.and_eq_true, decide_eq_true_eq] at hj
  exact hd.2 j x hj.1 hx hj.2
theorem who_free {H : Nat → Nat → Int} {row : Nat → Int} {z : Int} (h : whoF H row z = -1) {x : Int} (h1 : 0 ≤ x) (h2 : x < 16) (hx : sit H row x = true) : seatR row x ≠ z := by
  have := (ff_none 16 0 (by omega)).mp h x h1 (by omega)
  simp only [hx, Bool.true_and, decide_eq_false_iff_not] at this
  exact this
/-- one sits down who did not sit -/
theorem SR_put {A : AH} {s : Nat} {H : Nat → Nat → Int} {row row' : Nat → Int} {x p z : Int} (hc : cok H) (r : SR A s H row) (hd : dok H row) (hx1 : 0 ≤ x) (hx2 : x < 16) (hz1 : 0 ≤ z) (hz2 : z < nSe H) (hno : sit H row x = false) (hfr : whoF H row z = -1) (h0 : row' 0 = row 0 ∧ row' 1 = row 1 ∧ row' 2 = row 2) (hx : sit H row' x = true ∧ seatR row' x = z ∧ partyF H row' x = p) (ho : ∀ y, y ≠ x → sit H row' y = sit H row y ∧ (sit H row y = true → seatR row' y = seatR row y ∧ partyF H row' y = partyF H row y)) : SR (wi (wi (wi A (s + 1) x.toNat z) (s + 2) x.toNat p) (s + 3) z.toNat x) s H row' ∧ dok H row' := by
  obtain ⟨r1, r2, r3, r4, r5⟩ := r
  have hc' := hc
  unfold cok at hc'
  have dk : dok H row' := by
    refine ⟨fun y hy => ?_, fun y w hy hw e => ?_⟩
    · by_cases c : y = x
      · subst c; rw [hx.2.1]; omega
      · have := ho y c
        rw [this.1] at hy
        rw [(this.2 hy).1]; exact hd.1 y hy
    · by_cases cy : y = x
      · by_cases cw : w = x
        · rw [cy, cw]
        · exfalso
          have := ho w cw
          rw [this.1] at hw
          have hn := sit_num hc hw
          unfold num at hn
          refine who_free hfr (x := w) (by omega) (by omega) hw ?_
          rw [← (this.2 hw).1, ← e, cy, hx.2.1]
      · by_cases cw : w = x
        · exfalso
          have := ho y cy
          rw [this.1] at hy
          have hn := sit_num hc hy
          unfold num at hn
          refine who_free hfr (x := y) (by omega) (by omega) hy ?_
          rw [← (this.2 hy).1, e, cw, hx.2.1]
        · have h1 := ho y cy
          have h2 := ho w cw
          rw [h1.1] at hy
          rw [h2.1] at hw
          rw [(h1.2 hy).1, (h2.2 hw).1] at e
          exact hd.2 y w hy hw e
  refine ⟨⟨r1, ⟨?_, ?_, ?_⟩, fun y h1 h2 => ?_, fun y h1 h2 => ?_, fun w h1 h2 => ?_⟩, dk⟩
  · simp -implicitDefEqProofs (disch := omega) only [gi_wi, ↓reduceIte, Int.reduceEq, cI_v, cL_v, cV_v, cR_v, wid, wid64, if_pos, if_neg, Nat.add_zero, if_true, if_false, and_self, and_true, true_and, and_false, false_and, or_true, true_or, or_false, false_or]; rw [r2.1, h0.1]
  · simp -implicitDefEqProofs (disch := omega) only [gi_wi, ↓reduceIte, Int.reduceEq, cI_v, cL_v, cV_v, cR_v, wid, wid64, if_pos, if_neg, Nat.add_zero, if_true, if_false, and_self, and_true, true_and, and_false, false_and, or_true, true_or, or_false, false_or]; rw [r2.2.1, h0.2.1]
  · simp -implicitDefEqProofs (disch := omega) only [gi_wi, ↓reduceIte, Int.reduceEq, cI_v, cL_v, cV_v, cR_v, wid, wid64, if_pos, if_neg, Nat.add_zero, if_true, if_false, and_self, and_true, true_and, and_false, false_and, or_true, true_or, or_false, false_or]; rw [r2.2.2, h0.2.2]
  · by_cases c : y = x
    · subst c
      simp -implicitDefEqProofs (disch := omega) only [gi_wi, hx.1, hx.2.1, ↓reduceIte, Int.reduceEq, cI_v, cL_v, cV_v, cR_v, wid, wid64, if_pos, if_neg, Nat.add_zero, if_true, if_false, and_self, and_true, true_and, and_false, false_and, or_true, true_or, or_false, false_or]
    · have h3 := ho y c
      simp -implicitDefEqProofs (disch := omega) only [gi_wi, ↓reduceIte, Int.reduceEq, cI_v, cL_v, cV_v, cR_v, wid, wid64, if_pos, if_neg, Nat.add_zero, if_true, if_false, and_self, and_true, true_and, and_false, false_and, or_true, true_or, or_false, false_or]
      rw [r3 y h1 h2, h3.1]
      by_cases c2 : sit H row y = true
      · rw [if_pos c2, if_pos c2, (h3.2 c2).1]
      · rw [if_neg c2, if_neg c2]
  · by_cases c : y = x
    · subst c
      simp -implicitDefEqProofs (disch := omega) only [gi_wi, hx.1, hx.2.2, ↓reduceIte, Int.reduceEq, cI_v, cL_v, cV_v, cR_v, wid, wid64, if_pos, if_neg, Nat.add_zero, if_true, if_false, and_self, and_true, true_and, and_false, false_and, or_true, true_or, or_false, false_or]
    · have h3 := ho y c
      simp -implicitDefEqProofs (disch := omega) only [gi_wi, ↓reduceIte, Int.reduceEq, cI_v, cL_v, cV_v, cR_v, wid, wid64, if_pos, if_neg, Nat.add_zero, if_true, if_false, and_self, and_true, true_and, and_false, false_and, or_true, true_or, or_false, false_or]
      rw [r4 y h1 h2, h3.1]
      by_cases c2 : sit H row y = true
      · rw [if_pos c2, if_pos c2, (h3.2 c2).2]
      · rw [if_neg c2, if_neg c2]
  · by_cases c : w = z
    · subst c
      simp -implicitDefEqProofs (disch := omega) only [gi_wi, ↓reduceIte, Int.reduceEq, cI_v, cL_v, cV_v, cR_v, wid, wid64, if_pos, if_neg, Nat.add_zero, if_true, if_false, and_self, and_true, true_and, and_false, false_and, or_true, true_or, or_false, false_or]
      have := who_is hc dk hx.1
      rw [hx.2.1] at this
      exact this.symm
    · simp -implicitDefEqProofs (disch := omega) only [gi_wi, ↓reduceIte, Int.reduceEq, cI_v, cL_v, cV_v, cR_v, wid, wid64, if_pos, if_neg, Nat.add_zero, if_true, if_false, and_self, and_true, true_and, and_false, false_and, or_true, true_or, or_false, false_or]
      rw [r5 w h1 h2]
      refine (who_cg (fun j j1 j2 => ?_)).symm
      by_cases cj : j = x
      · subst cj
        rw [hno, hx.1, hx.2.1, decide_eq_false (by omega)]; rfl
      · have h3 := ho j cj
        rw [h3.1]
        by_cases c2 : sit H row j = true
        · rw [(h3.2 c2).1]
        · rw [show sit H row j = false by simpa using c2]; rfl
/-- one leaves -/
theorem SR_leave {A : AH} {s : Nat} {H : Nat → Nat → Int} {row row' : Nat → Int} {x : Int} (hc : cok H) (r : SR A s H row) (hd : dok H row) (hsx : sit H row x = true) (h0 : row' 0 = row 0 ∧ row' 1 = row 1 ∧ row' 2 = row 2) (hx : sit H row' x = false) (ho : ∀ y, y ≠ x → sit H row' y = sit H row y ∧ (sit H row y = true → seatR row' y = seatR row y ∧ partyF H row' y = partyF H row y)) : SR (wi (wi (wi A (s + 3) (seatR row x).toNat (-1)) (s + 1) x.toNat (-1)) (s + 2) x.toNat 0) s H row' ∧ dok H row' := by
  obtain ⟨r1, r2, r3, r4, r5⟩ := r
  have hn := sit_num hc hsx
  unfold num at hn
  have hsb := hd.1 x hsx
  have hc' := hc
  unfold cok at hc'
  have dk : dok H row' := by
    refine ⟨fun y hy => ?_, fun y w hy hw e => ?_⟩
    · have c : y ≠ x := fun q => by rw [q, hx] at hy; cases hy
      have := ho y c
      rw [this.1] at hy
      rw [(this.2 hy).1]; exact hd.1 y hy
    · have cy : y ≠ x := fun q => by rw [q, hx] at hy; cases hy
      have cw : w ≠ x := fun q => by rw [q, hx] at hw; cases hw
      have h1 := ho y cy
      have h2 := ho w cw
      rw [h1.1] at hy
      rw [h2.1] at hw
      rw [(h1.2 hy).1, (h2.2 hw).1] at e
      exact hd.2 y w hy hw e
  refine ⟨⟨r1, ⟨?_, ?_, ?_⟩, fun y h1 h2 => ?_, fun y h1 h2 => ?_, fun w h1 h2 => ?_⟩, dk⟩
  · simp -implicitDefEqProofs (disch := omega) only [gi_wi, ↓reduceIte, Int.reduceEq, cI_v, cL_v, cV_v, cR_v, wid, wid64, if_pos, if_neg, Nat.add_zero, if_true, if_false, and_self, and_true, true_and, and_false, false_and, or_true, true_or, or_false, false_or]; rw [r2.1, h0.1]
  · simp -implicitDefEqProofs (disch := omega) only [gi_wi, ↓reduceIte, Int.reduceEq, cI_v, cL_v, cV_v, cR_v, wid, wid64, if_pos, if_neg, Nat.add_zero, if_true, if_false, and_self, and_true, true_and, and_false, false_and, or_true, true_or, or_false, false_or]; rw [r2.2.1, h0.2.1]
  · simp -implicitDefEqProofs (disch := omega) only [gi_wi, ↓reduceIte, Int.reduceEq, cI_v, cL_v, cV_v, cR_v, wid, wid64, if_pos, if_neg, Nat.add_zero, if_true, if_false, and_self, and_true, true_and, and_false, false_and, or_true, true_or, or_false, false_or]; rw [r2.2.2, h0.2.2]
  · by_cases c : y = x
    · subst c
      simp -implicitDefEqProofs (disch := omega) only [gi_wi, hx, Bool.false_eq_true, ↓reduceIte, Int.reduceEq, cI_v, cL_v, cV_v, cR_v, wid, wid64, if_pos, if_neg, Nat.add_zero, if_true, if_false, and_self, and_true, true_and, and_false, false_and, or_true, true_or, or_false, false_or]
    · have h3 := ho y c
      simp -implicitDefEqProofs (disch := omega) only [gi_wi, ↓reduceIte, Int.reduceEq, cI_v, cL_v, cV_v, cR_v, wid, wid64, if_pos, if_neg, Nat.add_zero, if_true, if_false, and_self, and_true, true_and, and_false, false_and, or_true, true_or, or_false, false_or]
      rw [r3 y h1 h2, h3.1]
      by_cases c2 : sit H row y = true
      · rw [if_pos c2, if_pos c2, (h3.2 c2).1]
      · rw [if_neg c2, if_neg c2]
  · by_cases c : y = x
    · subst c
      simp -implicitDefEqProofs (disch := omega) only [gi_wi, hx, Bool.false_eq_true, ↓reduceIte, Int.reduceEq, cI_v, cL_v, cV_v, cR_v, wid, wid64, if_pos, if_neg, Nat.add_zero, if_true, if_false, and_self, and_true, true_and, and_false, false_and, or_true, true_or, or_false, false_or]
    · have h3 := ho y c
      simp -implicitDefEqProofs (disch := omega) only [gi_wi, ↓reduceIte, Int.reduceEq, cI_v, cL_v, cV_v, cR_v, wid, wid64, if_pos, if_neg, Nat.add_zero, if_true, if_false, and_self, and_true, true_and, and_false, false_and, or_true, true_or, or_false, false_or]
      rw [r4 y h1 h2, h3.1]
      by_cases c2 : sit H row y = true
      · rw [if_pos c2, if_pos c2, (h3.2 c2).2]
      · rw [if_neg c2, if_neg c2]
  · by_cases c : w = seatR row x
    · subst c
      simp -implicitDefEqProofs (disch := omega) only [gi_wi, ↓reduceIte, Int.reduceEq, cI_v, cL_v, cV_v, cR_v, wid, wid64, if_pos, if_neg, Nat.add_zero, if_true, if_false, and_self, and_true, true_and, and_false, false_and, or_true, true_or, or_false, false_or]
      symm
      unfold whoF
      rw [ff_none 16 0 (by omega)]
      intro j j1 j2
      by_cases cj : j = x
      · subst cj; rw [hx]; rfl
      · have h3 := ho j cj
        rw [h3.1]
        by_cases c2 : sit H row j = true
        · rw [c2, (h3.2 c2).1, decide_eq_false (fun q => cj (hd.2 j x c2 hsx q))]; rfl
        · rw [show sit H row j = false by simpa using c2]; rfl
    · simp -implicitDefEqProofs (disch := omega) only [gi_wi, ↓reduceIte, Int.reduceEq, cI_v, cL_v, cV_v, cR_v, wid, wid64, if_pos, if_neg, Nat.add_zero, if_true, if_false, and_self, and_true, true_and, and_false, false_and, or_true, true_or, or_false, false_or]
      rw [r5 w h1 h2]
      refine (who_cg (fun j j1 j2 => ?_)).symm
      by_cases cj : j = x
      · subst cj
        rw [hx, hsx, decide_eq_false (p := seatR row j = w) (fun q => c q.symm)]; rfl
      · have h3 := ho j cj
        rw [h3.1]
        by_cases c2 : sit H row j = true
        · rw [(h3.2 c2).1]
        · rw [show sit H row j = false by simpa using c2]; rfl
/-! one goes to another seat; who sits there goes to his -/
set_option maxRecDepth 100000 in
theorem s_exch (d : Nat) {A : AH} {s : Nat} {H : Nat → Nat → Int} {row row' : Nat → Int} {x z : Int} (hc : cok H) (r : SR A s H row) (hd : dok H row) (hsx : sit H row x = true) (hz1 : 0 ≤ z) (hz2 : z < nSe H) (hne : seatR row x ≠ z) (h0 : row' 0 = row 0 ∧ row' 1 = row 1 ∧ row' 2 = row 2) (hsit : ∀ y, sit H row' y = sit H row y) (hpar : ∀ y, sit H row y = true → partyF H row' y = partyF H row y) (hx : seatR row' x = z) (hw : whoF H row z ≠ -1 → seatR row' (whoF H row z) = seatR row x) (ho : ∀ y, y ≠ x → y ≠ whoF H row z → sit H row y = true → seatR row' y = seatR row y) : ∃ A', runF (d + 2) 102 [vR 19 s 0, vI x, vI z] A = some (none, A') ∧ SR A' s H row' ∧ dok H row' ∧ frW s A A' ∧ gi A' s 7 = gi A s 7 ∧ (∀ j, gi A' (s + 4) j = gi A (s + 4) j) := by
  have hn := sit_num hc hsx
  unfold num at hn
  have hsb := hd.1 x hsx
  have hc' := hc
  unfold cok at hc'
  have rr := r
  obtain ⟨r1, r2, r3, r4, r5⟩ := r
  have ex := r3 x (by omega) (by omega)
  rw [if_pos hsx] at ex
  have wn := who_num (H := H) (row := row) z
  obtain ⟨o, eo⟩ : ∃ o, o = whoF H row z := ⟨_, rfl⟩
  rw [← eo] at wn hw ho
  have ox : o ≠ x := fun q => by
    rcases wn with w | ⟨w1, w2, w3, w4⟩
    · omega
    · rw [q] at w4; exact hne w4
  have es : ∀ y, sit H row y = true → seatR row' y = if y = x then z else if y = o then seatR row x else seatR row y := by
    intro y hy
    by_cases c1 : y = x
    · rw [if_pos c1, c1, hx]
    · rw [if_neg c1]
      by_cases c2 : y = o
      · rw [if_pos c2, c2, hw (by
          have := sit_num hc hy
          unfold num at this
          omega)]
      · rw [if_neg c2, ho y c1 c2 hy]
  have fz : ∀ y, sit H row y = true → y ≠ o → seatR row y ≠ z := by
    intro y hy hyo q
    have := who_is hc hd hy
    rw [q, ← eo] at this
    exact hyo this.symm
  have dk : dok H row' := by
    refine ⟨fun y hy => ?_, fun y w hy hw' e => ?_⟩
    · rw [hsit] at hy
      rw [es y hy]
      split
      · omega
      · split
        · omega
        · exact hd.1 y hy
    · rw [hsit] at hy hw'
      rw [es y hy, es w hw'] at e
      by_cases y1 : y = x
      · by_cases w1 : w = x
        · rw [y1, w1]
        · rw [if_pos y1, if_neg w1] at e
          by_cases w2 : w = o
          · rw [if_pos w2] at e; exact absurd e.symm hne
          · rw [if_neg w2] at e; exact absurd e.symm (fz w hw' w2)
      · by_cases w1 : w = x
        · rw [if_pos w1, if_neg y1] at e
          by_cases y2 : y = o
          · rw [if_pos y2] at e; exact absurd e hne
          · rw [if_neg y2] at e; exact absurd e (fz y hy y2)
        · rw [if_neg y1, if_neg w1] at e
          by_cases y2 : y = o
          · by_cases w2 : w = o
            · rw [y2, w2]
            · rw [if_pos y2, if_neg w2] at e
              exact absurd (hd.2 x w hsx hw' e).symm w1
          · by_cases w2 : w = o
            · rw [if_neg y2, if_pos w2] at e
              exact absurd (hd.2 y x hy hsx e) y1
            · rw [if_neg y2, if_neg w2] at e
              exact hd.2 y w hy hw' e
  have who' : ∀ v, 0 ≤ v → v < 9 → whoF H row' v = if v = z then x else if v = seatR row x then o else whoF H row v := by
    intro v v1 v2
    by_cases c1 : v = z
    · rw [if_pos c1, c1, ← hx]
      exact who_is hc dk (by rw [hsit]; exact hsx)
    · rw [if_neg c1]
      by_cases c2 : v = seatR row x
      · rw [if_pos c2]
        rcases wn with w | ⟨w1, w2, w3, w4⟩
        · rw [w]
          unfold whoF
          rw [ff_none 16 0 (by omega)]
          intro j j1 j2
          rw [hsit]
          by_cases cs : sit H row j = true
          · rw [cs, es j cs]
            by_cases jx : j = x
            · rw [if_pos jx, decide_eq_false (by omega)]; rfl
            · rw [if_neg jx, if_neg (by omega), c2, decide_eq_false (fun q => jx (hd.2 j x cs hsx q))]; rfl
          · rw [show sit H row j = false by simpa using cs]; rfl
        · have : seatR row' o = v := by rw [hw (by omega), c2]
          rw [← this]
          exact who_is hc dk (by rw [hsit]; exact w3)
      · rw [if_neg c2]
        refine who_cg (fun j j1 j2 => ?_)
        rw [hsit]
        by_cases cs : sit H row j = true
        · rw [es j cs]
          by_cases jx : j = x
          · rw [if_pos jx, jx, decide_eq_false (by omega), decide_eq_false (by omega)]
          · rw [if_neg jx]
            by_cases jo : j = o
            · rw [if_pos jo, decide_eq_false (by omega)]
              rcases wn with w | ⟨w1, w2, w3, w4⟩
              · omega
              · rw [jo, w4, decide_eq_false (by omega)]
            · rw [if_neg jo]
        · rw [show sit H row j = false by simpa using cs]; rfl
  have fin : ∀ B : AH, frW s A B → (gi B s 0 = gi A s 0 ∧ gi B s 1 = gi A s 1 ∧ gi B s 2 = gi A s 2) → (∀ j, gi B (s + 2) j = gi A (s + 2) j) → (∀ y : Int, 0 ≤ y → y < 16 → gi B (s + 1) y.toNat = if y = x then z else if y = o then seatR row x else gi A (s + 1) y.toNat) → (∀ v : Int, 0 ≤ v → v < 9 → gi B (s + 3) v.toNat = if v = z then x else if v = seatR row x then o else gi A (s + 3) v.toNat) → SR B s H row' := by
    intro B _ g0 g2 g1 g3
    refine ⟨r1, ⟨by rw [g0.1, r2.1, h0.1], by rw [g0.2.1, r2.2.1, h0.2.1], by rw [g0.2.2, r2.2.2, h0.2.2]⟩, fun y y1 y2 => ?_, fun y y1 y2 => ?_, fun v v1 v2 => ?_⟩
    · rw [g1 y y1 y2, hsit]
      by_cases cs : sit H row y = true
      · rw [if_pos cs, es y cs, r3 y y1 y2, if_pos cs]
      · rw [if_neg cs]
        rw [if_neg (fun q => cs (by rw [q]; exact hsx))]
        by_cases yo : y = o
        · exfalso
          rcases wn with w | ⟨w1, w2, w3, w4⟩
          · omega
          · exact cs (by rw [yo]; exact w3)
        · rw [if_neg yo, r3 y y1 y2, if_neg cs]
    · rw [g2, r4 y y1 y2, hsit]
      by_cases cs : sit H row y = true
      · rw [if_pos cs, if_pos cs, hpar y cs]
      · rw [if_neg cs, if_neg cs]
    · rw [g3 v v1 v2, who' v v1 v2, r5 v v1 v2]
  have ew := s_whoSits (d + 0) s z A H row hc hd rr
  rw [← eo] at ew
  rcases wn with w | ⟨w1, w2, w3, w4⟩
  · refine ⟨wi (wi (wi A (s + 1) x.toNat z) (s + 3) z.toNat x) (s + 3) (seatR row x).toNat (-1), ?_, ?_, dk, ?_, ?_, ?_⟩
    · rw [r_X9_exchange, q_X9_exchange_0 _ _ _ _ _ _ _ r1, if_pos (by omega), ew, cI_v, ex, if_neg (by omega), if_pos (by omega), if_pos (by omega), q_X9_exchange_33 _ _ _ _ _ _ _ _ _ r1, if_pos (by omega), if_pos w, w]
    · refine fin _ ?_ ⟨?_, ?_, ?_⟩ (fun j => ?_) (fun y y1 y2 => ?_) (fun v v1 v2 => ?_)
      · exact frW_wi _ (by omega) (frW_wi _ (by omega) (frW_wi _ (by omega) (frW_refl s A)))
      · simp -implicitDefEqProofs (disch := omega) only [gi_wi, ↓reduceIte, Int.reduceEq, cI_v, cL_v, cV_v, cR_v, wid, wid64, if_pos, if_neg, Nat.add_zero, if_true, if_false, and_self, and_true, true_and, and_false, false_and, or_true, true_or, or_false, false_or]
      · simp -implicitDefEqProofs (disch := omega) only [gi_wi, ↓reduceIte, Int.reduceEq, cI_v, cL_v, cV_v, cR_v, wid, wid64, if_pos, if_neg, Nat.add_zero, if_true, if_false, and_self, and_true, true_and, and_false, false_and, or_true, true_or, or_false, false_or]
      · simp -implicitDefEqProofs (disch := omega) only [gi_wi, ↓reduceIte, Int.reduceEq, cI_v, cL_v, cV_v, cR_v, wid, wid64, if_pos, if_neg, Nat.add_zero, if_true, if_false, and_self, and_true, true_and, and_false, false_and, or_true, true_or, or_false, false_or]
      · simp -implicitDefEqProofs (disch := omega) only [gi_wi, ↓reduceIte, Int.reduceEq, cI_v, cL_v, cV_v, cR_v, wid, wid64, if_pos, if_neg, Nat.add_zero, if_true, if_false, and_self, and_true, true_and, and_false, false_and, or_true, true_or, or_false, false_or]
      · by_cases c1 : y = x
        · simp -implicitDefEqProofs (disch := omega) only [gi_wi, c1, ↓reduceIte, Int.reduceEq, cI_v, cL_v, cV_v, cR_v, wid, wid64, if_pos, if_neg, Nat.add_zero, if_true, if_false, and_self, and_true, true_and, and_false, false_and, or_true, true_or, or_false, false_or]
        · simp -implicitDefEqProofs (disch := omega) only [gi_wi, ↓reduceIte, Int.reduceEq, cI_v, cL_v, cV_v, cR_v, wid, wid64, if_pos, if_neg, Nat.add_zero, if_true, if_false, and_self, and_true, true_and, and_false, false_and, or_true, true_or, or_false, false_or]
      · by_cases c1 : v = z
        · simp -implicitDefEqProofs (disch := omega) only [gi_wi, c1, ↓reduceIte, Int.reduceEq, cI_v, cL_v, cV_v, cR_v, wid, wid64, if_pos, if_neg, Nat.add_zero, if_true, if_false, and_self, and_true, true_and, and_false, false_and, or_true, true_or, or_false, false_or]
        · by_cases c2 : v = seatR row x
          · simp -implicitDefEqProofs (disch := omega) only [gi_wi, c2, w, ↓reduceIte, Int.reduceEq, cI_v, cL_v, cV_v, cR_v, wid, wid64, if_pos, if_neg, Nat.add_zero, if_true, if_false, and_self, and_true, true_and, and_false, false_and, or_true, true_or, or_false, false_or]
          · simp -implicitDefEqProofs (disch := omega) only [gi_wi, ↓reduceIte, Int.reduceEq, cI_v, cL_v, cV_v, cR_v, wid, wid64, if_pos, if_neg, Nat.add_zero, if_true, if_false, and_self, and_true, true_and, and_false, false_and, or_true, true_or, or_false, false_or]
    · exact frW_wi _ (by omega) (frW_wi _ (by omega) (frW_wi _ (by omega) (frW_refl s A)))
    · simp -implicitDefEqProofs (disch := omega) only [gi_wi, ↓reduceIte, Int.reduceEq, cI_v, cL_v, cV_v, cR_v, wid, wid64, if_pos, if_neg, Nat.add_zero, if_true, if_false, and_self, and_true, true_and, and_false, false_and, or_true, true_or, or_false, false_or]
    · intro j; simp -implicitDefEqProofs (disch := omega) only [gi_wi, ↓reduceIte, Int.reduceEq, cI_v, cL_v, cV_v, cR_v, wid, wid64, if_pos, if_neg, Nat.add_zero, if_true, if_false, and_self, and_true, true_and, and_false, false_and, or_true, true_or, or_false, false_or]
  · refine ⟨wi (wi (wi (wi A (s + 1) x.toNat z) (s + 3) z.toNat x) (s + 3) (seatR row x).toNat o) (s + 1) o.toNat (seatR row x), ?_, ?_, dk, ?_, ?_, ?_⟩
    · rw [r_X9_exchange, q_X9_exchange_0 _ _ _ _ _ _ _ r1, if_pos (by omega), ew, cI_v, ex, if_neg (by omega), if_pos (by omega), if_pos (by omega), q_X9_exchange_33 _ _ _ _ _ _ _ _ _ r1, if_pos (by omega), if_neg (by omega), if_pos (by omega)]
    · refine fin _ ?_ ⟨?_, ?_, ?_⟩ (fun j => ?_) (fun y y1 y2 => ?_) (fun v v1 v2 => ?_)
      · exact frW_wi _ (by omega) (frW_wi _ (by omega) (frW_wi _ (by omega) (frW_wi _ (by omega) (frW_refl s A))))
      · simp -implicitDefEqProofs (disch := omega) only [gi_wi, ↓reduceIte, Int.reduceEq, cI_v, cL_v, cV_v, cR_v, wid, wid64, if_pos, if_neg, Nat.add_zero, if_true, if_false, and_self, and_true, true_and, and_false, false_and, or_true, true_or, or_false, false_or]
      · simp -implicitDefEqProofs (disch := omega) only [gi_wi, ↓reduceIte, Int.reduceEq, cI_v, cL_v, cV_v, cR_v, wid, wid64, if_pos, if_neg, Nat.add_zero, if_true, if_false, and_self, and_true, true_and, and_false, false_and, or_true, true_or, or_false, false_or]
      · simp -implicitDefEqProofs (disch := omega) only [gi_wi, ↓reduceIte, Int.reduceEq, cI_v, cL_v, cV_v, cR_v, wid, wid64, if_pos, if_neg, Nat.add_zero, if_true, if_false, and_self, and_true, true_and, and_false, false_and, or_true, true_or, or_false, false_or]
      · simp -implicitDefEqProofs (disch := omega) only [gi_wi, ↓reduceIte, Int.reduceEq, cI_v, cL_v, cV_v, cR_v, wid, wid64, if_pos, if_neg, Nat.add_zero, if_true, if_false, and_self, and_true, true_and, and_false, false_and, or_true, true_or, or_false, false_or]
      · by_cases c1 : y = x
        · simp -implicitDefEqProofs (disch := omega) only [gi_wi, c1, ↓reduceIte, Int.reduceEq, cI_v, cL_v, cV_v, cR_v, wid, wid64, if_pos, if_neg, Nat.add_zero, if_true, if_false, and_self, and_true, true_and, and_false, false_and, or_true, true_or, or_false, false_or]
        · by_cases c2 : y = o
          · simp -implicitDefEqProofs (disch := omega) only [gi_wi, c2, ↓reduceIte, Int.reduceEq, cI_v, cL_v, cV_v, cR_v, wid, wid64, if_pos, if_neg, Nat.add_zero, if_true, if_false, and_self, and_true, true_and, and_false, false_and, or_true, true_or, or_false, false_or]
          · simp -implicitDefEqProofs (disch := omega) only [gi_wi, ↓reduceIte, Int.reduceEq, cI_v, cL_v, cV_v, cR_v, wid, wid64, if_pos, if_neg, Nat.add_zero, if_true, if_false, and_self, and_true, true_and, and_false, false_and, or_true, true_or, or_false, false_or]
      · by_cases c1 : v = z
        · simp -implicitDefEqProofs (disch := omega) only [gi_wi, c1, ↓reduceIte, Int.reduceEq, cI_v, cL_v, cV_v, cR_v, wid, wid64, if_pos, if_neg, Nat.add_zero, if_true, if_false, and_self, and_true, true_and, and_false, false_and, or_true, true_or, or_false, false_or]
        · by_cases c2 : v = seatR row x
          · simp -implicitDefEqProofs (disch := omega) only [gi_wi, c2, ↓reduceIte, Int.reduceEq, cI_v, cL_v, cV_v, cR_v, wid, wid64, if_pos, if_neg, Nat.add_zero, if_true, if_false, and_self, and_true, true_and, and_false, false_and, or_true, true_or, or_false, false_or]
          · simp -implicitDefEqProofs (disch := omega) only [gi_wi, ↓reduceIte, Int.reduceEq, cI_v, cL_v, cV_v, cR_v, wid, wid64, if_pos, if_neg, Nat.add_zero, if_true, if_false, and_self, and_true, true_and, and_false, false_and, or_true, true_or, or_false, false_or]
    · exact frW_wi _ (by omega) (frW_wi _ (by omega) (frW_wi _ (by omega) (frW_wi _ (by omega) (frW_refl s A))))
    · simp -implicitDefEqProofs (disch := omega) only [gi_wi, ↓reduceIte, Int.reduceEq, cI_v, cL_v, cV_v, cR_v, wid, wid64, if_pos, if_neg, Nat.add_zero, if_true, if_false, and_self, and_true, true_and, and_false, false_and, or_true, true_or, or_false, false_or]
    · intro j; simp -implicitDefEqProofs (disch := omega) only [gi_wi, ↓reduceIte, Int.reduceEq, cI_v, cL_v, cV_v, cR_v, wid, wid64, if_pos, if_neg, Nat.add_zero, if_true, if_false, and_self, and_true, true_and, and_false, false_and, or_true, true_or, or_false, false_or]
