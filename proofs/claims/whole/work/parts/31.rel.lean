/-! between two calls: how class and reference stand -/
/-- the coughs kept: a ring in the class, a row in the reference -/
def KR (n : Nat) (A : AH) (s : Nat) (row : Nat → Int) : Prop := (0 ≤ gi A s 7 ∧ gi A s 7 ≤ 800 * n) ∧ row 25 = min (gi A s 7) 40 ∧ ∀ k : Int, 0 ≤ k → k < row 25 → gi A (s + 4) ((gi A s 7 - row 25 + k) % 40).toNat = (row (26 + 3 * k).toNat * 16 + row (27 + 3 * k).toNat) * 1000 + row (28 + 3 * k).toNat ∧ (0 ≤ row (26 + 3 * k).toNat ∧ row (26 + 3 * k).toNat ≤ 999) ∧ (0 ≤ row (27 + 3 * k).toNat ∧ row (27 + 3 * k).toNat ≤ 15) ∧ (0 ≤ row (28 + 3 * k).toNat ∧ row (28 + 3 * k).toNat ≤ 999)
/-- a sitting at s stands for row -/
def SK (n : Nat) (A : AH) (s : Nat) (H : Nat → Nat → Int) (row : Nat → Int) : Prop := SR A s H row ∧ KR n A s row ∧ rok H row ∧ dok H row ∧ (0 ≤ row 0 ∧ row 0 ≤ 999) ∧ (-99999 ≤ row 1 ∧ row 1 ≤ 99999)
def bkR (A : AH) (i : Int) (j : Nat) : Int := gi A 243 (146 * (i % 20).toNat + j)
def PR (n : Nat) (A : AH) : Prop := (0 ≤ gi A 78 2 ∧ gi A 78 2 ≤ 20) ∧ gi A 190 73 = gi A 78 2 ∧ (0 ≤ gi A 78 1 ∧ gi A 78 1 < 20) ∧ (0 ≤ gi A 190 74 ∧ gi A 190 74 < 20) ∧ (∀ i : Nat, i < 20 → gr A 79 i = 80 + 5 * i) ∧ (∀ i : Int, 0 ≤ i → i < gi A 78 2 → SK n A (80 + 5 * ((gi A 78 1 - 1 - i) % 20).toNat) (hv A) (bkR A (gi A 190 74 - i)))
def TP (A : AH) : Prop := gi A 190 1 = gi A 40 1 ∧ (0 ≤ gi A 40 1 ∧ gi A 40 1 ≤ 1600) ∧ ∀ j : Nat, j < 1600 → gi A 191 j = gi A 41 j ∧ 0 ≤ gi A 41 j ∧ gi A 41 j ≤ 255
def RF (n : Nat) (A : AH) : Prop := ∀ j : Nat, j < 6 → gi A 192 j = gi A 189 j ∧ 0 ≤ gi A 189 j ∧ gi A 189 j ≤ n
def IM (A : AH) : Prop := gi A 190 110 = gi A 187 1 ∧ (0 ≤ gi A 187 1 ∧ gi A 187 1 ≤ 27) ∧ ∀ j : Nat, (j : Int) < gi A 187 1 → gi A 270 j = gi A 188 j
/-- what is half told stays in its bounds -/
def PH (A : AH) : Prop := (∀ j, j < 32 → 0 ≤ gi A 226 j ∧ gi A 226 j ≤ 100) ∧ (∀ j, j < 8 → gi A 226 (2 + 4 * j) ≤ 2) ∧ (∀ j, j < 12 → 0 ≤ gi A 227 j ∧ gi A 227 j ≤ 99) ∧ (∀ j, j < 8 → 0 ≤ gi A 228 j ∧ gi A 228 j ≤ 99) ∧ (∀ j, j < 18 → 0 ≤ gi A 229 j ∧ gi A 229 j ≤ 99) ∧ (∀ j, j < 24 → 0 ≤ gi A 225 j ∧ gi A 225 j < 387420489)
/-- the words as letters 1 .. 26, and which of them a row of the reference's spells -/
def wlT : List (List Int) := [[8, 1, 12, 12], [16, 5, 18, 19, 15, 14], [11, 5, 5, 16, 19], [9, 20, 3, 8, 5, 19], [6, 15, 18], [10, 21, 4, 7, 5], [18, 15, 7, 21, 5], [14, 15, 2, 15, 4, 25], [1, 20], [8, 1, 20, 5, 19], [16, 15, 9, 14, 20], [14, 15, 9, 19, 5], [19, 5, 1, 20], [12, 15, 21, 4], [13, 21, 20, 5], [3, 15, 19, 20, 19], [23, 5, 9, 7, 8], [3, 15, 21, 7, 8], [14, 5, 1, 18], [8, 1, 20, 5, 4], [1, 19, 11, 5, 4], [13, 9, 14, 21, 20, 5], [14, 21, 13, 2, 5, 18], [16, 1, 18, 20, 25], [15, 18], [1, 14, 4], [14, 15, 20], [1, 12, 12], [13, 9, 14], [13, 1, 24], [2, 5, 19, 9, 4, 5], [6, 9, 18, 19, 20], [12, 1, 19, 20], [15, 6, 20, 5, 14], [20, 15, 20, 1, 12], [13, 15, 19, 20], [12, 5, 1, 19, 20]]
def woT : List Nat := [31, 32, 33, 34, 35, 36, 26, 25, 24, 27, 28, 29, 2, 3, 18, 19, 20, 11, 12, 21, 22, 23, 30]
def wl (k : Nat) : List Int := wlT.getD k []
def wo (r : Nat) : Nat := if r < 244 then r - 193 else woT.getD (r - 244) 0
def WD (A : AH) : Prop := ln A 41 = 1600 ∧ ∀ r, (193 ≤ r ∧ r ≤ 223) ∨ (244 ≤ r ∧ r ≤ 266) → ∀ i, i < (wl (wo r)).length → gi A r i = 96 + (wl (wo r)).getD i 0
theorem WD_fr {A B : AH} (g : ∀ a j, (193 ≤ a ∧ a ≤ 223) ∨ (244 ≤ a ∧ a ≤ 266) → gi B a j = gi A a j) (hl : ln B 41 = ln A 41) (h : WD A) : WD B := ⟨hl.trans h.1, fun r hr i hi => (g r i hr).trans (h.2 r hr i hi)⟩
def TD (A : AH) : Prop := ((gi A 190 53 = 1 ∧ 2 ≤ nSe (hv A)) ∨ (gi A 190 53 = 0 ∧ nSe (hv A) = 0)) ∧ WD A
def RM (n : Nat) (A : AH) : Prop := 271 ≤ sz A ∧ gr A 40 5 + 9 < sz A ∧ gr A (gr A 40 5) 16 < sz A ∧ gr A (gr A 40 5) 17 < sz A ∧ sz A ≤ 271 + 12 * n ∧ sl A ≤ 40000 + 3400 * n
def REL (n : Nat) (A : AH) : Prop := (cok (hv A) ∧ hok (hv A) ∧ sok (hv A)) ∧ SK n A 68 (hv A) (nv A) ∧ HR A (gr A 40 5) (hv A) ∧ gi A 190 65 = -1 ∧ TP A ∧ (gi A 190 7 = gi A 42 11 ∧ gi A 190 8 = gi A 42 12) ∧ RF n A ∧ (gi A 190 75 = gi A 40 14 ∧ 0 ≤ gi A 40 14 ∧ gi A 40 14 < 2147483648) ∧ IM A ∧ PR n A ∧ PH A ∧ TD A ∧ RM n A
theorem KR_fr {n n' : Nat} {A B : AH} {s : Nat} {row : Nat → Int} (hn : n ≤ n') (g : ∀ a j, s ≤ a → a ≤ s + 4 → gi B a j = gi A a j) (r : KR n A s row) : KR n' B s row := by
  obtain ⟨r1, r2, r3⟩ := r
  unfold KR
  rw [g s 7 (by omega) (by omega)]
  refine ⟨⟨r1.1, by omega⟩, r2, fun k h1 h2 => ?_⟩
  rw [g (s + 4) _ (by omega) (by omega)]
  exact r3 k h1 h2
theorem SK_fr {n n' : Nat} {A B : AH} {s : Nat} {H : Nat → Nat → Int} {row : Nat → Int} (hn : n ≤ n') (g : ∀ a j, s ≤ a → a ≤ s + 4 → gi B a j = gi A a j) (r : SK n A s H row) : SK n' B s H row :=
  ⟨SR_fr (fun a j h1 h2 => g a j h1 (by omega)) r.1, KR_fr hn g r.2.1, r.2.2⟩
theorem REL_sc {n : Nat} {A B : AH} (f : sc A B) (r : REL n A) : REL (n + 1) B := by
  obtain ⟨r1, r2, r3, r4, r5, r6, r7, r8, r9, r10, r11, r12, r13⟩ := r
  have g : ∀ a j, ¬ scr a j → gi B a j = gi A a j := f.1
  have G : ∀ a j, (a = 190 → j ≠ 61 ∧ j ≠ 69 ∧ j ≠ 70 ∧ j ≠ 106 ∧ j ≠ 107 ∧ j ≠ 108) → a ≠ 235 → a ≠ 236 → ¬ (238 ≤ a ∧ a ≤ 242) → a ≠ 269 → ¬ (73 ≤ a ∧ a ≤ 77) → ¬ (180 ≤ a ∧ a ≤ 184) → gi B a j = gi A a j := fun a j h1 h2 h3 h4 h5 h6 h7 => f.1 a j (by unfold scr; omega)
  have hr : ∀ a j, a ≠ 180 → gr B a j = gr A a j := f.2.1
  have es : sz B = sz A := by unfold sz; rw [f.2.2]
  have el : sl B = sl A := by unfold sl; rw [f.2.2]
  have h0 := r3.1
  unfold REL
  rw [sc_hv f, sc_nv f, hr 40 5 (by omega), G 190 65 (by omega) (by omega) (by omega) (by omega) (by omega) (by omega) (by omega)]
  rw [G 190 7 (by omega) (by omega) (by omega) (by omega) (by omega) (by omega) (by omega), G 190 8 (by omega) (by omega) (by omega) (by omega) (by omega) (by omega) (by omega), G 42 11 (by omega) (by omega) (by omega) (by omega) (by omega) (by omega) (by omega), G 42 12 (by omega) (by omega) (by omega) (by omega) (by omega) (by omega) (by omega), G 190 75 (by omega) (by omega) (by omega) (by omega) (by omega) (by omega) (by omega), G 40 14 (by omega) (by omega) (by omega) (by omega) (by omega) (by omega) (by omega)]
  refine ⟨r1, SK_fr (by omega) (fun a j h1 h2 => G a j (by omega) (by omega) (by omega) (by omega) (by omega) (by omega) (by omega)) r2, HR_sc f r3, r4, ?_, r6, ?_, r8, ?_, ?_, ?_, ?_, ?_⟩
  · unfold TP at *
    rw [G 190 1 (by omega) (by omega) (by omega) (by omega) (by omega) (by omega) (by omega), G 40 1 (by omega) (by omega) (by omega) (by omega) (by omega) (by omega) (by omega)]
    refine ⟨r5.1, r5.2.1, fun j hj => ?_⟩
    rw [G 191 j (by omega) (by omega) (by omega) (by omega) (by omega) (by omega) (by omega), G 41 j (by omega) (by omega) (by omega) (by omega) (by omega) (by omega) (by omega)]
    exact r5.2.2 j hj
  · intro j hj
    rw [G 192 j (by omega) (by omega) (by omega) (by omega) (by omega) (by omega) (by omega), G 189 j (by omega) (by omega) (by omega) (by omega) (by omega) (by omega) (by omega)]
    have := r7 j hj
    omega
  · unfold IM at *
    rw [G 190 110 (by omega) (by omega) (by omega) (by omega) (by omega) (by omega) (by omega), G 187 1 (by omega) (by omega) (by omega) (by omega) (by omega) (by omega) (by omega)]
    refine ⟨r9.1, r9.2.1, fun j hj => ?_⟩
    rw [G 270 j (by omega) (by omega) (by omega) (by omega) (by omega) (by omega) (by omega), G 188 j (by omega) (by omega) (by omega) (by omega) (by omega) (by omega) (by omega)]
    exact r9.2.2 j hj
  · unfold PR at *
    rw [G 78 2 (by omega) (by omega) (by omega) (by omega) (by omega) (by omega) (by omega), G 190 73 (by omega) (by omega) (by omega) (by omega) (by omega) (by omega) (by omega), G 78 1 (by omega) (by omega) (by omega) (by omega) (by omega) (by omega) (by omega), G 190 74 (by omega) (by omega) (by omega) (by omega) (by omega) (by omega) (by omega), sc_hv f]
    refine ⟨r10.1, r10.2.1, r10.2.2.1, r10.2.2.2.1, fun i hi => by rw [hr 79 i (by omega)]; exact r10.2.2.2.2.1 i hi, fun i h1 h2 => ?_⟩
    have := r10.2.2.2.2.2 i h1 h2
    have eb : bkR B (gi A 190 74 - i) = bkR A (gi A 190 74 - i) := by
      funext j; unfold bkR
      exact G 243 _ (by omega) (by omega) (by omega) (by omega) (by omega) (by omega) (by omega)
    rw [eb]
    have hm : ((gi A 78 1 - 1 - i) % 20).toNat < 20 := by omega
    exact SK_fr (by omega) (fun a j q1 q2 => G a j (by omega) (by omega) (by omega) (by omega) (by omega) (by omega) (by omega)) this
  · unfold PH at *
    have q : ∀ a j, 225 ≤ a → a ≤ 229 → gi B a j = gi A a j := fun a j q1 q2 => G a j (by omega) (by omega) (by omega) (by omega) (by omega) (by omega) (by omega)
    refine ⟨fun j hj => ?_, fun j hj => ?_, fun j hj => ?_, fun j hj => ?_, fun j hj => ?_, fun j hj => ?_⟩
    · rw [q _ _ (by omega) (by omega)]; exact r11.1 j hj
    · rw [q _ _ (by omega) (by omega)]; exact r11.2.1 j hj
    · rw [q _ _ (by omega) (by omega)]; exact r11.2.2.1 j hj
    · rw [q _ _ (by omega) (by omega)]; exact r11.2.2.2.1 j hj
    · rw [q _ _ (by omega) (by omega)]; exact r11.2.2.2.2.1 j hj
    · rw [q _ _ (by omega) (by omega)]; exact r11.2.2.2.2.2 j hj
  · unfold TD at *
    rw [G 190 53 (by omega) (by omega) (by omega) (by omega) (by omega) (by omega) (by omega), sc_hv f]
    exact ⟨r12.1, WD_fr (fun a j h => G a j (by omega) (by omega) (by omega) (by omega) (by omega) (by omega) (by omega)) (by unfold ln; rw [f.2.2]) r12.2⟩
  · unfold RM at *
    rw [es, el, hr 40 5 (by omega), hr (gr A 40 5) 16 (by omega), hr (gr A 40 5) 17 (by omega)]
    omega
/-- both are called, answer alike, and stand as before -/
def CP (d n ci mi : Nat) (args : List AV) (A : AH) : Prop := ∃ v A1 A2, runF d ci (vR 20 40 0 :: args) A = some (some v, A1) ∧ runF d mi (vR 21 190 0 :: args) A1 = some (some v, A2) ∧ REL (n + 1) A2
theorem CP_q {d n ci mi : Nat} {args : List AV} {A : AH} (r : REL n A) (v : AV) (h1 : ∃ A1, runF d ci (vR 20 40 0 :: args) A = some (some v, A1) ∧ sc A A1) (h2 : ∀ A1, sc A A1 → ∃ A2, runF d mi (vR 21 190 0 :: args) A1 = some (some v, A2) ∧ sc A1 A2) : CP d n ci mi args A := by
  obtain ⟨A1, e1, f1⟩ := h1
  obtain ⟨A2, e2, f2⟩ := h2 A1 f1
  exact ⟨v, A1, A2, e1, e2, REL_sc (sc_trans f1 f2) r⟩
theorem REL_g {n : Nat} {A : AH} (r : REL n A) : gok (hv A) (nv A) := ⟨r.1.1, r.1.2.1, r.1.2.2, r.2.1.2.2.1, r.2.1.2.2.2.1⟩
theorem REL_mok {n : Nat} {A : AH} (r : REL n A) : mok A := ⟨r.1.1, r.1.2.1, r.1.2.2, r.2.1.2.2.1, r.2.1.2.2.2.2.1.1, by have := r.2.1.2.2.2.2.1.2; omega⟩
set_option maxRecDepth 100000 in
theorem s_hiredMany_l (d : Nat) (A : AH) (hc : cok (hv A)) : ∀ (j n : Nat) (k v : Int), 0 ≤ k → k + j = nMu (hv A) → 0 ≤ v → v ≤ k → 10 * j + 10 ≤ n → go true 0 (runF (d + 2)) (runN (d + 2)) pb_X12_hiredMany n 4 [vR 21 190 0, vI v, vI k] [] A = some (some (vI (v + sm (fun k => bI (sit (hv A) (nv A) (10 + k))) j k)), A) := by
  intro j
  have hc' := hc
  unfold cok at hc'
  induction j with
  | zero =>
    intro n k v h1 h2 h3 h4 hn
    obtain ⟨n, rfl⟩ : ∃ e, n = e + 10 := ⟨n - 10, by omega⟩
    rw [q_X12_hiredMany_4]; simp -implicitDefEqProofs (disch := omega) only [s_muteMany, sm, Int.add_zero, ↓reduceIte, Int.reduceEq, cI_v, cL_v, cV_v, cR_v, wid, wid64, if_pos, if_neg, Nat.add_zero, if_true, if_false, and_self, and_true, true_and, and_false, false_and, or_true, true_or, or_false, false_or]
  | succ j ih =>
    intro n k v h1 h2 h3 h4 hn
    obtain ⟨n, rfl⟩ : ∃ e, n = e + 10 := ⟨n - 10, by omega⟩
    rw [q_X12_hiredMany_4]
    simp -implicitDefEqProofs (disch := omega) only [s_muteMany, s_doesSit, hc, bI_0, ite_f, q_X12_hiredMany_26, ih, sm, ↓reduceIte, Int.reduceEq, cI_v, cL_v, cV_v, cR_v, wid, wid64, if_pos, if_neg, Nat.add_zero, if_true, if_false, and_self, and_true, true_and, and_false, false_and, or_true, true_or, or_false, false_or]
    by_cases c : sit (hv A) (nv A) (10 + k) = true
    · simp [c, bI, Int.add_assoc]
    · simp [c, bI]
set_option maxRecDepth 100000 in
theorem s_hiredOf_l (d : Nat) (h s : Nat) (A : AH) {H : Nat → Nat → Int} {row : Nat → Int} (hc : cok H) (hd : dok H row) (b6 : HR A h H) (b7 : SR A s H row) : ∀ (j n : Nat) (k v : Int), 0 ≤ k → k + j = nMu H → 0 ≤ v → v ≤ k → 10 * j + 10 ≤ n → go true 0 (runF (d + 1)) (runN (d + 1)) pb_X9_hiredOf n 4 [vR 19 s 0, vR 13 h 0, vI v, vI k] [] A = some (some (vI (v + sm (fun k => bI (sit H row (10 + k))) j k)), A) := by
  intro j
  have hc' := hc
  unfold cok at hc'
  have hs0 : s ≠ 0 := b7.1
  have hh0 : h ≠ 0 := by have := b6.1; omega
  have e5 := b6.2.1.2.2.2.2.1
  induction j with
  | zero =>
    intro n k v h1 h2 h3 h4 hn
    obtain ⟨n, rfl⟩ : ∃ e, n = e + 10 := ⟨n - 10, by omega⟩
    rw [q_X9_hiredOf_4 _ _ _ _ _ _ _ _ hs0 hh0, e5]; simp -implicitDefEqProofs (disch := omega) only [sm, Int.add_zero, ↓reduceIte, Int.reduceEq, cI_v, cL_v, cV_v, cR_v, wid, wid64, if_pos, if_neg, Nat.add_zero, if_true, if_false, and_self, and_true, true_and, and_false, false_and, or_true, true_or, or_false, false_or]
  | succ j ih =>
    intro n k v h1 h2 h3 h4 hn
    obtain ⟨n, rfl⟩ : ∃ e, n = e + 10 := ⟨n - 10, by omega⟩
    rw [q_X9_hiredOf_4 _ _ _ _ _ _ _ _ hs0 hh0, e5]
    simp -implicitDefEqProofs (disch := omega) only [↓reduceIte, Int.reduceEq, cI_v, cL_v, cV_v, cR_v, wid, wid64, if_pos, if_neg, Nat.add_zero, if_true, if_false, and_self, and_true, true_and, and_false, false_and, or_true, true_or, or_false, false_or]
    rw [s_isThere d s _ A H row hc hd b7]
    simp -implicitDefEqProofs (disch := omega) only [bI_0, ite_f, q_X9_hiredOf_29, ih, sm, ↓reduceIte, Int.reduceEq, cI_v, cL_v, cV_v, cR_v, wid, wid64, if_pos, if_neg, Nat.add_zero, if_true, if_false, and_self, and_true, true_and, and_false, false_and, or_true, true_or, or_false, false_or]
    by_cases c : sit H row (10 + k) = true
    · simp [c, bI, Int.add_assoc]
    · simp [c, bI]
theorem c_scale (d n : Nat) (A : AH) (r : REL n A) : CP (d + 1) n 114 218 [] A := by
  refine CP_q r (vI (nv A 1)) ⟨A, ?_, sc_refl A⟩ (fun A1 f => ⟨A1, ?_, sc_refl A1⟩)
  · rw [r_X11_scale, q_X11_scale_0, r.2.1.1.2.1.2.1]
  · rw [r_X12_scale, q_X12_scale_0, e_nv, sc_nv f]
theorem c_fault (d n : Nat) (x : Int) (A : AH) (r : REL n A) : CP (d + 1) n 112 189 [vI x] A := by
  have r6 := r.2.2.2.2.2.1
  refine CP_q r (vI (if x = 0 then gi A 42 11 else if x = 1 then gi A 42 12 else -1)) ⟨A, ?_, sc_refl A⟩ (fun A1 f => ⟨A1, ?_, sc_refl A1⟩)
  · rw [r_X11_fault, q_X11_fault_0]
    by_cases c : x = 0
    · simp -implicitDefEqProofs (disch := omega) only [↓reduceIte, Int.reduceEq, cI_v, cL_v, cV_v, cR_v, wid, wid64, if_pos, if_neg, Nat.add_zero, if_true, if_false, and_self, and_true, true_and, and_false, false_and, or_true, true_or, or_false, false_or]
    · by_cases c2 : x = 1 <;> simp -implicitDefEqProofs (disch := omega) only [↓reduceIte, Int.reduceEq, cI_v, cL_v, cV_v, cR_v, wid, wid64, if_pos, if_neg, Nat.add_zero, if_true, if_false, and_self, and_true, true_and, and_false, false_and, or_true, true_or, or_false, false_or]
  · rw [r_X12_fault, q_X12_fault_0, f.1 190 7 (by unfold scr; omega), f.1 190 8 (by unfold scr; omega), r6.1, r6.2]
    by_cases c : x = 0
    · simp -implicitDefEqProofs (disch := omega) only [↓reduceIte, Int.reduceEq, cI_v, cL_v, cV_v, cR_v, wid, wid64, if_pos, if_neg, Nat.add_zero, if_true, if_false, and_self, and_true, true_and, and_false, false_and, or_true, true_or, or_false, false_or]
    · by_cases c2 : x = 1 <;> simp -implicitDefEqProofs (disch := omega) only [↓reduceIte, Int.reduceEq, cI_v, cL_v, cV_v, cR_v, wid, wid64, if_pos, if_neg, Nat.add_zero, if_true, if_false, and_self, and_true, true_and, and_false, false_and, or_true, true_or, or_false, false_or]
theorem c_status (d n : Nat) (x : Int) (A : AH) (r : REL n A) : CP (d + 2) n 140 300 [vI x] A := by
  have r7 := r.2.2.2.2.2.2.1
  refine CP_q r (vI (if 0 ≤ x ∧ x < 6 then gi A 189 x.toNat else -1)) ⟨A, ?_, sc_refl A⟩ (fun A1 f => ⟨A1, ?_, sc_refl A1⟩)
  · rw [r_X11_status, q_X11_status_0]
    by_cases c : 0 ≤ x ∧ x < 6
    · simp -implicitDefEqProofs (disch := omega) only [↓reduceIte, Int.reduceEq, cI_v, cL_v, cV_v, cR_v, wid, wid64, if_pos, if_neg, Nat.add_zero, if_true, if_false, and_self, and_true, true_and, and_false, false_and, or_true, true_or, or_false, false_or]
    · by_cases c2 : x < 0 <;> simp -implicitDefEqProofs (disch := omega) only [q_X11_status_19, ↓reduceIte, Int.reduceEq, cI_v, cL_v, cV_v, cR_v, wid, wid64, if_pos, if_neg, Nat.add_zero, if_true, if_false, and_self, and_true, true_and, and_false, false_and, or_true, true_or, or_false, false_or]
  · rw [r_X12_status, q_X12_status_0]
    simp -implicitDefEqProofs (disch := omega) only [s_isIn, bI_0, ite_f, decide_eq_true_eq, ↓reduceIte, Int.reduceEq, cI_v, cL_v, cV_v, cR_v, wid, wid64, if_pos, if_neg, Nat.add_zero, if_true, if_false, and_self, and_true, true_and, and_false, false_and, or_true, true_or, or_false, false_or]
    by_cases c : 0 ≤ x ∧ x < 6
    · have := (r7 x.toNat (by omega)).1
      simp -implicitDefEqProofs (disch := omega) only [f.1 192 x.toNat (by unfold scr; omega), this, ↓reduceIte, Int.reduceEq, cI_v, cL_v, cV_v, cR_v, wid, wid64, if_pos, if_neg, Nat.add_zero, if_true, if_false, and_self, and_true, true_and, and_false, false_and, or_true, true_or, or_false, false_or]
    · simp -implicitDefEqProofs (disch := omega) only [↓reduceIte, Int.reduceEq, cI_v, cL_v, cV_v, cR_v, wid, wid64, if_pos, if_neg, Nat.add_zero, if_true, if_false, and_self, and_true, true_and, and_false, false_and, or_true, true_or, or_false, false_or]
theorem c_octet (d n : Nat) (x : Int) (A : AH) (r : REL n A) : CP (d + 1) n 138 294 [vI x] A := by
  have r9 := r.2.2.2.2.2.2.2.2.1
  refine CP_q r (vI (if 0 ≤ x ∧ x < gi A 187 1 then gi A 188 x.toNat else -1)) ⟨A, ?_, sc_refl A⟩ (fun A1 f => ⟨A1, ?_, sc_refl A1⟩)
  · have := r9.2.1
    rw [r_X11_octet, q_X11_octet_0]
    by_cases c : 0 ≤ x ∧ x < gi A 187 1
    · simp -implicitDefEqProofs (disch := omega) only [↓reduceIte, Int.reduceEq, cI_v, cL_v, cV_v, cR_v, wid, wid64, if_pos, if_neg, Nat.add_zero, if_true, if_false, and_self, and_true, true_and, and_false, false_and, or_true, true_or, or_false, false_or]
    · by_cases c2 : x < 0 <;> simp -implicitDefEqProofs (disch := omega) only [q_X11_octet_27, ↓reduceIte, Int.reduceEq, cI_v, cL_v, cV_v, cR_v, wid, wid64, if_pos, if_neg, Nat.add_zero, if_true, if_false, and_self, and_true, true_and, and_false, false_and, or_true, true_or, or_false, false_or]
  · have := r9.2.1
    rw [r_X12_octet, q_X12_octet_0, f.1 190 110 (by unfold scr; omega), r9.1]
    by_cases c : 0 ≤ x ∧ x < gi A 187 1
    · have e := r9.2.2 x.toNat (by omega)
      simp -implicitDefEqProofs (disch := omega) only [f.1 270 x.toNat (by unfold scr; omega), e, ↓reduceIte, Int.reduceEq, cI_v, cL_v, cV_v, cR_v, wid, wid64, if_pos, if_neg, Nat.add_zero, if_true, if_false, and_self, and_true, true_and, and_false, false_and, or_true, true_or, or_false, false_or]
    · by_cases c2 : x < 0 <;> simp -implicitDefEqProofs (disch := omega) only [q_X12_octet_21, ↓reduceIte, Int.reduceEq, cI_v, cL_v, cV_v, cR_v, wid, wid64, if_pos, if_neg, Nat.add_zero, if_true, if_false, and_self, and_true, true_and, and_false, false_and, or_true, true_or, or_false, false_or]
theorem c_has (d n : Nat) (x : Int) (A : AH) (r : REL n A) : CP (d + 4) n 113 217 [vI x] A := by
  have g := REL_g r
  have b6 := r.2.2.1
  have b7 := r.2.1.1
  have hh0 : gr A 40 5 ≠ 0 := by have := b6.1; omega
  have hc := g.1
  unfold cok at hc
  have k25 := r.2.1.2.1.2.1
  have hp := r.2.2.2.2.2.2.2.2.2.1.2.1
  have hx : x = 0 ∨ x = 1 ∨ x = 2 ∨ x = 3 ∨ x = 4 ∨ x = 5 ∨ x = 6 ∨ x = 7 ∨ x = 8 ∨ x = 9 ∨ x = 10 ∨ ¬ (0 ≤ x ∧ x ≤ 10) := by omega
  have e104 : runF (d + 3) 104 [vR 19 68 0, vR 13 (gr A 40 5) 0] A = some (some (vI (sm (fun k => bI (sit (hv A) (nv A) (10 + k))) (nMu (hv A)).toNat 0)), A) := by
    rw [r_X9_hiredOf, q_X9_hiredOf_0 _ _ _ _ _ _ (by omega) hh0, s_hiredOf_l (d + 1) _ _ A g.1 g.2.2.2.2 b6 b7 (nMu (hv A)).toNat _ 0 0 (by omega) (by omega) (by omega) (by omega) (by have := fu_ge; omega), Int.zero_add]
  have e106 : runF (d + 3) 106 [vR 19 68 0] A = some (some (vI (nv A 25)), A) := by
    rw [r_X9_toldCoughs, q_X9_toldCoughs_0 _ _ _ _ _ (by omega)]
    simp -implicitDefEqProofs (disch := omega) only [s_minI, k25, ↓reduceIte, Int.reduceEq, cI_v, cL_v, cV_v, cR_v, wid, wid64, if_pos, if_neg, Nat.add_zero, if_true, if_false, and_self, and_true, true_and, and_false, false_and, or_true, true_or, or_false, false_or]
  refine CP_q r (vI (if x = 0 then nSe (hv A) else if x = 1 then nPe (hv A) else if x = 2 then nPo (hv A) else if x = 3 then nNo (hv A) else if x = 4 then nMu (hv A) else if x = 5 then sm (fun k => bI (sit (hv A) (nv A) (10 + k))) (nMu (hv A)).toNat 0 else if x = 6 then nv A 0 else if x = 7 then nv A 2 else if x = 8 then nHa (hv A) else if x = 9 then nv A 25 else if x = 10 then gi A 78 2 else -1)) ⟨A, ?_, sc_refl A⟩ (fun A1 f => ⟨A1, ?_, sc_refl A1⟩)
  · rw [r_X11_has, q_X11_has_0]
    rcases hx with rfl | rfl | rfl | rfl | rfl | rfl | rfl | rfl | rfl | rfl | rfl | hx <;> simp -implicitDefEqProofs (disch := omega) only [b6.2.1.1, b6.2.1.2.1, b6.2.1.2.2.1, b6.2.1.2.2.2.1, b6.2.1.2.2.2.2.1, b6.2.1.2.2.2.2.2, b7.2.1.1, b7.2.1.2.2, e104, e106, Int.reduceEq, ↓reduceIte, Int.reduceEq, cI_v, cL_v, cV_v, cR_v, wid, wid64, if_pos, if_neg, Nat.add_zero, if_true, if_false, and_self, and_true, true_and, and_false, false_and, or_true, true_or, or_false, false_or]
  · have e216 : runF (d + 3) 216 [vR 21 190 0] A1 = some (some (vI (sm (fun k => bI (sit (hv A) (nv A) (10 + k))) (nMu (hv A)).toNat 0)), A1) := by
      rw [r_X12_hiredMany, q_X12_hiredMany_0, s_hiredMany_l d A1 (by rw [sc_hv f]; exact g.1) (nMu (hv A1)).toNat _ 0 0 (by omega) (by rw [sc_hv f]; omega) (by omega) (by omega) (by rw [sc_hv f]; have := fu_ge; omega), Int.zero_add, sc_hv f, sc_nv f]
    rw [r_X12_has, q_X12_has_0]
    rcases hx with rfl | rfl | rfl | rfl | rfl | rfl | rfl | rfl | rfl | rfl | rfl | hx <;> simp -implicitDefEqProofs (disch := omega) only [s_seatMany, s_peopleMany, s_pointMany, s_muteMany, e216, e_nNo, e_nHa, e_nv, sc_hv f, sc_nv f, f.1 190 73 (by unfold scr; omega), hp, Int.reduceEq, ↓reduceIte, Int.reduceEq, cI_v, cL_v, cV_v, cR_v, wid, wid64, if_pos, if_neg, Nat.add_zero, if_true, if_false, and_self, and_true, true_and, and_false, false_and, or_true, true_or, or_false, false_or]
