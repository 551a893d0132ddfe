/-! acts: what stays; the past -/
theorem HR_fr {A B : AH} {h : Nat} {H : Nat → Nat → Int} (g : ∀ a j, ((48 ≤ a ∧ a ≤ 67) ∨ 271 ≤ a) → gi B a j = gi A a j) (hr : ∀ a j, ((48 ≤ a ∧ a ≤ 67) ∨ 271 ≤ a) → gr B a j = gr A a j) (hl : B.2.2 = A.2.2) (r : HR A h H) : HR B h H := by
  have hh := r.1
  have l : ∀ a, ln B a = ln A a := fun a => by unfold ln; rw [hl]
  unfold HR WR at *
  rw [g h 1 (by omega), g h 2 (by omega), g h 3 (by omega), g h 4 (by omega), g h 5 (by omega), g h 6 (by omega), g h 18 (by omega), hr h 16 (by omega), hr h 17 (by omega)]
  simp only [l]
  obtain ⟨r1, r2, r3, r4, r5, r6, r7, r8, r9, r10, r11, r12, r13, r14, r15⟩ := r
  refine ⟨r1, r2, fun x hx => ?_, fun x h1 h2 h3 => ?_, fun k h1 h2 => ?_, fun k h1 h2 => ?_, fun k h1 h2 => ?_, fun k h1 h2 => ?_, fun k h1 h2 => ?_, fun k h1 h2 => ?_, fun k h1 h2 => ?_, fun k h1 h2 => ?_, ?_, ?_, r15⟩
  · rw [g _ _ (by omega), g _ _ (by omega)]; exact r3 x hx
  · rw [g _ _ (by omega)]; exact r4 x h1 h2 h3
  · rw [g _ _ (by omega), g _ _ (by omega)]; exact r5 k h1 h2
  · rw [g _ _ (by omega)]; exact r6 k h1 h2
  · rw [g _ _ (by omega)]; exact r7 k h1 h2
  · rw [g _ _ (by omega)]; exact r8 k h1 h2
  · rw [g _ _ (by omega)]; exact r9 k h1 h2
  · rw [g _ _ (by omega)]; exact r10 k h1 h2
  · rw [g _ _ (by omega)]; exact r11 k h1 h2
  · rw [g _ _ (by omega)]; exact r12 k h1 h2
  · rcases r13 with q | ⟨q1, q2, q3, q4⟩
    · exact Or.inl q
    · exact Or.inr ⟨q1, q2, q3, fun k h1 h2 => by rw [g _ _ (by omega)]; exact q4 k h1 h2⟩
  · rcases r14 with q | ⟨q1, q2, q3, q4⟩
    · exact Or.inl q
    · exact Or.inr ⟨q1, q2, q3, fun k h1 h2 => by rw [g _ _ (by omega)]; exact q4 k h1 h2⟩
theorem hv_fr {A B : AH} (g : ∀ a j, 224 ≤ a → a ≤ 233 → gi B a j = gi A a j) : hv B = hv A := by
  funext a j
  unfold hv
  by_cases e : (a = 224 ∧ 6 ≤ j) ∨ (a = 225 ∧ 24 ≤ j) ∨ (a = 226 ∧ 32 ≤ j) ∨ (a = 227 ∧ 12 ≤ j) ∨ (a = 228 ∧ 8 ≤ j) ∨ (a = 229 ∧ 18 ≤ j) ∨ (a = 230 ∧ 16 ≤ j) ∨ (a = 231 ∧ 2 ≤ j) ∨ (a = 232 ∧ 2 ≤ j) ∨ (a = 233 ∧ 1600 ≤ j)
  · rw [if_pos e, if_pos e, g a j (by omega) (by omega)]
  · rw [if_neg e, if_neg e]
theorem TP_fr {A B : AH} (g : ∀ a j, (a = 41 ∨ a = 191 ∨ (a = 40 ∧ j = 1) ∨ (a = 190 ∧ j = 1)) → gi B a j = gi A a j) (r : TP A) : TP B := by
  unfold TP at *
  rw [g 190 1 (by omega), g 40 1 (by omega)]
  exact ⟨r.1, r.2.1, fun j hj => by rw [g 191 j (by omega), g 41 j (by omega)]; exact r.2.2 j hj⟩
theorem RF_fr {n : Nat} {A B : AH} (g : ∀ a j, (a = 189 ∨ a = 192) → gi B a j = gi A a j) (r : RF n A) : RF (n + 1) B := fun j hj => by
  rw [g 192 j (by omega), g 189 j (by omega)]
  have := r j hj
  omega
theorem IM_fr {A B : AH} (g : ∀ a j, (a = 187 ∨ a = 188 ∨ a = 270 ∨ (a = 190 ∧ j = 110)) → gi B a j = gi A a j) (r : IM A) : IM B := by
  unfold IM at *
  rw [g 190 110 (by omega), g 187 1 (by omega)]
  exact ⟨r.1, r.2.1, fun j hj => by rw [g 270 j (by omega), g 188 j (by omega)]; exact r.2.2 j hj⟩
theorem PR_fr {n : Nat} {A B : AH} (g : ∀ a j, ((78 ≤ a ∧ a ≤ 179) ∨ a = 243 ∨ (a = 190 ∧ (j = 73 ∨ j = 74))) → gi B a j = gi A a j) (hr : ∀ j, gr B 79 j = gr A 79 j) (eh : hv B = hv A) (r : PR n A) : PR (n + 1) B := by
  unfold PR at *
  rw [g 78 2 (by omega), g 190 73 (by omega), g 78 1 (by omega), g 190 74 (by omega), eh]
  refine ⟨r.1, r.2.1, r.2.2.1, r.2.2.2.1, fun i hi => by rw [hr]; exact r.2.2.2.2.1 i hi, fun i h1 h2 => ?_⟩
  have eb : bkR B (gi A 190 74 - i) = bkR A (gi A 190 74 - i) := by
    funext j; unfold bkR; exact g 243 _ (by omega)
  rw [eb]
  have hm : ((gi A 78 1 - 1 - i) % 20).toNat < 20 := by omega
  exact SK_fr (by omega) (fun a j q1 q2 => g a j (by omega)) (r.2.2.2.2.2 i h1 h2)
theorem REL_mk {n : Nat} {A B : AH} (r : REL n A) (g : ∀ a j, ((48 ≤ a ∧ a ≤ 67) ∨ 271 ≤ a ∨ (193 ≤ a ∧ a ≤ 233) ∨ (244 ≤ a ∧ a ≤ 266) ∨ (a = 190 ∧ (j = 65 ∨ j = 53))) → gi B a j = gi A a j) (hr : ∀ a j, a ≠ 180 → gr B a j = gr A a j) (hl : B.2.2 = A.2.2) (h1 : SK (n + 1) B 68 (hv A) (nv B)) (h2 : TP B) (h3 : gi B 190 7 = gi B 42 11 ∧ gi B 190 8 = gi B 42 12) (h4 : RF (n + 1) B) (h5 : gi B 190 75 = gi B 40 14 ∧ 0 ≤ gi B 40 14 ∧ gi B 40 14 < 2147483648) (h6 : IM B) (h7 : PR (n + 1) B) : REL (n + 1) B := by
  obtain ⟨r1, r2, r3, r4, r5, r6, r7, r8, r9, r10, r11, r12, r13⟩ := r
  have eh : hv B = hv A := hv_fr (fun a j q1 q2 => g a j (by omega))
  have h0 := r3.1
  have es : sz B = sz A := by unfold sz; rw [hl]
  have el : sl B = sl A := by unfold sl; rw [hl]
  unfold REL
  rw [eh, hr 40 5 (by omega), g 190 65 (by omega)]
  refine ⟨r1, h1, HR_fr (fun a j q => g a j (by omega)) (fun a j q => hr a j (by omega)) hl r3, r4, h2, h3, h4, h5, h6, h7, ?_, ?_, ?_⟩
  · unfold PH at *
    refine ⟨fun j hj => ?_, fun j hj => ?_, fun j hj => ?_, fun j hj => ?_, fun j hj => ?_, fun j hj => ?_⟩
    · rw [g _ _ (by omega)]; exact r11.1 j hj
    · rw [g _ _ (by omega)]; exact r11.2.1 j hj
    · rw [g _ _ (by omega)]; exact r11.2.2.1 j hj
    · rw [g _ _ (by omega)]; exact r11.2.2.2.1 j hj
    · rw [g _ _ (by omega)]; exact r11.2.2.2.2.1 j hj
    · rw [g _ _ (by omega)]; exact r11.2.2.2.2.2 j hj
  · unfold TD at *
    rw [g 190 53 (by omega), eh]; exact ⟨r12.1, WD_fr (fun a j h => g a j (by omega)) (by unfold ln; rw [hl]) r12.2⟩
  · unfold RM at *
    rw [es, el, hr 40 5 (by omega), hr (gr A 40 5) 16 (by omega), hr (gr A 40 5) 17 (by omega)]
    omega
/-- a refusal told by both -/
theorem REL_ref {n : Nat} {A : AH} (r : REL n A) (k : Nat) (hk : k < 6) : REL (n + 1) (wi (wi A 189 k (gi A 189 k + 1)) 192 k (gi A 189 k + 1)) := by
  have G : ∀ a j, a ≠ 189 → a ≠ 192 → gi (wi (wi A 189 k (gi A 189 k + 1)) 192 k (gi A 189 k + 1)) a j = gi A a j := fun a j h1 h2 => by rw [gi_wi, gi_wi, if_neg (by omega), if_neg (by omega)]
  have en : nv (wi (wi A 189 k (gi A 189 k + 1)) 192 k (gi A 189 k + 1)) = nv A := by funext j; exact G 237 j (by omega) (by omega)
  refine REL_mk r (fun a j h => G a j (by omega) (by omega)) (fun _ _ _ => rfl) rfl ?_ (TP_fr (fun a j h => G a j (by omega) (by omega)) r.2.2.2.2.1) ?_ ?_ ?_ (IM_fr (fun a j h => G a j (by omega) (by omega)) r.2.2.2.2.2.2.2.2.1) (PR_fr (fun a j h => G a j (by omega) (by omega)) (fun _ => rfl) (hv_fr (fun a j h1 h2 => G a j (by omega) (by omega))) r.2.2.2.2.2.2.2.2.2.1)
  · rw [en]
    exact SK_fr (by omega) (fun a j h1 h2 => G a j (by omega) (by omega)) r.2.1
  · rw [G 190 7 (by omega) (by omega), G 190 8 (by omega) (by omega), G 42 11 (by omega) (by omega), G 42 12 (by omega) (by omega)]
    exact r.2.2.2.2.2.1
  · intro j hj
    have := r.2.2.2.2.2.2.1 j hj
    by_cases c : j = k
    · subst c
      simp -implicitDefEqProofs (disch := omega) only [gi_wi, ↓reduceIte, Int.reduceEq, cI_v, cL_v, cV_v, cR_v, wid, wid64, if_pos, if_neg, Nat.add_zero, if_true, if_false, and_self, and_true, true_and, and_false, false_and, or_true, true_or, or_false, false_or]
      omega
    · simp -implicitDefEqProofs (disch := omega) only [gi_wi, ↓reduceIte, Int.reduceEq, cI_v, cL_v, cV_v, cR_v, wid, wid64, if_pos, if_neg, Nat.add_zero, if_true, if_false, and_self, and_true, true_and, and_false, false_and, or_true, true_or, or_false, false_or]
      omega
  · rw [G 190 75 (by omega) (by omega), G 40 14 (by omega) (by omega)]
    exact r.2.2.2.2.2.2.2.1
set_option maxRecDepth 100000 in
theorem s_refuse (d : Nat) (k : Int) (A : AH) (h1 : 0 ≤ k) (h2 : k < 6) (h3 : 0 ≤ gi A 189 k.toNat) (h4 : gi A 189 k.toNat ≤ 100000) : runF (d + 1) 141 [vR 20 40 0, vI k] A = some (some (vI 0), wi A 189 k.toNat (gi A 189 k.toNat + 1)) := by
  rw [r_X11_refuse, q_X11_refuse_0]
  simp -implicitDefEqProofs (disch := omega) only [q_X11_refuse_10, ↓reduceIte, Int.reduceEq, cI_v, cL_v, cV_v, cR_v, wid, wid64, if_pos, if_neg, Nat.add_zero, if_true, if_false, and_self, and_true, true_and, and_false, false_and, or_true, true_or, or_false, false_or]
set_option maxRecDepth 100000 in
theorem s_refuses (d : Nat) (A : AH) (h3 : 0 ≤ gi A 192 3) (h4 : gi A 192 3 ≤ 100000) : runF (d + 1) 257 [vR 21 190 0] A = some (some (vI 0), wi A 192 3 (gi A 192 3 + 1)) := by
  rw [r_X12_refuses, q_X12_refuses_0]
  simp -implicitDefEqProofs (disch := omega) only [q_X12_refuses_10, ↓reduceIte, Int.reduceEq, cI_v, cL_v, cV_v, cR_v, wid, wid64, if_pos, if_neg, Nat.add_zero, if_true, if_false, and_self, and_true, true_and, and_false, false_and, or_true, true_or, or_false, false_or]
/-- where both refuse -/
theorem CP_ref {d n ci mi : Nat} {args : List AV} {A : AH} (r : REL n A) (k : Nat) (hk : k < 6) (h1 : runF d ci (vR 20 40 0 :: args) A = some (some (vI 0), wi A 189 k (gi A 189 k + 1))) (h2 : runF d mi (vR 21 190 0 :: args) (wi A 189 k (gi A 189 k + 1)) = some (some (vI 0), wi (wi A 189 k (gi A 189 k + 1)) 192 k (gi A 189 k + 1))) : CP d n ci mi args A :=
  ⟨vI 0, _, _, h1, h2, REL_ref r k hk⟩
theorem sc_ref (A : AH) (k : Nat) (v : Int) : hv (wi A 189 k v) = hv A ∧ nv (wi A 189 k v) = nv A := ⟨hv_fr (fun a j h1 h2 => by rw [gi_wi, if_neg (by omega)]), by funext j; unfold nv; rw [gi_wi, if_neg (by omega)]⟩
/-- a row is read below 146 alone -/
theorem SK_row {n : Nat} {A : AH} {s : Nat} {H : Nat → Nat → Int} {row row' : Nat → Int} (hc : cok H) (e : ∀ j, j < 146 → row' j = row j) (r : SK n A s H row) : SK n A s H row' := by
  have re : rowEq row' row := fun j h1 h2 => e j (by omega)
  obtain ⟨⟨r1, r2, r3, r4, r5⟩, ⟨k1, k2, k3⟩, o, dk, m0, m1⟩ := r
  have e0 := e 0 (by omega)
  have e1 := e 1 (by omega)
  have e2 := e 2 (by omega)
  have e25 := e 25 (by omega)
  have si : ∀ x, sit H row' x = sit H row x := sit_row re hc
  have hb : row 25 ≤ 40 := by omega
  have se : ∀ x, sit H row x = true → seatR row' x = seatR row x := fun x hx => by
    have := sit_num hc hx
    unfold num at this
    exact seat_row re (by omega) (by omega)
  refine ⟨⟨r1, ⟨by rw [e0]; exact r2.1, by rw [e1]; exact r2.2.1, by rw [e2]; exact r2.2.2⟩, fun x h1 h2 => ?_, fun x h1 h2 => ?_, fun z h1 h2 => ?_⟩, ⟨k1, by rw [e25]; exact k2, fun k h1 h2 => ?_⟩, ⟨fun j a b => ?_, fun j a b => ?_, ?_⟩, ⟨fun x hx => ?_, fun x y hx hy q => ?_⟩, by rw [e0]; exact m0, by rw [e1]; exact m1⟩
  · rw [r3 x h1 h2, si]
    by_cases c : sit H row x = true
    · rw [if_pos c, if_pos c, se x c]
    · rw [if_neg c, if_neg c]
  · rw [r4 x h1 h2, si]
    by_cases c : sit H row x = true
    · rw [if_pos c, if_pos c, party_row re H (sit_num hc c)]
    · rw [if_neg c, if_neg c]
  · rw [r5 z h1 h2]
    refine (who_cg (fun j j1 j2 => ?_)).symm
    rw [si]
    by_cases c : sit H row j = true
    · rw [se j c]
    · rw [show sit H row j = false by simpa using c]; rfl
  · rw [e25] at h2 ⊢
    rw [e _ (show (26 + 3 * k).toNat < 146 by omega), e _ (show (27 + 3 * k).toNat < 146 by omega), e _ (show (28 + 3 * k).toNat < 146 by omega)]
    exact k3 k h1 h2
  · rw [e j (by omega)]; exact o.1 j a b
  · rw [e j (by omega), e (j - 6) (by omega)]; exact o.2.1 j a b
  · rw [e2]; exact o.2.2
  · rw [si] at hx
    rw [se x hx]; exact dk.1 x hx
  · rw [si] at hx hy
    rw [se x hx, se y hy] at q
    exact dk.2 x y hx hy q
def frK (p : Nat) (A B : AH) : Prop := (∀ a j, ¬ (80 + 5 * p ≤ a ∧ a ≤ 80 + 5 * p + 4) → ¬ (a = 78 ∧ (j = 1 ∨ j = 2)) → gi B a j = gi A a j) ∧ (∀ a j, gr B a j = gr A a j) ∧ B.2.2 = A.2.2
set_option maxRecDepth 100000 in
theorem s_keepC (d : Nat) (A : AH) (h1 : 0 ≤ gi A 78 1 ∧ gi A 78 1 < 20) (h2 : 0 ≤ gi A 78 2 ∧ gi A 78 2 ≤ 20) (hg : ∀ i : Nat, i < 20 → gr A 79 i = 80 + 5 * i) : ∃ A', runF (d + 2) 76 [vR 16 78 0, vR 19 68 0] A = some (none, A') ∧ cpS A A' (80 + 5 * (gi A 78 1).toNat) 68 ∧ frK (gi A 78 1).toNat A A' ∧ gi A' 78 1 = (gi A 78 1 + 1) % 20 ∧ gi A' 78 2 = min (gi A 78 2 + 1) 20 := by
  obtain ⟨p, hp⟩ : ∃ p, p = (gi A 78 1).toNat := ⟨_, rfl⟩
  have er := hg p (by omega)
  obtain ⟨A1, e1, e2, e3⟩ := s_copyP d (80 + 5 * p) 68 A (by omega) (by omega) (by omega)
  have q1 : gi A1 78 1 = gi A 78 1 := e3.1 78 1 (by omega)
  have q2 : gi A1 78 2 = gi A 78 2 := e3.1 78 2 (by omega)
  have tm : (gi A 78 1 + 1).tmod 20 = (gi A 78 1 + 1) % 20 := Int.tmod_eq_emod_of_nonneg (by omega)
  rw [← hp]
  refine ⟨wi (wi A1 78 1 ((gi A 78 1 + 1) % 20)) 78 2 (min (gi A 78 2 + 1) 20), ?_, ⟨⟨?_, ?_, ?_, ?_⟩, fun j hj => ⟨?_, ?_⟩, fun j hj => ?_, fun j hj => ?_⟩, ⟨fun a j g1 g2 => ?_, e3.2.1, e3.2.2⟩, ?_, ?_⟩
  · rw [r_X6_keep, q_X6_keep_0 _ _ _ _ _ (by omega), if_pos h1, ← hp, er, if_neg (by omega), e1, cV_v, q1, wid (by omega) (by omega), tm, q_X6_keep_26 _ _ _ _ _ (by omega)]
    simp -implicitDefEqProofs (disch := omega) only [gi_wi, q2, s_minI, ↓reduceIte, Int.reduceEq, cI_v, cL_v, cV_v, cR_v, wid, wid64, if_pos, if_neg, Nat.add_zero, if_true, if_false, and_self, and_true, true_and, and_false, false_and, or_true, true_or, or_false, false_or]
    rw [q_X6_keep_41 _ _ _ _ _ (by omega)]
  · simp -implicitDefEqProofs (disch := omega) only [gi_wi, ↓reduceIte, Int.reduceEq, cI_v, cL_v, cV_v, cR_v, wid, wid64, if_pos, if_neg, Nat.add_zero, if_true, if_false, and_self, and_true, true_and, and_false, false_and, or_true, true_or, or_false, false_or]; exact e2.1.1
  · simp -implicitDefEqProofs (disch := omega) only [gi_wi, ↓reduceIte, Int.reduceEq, cI_v, cL_v, cV_v, cR_v, wid, wid64, if_pos, if_neg, Nat.add_zero, if_true, if_false, and_self, and_true, true_and, and_false, false_and, or_true, true_or, or_false, false_or]; exact e2.1.2.1
  · simp -implicitDefEqProofs (disch := omega) only [gi_wi, ↓reduceIte, Int.reduceEq, cI_v, cL_v, cV_v, cR_v, wid, wid64, if_pos, if_neg, Nat.add_zero, if_true, if_false, and_self, and_true, true_and, and_false, false_and, or_true, true_or, or_false, false_or]; exact e2.1.2.2.1
  · simp -implicitDefEqProofs (disch := omega) only [gi_wi, ↓reduceIte, Int.reduceEq, cI_v, cL_v, cV_v, cR_v, wid, wid64, if_pos, if_neg, Nat.add_zero, if_true, if_false, and_self, and_true, true_and, and_false, false_and, or_true, true_or, or_false, false_or]; exact e2.1.2.2.2
  · simp -implicitDefEqProofs (disch := omega) only [gi_wi, ↓reduceIte, Int.reduceEq, cI_v, cL_v, cV_v, cR_v, wid, wid64, if_pos, if_neg, Nat.add_zero, if_true, if_false, and_self, and_true, true_and, and_false, false_and, or_true, true_or, or_false, false_or]; exact (e2.2.1 j hj).1
  · simp -implicitDefEqProofs (disch := omega) only [gi_wi, ↓reduceIte, Int.reduceEq, cI_v, cL_v, cV_v, cR_v, wid, wid64, if_pos, if_neg, Nat.add_zero, if_true, if_false, and_self, and_true, true_and, and_false, false_and, or_true, true_or, or_false, false_or]; exact (e2.2.1 j hj).2
  · simp -implicitDefEqProofs (disch := omega) only [gi_wi, ↓reduceIte, Int.reduceEq, cI_v, cL_v, cV_v, cR_v, wid, wid64, if_pos, if_neg, Nat.add_zero, if_true, if_false, and_self, and_true, true_and, and_false, false_and, or_true, true_or, or_false, false_or]; exact e2.2.2.1 j hj
  · simp -implicitDefEqProofs (disch := omega) only [gi_wi, ↓reduceIte, Int.reduceEq, cI_v, cL_v, cV_v, cR_v, wid, wid64, if_pos, if_neg, Nat.add_zero, if_true, if_false, and_self, and_true, true_and, and_false, false_and, or_true, true_or, or_false, false_or]; exact e2.2.2.2 j hj
  · simp -implicitDefEqProofs (disch := omega) only [gi_wi, ↓reduceIte, Int.reduceEq, cI_v, cL_v, cV_v, cR_v, wid, wid64, if_pos, if_neg, Nat.add_zero, if_true, if_false, and_self, and_true, true_and, and_false, false_and, or_true, true_or, or_false, false_or]; exact e3.1 a j g1
  · simp -implicitDefEqProofs (disch := omega) only [gi_wi, ↓reduceIte, Int.reduceEq, cI_v, cL_v, cV_v, cR_v, wid, wid64, if_pos, if_neg, Nat.add_zero, if_true, if_false, and_self, and_true, true_and, and_false, false_and, or_true, true_or, or_false, false_or]
  · simp -implicitDefEqProofs (disch := omega) only [gi_wi, ↓reduceIte, Int.reduceEq, cI_v, cL_v, cV_v, cR_v, wid, wid64, if_pos, if_neg, Nat.add_zero, if_true, if_false, and_self, and_true, true_and, and_false, false_and, or_true, true_or, or_false, false_or]
set_option maxRecDepth 100000 in
theorem l_keeps (d : Nat) (A : AH) (z : Int) (hz : 0 ≤ z ∧ z < 20) : ∀ (j n : Nat) (k : Int) (B : AH), 0 ≤ k → k + j = 146 → gi B 190 74 = z → (∀ a i, a ≠ 243 → ¬ (a = 190 ∧ i = 74) → gi B a i = gi A a i) → (∀ i : Nat, (i : Int) < k → gi B 243 (146 * z.toNat + i) = gi A 237 i) → (∀ i : Nat, ¬ (146 * z.toNat ≤ i ∧ i < 146 * z.toNat + 146) → gi B 243 i = gi A 243 i) → (∀ a i, gr B a i = gr A a i) → B.2.2 = A.2.2 → 10 * j + 10 ≤ n → (0 ≤ gi A 190 73 ∧ gi A 190 73 ≤ 20) → ∃ A', go true 3 (runF d) (runN d) pb_X12_keeps n 15 [vR 21 190 0, vI k] [] B = some (none, A') ∧ gi A' 190 74 = z ∧ gi A' 190 73 = min (gi A 190 73 + 1) 20 ∧ (∀ a i, a ≠ 243 → ¬ (a = 190 ∧ (i = 73 ∨ i = 74)) → gi A' a i = gi A a i) ∧ (∀ i : Nat, i < 146 → gi A' 243 (146 * z.toNat + i) = gi A 237 i) ∧ (∀ i : Nat, ¬ (146 * z.toNat ≤ i ∧ i < 146 * z.toNat + 146) → gi A' 243 i = gi A 243 i) ∧ (∀ a i, gr A' a i = gr A a i) ∧ A'.2.2 = A.2.2 := by
  intro j
  induction j with
  | zero =>
    intro n k B h1 h2 h3 h4 h5 h6 h7 h8 hn h9
    obtain ⟨n, rfl⟩ : ∃ e, n = e + 10 := ⟨n - 10, by omega⟩
    have q : gi B 190 73 = gi A 190 73 := h4 190 73 (by omega) (by omega)
    by_cases c : gi A 190 73 < 20
    · refine ⟨wi B 190 73 (gi A 190 73 + 1), ?_, ?_, ?_, fun a i g1 g2 => ?_, fun i hi => ?_, fun i hi => ?_, h7, h8⟩
      · rw [q_X12_keeps_15, if_neg (by omega), q, if_pos c, wid (by omega) (by omega)]
      · simp -implicitDefEqProofs (disch := omega) only [gi_wi, ↓reduceIte, Int.reduceEq, cI_v, cL_v, cV_v, cR_v, wid, wid64, if_pos, if_neg, Nat.add_zero, if_true, if_false, and_self, and_true, true_and, and_false, false_and, or_true, true_or, or_false, false_or]; exact h3
      · simp -implicitDefEqProofs (disch := omega) only [gi_wi, ↓reduceIte, Int.reduceEq, cI_v, cL_v, cV_v, cR_v, wid, wid64, if_pos, if_neg, Nat.add_zero, if_true, if_false, and_self, and_true, true_and, and_false, false_and, or_true, true_or, or_false, false_or]; rw [Int.min_eq_left (by omega)]
      · simp -implicitDefEqProofs (disch := omega) only [gi_wi, ↓reduceIte, Int.reduceEq, cI_v, cL_v, cV_v, cR_v, wid, wid64, if_pos, if_neg, Nat.add_zero, if_true, if_false, and_self, and_true, true_and, and_false, false_and, or_true, true_or, or_false, false_or]; exact h4 a i g1 (by omega)
      · simp -implicitDefEqProofs (disch := omega) only [gi_wi, ↓reduceIte, Int.reduceEq, cI_v, cL_v, cV_v, cR_v, wid, wid64, if_pos, if_neg, Nat.add_zero, if_true, if_false, and_self, and_true, true_and, and_false, false_and, or_true, true_or, or_false, false_or]; exact h5 i (by omega)
      · simp -implicitDefEqProofs (disch := omega) only [gi_wi, ↓reduceIte, Int.reduceEq, cI_v, cL_v, cV_v, cR_v, wid, wid64, if_pos, if_neg, Nat.add_zero, if_true, if_false, and_self, and_true, true_and, and_false, false_and, or_true, true_or, or_false, false_or]; exact h6 i hi
    · refine ⟨B, ?_, h3, ?_, fun a i g1 g2 => h4 a i g1 (by omega), fun i hi => h5 i (by omega), h6, h7, h8⟩
      · rw [q_X12_keeps_15, if_neg (by omega), q, if_neg c]
      · rw [q, Int.min_eq_right (by omega)]; omega
  | succ j ih =>
    intro n k B h1 h2 h3 h4 h5 h6 h7 h8 hn h9
    obtain ⟨n, rfl⟩ : ∃ e, n = e + 10 := ⟨n - 10, by omega⟩
    have q : gi B 237 k.toNat = gi A 237 k.toNat := h4 237 _ (by omega) (by omega)
    have ei : (146 * z + k).toNat = 146 * z.toNat + k.toNat := by omega
    obtain ⟨A', u⟩ := ih (n + 8) (k + 1) (wi B 243 (146 * z + k).toNat (gi A 237 k.toNat)) (by omega) (by omega) (by simp -implicitDefEqProofs (disch := omega) only [gi_wi, ↓reduceIte, Int.reduceEq, cI_v, cL_v, cV_v, cR_v, wid, wid64, if_pos, if_neg, Nat.add_zero, if_true, if_false, and_self, and_true, true_and, and_false, false_and, or_true, true_or, or_false, false_or]; exact h3) (fun a i g1 g2 => by simp -implicitDefEqProofs (disch := omega) only [gi_wi, ↓reduceIte, Int.reduceEq, cI_v, cL_v, cV_v, cR_v, wid, wid64, if_pos, if_neg, Nat.add_zero, if_true, if_false, and_self, and_true, true_and, and_false, false_and, or_true, true_or, or_false, false_or]; exact h4 a i g1 g2) (fun i hi => by
      by_cases c : i = k.toNat
      · subst c
        rw [gi_wi, if_pos (by omega)]
      · rw [gi_wi, if_neg (by omega)]
        exact h5 i (by omega)) (fun i hi => by
        rw [gi_wi, if_neg (by omega)]
        exact h6 i hi) h7 h8 (by omega) h9
    refine ⟨A', ?_, u.2⟩
    rw [q_X12_keeps_15, if_pos (by omega), if_pos (by omega), h3, wid (x := 146 * z) (by omega) (by omega), wid (x := 146 * z + k) (by omega) (by omega), if_pos (by omega), q, q_X12_keeps_43, wid (by omega) (by omega)]
    exact u.1
set_option maxRecDepth 100000 in
theorem s_keepsM (d : Nat) (A : AH) (h1 : 0 ≤ gi A 190 74 ∧ gi A 190 74 < 20) (h9 : 0 ≤ gi A 190 73 ∧ gi A 190 73 ≤ 20) : ∃ A', runF (d + 1) 250 [vR 21 190 0] A = some (none, A') ∧ gi A' 190 74 = (gi A 190 74 + 1) % 20 ∧ gi A' 190 73 = min (gi A 190 73 + 1) 20 ∧ (∀ a i, a ≠ 243 → ¬ (a = 190 ∧ (i = 73 ∨ i = 74)) → gi A' a i = gi A a i) ∧ (∀ i : Nat, i < 146 → gi A' 243 (146 * ((gi A 190 74 + 1) % 20).toNat + i) = gi A 237 i) ∧ (∀ i : Nat, ¬ (146 * ((gi A 190 74 + 1) % 20).toNat ≤ i ∧ i < 146 * ((gi A 190 74 + 1) % 20).toNat + 146) → gi A' 243 i = gi A 243 i) ∧ (∀ a i, gr A' a i = gr A a i) ∧ A'.2.2 = A.2.2 := by
  have tm : (gi A 190 74 + 1).tmod 20 = (gi A 190 74 + 1) % 20 := Int.tmod_eq_emod_of_nonneg (by omega)
  obtain ⟨A', u⟩ := l_keeps d A ((gi A 190 74 + 1) % 20) (by omega) 146 (fu + 198) 0 (wi A 190 74 ((gi A 190 74 + 1) % 20)) (by omega) (by omega) (by simp -implicitDefEqProofs (disch := omega) only [gi_wi, ↓reduceIte, Int.reduceEq, cI_v, cL_v, cV_v, cR_v, wid, wid64, if_pos, if_neg, Nat.add_zero, if_true, if_false, and_self, and_true, true_and, and_false, false_and, or_true, true_or, or_false, false_or]) (fun a i g1 g2 => by rw [gi_wi, if_neg g2]) (fun i hi => by omega) (fun i hi => by simp -implicitDefEqProofs (disch := omega) only [gi_wi, ↓reduceIte, Int.reduceEq, cI_v, cL_v, cV_v, cR_v, wid, wid64, if_pos, if_neg, Nat.add_zero, if_true, if_false, and_self, and_true, true_and, and_false, false_and, or_true, true_or, or_false, false_or]) (fun _ _ => rfl) rfl (by have := fu_ge; omega) h9
  refine ⟨A', ?_, u.2⟩
  rw [r_X12_keeps, q_X12_keeps_0, wid (by omega) (by omega), tm, q_X12_keeps_13]
  exact u.1
/-- the past of both, one longer -/
theorem PR_keep {n : Nat} {A B : AH} (r : REL n A) (k1 : gi B 78 1 = (gi A 78 1 + 1) % 20 ∧ gi B 78 2 = min (gi A 78 2 + 1) 20) (k2 : gi B 190 74 = (gi A 190 74 + 1) % 20 ∧ gi B 190 73 = min (gi A 190 73 + 1) 20) (k3 : cpS A B (80 + 5 * (gi A 78 1).toNat) 68) (k4 : ∀ a j, 80 ≤ a → a ≤ 179 → ¬ (80 + 5 * (gi A 78 1).toNat ≤ a ∧ a ≤ 80 + 5 * (gi A 78 1).toNat + 4) → gi B a j = gi A a j) (k5 : ∀ i : Nat, i < 146 → gi B 243 (146 * ((gi A 190 74 + 1) % 20).toNat + i) = gi A 237 i) (k6 : ∀ i : Nat, ¬ (146 * ((gi A 190 74 + 1) % 20).toNat ≤ i ∧ i < 146 * ((gi A 190 74 + 1) % 20).toNat + 146) → gi B 243 i = gi A 243 i) (k7 : ∀ j, gr B 79 j = gr A 79 j) (eh : hv B = hv A) : PR (n + 1) B := by
  obtain ⟨p1, p2, p3, p4, p5, p6⟩ := r.2.2.2.2.2.2.2.2.2.1
  have hc := r.1.1
  unfold PR
  rw [k1.1, k1.2, k2.1, k2.2, eh]
  refine ⟨by omega, by rw [p2], by omega, by omega, fun i hi => by rw [k7]; exact p5 i hi, fun i h1 h2 => ?_⟩
  by_cases c : i = 0
  · subst c
    have e1 : ((gi A 78 1 + 1) % 20 - 1 - 0) % 20 = gi A 78 1 := by omega
    rw [e1]
    refine SK_row (row := nv A) hc (fun j hj => ?_) ?_
    · unfold bkR
      rw [show ((gi A 190 74 + 1) % 20 - 0) % 20 = (gi A 190 74 + 1) % 20 by omega]
      exact k5 j hj
    · have s0 := r.2.1
      refine ⟨SR_cp (by omega) k3 s0.1, KR_cp k3 (KR_fr (n := n) (n' := n + 1) (by omega) (fun _ _ _ _ => rfl) s0.2.1), s0.2.2⟩
  · have old := p6 (i - 1) (by omega) (by omega)
    have e1 : ((gi A 78 1 + 1) % 20 - 1 - i) % 20 = (gi A 78 1 - 1 - (i - 1)) % 20 := by omega
    have e2 : ((gi A 190 74 + 1) % 20 - i) % 20 = (gi A 190 74 - (i - 1)) % 20 := by omega
    have d1 : (gi A 78 1 - 1 - (i - 1)) % 20 ≠ gi A 78 1 := by omega
    have d2 : (gi A 190 74 - (i - 1)) % 20 ≠ (gi A 190 74 + 1) % 20 := by omega
    rw [e1]
    refine SK_row (row := bkR A (gi A 190 74 - (i - 1))) hc (fun j hj => ?_) (SK_fr (by omega) (fun a j q1 q2 => k4 a j (by omega) (by omega) (by omega)) old)
    unfold bkR
    rw [e2]
    exact k6 _ (by omega)
