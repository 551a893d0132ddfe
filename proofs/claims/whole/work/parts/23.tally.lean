/-! the class: the bench's rows, what a minute moves -/
theorem evF_cg {F G : Int → Int} {c : Int → Int} (hFG : ∀ i, i ≠ 7 → F i = G i) : ∀ (n : Nat) (k : Int) (st : List Int), (∀ j, k ≤ j → j < k + n → c j ≠ 14) → evF F c n k st = evF G c n k st
  | 0, _, _, _ => rfl
  | n + 1, k, st, h => by
    unfold evF
    have e : stepF F (c k) st = stepF G (c k) st := by
      have := h k (by omega) (by omega)
      unfold stepF
      rw [hFG (c k - 7) (by omega)]
    rw [e]
    exact evF_cg hFG n (k + 1) _ (fun j h1 h2 => h j (by omega) (by omega))
theorem ex_false {p : Int → Bool} : ∀ (n : Nat) (k : Int), ex p n k = false → ∀ j, k ≤ j → j < k + n → p j = false
  | 0, _, _, j, h1, h2 => by omega
  | n + 1, k, h, j, h1, h2 => by
    unfold ex at h
    rw [Bool.or_eq_false_iff] at h
    by_cases e : j = k
    · rw [e]; exact h.1
    · exact ex_false n (k + 1) h.2 j (by omega) (by omega)
theorem noise_q {H : Nat → Nat → Int} {m : Int} (h : noisyF H m = false) (q s : Int) : noiseF H q s m = 0 := by
  unfold noiseF
  refine sm_zero _ _ (fun j h1 h2 => ?_)
  have := ex_false _ _ h j h1 h2
  rw [decide_eq_false_iff_not] at this
  unfold loudF
  rw [if_pos (Or.inr this)]
theorem fct_q {H : Nat → Nat → Int} {row : Nat → Int} {m m0 a q x : Int} (h : noisyF H m = false) (h0 : noisyF H m0 = false) (i : Int) (hi : i ≠ 7) : fctF H row m a q x i = fctF H row m0 a q x i := by
  unfold fctF
  rw [noise_q h, noise_q h0, if_neg hi, if_neg hi]
theorem told_q {H : Nat → Nat → Int} {row : Nat → Int} {m m0 a q x w : Int} (hn : noMin H) (hw1 : 0 ≤ w) (hw2 : w ≤ 1) (hw : H 231 (2 + w).toNat ≠ -1) (h : noisyF H m = false) (h0 : noisyF H m0 = false) : toldF H row m a q w x = toldF H row m0 a q w x := by
  unfold toldF
  rw [evF_cg (fct_q h h0) _ _ _ (fun j h1 h2 => hn w hw1 hw2 hw j h1 (by omega))]
theorem weight_q {H : Nat → Nat → Int} {row : Nat → Int} {m m0 a q x : Int} (hn : noMin H) (h : noisyF H m = false) (h0 : noisyF H m0 = false) : weightF H row m a q x = weightF H row m0 a q x := by
  unfold weightF
  by_cases e : H 231 2 = -1
  · rw [if_pos e, if_pos e]
  · rw [if_neg e, if_neg e, told_q (w := 0) hn (by omega) (by omega) e h h0]
theorem cough_q {H : Nat → Nat → Int} {row : Nat → Int} {m m0 a q x : Int} (hn : noMin H) (h : noisyF H m = false) (h0 : noisyF H m0 = false) : coughF H row m a q x = coughF H row m0 a q x := by
  unfold coughF
  by_cases e : H 231 3 = -1
  · rw [if_pos e, if_pos e]
  · rw [if_neg e, if_neg e, told_q (w := 1) hn (by omega) (by omega) e h h0]
def TR (A : AH) (H : Nat → Nat → Int) (row : Nat → Int) (m a q : Int) : Prop := ∀ x, sit H row x = true → gi A 182 x.toNat = weightF H row m a q x ∧ gi A 183 x.toNat = coughF H row m a q x
def QI (A : AH) (H : Nat → Nat → Int) (row : Nat → Int) (a q : Int) : Prop := (gi A 180 2 = 0 ∨ (gi A 180 2 = 1 ∧ noMin H)) ∧ (gi A 180 3 = 0 ∨ (gi A 180 3 = 1 ∧ noMin H ∧ ∃ m0, noisyF H m0 = false ∧ TR A H row m0 a q))
def frT (A B : AH) : Prop := (∀ a j, ¬ (181 ≤ a ∧ a ≤ 184) → ¬ (a = 180 ∧ (j = 11 ∨ j = 3)) → gi B a j = gi A a j) ∧ (∀ a j, gr B a j = gr A a j) ∧ B.2.2 = A.2.2
theorem frT_refl (A : AH) : frT A A := ⟨fun _ _ _ _ => rfl, fun _ _ => rfl, rfl⟩
theorem frT_trans {A B C : AH} (h1 : frT A B) (h2 : frT B C) : frT A C := ⟨fun a j r t => (h2.1 a j r t).trans (h1.1 a j r t), fun a j => (h2.2.1 a j).trans (h1.2.1 a j), h2.2.2.trans h1.2.2⟩
theorem frT_wi {A B : AH} {a k : Nat} (v : Int) (h : (181 ≤ a ∧ a ≤ 184) ∨ (a = 180 ∧ (k = 11 ∨ k = 3))) (h2 : frT A B) : frT A (wi B a k v) := frT_trans h2 ⟨fun b j r t => by
  rw [gi_wi, if_neg (by omega)], fun _ _ => rfl, rfl⟩
theorem frB_frT {A B : AH} (h : frB A B) : frT A B := ⟨fun a j r t => h.1 a j (by omega) (by omega) (by omega), h.2.1, h.2.2⟩
theorem frT_sc {A B : AH} (h : frT A B) : sc A B := ⟨fun a j q => h.1 a j (by unfold scr at q; omega) (by unfold scr at q; omega), fun a j _ => h.2.1 a j, h.2.2⟩
theorem BS_frT {A B : AH} (f : frT A B) {h s : Nat} {H : Nat → Nat → Int} {row : Nat → Int} {m a q : Int} (b : BS A h s H row m a q) : BS B h s H row m a q := by
  obtain ⟨⟨b1, b2⟩, ⟨b3, b4, b5⟩, b6, b7, b8⟩ := b
  refine ⟨⟨by rw [f.2.1]; exact b1, by rw [f.2.1]; exact b2⟩, ⟨?_, ?_, ?_⟩, HR_sc (frT_sc f) b6, SR_fr (fun a j _ _ => f.1 a j (by omega) (by omega)) b7, b8⟩
  · rw [f.1 180 6 (by omega) (by omega)]; exact b3
  · rw [f.1 180 5 (by omega) (by omega)]; exact b4
  · rw [f.1 180 4 (by omega) (by omega)]; exact b5
set_option maxRecDepth 100000 in
theorem l_tally (d : Nat) {h s : Nat} {H : Nat → Nat → Int} {row : Nat → Int} {m a q : Int} (g : gok H row) (ha1 : -1 ≤ a) (ha2 : a < nPo H) (hm1 : 0 ≤ m) (hm2 : m ≤ 2000) (z : Int) : ∀ (j n : Nat) (k : Int) (A : AH), 0 ≤ k → k + j = 16 → BS A h s H row m a q → (∀ x, x < k → sit H row x = true → gi A 182 x.toNat = weightF H row m a q x ∧ gi A 183 x.toNat = coughF H row m a q x) → 10 * j + 10 ≤ n → ∃ A', go true 3 (runF (d + 5)) (runN (d + 5)) pb_X0_tally n 46 [vR 10 180 0, vI z, vI k] [] A = some (none, A') ∧ TR A' H row m a q ∧ frT A A' ∧ gi A' 180 3 = gi A 180 3 := by
  intro j
  induction j with
  | zero =>
    intro n k A h1 h2 b hT hn
    obtain ⟨n, rfl⟩ : ∃ e, n = e + 10 := ⟨n - 10, by omega⟩
    refine ⟨A, ?_, fun x hx => hT x ?_ hx, frT_refl A, rfl⟩
    · rw [q_X0_tally_46]; simp -implicitDefEqProofs (disch := omega) only [↓reduceIte, Int.reduceEq, cI_v, cL_v, cV_v, cR_v, wid, wid64, if_pos, if_neg, Nat.add_zero, if_true, if_false, and_self, and_true, true_and, and_false, false_and, or_true, true_or, or_false, false_or]
    · have := sit_num g.1 hx; unfold num at this; omega
  | succ j ih =>
    intro n k A h1 h2 b hT hn
    obtain ⟨n, rfl⟩ : ∃ e, n = e + 10 := ⟨n - 10, by omega⟩
    have hs0 : s ≠ 0 := b.2.2.2.1.1
    by_cases c : sit H row k = true
    · obtain ⟨A1, e1, e2, e3⟩ := s_regard (d + 2) k A b g c ha1 ha2
      have b1 := BS_fr e3 b
      obtain ⟨A2, f1, f2⟩ := s_weightNow d k A1 b1 g c ha1 ha2 hm1 hm2 e2
      have c3 : frT A (wi A2 182 k.toNat (weightF H row m a q k)) := frT_wi _ (by omega) (frT_trans (frB_frT e3) (frB_frT (frC_frB f2)))
      have b3 := BS_frT c3 b
      obtain ⟨A3, k1, k2⟩ := s_coughNow d k (wi A2 182 k.toNat (weightF H row m a q k)) b3 g c ha1 ha2 hm1 hm2 (fun i i1 i2 => by simp -implicitDefEqProofs (disch := omega) only [gi_wi, ↓reduceIte, Int.reduceEq, cI_v, cL_v, cV_v, cR_v, wid, wid64, if_pos, if_neg, Nat.add_zero, if_true, if_false, and_self, and_true, true_and, and_false, false_and, or_true, true_or, or_false, false_or]; rw [f2.1 181 _ (by omega) (by omega)]; exact e2 i i1 i2)
      have c4 : frT A (wi A3 183 k.toNat (coughF H row m a q k)) := frT_wi _ (by omega) (frT_trans c3 (frB_frT (frC_frB k2)))
      obtain ⟨A', u1, u2, u3, u4⟩ := ih (n + 7) (k + 1) (wi A3 183 k.toNat (coughF H row m a q k)) (by omega) (by omega) (BS_frT c4 b) (fun x hx hsx => by
        have hxn := sit_num g.1 hsx
        have hkn := sit_num g.1 c
        unfold num at hxn hkn
        by_cases exk : x = k
        · subst exk
          refine ⟨?_, ?_⟩
          · simp -implicitDefEqProofs (disch := omega) only [gi_wi, ↓reduceIte, Int.reduceEq, cI_v, cL_v, cV_v, cR_v, wid, wid64, if_pos, if_neg, Nat.add_zero, if_true, if_false, and_self, and_true, true_and, and_false, false_and, or_true, true_or, or_false, false_or]
            rw [k2.1 182 _ (by omega) (by omega)]
            simp -implicitDefEqProofs (disch := omega) only [gi_wi, ↓reduceIte, Int.reduceEq, cI_v, cL_v, cV_v, cR_v, wid, wid64, if_pos, if_neg, Nat.add_zero, if_true, if_false, and_self, and_true, true_and, and_false, false_and, or_true, true_or, or_false, false_or]
          · simp -implicitDefEqProofs (disch := omega) only [gi_wi, ↓reduceIte, Int.reduceEq, cI_v, cL_v, cV_v, cR_v, wid, wid64, if_pos, if_neg, Nat.add_zero, if_true, if_false, and_self, and_true, true_and, and_false, false_and, or_true, true_or, or_false, false_or]
        · have := hT x (by omega) hsx
          refine ⟨?_, ?_⟩
          · simp -implicitDefEqProofs (disch := omega) only [gi_wi, ↓reduceIte, Int.reduceEq, cI_v, cL_v, cV_v, cR_v, wid, wid64, if_pos, if_neg, Nat.add_zero, if_true, if_false, and_self, and_true, true_and, and_false, false_and, or_true, true_or, or_false, false_or]
            rw [k2.1 182 _ (by omega) (by omega)]
            simp -implicitDefEqProofs (disch := omega) only [gi_wi, ↓reduceIte, Int.reduceEq, cI_v, cL_v, cV_v, cR_v, wid, wid64, if_pos, if_neg, Nat.add_zero, if_true, if_false, and_self, and_true, true_and, and_false, false_and, or_true, true_or, or_false, false_or]
            rw [f2.1 182 _ (by omega) (by omega), e3.1 182 _ (by omega) (by omega) (by omega)]
            exact this.1
          · simp -implicitDefEqProofs (disch := omega) only [gi_wi, ↓reduceIte, Int.reduceEq, cI_v, cL_v, cV_v, cR_v, wid, wid64, if_pos, if_neg, Nat.add_zero, if_true, if_false, and_self, and_true, true_and, and_false, false_and, or_true, true_or, or_false, false_or]
            rw [k2.1 183 _ (by omega) (by omega)]
            simp -implicitDefEqProofs (disch := omega) only [gi_wi, ↓reduceIte, Int.reduceEq, cI_v, cL_v, cV_v, cR_v, wid, wid64, if_pos, if_neg, Nat.add_zero, if_true, if_false, and_self, and_true, true_and, and_false, false_and, or_true, true_or, or_false, false_or]
            rw [f2.1 183 _ (by omega) (by omega), e3.1 183 _ (by omega) (by omega) (by omega)]
            exact this.2) (by omega)
      refine ⟨A', ?_, u2, frT_trans c4 u3, ?_⟩
      · rw [q_X0_tally_46, b.1.2]
        simp -implicitDefEqProofs (disch := omega) only [↓reduceIte, Int.reduceEq, cI_v, cL_v, cV_v, cR_v, wid, wid64, if_pos, if_neg, Nat.add_zero, if_true, if_false, and_self, and_true, true_and, and_false, false_and, or_true, true_or, or_false, false_or]
        rw [s_isThere (d + 4) s k A H row g.1 g.2.2.2.2 b.2.2.2.1]
        simp -implicitDefEqProofs (disch := omega) only [bI_0, ite_f, c, e1, f1, q_X0_tally_78, k1, q_X0_tally_88, ↓reduceIte, Int.reduceEq, cI_v, cL_v, cV_v, cR_v, wid, wid64, if_pos, if_neg, Nat.add_zero, if_true, if_false, and_self, and_true, true_and, and_false, false_and, or_true, true_or, or_false, false_or]
        exact u1
      · rw [u4]
        simp -implicitDefEqProofs (disch := omega) only [gi_wi, ↓reduceIte, Int.reduceEq, cI_v, cL_v, cV_v, cR_v, wid, wid64, if_pos, if_neg, Nat.add_zero, if_true, if_false, and_self, and_true, true_and, and_false, false_and, or_true, true_or, or_false, false_or]
        rw [k2.1 180 3 (by omega) (by omega)]
        simp -implicitDefEqProofs (disch := omega) only [gi_wi, ↓reduceIte, Int.reduceEq, cI_v, cL_v, cV_v, cR_v, wid, wid64, if_pos, if_neg, Nat.add_zero, if_true, if_false, and_self, and_true, true_and, and_false, false_and, or_true, true_or, or_false, false_or]
        rw [f2.1 180 3 (by omega) (by omega), e3.1 180 3 (by omega) (by omega) (by omega)]
    · have c' : sit H row k = false := by simpa using c
      obtain ⟨A', u1, u2, u3, u4⟩ := ih (n + 8) (k + 1) A (by omega) (by omega) b (fun x hx hsx => by
        by_cases exk : x = k
        · subst exk; exact absurd hsx c
        · exact hT x (by omega) hsx) (by omega)
      refine ⟨A', ?_, u2, u3, u4⟩
      rw [q_X0_tally_46, b.1.2]
      simp -implicitDefEqProofs (disch := omega) only [↓reduceIte, Int.reduceEq, cI_v, cL_v, cV_v, cR_v, wid, wid64, if_pos, if_neg, Nat.add_zero, if_true, if_false, and_self, and_true, true_and, and_false, false_and, or_true, true_or, or_false, false_or]
      rw [s_isThere (d + 4) s k A H row g.1 g.2.2.2.2 b.2.2.2.1]
      simp -implicitDefEqProofs (disch := omega) only [bI_0, ite_f, c', Bool.false_eq_true, q_X0_tally_88, ↓reduceIte, Int.reduceEq, cI_v, cL_v, cV_v, cR_v, wid, wid64, if_pos, if_neg, Nat.add_zero, if_true, if_false, and_self, and_true, true_and, and_false, false_and, or_true, true_or, or_false, false_or]
      exact u1
set_option maxRecDepth 100000 in
theorem s_tally (d : Nat) (A : AH) {h s : Nat} {H : Nat → Nat → Int} {row : Nat → Int} {m a q : Int} (b : BS A h s H row m a q) (g : gok H row) (ha1 : -1 ≤ a) (ha2 : a < nPo H) (hm1 : 0 ≤ m) (hm2 : m ≤ 2000) (hq : QI A H row a q) : ∃ A', runF (d + 6) 3 [vR 10 180 0] A = some (none, A') ∧ TR A' H row m a q ∧ QI A' H row a q ∧ frT A A' := by
  have hh0 : h ≠ 0 := by have := b.2.2.1.1; omega
  have go39 : ∀ (z : Int) (hz : z = 0 ∨ z = 1) (hz2 : z = 1 → noMin H ∧ noisyF H m = false) (n : Nat) (u2 : AV) (hn : 200 ≤ n), ∃ A', go true 3 (runF (d + 5)) (runN (d + 5)) pb_X0_tally n 39 [vR 10 180 0, vI z, u2] [] A = some (none, A') ∧ TR A' H row m a q ∧ QI A' H row a q ∧ frT A A' := by
    intro z hz hz2 n u2 hn
    obtain ⟨n, rfl⟩ : ∃ e, n = e + 1 := ⟨n - 1, by omega⟩
    have c1 : frT A (wi A 180 3 z) := frT_wi _ (by omega) (frT_refl A)
    obtain ⟨A', e1, e2, e3, e4⟩ := l_tally d g ha1 ha2 hm1 hm2 z 16 n 0 (wi A 180 3 z) (by omega) (by omega) (BS_frT c1 b) (fun x hx hsx => by have := sit_num g.1 hsx; unfold num at this; omega) (by omega)
    have c2 := frT_trans c1 e3
    refine ⟨A', ?_, e2, ⟨?_, ?_⟩, c2⟩
    · rw [q_X0_tally_39]
      simp -implicitDefEqProofs (disch := omega) only [↓reduceIte, Int.reduceEq, cI_v, cL_v, cV_v, cR_v, wid, wid64, if_pos, if_neg, Nat.add_zero, if_true, if_false, and_self, and_true, true_and, and_false, false_and, or_true, true_or, or_false, false_or]
      exact e1
    · rw [c2.1 180 2 (by omega) (by omega)]; exact hq.1
    · rw [e4]
      simp -implicitDefEqProofs (disch := omega) only [gi_wi, ↓reduceIte, Int.reduceEq, cI_v, cL_v, cV_v, cR_v, wid, wid64, if_pos, if_neg, Nat.add_zero, if_true, if_false, and_self, and_true, true_and, and_false, false_and, or_true, true_or, or_false, false_or]
      rcases hz with hz | hz
      · exact Or.inl hz
      · exact Or.inr ⟨hz, (hz2 hz).1, m, (hz2 hz).2, e2⟩
  rw [r_X0_tally, q_X0_tally_0, b.1.1]
  rcases hq.1 with q1 | ⟨q1, q2⟩
  · simp -implicitDefEqProofs (disch := omega) only [q1, q_X0_tally_25, q_X0_tally_26, ↓reduceIte, Int.reduceEq, cI_v, cL_v, cV_v, cR_v, wid, wid64, if_pos, if_neg, Nat.add_zero, if_true, if_false, and_self, and_true, true_and, and_false, false_and, or_true, true_or, or_false, false_or]
    exact go39 0 (Or.inl rfl) (by omega) _ _ (by have := fu_ge; omega)
  · simp -implicitDefEqProofs (disch := omega) only [q1, ↓reduceIte, Int.reduceEq, cI_v, cL_v, cV_v, cR_v, wid, wid64, if_pos, if_neg, Nat.add_zero, if_true, if_false, and_self, and_true, true_and, and_false, false_and, or_true, true_or, or_false, false_or]
    rw [s_isNoisy (d + 4) h _ A H g.1 b.2.2.1, b.2.1.1]
    simp -implicitDefEqProofs (disch := omega) only [bI_0, ite_f, ↓reduceIte, Int.reduceEq, cI_v, cL_v, cV_v, cR_v, wid, wid64, if_pos, if_neg, Nat.add_zero, if_true, if_false, and_self, and_true, true_and, and_false, false_and, or_true, true_or, or_false, false_or]
    by_cases c : noisyF H m = true
    · simp -implicitDefEqProofs (disch := omega) only [c, q_X0_tally_25, q_X0_tally_26, ↓reduceIte, Int.reduceEq, cI_v, cL_v, cV_v, cR_v, wid, wid64, if_pos, if_neg, Nat.add_zero, if_true, if_false, and_self, and_true, true_and, and_false, false_and, or_true, true_or, or_false, false_or]
      exact go39 0 (Or.inl rfl) (by omega) _ _ (by have := fu_ge; omega)
    · have c' : noisyF H m = false := by simpa using c
      simp -implicitDefEqProofs (disch := omega) only [c', Bool.false_eq_true, q_X0_tally_26, ↓reduceIte, Int.reduceEq, cI_v, cL_v, cV_v, cR_v, wid, wid64, if_pos, if_neg, Nat.add_zero, if_true, if_false, and_self, and_true, true_and, and_false, false_and, or_true, true_or, or_false, false_or]
      rcases hq.2 with r1 | ⟨r1, r2, m0, r3, r4⟩
      · simp -implicitDefEqProofs (disch := omega) only [r1, ↓reduceIte, Int.reduceEq, cI_v, cL_v, cV_v, cR_v, wid, wid64, if_pos, if_neg, Nat.add_zero, if_true, if_false, and_self, and_true, true_and, and_false, false_and, or_true, true_or, or_false, false_or]
        exact go39 1 (Or.inr rfl) (fun _ => ⟨q2, c'⟩) _ _ (by have := fu_ge; omega)
      · simp -implicitDefEqProofs (disch := omega) only [r1, ↓reduceIte, Int.reduceEq, cI_v, cL_v, cV_v, cR_v, wid, wid64, if_pos, if_neg, Nat.add_zero, if_true, if_false, and_self, and_true, true_and, and_false, false_and, or_true, true_or, or_false, false_or]
        refine ⟨A, rfl, fun x hx => ?_, hq, frT_refl A⟩
        have := r4 x hx
        rw [weight_q q2 c' r3, cough_q q2 c' r3]
        exact this
set_option maxRecDepth 100000 in
theorem s_sideOf (d : Nat) (x : Int) (A : AH) {h s : Nat} {H : Nat → Nat → Int} {row : Nat → Int} {m a q : Int} (b : BS A h s H row m a q) (hc : cok H) (hx : sit H row x = true) : runF (d + 1) 9 [vR 10 180 0, vI x] A = some (some (vI (signF H row x)), A) := by
  have hs0 : s ≠ 0 := b.2.2.2.1.1
  have hn := sit_num hc hx
  unfold num at hn
  have e := b.2.2.2.1.2.2.2.1 x (by omega) (by omega)
  rw [if_pos hx] at e
  rw [r_X0_sideOf, q_X0_sideOf_0, b.1.2]
  simp -implicitDefEqProofs (disch := omega) only [e, ↓reduceIte, Int.reduceEq, cI_v, cL_v, cV_v, cR_v, wid, wid64, if_pos, if_neg, Nat.add_zero, if_true, if_false, and_self, and_true, true_and, and_false, false_and, or_true, true_or, or_false, false_or]
  unfold signF
  by_cases c : partyF H row x = 0
  · simp -implicitDefEqProofs (disch := omega) only [↓reduceIte, Int.reduceEq, cI_v, cL_v, cV_v, cR_v, wid, wid64, if_pos, if_neg, Nat.add_zero, if_true, if_false, and_self, and_true, true_and, and_false, false_and, or_true, true_or, or_false, false_or]
  · by_cases c2 : partyF H row x = 1 <;> simp -implicitDefEqProofs (disch := omega) only [↓reduceIte, Int.reduceEq, cI_v, cL_v, cV_v, cR_v, wid, wid64, if_pos, if_neg, Nat.add_zero, if_true, if_false, and_self, and_true, true_and, and_false, false_and, or_true, true_or, or_false, false_or]
/-- what a minute moves the scale by when these cough; on the mean, in hundredths -/
def swF (H : Nat → Nat → Int) (row : Nat → Int) (m a q t : Int) : Int := sm (fun x => if sit H row x = true then movesF H row m a q x (tb t x) else 0) 16 0
def mmF (H : Nat → Nat → Int) (row : Nat → Int) (m a q x : Int) : Int := (100 - itchF H x) * movesF H row m a q x false + itchF H x * movesF H row m a q x true
def mnF (H : Nat → Nat → Int) (row : Nat → Int) (m a q : Int) : Int := sm (fun x => if sit H row x = true then mmF H row m a q x else 0) 16 0
theorem prod_bd {a b : Int} {u v : Nat} (h1 : a.natAbs ≤ u) (h2 : b.natAbs ≤ v) : (a * b).natAbs ≤ u * v := by
  rw [Int.natAbs_mul]; exact Nat.mul_le_mul h1 h2
theorem mm_eq {H : Nat → Nat → Int} {row : Nat → Int} {m a q x : Int} : mmF H row m a q x = signF H row x * ((100 - itchF H x) * weightF H row m a q x - itchF H x * coughF H row m a q x) := by
  unfold mmF movesF
  rw [if_neg (by simp), if_pos rfl]
  rcases sign_cs H row x with e | e | e <;> rw [e]
  · rw [Int.one_mul, Int.one_mul, Int.one_mul, Int.mul_neg]; omega
  · rw [Int.neg_one_mul, Int.neg_one_mul, Int.neg_one_mul, Int.mul_neg, Int.neg_neg]; omega
  · simp
theorem mm_bd {H : Nat → Nat → Int} (hh : hok H) {row : Nat → Int} {m a q x : Int} (hx : num x) : -199800 ≤ mmF H row m a q x ∧ mmF H row m a q x ≤ 199800 := by
  have h1 := itch_bd hh hx
  have h2 := moves_bd hh row m a q hx false
  have h3 := moves_bd hh row m a q hx true
  have p1 := prod_bd (a := 100 - itchF H x) (b := movesF H row m a q x false) (u := 100) (v := 999) (by omega) (by omega)
  have p2 := prod_bd (a := itchF H x) (b := movesF H row m a q x true) (u := 100) (v := 999) (by omega) (by omega)
  unfold mmF
  omega
set_option maxRecDepth 100000 in
theorem l_swing (d : Nat) (t : Int) (A : AH) {h s : Nat} {H : Nat → Nat → Int} {row : Nat → Int} {m a q : Int} (b : BS A h s H row m a q) (g : gok H row) (hT : TR A H row m a q) (ht1 : 0 ≤ t) (ht2 : t < 2147483648) : ∀ (j n : Nat) (k v : Int) (u4 : AV), 0 ≤ k → k + j = 16 → -999 * k ≤ v → v ≤ 999 * k → 10 * j + 10 ≤ n → go true 0 (runF (d + 1)) (runN (d + 1)) pb_X0_swing n 4 [vR 10 180 0, vI t, vI v, vI k, u4] [] A = some (some (vI (v + sm (fun x => if sit H row x = true then movesF H row m a q x (tb t x) else 0) j k)), A) := by
  intro j
  have hs0 : s ≠ 0 := b.2.2.2.1.1
  induction j with
  | zero =>
    intro n k v u4 h1 h2 h3 h4 hn
    obtain ⟨n, rfl⟩ : ∃ e, n = e + 10 := ⟨n - 10, by omega⟩
    rw [q_X0_swing_4]; simp -implicitDefEqProofs (disch := omega) only [sm, Int.add_zero, ↓reduceIte, Int.reduceEq, cI_v, cL_v, cV_v, cR_v, wid, wid64, if_pos, if_neg, Nat.add_zero, if_true, if_false, and_self, and_true, true_and, and_false, false_and, or_true, true_or, or_false, false_or]
  | succ j ih =>
    intro n k v u4 h1 h2 h3 h4 hn
    obtain ⟨n, rfl⟩ : ∃ e, n = e + 10 := ⟨n - 10, by omega⟩
    rw [q_X0_swing_4, b.1.2]
    simp -implicitDefEqProofs (disch := omega) only [↓reduceIte, Int.reduceEq, cI_v, cL_v, cV_v, cR_v, wid, wid64, if_pos, if_neg, Nat.add_zero, if_true, if_false, and_self, and_true, true_and, and_false, false_and, or_true, true_or, or_false, false_or]
    rw [s_isThere d s k A H row g.1 g.2.2.2.2 b.2.2.2.1]
    simp -implicitDefEqProofs (disch := omega) only [bI_0, ite_f, q_X0_swing_58, sm, ↓reduceIte, Int.reduceEq, cI_v, cL_v, cV_v, cR_v, wid, wid64, if_pos, if_neg, Nat.add_zero, if_true, if_false, and_self, and_true, true_and, and_false, false_and, or_true, true_or, or_false, false_or]
    by_cases c : sit H row k = true
    · have hx := sit_num g.1 c
      have hb := moves_bd g.2.1 row m a q hx (tb t k)
      have w := weight_bd g.2.1 row m a q hx
      have w2 := cough_bd (H := H) row m a q k
      have tt := hT k c
      have eside := s_sideOf d k A b g.1 c
      simp -implicitDefEqProofs (disch := omega) only [c, band_tb, bI_0, ite_f, tt.1, tt.2, ↓reduceIte, Int.reduceEq, cI_v, cL_v, cV_v, cR_v, wid, wid64, if_pos, if_neg, Nat.add_zero, if_true, if_false, and_self, and_true, true_and, and_false, false_and, or_true, true_or, or_false, false_or]
      by_cases c2 : tb t k = true
      · have e : movesF H row m a q k true = signF H row k * -coughF H row m a q k := by unfold movesF; rw [if_pos rfl]
        rw [c2, e] at hb
        simp -implicitDefEqProofs (disch := omega) only [c2, q_X0_swing_45, eside, q_X0_swing_58, ih, e, Int.add_assoc, ↓reduceIte, Int.reduceEq, cI_v, cL_v, cV_v, cR_v, wid, wid64, if_pos, if_neg, Nat.add_zero, if_true, if_false, and_self, and_true, true_and, and_false, false_and, or_true, true_or, or_false, false_or]
      · have c2' : tb t k = false := by simpa using c2
        have e : movesF H row m a q k false = signF H row k * weightF H row m a q k := by unfold movesF; rw [if_neg (by simp)]
        rw [c2', e] at hb
        simp -implicitDefEqProofs (disch := omega) only [c2', Bool.false_eq_true, q_X0_swing_45, eside, q_X0_swing_58, ih, e, Int.add_assoc, ↓reduceIte, Int.reduceEq, cI_v, cL_v, cV_v, cR_v, wid, wid64, if_pos, if_neg, Nat.add_zero, if_true, if_false, and_self, and_true, true_and, and_false, false_and, or_true, true_or, or_false, false_or]
    · have c' : sit H row k = false := by simpa using c
      simp -implicitDefEqProofs (disch := omega) only [c', Bool.false_eq_true, ih, Int.zero_add, ↓reduceIte, Int.reduceEq, cI_v, cL_v, cV_v, cR_v, wid, wid64, if_pos, if_neg, Nat.add_zero, if_true, if_false, and_self, and_true, true_and, and_false, false_and, or_true, true_or, or_false, false_or]
set_option maxRecDepth 100000 in
theorem s_swing (d : Nat) (t : Int) (A : AH) {h s : Nat} {H : Nat → Nat → Int} {row : Nat → Int} {m a q : Int} (b : BS A h s H row m a q) (g : gok H row) (hT : TR A H row m a q) (ht1 : 0 ≤ t) (ht2 : t < 2147483648) : runF (d + 2) 7 [vR 10 180 0, vI t] A = some (some (vI (swF H row m a q t)), A) := by
  rw [r_X0_swing, q_X0_swing_0, l_swing d t A b g hT ht1 ht2 16 _ 0 0 _ (by omega) (by omega) (by omega) (by omega) (by have := fu_ge; omega), Int.zero_add]; rfl
set_option maxRecDepth 100000 in
theorem l_meanSwing (d : Nat) (A : AH) {h s : Nat} {H : Nat → Nat → Int} {row : Nat → Int} {m a q : Int} (b : BS A h s H row m a q) (g : gok H row) (hT : TR A H row m a q) : ∀ (j n : Nat) (k v : Int) (u4 : AV), 0 ≤ k → k + j = 16 → -199800 * k ≤ v → v ≤ 199800 * k → 10 * j + 10 ≤ n → go true 0 (runF (d + 1)) (runN (d + 1)) pb_X0_meanSwing n 4 [vR 10 180 0, vI v, vI k, u4] [] A = some (some (vI (v + sm (fun x => if sit H row x = true then mmF H row m a q x else 0) j k)), A) := by
  intro j
  have hs0 : s ≠ 0 := b.2.2.2.1.1
  have hh0 : h ≠ 0 := by have := b.2.2.1.1; omega
  induction j with
  | zero =>
    intro n k v u4 h1 h2 h3 h4 hn
    obtain ⟨n, rfl⟩ : ∃ e, n = e + 10 := ⟨n - 10, by omega⟩
    rw [q_X0_meanSwing_4]; simp -implicitDefEqProofs (disch := omega) only [sm, Int.add_zero, ↓reduceIte, Int.reduceEq, cI_v, cL_v, cV_v, cR_v, wid, wid64, if_pos, if_neg, Nat.add_zero, if_true, if_false, and_self, and_true, true_and, and_false, false_and, or_true, true_or, or_false, false_or]
  | succ j ih =>
    intro n k v u4 h1 h2 h3 h4 hn
    obtain ⟨n, rfl⟩ : ∃ e, n = e + 10 := ⟨n - 10, by omega⟩
    rw [q_X0_meanSwing_4, b.1.2]
    simp -implicitDefEqProofs (disch := omega) only [↓reduceIte, Int.reduceEq, cI_v, cL_v, cV_v, cR_v, wid, wid64, if_pos, if_neg, Nat.add_zero, if_true, if_false, and_self, and_true, true_and, and_false, false_and, or_true, true_or, or_false, false_or]
    rw [s_isThere d s k A H row g.1 g.2.2.2.2 b.2.2.2.1]
    simp -implicitDefEqProofs (disch := omega) only [bI_0, ite_f, q_X0_meanSwing_60, sm, ↓reduceIte, Int.reduceEq, cI_v, cL_v, cV_v, cR_v, wid, wid64, if_pos, if_neg, Nat.add_zero, if_true, if_false, and_self, and_true, true_and, and_false, false_and, or_true, true_or, or_false, false_or]
    by_cases c : sit H row k = true
    · have hx := sit_num g.1 c
      have hi := itch_bd g.2.1 hx
      have hb := mm_bd g.2.1 (row := row) (m := m) (a := a) (q := q) hx
      rw [mm_eq] at hb
      have w := weight_bd g.2.1 row m a q hx
      have w2 := cough_bd (H := H) row m a q k
      have p1 := prod_bd (a := 100 - itchF H k) (b := weightF H row m a q k) (u := 100) (v := 999) (by omega) (by omega)
      have p2 := prod_bd (a := itchF H k) (b := coughF H row m a q k) (u := 100) (v := 999) (by omega) (by omega)
      have tt := hT k c
      have ei := (b.2.2.1.2.2.1 k (sit_exi c)).2
      simp -implicitDefEqProofs (disch := omega) only [c, b.1.1, ei, ↓reduceIte, Int.reduceEq, cI_v, cL_v, cV_v, cR_v, wid, wid64, if_pos, if_neg, Nat.add_zero, if_true, if_false, and_self, and_true, true_and, and_false, false_and, or_true, true_or, or_false, false_or]
      rw [s_sideOf d k A b g.1 c]
      simp -implicitDefEqProofs (disch := omega) only [tt.1, tt.2, q_X0_meanSwing_60, ih, Int.add_assoc, mm_eq, ↓reduceIte, Int.reduceEq, cI_v, cL_v, cV_v, cR_v, wid, wid64, if_pos, if_neg, Nat.add_zero, if_true, if_false, and_self, and_true, true_and, and_false, false_and, or_true, true_or, or_false, false_or]
    · have c' : sit H row k = false := by simpa using c
      simp -implicitDefEqProofs (disch := omega) only [c', Bool.false_eq_true, ih, Int.zero_add, ↓reduceIte, Int.reduceEq, cI_v, cL_v, cV_v, cR_v, wid, wid64, if_pos, if_neg, Nat.add_zero, if_true, if_false, and_self, and_true, true_and, and_false, false_and, or_true, true_or, or_false, false_or]
set_option maxRecDepth 100000 in
theorem s_meanSwing (d : Nat) (A : AH) {h s : Nat} {H : Nat → Nat → Int} {row : Nat → Int} {m a q : Int} (b : BS A h s H row m a q) (g : gok H row) (hT : TR A H row m a q) : runF (d + 2) 8 [vR 10 180 0] A = some (some (vI (mnF H row m a q)), A) := by
  rw [r_X0_meanSwing, q_X0_meanSwing_0, l_meanSwing d A b g hT 16 _ 0 0 _ (by omega) (by omega) (by omega) (by omega) (by have := fu_ge; omega), Int.zero_add]; rfl
theorem mn_bd {H : Nat → Nat → Int} {row : Nat → Int} (hc : cok H) (hh : hok H) (m a q : Int) : -3196800 ≤ mnF H row m a q ∧ mnF H row m a q ≤ 3196800 := by
  have h := sm_bd (f := fun x => if sit H row x = true then mmF H row m a q x else 0) (lo := -199800) (hi := 199800) 16 0 (fun j _ _ => by
    by_cases c : sit H row j = true
    · simp only [c, if_true]; exact mm_bd hh (sit_num hc c)
    · simp only [c]; simp)
  unfold mnF
  omega
/-- the bench, ready -/
def BI (A : AH) (h s : Nat) (H : Nat → Nat → Int) (row : Nat → Int) (m a q : Int) : Prop := BS A h s H row m a q ∧ QI A H row a q
def frL (A B : AH) : Prop := (∀ a j, a ≠ 180 → gi B a j = gi A a j) ∧ (∀ a j, a ≠ 180 → gr B a j = gr A a j) ∧ B.2.2 = A.2.2
theorem frL_sc {A B : AH} (h : frL A B) : sc A B := ⟨fun a j q => h.1 a j (by unfold scr at q; omega), fun a j q => h.2.1 a j q, h.2.2⟩
set_option maxRecDepth 100000 in
theorem s_suppose (d : Nat) (m' a' q' : Int) (A : AH) {h s : Nat} {H : Nat → Nat → Int} {row : Nat → Int} {m a q : Int} (b : BI A h s H row m a q) : ∃ A', runF (d + 1) 2 [vR 10 180 0, vI m', vI a', vI q'] A = some (none, A') ∧ BI A' h s H row m' a' q' ∧ frL A A' := by
  obtain ⟨⟨⟨b1, b2⟩, b3, b6, b7, b8⟩, q1, q2⟩ := b
  have f : frL A (wi (wi (wi (wi A 180 6 m') 180 5 a') 180 4 q') 180 3 0) := ⟨fun c j hc => by simp -implicitDefEqProofs (disch := omega) only [gi_wi, ↓reduceIte, Int.reduceEq, cI_v, cL_v, cV_v, cR_v, wid, wid64, if_pos, if_neg, Nat.add_zero, if_true, if_false, and_self, and_true, true_and, and_false, false_and, or_true, true_or, or_false, false_or], fun _ _ _ => rfl, rfl⟩
  refine ⟨wi (wi (wi (wi A 180 6 m') 180 5 a') 180 4 q') 180 3 0, ?_, ⟨⟨⟨b1, b2⟩, ⟨by simp -implicitDefEqProofs (disch := omega) only [gi_wi, ↓reduceIte, Int.reduceEq, cI_v, cL_v, cV_v, cR_v, wid, wid64, if_pos, if_neg, Nat.add_zero, if_true, if_false, and_self, and_true, true_and, and_false, false_and, or_true, true_or, or_false, false_or], by simp -implicitDefEqProofs (disch := omega) only [gi_wi, ↓reduceIte, Int.reduceEq, cI_v, cL_v, cV_v, cR_v, wid, wid64, if_pos, if_neg, Nat.add_zero, if_true, if_false, and_self, and_true, true_and, and_false, false_and, or_true, true_or, or_false, false_or], by simp -implicitDefEqProofs (disch := omega) only [gi_wi, ↓reduceIte, Int.reduceEq, cI_v, cL_v, cV_v, cR_v, wid, wid64, if_pos, if_neg, Nat.add_zero, if_true, if_false, and_self, and_true, true_and, and_false, false_and, or_true, true_or, or_false, false_or]⟩, HR_sc (frL_sc f) b6, SR_fr (fun c j _ _ => f.1 c j (by omega)) b7, b8⟩, ⟨?_, Or.inl (by simp -implicitDefEqProofs (disch := omega) only [gi_wi, ↓reduceIte, Int.reduceEq, cI_v, cL_v, cV_v, cR_v, wid, wid64, if_pos, if_neg, Nat.add_zero, if_true, if_false, and_self, and_true, true_and, and_false, false_and, or_true, true_or, or_false, false_or])⟩⟩, f⟩
  · rw [r_X0_suppose, q_X0_suppose_0]
    simp -implicitDefEqProofs (disch := omega) only [q_X0_suppose_10, q_X0_suppose_20, ↓reduceIte, Int.reduceEq, cI_v, cL_v, cV_v, cR_v, wid, wid64, if_pos, if_neg, Nat.add_zero, if_true, if_false, and_self, and_true, true_and, and_false, false_and, or_true, true_or, or_false, false_or]
  · simp -implicitDefEqProofs (disch := omega) only [gi_wi, ↓reduceIte, Int.reduceEq, cI_v, cL_v, cV_v, cR_v, wid, wid64, if_pos, if_neg, Nat.add_zero, if_true, if_false, and_self, and_true, true_and, and_false, false_and, or_true, true_or, or_false, false_or]
    exact q1
set_option maxRecDepth 100000 in
theorem s_look (d : Nat) (h s : Nat) (A : AH) {H : Nat → Nat → Int} {row : Nat → Int} (b6 : HR A h H) (b7 : SR A s H row) (b8 : s + 4 < 180) : ∃ A', runF (d + 2) 1 [vR 10 180 0, vR 13 h 0, vR 19 s 0] A = some (none, A') ∧ BI A' h s H row (row 0) (row 2) (-1) ∧ frL A A' := by
  have hs0 : s ≠ 0 := b7.1
  have hh0 : h ≠ 0 := by have := b6.1; omega
  have h180 : h ≠ 180 := by have := b6.1; omega
  obtain ⟨A1, eA1⟩ : ∃ A1, A1 = wr (wr A 180 0 h) 180 1 s := ⟨_, rfl⟩
  have r0 : gr A1 180 0 = h := by rw [eA1]; simp [gr_wr]
  have r1 : gr A1 180 1 = s := by rw [eA1]; simp [gr_wr]
  have g1 : ∀ c j, gi A1 c j = gi A c j := fun c j => by rw [eA1]; rfl
  have g2 : ∀ c j, c ≠ 180 → gr A1 c j = gr A c j := fun c j hc => by rw [eA1]; simp [gr_wr, hc]
  obtain ⟨z, hz⟩ : ∃ z : Int, z = if gi A h 18 = 0 then 1 else 0 := ⟨_, rfl⟩
  obtain ⟨A2, eA2⟩ : ∃ A2, A2 = wi A1 180 2 z := ⟨_, rfl⟩
  have f2 : frL A A2 := ⟨fun c j hc => by rw [eA2]; simp -implicitDefEqProofs (disch := omega) only [gi_wi, ↓reduceIte, Int.reduceEq, cI_v, cL_v, cV_v, cR_v, wid, wid64, if_pos, if_neg, Nat.add_zero, if_true, if_false, and_self, and_true, true_and, and_false, false_and, or_true, true_or, or_false, false_or]; exact g1 c j, fun c j hc => by rw [eA2, gr_wi]; exact g2 c j hc, by rw [eA2, eA1]; rfl⟩
  obtain ⟨A3, eA3⟩ : ∃ A3, A3 = wi (wi (wi (wi A2 180 6 (row 0)) 180 5 (row 2)) 180 4 (-1)) 180 3 0 := ⟨_, rfl⟩
  have f3 : frL A A3 := ⟨fun c j hc => by rw [eA3]; simp -implicitDefEqProofs (disch := omega) only [gi_wi, ↓reduceIte, Int.reduceEq, cI_v, cL_v, cV_v, cR_v, wid, wid64, if_pos, if_neg, Nat.add_zero, if_true, if_false, and_self, and_true, true_and, and_false, false_and, or_true, true_or, or_false, false_or]; exact f2.1 c j hc, fun c j hc => by rw [eA3, gr_wi, gr_wi, gr_wi, gr_wi]; exact f2.2.1 c j hc, by rw [eA3]; exact f2.2.2⟩
  have n18 := b6.2.2.2.2.2.2.2.2.2.2.2.2.2.2
  refine ⟨A3, ?_, ⟨⟨⟨?_, ?_⟩, ⟨by rw [eA3]; simp -implicitDefEqProofs (disch := omega) only [gi_wi, ↓reduceIte, Int.reduceEq, cI_v, cL_v, cV_v, cR_v, wid, wid64, if_pos, if_neg, Nat.add_zero, if_true, if_false, and_self, and_true, true_and, and_false, false_and, or_true, true_or, or_false, false_or], by rw [eA3]; simp -implicitDefEqProofs (disch := omega) only [gi_wi, ↓reduceIte, Int.reduceEq, cI_v, cL_v, cV_v, cR_v, wid, wid64, if_pos, if_neg, Nat.add_zero, if_true, if_false, and_self, and_true, true_and, and_false, false_and, or_true, true_or, or_false, false_or], by rw [eA3]; simp -implicitDefEqProofs (disch := omega) only [gi_wi, ↓reduceIte, Int.reduceEq, cI_v, cL_v, cV_v, cR_v, wid, wid64, if_pos, if_neg, Nat.add_zero, if_true, if_false, and_self, and_true, true_and, and_false, false_and, or_true, true_or, or_false, false_or]⟩, HR_sc (frL_sc f3) b6, SR_fr (fun c j _ _ => f3.1 c j (by omega)) b7, b8⟩, ⟨?_, Or.inl (by rw [eA3]; simp -implicitDefEqProofs (disch := omega) only [gi_wi, ↓reduceIte, Int.reduceEq, cI_v, cL_v, cV_v, cR_v, wid, wid64, if_pos, if_neg, Nat.add_zero, if_true, if_false, and_self, and_true, true_and, and_false, false_and, or_true, true_or, or_false, false_or])⟩⟩, f3⟩
  · have e0 : gi A2 s 0 = row 0 := by rw [f2.1 s 0 (by omega)]; exact b7.2.1.1
    have e2 : gi A2 s 2 = row 2 := by rw [f2.1 s 2 (by omega)]; exact b7.2.1.2.2
    have r2 : gr A2 180 1 = s := by rw [eA2, gr_wi]; exact r1
    have sup : runF (d + 1) 2 [vR 10 180 0, vI (row 0), vI (row 2), vI (-1)] A2 = some (none, A3) := by
      rw [r_X0_suppose, q_X0_suppose_0]
      simp -implicitDefEqProofs (disch := omega) only [q_X0_suppose_10, q_X0_suppose_20, ↓reduceIte, Int.reduceEq, cI_v, cL_v, cV_v, cR_v, wid, wid64, if_pos, if_neg, Nat.add_zero, if_true, if_false, and_self, and_true, true_and, and_false, false_and, or_true, true_or, or_false, false_or]
      rw [eA3]
    rw [r_X0_look, q_X0_look_0 _ _ _ _ _ _ hh0 hs0, ← eA1]
    simp -implicitDefEqProofs (disch := omega) only [↓reduceIte, Int.reduceEq, cI_v, cL_v, cV_v, cR_v, wid, wid64, if_pos, if_neg, Nat.add_zero, if_true, if_false, and_self, and_true, true_and, and_false, false_and, or_true, true_or, or_false, false_or]
    rw [q_X0_look_10 _ _ _ _ _ _ hh0 hs0, r0, g1]
    simp -implicitDefEqProofs (disch := omega) only [↓reduceIte, Int.reduceEq, cI_v, cL_v, cV_v, cR_v, wid, wid64, if_pos, if_neg, Nat.add_zero, if_true, if_false, and_self, and_true, true_and, and_false, false_and, or_true, true_or, or_false, false_or]
    by_cases c : gi A h 18 = 0
    · rw [if_pos c] at hz
      simp -implicitDefEqProofs (disch := omega) only [↓reduceIte, Int.reduceEq, cI_v, cL_v, cV_v, cR_v, wid, wid64, if_pos, if_neg, Nat.add_zero, if_true, if_false, and_self, and_true, true_and, and_false, false_and, or_true, true_or, or_false, false_or]
      rw [q_X0_look_26 _ _ _ _ _ _ _ hh0 hs0, ← hz, ← eA2, r2, e0, e2]
      simp -implicitDefEqProofs (disch := omega) only [sup, hz, ↓reduceIte, Int.reduceEq, cI_v, cL_v, cV_v, cR_v, wid, wid64, if_pos, if_neg, Nat.add_zero, if_true, if_false, and_self, and_true, true_and, and_false, false_and, or_true, true_or, or_false, false_or]
    · rw [if_neg c] at hz
      simp -implicitDefEqProofs (disch := omega) only [↓reduceIte, Int.reduceEq, cI_v, cL_v, cV_v, cR_v, wid, wid64, if_pos, if_neg, Nat.add_zero, if_true, if_false, and_self, and_true, true_and, and_false, false_and, or_true, true_or, or_false, false_or]
      rw [q_X0_look_26 _ _ _ _ _ _ _ hh0 hs0, ← hz, ← eA2, r2, e0, e2]
      simp -implicitDefEqProofs (disch := omega) only [sup, hz, ↓reduceIte, Int.reduceEq, cI_v, cL_v, cV_v, cR_v, wid, wid64, if_pos, if_neg, Nat.add_zero, if_true, if_false, and_self, and_true, true_and, and_false, false_and, or_true, true_or, or_false, false_or]
  · rw [eA3, gr_wi, gr_wi, gr_wi, gr_wi, eA2, gr_wi]; exact r0
  · rw [eA3, gr_wi, gr_wi, gr_wi, gr_wi, eA2, gr_wi]; exact r1
  · rw [eA3, eA2]
    simp -implicitDefEqProofs (disch := omega) only [gi_wi, ↓reduceIte, Int.reduceEq, cI_v, cL_v, cV_v, cR_v, wid, wid64, if_pos, if_neg, Nat.add_zero, if_true, if_false, and_self, and_true, true_and, and_false, false_and, or_true, true_or, or_false, false_or]
    by_cases c : gi A h 18 = 0
    · rw [if_pos c] at hz
      exact Or.inr ⟨hz, n18.2 c⟩
    · rw [if_neg c] at hz
      exact Or.inl hz
/-- what n minutes from m on move the scale by on the mean -/
def mnS (H : Nat → Nat → Int) (row : Nat → Int) (m a q : Int) (n : Nat) : Int := sm (fun k => mnF H row k a q) n m
theorem mnS_bd {H : Nat → Nat → Int} {row : Nat → Int} (hc : cok H) (hh : hok H) (m a q : Int) (n : Nat) : -3196800 * n ≤ mnS H row m a q n ∧ mnS H row m a q n ≤ 3196800 * n := by
  have h := sm_bd (f := fun k => mnF H row k a q) (lo := -3196800) (hi := 3196800) n m (fun j _ _ => mn_bd hc hh j a q)
  unfold mnS
  omega
def frS (A B : AH) : Prop := (∀ a j, ¬ (180 ≤ a ∧ a ≤ 184) → gi B a j = gi A a j) ∧ (∀ a j, gr B a j = gr A a j) ∧ B.2.2 = A.2.2
theorem frS_refl (A : AH) : frS A A := ⟨fun _ _ _ => rfl, fun _ _ => rfl, rfl⟩
theorem frS_trans {A B C : AH} (h1 : frS A B) (h2 : frS B C) : frS A C := ⟨fun a j r => (h2.1 a j r).trans (h1.1 a j r), fun a j => (h2.2.1 a j).trans (h1.2.1 a j), h2.2.2.trans h1.2.2⟩
theorem frT_frS {A B : AH} (h : frT A B) : frS A B := ⟨fun a j r => h.1 a j (by omega) (by omega), h.2.1, h.2.2⟩
theorem frS_sc {A B : AH} (h : frS A B) : sc A B := ⟨fun a j q => h.1 a j (by unfold scr at q; omega), fun a j _ => h.2.1 a j, h.2.2⟩
/-- another minute, the rest as it is -/
theorem BI_min {A : AH} {h s : Nat} {H : Nat → Nat → Int} {row : Nat → Int} {m a q : Int} (b : BI A h s H row m a q) (m' : Int) : BI (wi A 180 6 m') h s H row m' a q := by
  obtain ⟨⟨b1, ⟨b3, b4, b5⟩, b6, b7, b8⟩, q1, q2⟩ := b
  have f : sc A (wi A 180 6 m') := sc_wi A m' (by unfold scr; omega)
  refine ⟨⟨b1, ⟨by simp -implicitDefEqProofs (disch := omega) only [gi_wi, ↓reduceIte, Int.reduceEq, cI_v, cL_v, cV_v, cR_v, wid, wid64, if_pos, if_neg, Nat.add_zero, if_true, if_false, and_self, and_true, true_and, and_false, false_and, or_true, true_or, or_false, false_or], by simp -implicitDefEqProofs (disch := omega) only [gi_wi, ↓reduceIte, Int.reduceEq, cI_v, cL_v, cV_v, cR_v, wid, wid64, if_pos, if_neg, Nat.add_zero, if_true, if_false, and_self, and_true, true_and, and_false, false_and, or_true, true_or, or_false, false_or]; exact b4, by simp -implicitDefEqProofs (disch := omega) only [gi_wi, ↓reduceIte, Int.reduceEq, cI_v, cL_v, cV_v, cR_v, wid, wid64, if_pos, if_neg, Nat.add_zero, if_true, if_false, and_self, and_true, true_and, and_false, false_and, or_true, true_or, or_false, false_or]; exact b5⟩, HR_sc f b6, SR_fr (fun c j _ _ => by simp -implicitDefEqProofs (disch := omega) only [gi_wi, ↓reduceIte, Int.reduceEq, cI_v, cL_v, cV_v, cR_v, wid, wid64, if_pos, if_neg, Nat.add_zero, if_true, if_false, and_self, and_true, true_and, and_false, false_and, or_true, true_or, or_false, false_or]) b7, b8⟩, ⟨by simp -implicitDefEqProofs (disch := omega) only [gi_wi, ↓reduceIte, Int.reduceEq, cI_v, cL_v, cV_v, cR_v, wid, wid64, if_pos, if_neg, Nat.add_zero, if_true, if_false, and_self, and_true, true_and, and_false, false_and, or_true, true_or, or_false, false_or]; exact q1, ?_⟩⟩
  simp -implicitDefEqProofs (disch := omega) only [gi_wi, ↓reduceIte, Int.reduceEq, cI_v, cL_v, cV_v, cR_v, wid, wid64, if_pos, if_neg, Nat.add_zero, if_true, if_false, and_self, and_true, true_and, and_false, false_and, or_true, true_or, or_false, false_or]
  rcases q2 with q2 | ⟨q2, q3, m0, q4, q5⟩
  · exact Or.inl q2
  · exact Or.inr ⟨q2, q3, m0, q4, fun x hx => by simp -implicitDefEqProofs (disch := omega) only [gi_wi, ↓reduceIte, Int.reduceEq, cI_v, cL_v, cV_v, cR_v, wid, wid64, if_pos, if_neg, Nat.add_zero, if_true, if_false, and_self, and_true, true_and, and_false, false_and, or_true, true_or, or_false, false_or]; exact q5 x hx⟩
set_option maxRecDepth 100000 in
theorem l_meanOfC (d : Nat) {h s : Nat} {H : Nat → Nat → Int} {row : Nat → Int} {m a q : Int} (N : Int) (g : gok H row) (ha1 : -1 ≤ a) (ha2 : a < nPo H) (hm1 : 0 ≤ m) (hm2 : m + N ≤ 1500) : ∀ (j n : Nat) (k y : Int) (m0 : Int) (A : AH), 0 ≤ k → k + j = N → -100000000 - 3196800 * k ≤ y → y ≤ 100000000 + 3196800 * k → BI A h s H row m0 a q → 10 * j + 10 ≤ n → ∃ A', go true 1 (runF (d + 6)) (runN (d + 6)) pb_X0_meanOf n 21 [vR 10 180 0, vI N, vI m, vL y, vS, vI k] [] A = some (some (vL (y + sm (fun k => mnF H row k a q) j (m + k))), A') ∧ BI A' h s H row m a q ∧ frS A A' := by
  intro j
  induction j with
  | zero =>
    intro n k y m0 A h1 h2 h3 h4 b hn
    obtain ⟨n, rfl⟩ : ∃ e, n = e + 10 := ⟨n - 10, by omega⟩
    refine ⟨wi A 180 6 m, ?_, BI_min b m, ⟨fun c i hc => by simp -implicitDefEqProofs (disch := omega) only [gi_wi, ↓reduceIte, Int.reduceEq, cI_v, cL_v, cV_v, cR_v, wid, wid64, if_pos, if_neg, Nat.add_zero, if_true, if_false, and_self, and_true, true_and, and_false, false_and, or_true, true_or, or_false, false_or], fun _ _ => rfl, rfl⟩⟩
    rw [q_X0_meanOf_21]; simp -implicitDefEqProofs (disch := omega) only [sm, Int.add_zero, ↓reduceIte, Int.reduceEq, cI_v, cL_v, cV_v, cR_v, wid, wid64, if_pos, if_neg, Nat.add_zero, if_true, if_false, and_self, and_true, true_and, and_false, false_and, or_true, true_or, or_false, false_or]
  | succ j ih =>
    intro n k y m0 A h1 h2 h3 h4 b hn
    obtain ⟨n, rfl⟩ : ∃ e, n = e + 10 := ⟨n - 10, by omega⟩
    have b1 := BI_min b (m + k)
    obtain ⟨A2, e1, e2, e3, e4⟩ := s_tally d _ b1.1 g ha1 ha2 (by omega) (by omega) b1.2
    have b2 := BS_frT e4 b1.1
    have e5 := s_meanSwing (d + 4) A2 b2 g e2
    have bd := mn_bd (row := row) g.1 g.2.1 (m + k) a q
    obtain ⟨A', u1, u2, u3⟩ := ih (n + 8) (k + 1) (y + mnF H row (m + k) a q) (m + k) A2 (by omega) (by omega) (by omega) (by omega) ⟨b2, e3⟩ (by omega)
    have f0 : frS A (wi A 180 6 (m + k)) := ⟨fun c i hc => by simp -implicitDefEqProofs (disch := omega) only [gi_wi, ↓reduceIte, Int.reduceEq, cI_v, cL_v, cV_v, cR_v, wid, wid64, if_pos, if_neg, Nat.add_zero, if_true, if_false, and_self, and_true, true_and, and_false, false_and, or_true, true_or, or_false, false_or], fun _ _ => rfl, rfl⟩
    refine ⟨A', ?_, u2, frS_trans f0 (frS_trans (frT_frS e4) u3)⟩
    rw [q_X0_meanOf_21]
    simp -implicitDefEqProofs (disch := omega) only [q_X0_meanOf_35, e1, e5, ↓reduceIte, Int.reduceEq, cI_v, cL_v, cV_v, cR_v, wid, wid64, if_pos, if_neg, Nat.add_zero, if_true, if_false, and_self, and_true, true_and, and_false, false_and, or_true, true_or, or_false, false_or]
    rw [u1, sm, Int.add_assoc y, Int.add_assoc m]
set_option maxRecDepth 100000 in
theorem s_meanOfC (d : Nat) (N : Int) (A : AH) {h s : Nat} {H : Nat → Nat → Int} {row : Nat → Int} {m a q : Int} (b : BI A h s H row m a q) (g : gok H row) (ha1 : -1 ≤ a) (ha2 : a < nPo H) (hm1 : 0 ≤ m) (hm2 : m + N ≤ 1500) (hN : 0 ≤ N) (hs1 : -100000 ≤ row 1) (hs2 : row 1 ≤ 100000) : ∃ A', runF (d + 7) 10 [vR 10 180 0, vI N] A = some (some (vL (100 * row 1 + mnS H row m a q N.toNat)), A') ∧ BI A' h s H row m a q ∧ frS A A' := by
  have hs0 : s ≠ 0 := b.1.2.2.2.1.1
  have e1 := b.1.2.2.2.1.2.1.2.1
  obtain ⟨A', u1, u2, u3⟩ := l_meanOfC d N g ha1 ha2 hm1 hm2 N.toNat (fu + 199) 0 (100 * row 1) m A (by omega) (by omega) (by omega) (by omega) b (by have := fu_ge; omega)
  refine ⟨A', ?_, u2, u3⟩
  rw [r_X0_meanOf, q_X0_meanOf_0, b.1.1.2, e1, b.1.2.1.1]
  simp -implicitDefEqProofs (disch := omega) only [↓reduceIte, Int.reduceEq, cI_v, cL_v, cV_v, cR_v, wid, wid64, if_pos, if_neg, Nat.add_zero, if_true, if_false, and_self, and_true, true_and, and_false, false_and, or_true, true_or, or_false, false_or]
  rw [u1, Int.add_zero]; rfl
