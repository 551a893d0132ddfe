/-! the text of a hall: the reference reads a person -/
def ry (a j : Nat) : Prop := (a = 190 ∧ (j = 2 ∨ j = 4 ∨ j = 5 ∨ j = 6 ∨ j = 10 ∨ j = 42 ∨ j = 52 ∨ j = 55 ∨ j = 57 ∨ j = 58 ∨ j = 59)) ∨ (a = 224 ∧ j < 6) ∨ (a = 225 ∧ j < 24) ∨ (a = 226 ∧ j < 32) ∨ (a = 227 ∧ j < 12) ∨ (a = 228 ∧ j < 8) ∨ (a = 229 ∧ j < 18) ∨ (a = 230 ∧ j < 16) ∨ (a = 231 ∧ j < 2) ∨ (a = 232 ∧ j < 2) ∨ (a = 233 ∧ j < 1600) ∨ a = 234
def frY (A B : AH) : Prop := (∀ a j, ¬ ry a j → gi B a j = gi A a j) ∧ (∀ a j, gr B a j = gr A a j) ∧ B.2.2 = A.2.2
theorem frY_refl (A : AH) : frY A A := ⟨fun _ _ _ => rfl, fun _ _ => rfl, rfl⟩
theorem frY_trans {A B C : AH} (f : frY A B) (g : frY B C) : frY A C := ⟨fun a j x => (g.1 a j x).trans (f.1 a j x), fun a j => (g.2.1 a j).trans (f.2.1 a j), g.2.2.trans f.2.2⟩
theorem frZ_Y {A B : AH} (f : frZ A B) : frY A B := ⟨fun a j x => f.1 a j (fun y => x (Or.inl ⟨y.1, by have := y.2; omega⟩)), f.2.1, f.2.2⟩
theorem frY_wi {A B : AH} (a k : Nat) (v : Int) (h : ry a k) (f : frY A B) : frY A (wi B a k v) := frY_trans f ⟨fun b j x => by rw [gi_wi, if_neg (fun y => x (by rw [y.1, y.2]; exact h))], fun _ _ => rfl, rfl⟩
def SMo (T : Nat → Int) (L : Nat) (A : AH) (cd : Nat) (x : RS) (e : HG) : Prop := (∀ k s, e = .error (k, s) → ∃ B, x = some (none, B) ∧ MB A B k s) ∧ (∀ H' p' t', e = .ok (H', p', t') → ∃ B, x = some (none, B) ∧ MdS B T L p' t' ∧ MR B H' cd ∧ gi B 190 52 = gi A 190 52 ∧ frY A B)
theorem MR_pers {A B : AH} {H : Nat → Nat → Int} {cd P : Nat} {v ke it pa se : Int} (m : MR A H cd) (hP8 : P < 8) (g : ∀ a j, 224 ≤ a → a ≤ 233 → ¬ (a = 224 ∧ j = 0) → ¬ (a = 225 ∧ j = P) → ¬ (a = 226 ∧ 4 * P ≤ j ∧ j < 4 * P + 4) → gi B a j = gi A a j) (g55 : gi B 190 55 = gi A 190 55) (e0 : gi B 224 0 = ((P + 1 : Nat) : Int)) (e1 : gi B 225 P = v) (e2 : gi B 226 (4 * P) = ke) (e3 : gi B 226 (4 * P + 1) = it) (e4 : gi B 226 (4 * P + 2) = pa) (e5 : gi B 226 (4 * P + 3) = se) : MR B (persH H P v ke it pa se) cd := by
  obtain ⟨m1, m2, m3, m4, m5, m6, m7, m8, m9, m10, m11⟩ := m
  have o := persH_o H P v ke it pa se
  obtain ⟨q1, q2, q3, q4, q5, q6⟩ := persH_v H P v ke it pa se
  refine ⟨fun j h => ?_, fun j h => ?_, fun j h => ?_, fun j h => ?_, fun j h => ?_, fun j h => ?_, fun j h => ?_, fun j h => ?_, fun j h => ?_, fun j h => ?_, g55.trans m11⟩
  · by_cases c : j = 0
    · rw [c, e0]; exact q1.symm
    · rw [g 224 j (by omega) (by omega) (by omega) (by omega) (by omega), o 224 _ (by omega) (by omega) (by omega)]; exact m1 j h
  · by_cases c : j = P
    · rw [c, e1]; exact q2.symm
    · rw [g 225 j (by omega) (by omega) (by omega) (by omega) (by omega), o 225 _ (by omega) (by omega) (by omega)]; exact m2 j h
  · by_cases c1 : j = 4 * P
    · rw [c1, e2, q3]
    · by_cases c2 : j = 4 * P + 1
      · rw [c2, e3, show 32 + (4 * P + 1) = 33 + 4 * P by omega, q4]
      · by_cases c3 : j = 4 * P + 2
        · rw [c3, e4, show 32 + (4 * P + 2) = 34 + 4 * P by omega, q5]
        · by_cases c4 : j = 4 * P + 3
          · rw [c4, e5, show 32 + (4 * P + 3) = 35 + 4 * P by omega, q6]
          · rw [g 226 j (by omega) (by omega) (by omega) (by omega) (by omega), o 226 _ (by omega) (by omega) (by omega)]; exact m3 j h
  · rw [g 227 j (by omega) (by omega) (by omega) (by omega) (by omega), o 227 _ (by omega) (by omega) (by omega)]; exact m4 j h
  · rw [g 228 j (by omega) (by omega) (by omega) (by omega) (by omega), o 228 _ (by omega) (by omega) (by omega)]; exact m5 j h
  · rw [g 229 j (by omega) (by omega) (by omega) (by omega) (by omega), o 229 _ (by omega) (by omega) (by omega)]; exact m6 j h
  · rw [g 230 j (by omega) (by omega) (by omega) (by omega) (by omega), o 230 _ (by omega) (by omega) (by omega)]; exact m7 j h
  · rw [g 231 j (by omega) (by omega) (by omega) (by omega) (by omega), o 231 _ (by omega) (by omega) (by omega)]; exact m8 j h
  · rw [g 232 j (by omega) (by omega) (by omega) (by omega) (by omega), o 232 _ (by omega) (by omega) (by omega)]; exact m9 j h
  · rw [g 233 j (by omega) (by omega) (by omega) (by omega) (by omega), o 233 _ (by omega) (by omega) (by omega)]; exact m10 j h
theorem p91B (d : Nat) (P : Nat) (hP : P ≤ 8) (x1 y2 x4 x5 x6 x7 : Int) (A : AH) (hb : gi A 190 5 ≠ 0) (h0 : gi A 224 0 = P) : ∀ (j n : Nat) (k : Int), 0 ≤ k → k + j = P → 3 * j + 10 ≤ n → go true 3 (runF d) (runN d) pb_X12_personTold n 91 [vR 21 190 0, vI x1, vL y2, vS, vI x4, vI x5, vI x6, vI x7, vI k] [] A = some (none, A) := by
  intro j
  induction j with
  | zero =>
    intro n k h1 h2 hn
    obtain ⟨n, rfl⟩ : ∃ e, n = e + 10 := ⟨n - 10, by omega⟩
    rw [q_X12_personTold_91, h0, if_neg (by omega), if_neg hb]
  | succ j ih =>
    intro n k h1 h2 hn
    obtain ⟨n, rfl⟩ : ∃ e, n = e + 10 := ⟨n - 10, by omega⟩
    rw [q_X12_personTold_91, h0, if_pos (by omega), if_neg hb, q_X12_personTold_134, wid (by omega) (by omega), Nat.add_zero (n + 8)]
    exact ih (n + 8) (k + 1) (by omega) (by omega) (by omega)
theorem p91 (d : Nat) {T : Nat → Int} {L p : Nat} {t : Bool} {H : Nat → Nat → Int} {cd : Nat} (P : Nat) (hP : P < 8) (x1 y2 x4 x5 x6 x7 : Int) (A : AH) (m : MdS A T L p t) (mr : MR A H cd) (hn0 : nPe H = P) : ∀ (j n : Nat) (k : Int), 0 ≤ k → k + j = P → 3 * j + 40 ≤ n → (ex (fun k => decide (H 226 (35 + 4 * k).toNat = x7)) j k = true → ∃ B, go true 3 (runF (d + 1)) (runN (d + 1)) pb_X12_personTold n 91 [vR 21 190 0, vI x1, vL y2, vS, vI x4, vI x5, vI x6, vI x7, vI k] [] A = some (none, B) ∧ MB A B 2 (gi A 190 10)) ∧ (ex (fun k => decide (H 226 (35 + 4 * k).toNat = x7)) j k = false → go true 3 (runF (d + 1)) (runN (d + 1)) pb_X12_personTold n 91 [vR 21 190 0, vI x1, vL y2, vS, vI x4, vI x5, vI x6, vI x7, vI k] [] A = some (none, wi (wi (wi (wi (wi (wi A 225 P y2) 226 (4 * P) x4) 226 (4 * P + 1) x5) 226 (4 * P + 2) x6) 226 (4 * P + 3) x7) 224 0 ((P + 1 : Nat) : Int))) := by
  have h0 : gi A 224 0 = P := (MR_n mr).1.trans hn0
  have m5 := m.2.2.1
  intro j
  induction j with
  | zero =>
    intro n k h1 h2 hn
    obtain ⟨n, rfl⟩ : ∃ e, n = e + 40 := ⟨n - 40, by omega⟩
    refine ⟨fun h => absurd (show (false : Bool) = true from h) (by decide), fun _ => ?_⟩
    rw [q_X12_personTold_91, h0, if_neg (by omega), if_pos m5, q_X12_personTold_148, h0, if_pos (by omega), Int.toNat_natCast, wid (by omega) (by omega), q_X12_personTold_170]
    have w1 : w32 (4 * (P : Int) + 1) = ((4 * P + 1 : Nat) : Int) := by rw [wid (by omega) (by omega)]; omega
    have w2 : w32 (4 * (P : Int) + 2) = ((4 * P + 2 : Nat) : Int) := by rw [wid (by omega) (by omega)]; omega
    have w3 : w32 (4 * (P : Int) + 3) = ((4 * P + 3 : Nat) : Int) := by rw [wid (by omega) (by omega)]; omega
    simp only [w1]
    rw [if_pos (by omega), if_pos (by omega), Int.toNat_natCast, show (4 * (P : Int)).toNat = 4 * P by omega, q_X12_personTold_190]
    simp only [w2]
    rw [if_pos (by omega), Int.toNat_natCast, q_X12_personTold_201]
    simp only [w3]
    have z0 : gi (wi (wi (wi (wi (wi A 225 P y2) 226 (4 * P) x4) 226 (4 * P + 1) x5) 226 (4 * P + 2) x6) 226 (4 * P + 3) x7) 224 0 = P := by simp -implicitDefEqProofs (disch := omega) only [gi_wi, ↓reduceIte, Int.reduceEq, cI_v, cL_v, cV_v, cR_v, wid, wid64, if_pos, if_neg, Nat.add_zero, if_true, if_false, and_self, and_true, true_and, and_false, false_and, or_true, true_or, or_false, false_or]; exact h0
    rw [if_pos (by omega), Int.toNat_natCast, q_X12_personTold_212, z0, wid (by omega) (by omega), q_X12_personTold_222, show (P : Int) + 1 = ((P + 1 : Nat) : Int) by omega]
  | succ j ih =>
    intro n k h1 h2 hn
    obtain ⟨n, rfl⟩ : ∃ e, n = e + 40 := ⟨n - 40, by omega⟩
    have w3 : w32 (w32 (4 * k) + 3) = 4 * k + 3 := by rw [wid (x := 4 * k) (by omega) (by omega), wid (by omega) (by omega)]
    have ev : gi A 226 (4 * k + 3).toNat = H 226 (35 + 4 * k).toNat := by rw [mr.2.2.1 _ (by omega)]; congr 1; omega
    have st := q_X12_personTold_91 (runF (d + 1)) (runN (d + 1)) (n + 38) x1 y2 x4 x5 x6 x7 k A
    rw [h0, if_pos (by omega), if_pos m5] at st
    simp only [w3, ev] at st
    rw [if_pos (by omega)] at st
    have ee : ex (fun k => decide (H 226 (35 + 4 * k).toNat = x7)) (j + 1) k = (decide (H 226 (35 + 4 * k).toNat = x7) || ex (fun k => decide (H 226 (35 + 4 * k).toNat = x7)) j (k + 1)) := rfl
    rw [ee]
    by_cases c : H 226 (35 + 4 * k).toNat = x7
    · rw [decide_eq_true c, Bool.true_or]
      refine ⟨fun _ => ⟨wi (wi A 190 5 2) 190 6 (gi A 190 10), ?_, MB_f A 2 _ (by decide)⟩, fun h => by cases h⟩
      rw [st, if_pos c, s_failM _ _ _ _ m5, cV_v, q_X12_personTold_134, wid (by omega) (by omega), Nat.add_zero (n + 38)]
      exact p91B (d + 1) P (by omega) x1 y2 x4 x5 x6 x7 _ (by simp -implicitDefEqProofs (disch := omega) only [gi_wi, ↓reduceIte, Int.reduceEq, cI_v, cL_v, cV_v, cR_v, wid, wid64, if_pos, if_neg, Nat.add_zero, if_true, if_false, and_self, and_true, true_and, and_false, false_and, or_true, true_or, or_false, false_or]; omega) (by simp -implicitDefEqProofs (disch := omega) only [gi_wi, ↓reduceIte, Int.reduceEq, cI_v, cL_v, cV_v, cR_v, wid, wid64, if_pos, if_neg, Nat.add_zero, if_true, if_false, and_self, and_true, true_and, and_false, false_and, or_true, true_or, or_false, false_or]; exact h0) j (n + 38) (k + 1) (by omega) (by omega) (by omega)
    · rw [decide_eq_false c, Bool.false_or]
      obtain ⟨i1, i2⟩ := ih (n + 38) (k + 1) (by omega) (by omega) (by omega)
      have e : go true 3 (runF (d + 1)) (runN (d + 1)) pb_X12_personTold (n + 40) 91 [vR 21 190 0, vI x1, vL y2, vS, vI x4, vI x5, vI x6, vI x7, vI k] [] A = go true 3 (runF (d + 1)) (runN (d + 1)) pb_X12_personTold (n + 38) 91 [vR 21 190 0, vI x1, vL y2, vS, vI x4, vI x5, vI x6, vI x7, vI (k + 1)] [] A := by
        rw [st, if_neg c, q_X12_personTold_134, wid (by omega) (by omega)]
      exact ⟨fun h => by rw [e]; exact i1 h, fun h => by rw [e]; exact i2 h⟩
theorem p59B (d : Nat) (P : Nat) (hP : P ≤ 8) (x1 y2 x4 x5 : Int) (u6 u7 u8 : AV) (A : AH) (hb : gi A 190 5 ≠ 0) (h0 : gi A 224 0 = P) : go true 3 (runF (d + 3)) (runN (d + 3)) pb_X12_personTold (fu + 198) 59 [vR 21 190 0, vI x1, vL y2, vS, vI x4, vI x5, u6, u7, u8] [] A = some (none, A) := by
  rw [q_X12_personTold_59, partyB _ _ hb, cI_v, s_asksB _ _ _ _ (by decide) hb, cV_v, s_numberB _ _ _ _ hb, cI_v, Nat.add_zero (fu + 197)]
  exact p91B (d + 3) P hP x1 y2 x4 x5 2 0 A hb h0 P (fu + 197) 0 (by omega) (by omega) (by have := fu_ge; omega)
set_option maxRecDepth 100000 in
theorem s_personM (d : Nat) {T : Nat → Int} {L p : Nat} {t : Bool} {H : Nat → Nat → Int} {cd : Nat} (bg : Int) (A : AH) (hc : cok H) (mr : MR A H cd) (m : MdS A T L p t) (h8 : nPe H < 8) : SMo T L A cd (runF (d + 6) 169 [vR 21 190 0, vI bg] A) (persG T L H p t) := by
  have hc' := hc
  unfold cok at hc'
  obtain ⟨P, hP⟩ : ∃ P : Nat, nPe H = P := ⟨(nPe H).toNat, by omega⟩
  have hf := (s_isFull (d + 3) 0 (by omega) 8 bg A m).1 (by rw [(MR_n mr).1]; omega)
  rw [show ((0 : Nat) : Int) = 0 from rfl] at hf
  obtain ⟨v1, v2⟩ := s_newName d A hc mr m
  have z0 : ∀ B, frZ A B → gi B 224 0 = P := fun B f => by rw [f.1 224 0 (by omega)]; exact (MR_n mr).1.trans hP
  unfold persG
  cases hG : giveG T L H p t with
  | error y =>
    obtain ⟨k0, s0⟩ := y
    obtain ⟨v, B, b1, b2⟩ := v1 k0 s0 hG
    have hb : gi B 190 5 ≠ 0 := by rw [b2.1]; exact b2.2.2.1
    refine ⟨(fun k s q => ?_), (fun H' p' t' q => by cases q)⟩
    injection q with q; injection q with q1 q2
    subst q1 q2
    refine ⟨B, ?_, b2⟩
    rw [r_X12_personTold, q_X12_personTold_0, hf, cI_v, if_pos rfl, b1, cL_v, s_asksB _ _ _ _ (by decide) hb, cV_v, s_numberB _ _ _ _ hb, cI_v, s_asksB _ _ _ _ (by decide) hb, cV_v, s_numberB _ _ _ _ hb, cI_v, s_asksB _ _ _ _ (by decide) hb, cV_v]
    exact p59B (d + 2) P (by omega) bg v 0 0 _ _ _ B hb (z0 B b2.2.2.2)
  | ok y =>
    obtain ⟨v, p1, t1⟩ := y
    obtain ⟨B, b1, b2, b3⟩ := v2 v p1 t1 hG
    obtain ⟨C, ke0, D, c1, c2, _, c4, c5⟩ := tellM (d + 1) 195 5 3 1 99 B b2 (by omega) (by decide) (by decide)
    simp only
    cases hG2 : tellG T L p1 t1 3 1 99 with
    | error y =>
      obtain ⟨k0, s0⟩ := y
      have e := c4 k0 s0 hG2
      have hb : gi D 190 5 ≠ 0 := by rw [e.1]; exact e.2.2.1
      refine ⟨(fun k s q => ?_), (fun H' p' t' q => by cases q)⟩
      injection q with q; injection q with q1 q2
      subst q1 q2
      refine ⟨D, ?_, MB_t b3 e⟩
      rw [r_X12_personTold, q_X12_personTold_0, hf, cI_v, if_pos rfl, b1, cL_v, c1, cV_v, c2, cI_v, s_asksB _ _ _ _ (by decide) hb, cV_v, s_numberB _ _ _ _ hb, cI_v, s_asksB _ _ _ _ (by decide) hb, cV_v]
      exact p59B (d + 2) P (by omega) bg v ke0 0 _ _ _ D hb (z0 D (frZ_trans b3 e.2.2.2))
    | ok y =>
      obtain ⟨ke, pl1, p2, t2⟩ := y
      obtain ⟨rfl, d2, d3, d4⟩ := c5 ke pl1 p2 t2 hG2
      obtain ⟨E, it0, F, f1, f2, _, f4, f5⟩ := tellM (d + 1) 196 6 4 0 100 D d2 (by omega) (by decide) (by decide)
      simp only
      cases hG3 : tellG T L p2 t2 4 0 100 with
      | error y =>
        obtain ⟨k0, s0⟩ := y
        have e := f4 k0 s0 hG3
        have hb : gi F 190 5 ≠ 0 := by rw [e.1]; exact e.2.2.1
        refine ⟨(fun k s q => ?_), (fun H' p' t' q => by cases q)⟩
        injection q with q; injection q with q1 q2
        subst q1 q2
        refine ⟨F, ?_, MB_t (frZ_trans b3 d3) e⟩
        rw [r_X12_personTold, q_X12_personTold_0, hf, cI_v, if_pos rfl, b1, cL_v, c1, cV_v, c2, cI_v, f1, cV_v, f2, cI_v, s_asksB _ _ _ _ (by decide) hb, cV_v]
        exact p59B (d + 2) P (by omega) bg v ke0 it0 _ _ _ F hb (z0 F (frZ_trans b3 (frZ_trans d3 e.2.2.2)))
      | ok y =>
        obtain ⟨it, pl2, p3, t3⟩ := y
        obtain ⟨rfl, g2, g3, g4⟩ := f5 it pl2 p3 t3 hG3
        have fAF : frZ A F := frZ_trans b3 (frZ_trans d3 g3)
        have kw := s_asks (d + 1) 197 3 5 F g2 (by omega) (by decide) (by decide)
        simp only
        cases hG4 : tkW T L p3 t3 5 with
        | error y =>
          obtain ⟨k0, s0⟩ := y
          rw [hG4] at kw
          obtain ⟨G, w1, w2⟩ := kw
          have hb : gi G 190 5 ≠ 0 := by rw [w2.1]; exact w2.2.2.1
          refine ⟨(fun k s q => ?_), (fun H' p' t' q => by cases q)⟩
          injection q with q; injection q with q1 q2
          subst q1 q2
          refine ⟨G, ?_, MB_t fAF w2⟩
          rw [r_X12_personTold, q_X12_personTold_0, hf, cI_v, if_pos rfl, b1, cL_v, c1, cV_v, c2, cI_v, f1, cV_v, f2, cI_v, w1, cV_v]
          exact p59B (d + 2) P (by omega) bg v ke0 it0 _ _ _ G hb (z0 G (frZ_trans fAF w2.2.2.2))
        | ok y =>
          obtain ⟨p4, t4⟩ := y
          rw [hG4] at kw
          obtain ⟨G, w1, w2, w3⟩ := kw
          have fAG : frZ A G := frZ_trans fAF w3
          obtain ⟨y1, y2⟩ := s_partyHere d G w2
          have e59 : ∀ R, go true 3 (runF (d + 5)) (runN (d + 5)) pb_X12_personTold (fu + 198) 59 [vR 21 190 0, vI bg, vL v, vS, vI ke0, vI it0, vU, vU, vU] [] G = R → runF (d + 6) 169 [vR 21 190 0, vI bg] A = R := by
            intro R hR
            rw [r_X12_personTold, q_X12_personTold_0, hf, cI_v, if_pos rfl, b1, cL_v, c1, cV_v, c2, cI_v, f1, cV_v, f2, cI_v, w1, cV_v]
            exact hR
          simp only
          by_cases cp : partyW (wrd T L p4 t4) = -1
          · rw [if_pos cp]
            obtain ⟨J, j1, j2⟩ := y1 cp
            have hb : gi J 190 5 ≠ 0 := by rw [j2.1]; omega
            refine ⟨(fun k s q => ?_), (fun H' p' t' q => by cases q)⟩
            injection q with q; injection q with q1 q2
            subst q1 q2
            refine ⟨J, e59 _ ?_, MB_t fAG j2⟩
            rw [q_X12_personTold_59, j1, cI_v, s_asksB _ _ _ _ (by decide) hb, cV_v, s_numberB _ _ _ _ hb, cI_v, Nat.add_zero (fu + 197)]
            exact p91B (d + 5) P (by omega) bg v ke0 it0 2 0 J hb (z0 J (frZ_trans fAG j2.2.2.2)) P (fu + 197) 0 (by omega) (by omega) (by have := fu_ge; omega)
          · rw [if_neg cp]
            obtain ⟨J, j1, j2, j3⟩ := y2 cp
            have fAJ : frZ A J := frZ_trans fAG j3
            obtain ⟨K, se0, M, k1, k2, k3, k4, k5⟩ := tellM (d + 1) 201 2 9 0 (nSe H - 1) J j2 (by omega) (by decide) (by decide)
            have eN : w32 (gi K 224 5 - 1) = nSe H - 1 := by
              rw [k3.1 224 5 (by omega), fAJ.1 224 5 (by omega), (MR_n mr).2.2.2.2.2, wid (by omega) (by omega)]
            have e91 : ∀ R, go true 3 (runF (d + 5)) (runN (d + 5)) pb_X12_personTold (fu + 197) 91 [vR 21 190 0, vI bg, vL v, vS, vI ke0, vI it0, vI (partyW (wrd T L p4 t4)), vI se0, vI 0] [] M = R → runF (d + 6) 169 [vR 21 190 0, vI bg] A = R := by
              intro R hR
              refine e59 _ ?_
              rw [q_X12_personTold_59, j1, cI_v, k1, cV_v, eN, k2, cI_v]
              exact hR
            cases hG5 : tellG T L (stp T L p4) true 9 0 (nSe H - 1) with
            | error y =>
              obtain ⟨k0, s0⟩ := y
              have e := k4 k0 s0 hG5
              have hb : gi M 190 5 ≠ 0 := by rw [e.1]; exact e.2.2.1
              refine ⟨(fun k s q => ?_), (fun H' p' t' q => by cases q)⟩
              injection q with q; injection q with q1 q2
              subst q1 q2
              refine ⟨M, e91 _ ?_, MB_t fAJ e⟩
              exact p91B (d + 5) P (by omega) bg v ke0 it0 _ se0 M hb (z0 M (frZ_trans fAJ e.2.2.2)) P (fu + 197) 0 (by omega) (by omega) (by have := fu_ge; omega)
            | ok y =>
              obtain ⟨se, pl3, p5, t5⟩ := y
              obtain ⟨rfl, l2, l3, l4⟩ := k5 se pl3 p5 t5 hG5
              have fAM : frZ A M := frZ_trans fAJ l3
              have mM := MR_Z fAM mr
              obtain ⟨x1, x2⟩ := p91 (d + 4) P (by omega) bg v ke0 it0 (partyW (wrd T L p4 t4)) se0 M l2 mM hP P (fu + 197) 0 (by omega) (by omega) (by have := fu_ge; omega)
              have eP : (nPe H).toNat = P := by omega
              rw [eP]
              simp only
              by_cases cx : ex (fun k => decide (H 226 (35 + 4 * k).toNat = se0)) P 0 = true
              · rw [if_pos cx]
                obtain ⟨N, n1, n2⟩ := x1 cx
                refine ⟨(fun k s q => ?_), (fun H' p' t' q => by cases q)⟩
                injection q with q; injection q with q1 q2
                subst q1 q2
                rw [l4] at n2
                exact ⟨N, e91 _ n1, MB_t fAM n2⟩
              · rw [if_neg cx]
                have n1 := x2 (by simpa using cx)
                refine ⟨(fun k s q => by cases q), (fun H' p' t' q => ?_)⟩
                injection q with q; injection q with q1 q2; injection q2 with q2 q3
                subst q1 q2 q3
                refine ⟨_, e91 _ n1, MdS_fr (by simp -implicitDefEqProofs (disch := omega) only [gi_wi, ↓reduceIte, Int.reduceEq, cI_v, cL_v, cV_v, cR_v, wid, wid64, if_pos, if_neg, Nat.add_zero, if_true, if_false, and_self, and_true, true_and, and_false, false_and, or_true, true_or, or_false, false_or]) (by simp -implicitDefEqProofs (disch := omega) only [gi_wi, ↓reduceIte, Int.reduceEq, cI_v, cL_v, cV_v, cR_v, wid, wid64, if_pos, if_neg, Nat.add_zero, if_true, if_false, and_self, and_true, true_and, and_false, false_and, or_true, true_or, or_false, false_or]) (by simp -implicitDefEqProofs (disch := omega) only [gi_wi, ↓reduceIte, Int.reduceEq, cI_v, cL_v, cV_v, cR_v, wid, wid64, if_pos, if_neg, Nat.add_zero, if_true, if_false, and_self, and_true, true_and, and_false, false_and, or_true, true_or, or_false, false_or]) (by simp -implicitDefEqProofs (disch := omega) only [gi_wi, ↓reduceIte, Int.reduceEq, cI_v, cL_v, cV_v, cR_v, wid, wid64, if_pos, if_neg, Nat.add_zero, if_true, if_false, and_self, and_true, true_and, and_false, false_and, or_true, true_or, or_false, false_or]) (by simp -implicitDefEqProofs (disch := omega) only [gi_wi, ↓reduceIte, Int.reduceEq, cI_v, cL_v, cV_v, cR_v, wid, wid64, if_pos, if_neg, Nat.add_zero, if_true, if_false, and_self, and_true, true_and, and_false, false_and, or_true, true_or, or_false, false_or]) (fun a j q1 q2 => by simp -implicitDefEqProofs (disch := omega) only [gi_wi, ↓reduceIte, Int.reduceEq, cI_v, cL_v, cV_v, cR_v, wid, wid64, if_pos, if_neg, Nat.add_zero, if_true, if_false, and_self, and_true, true_and, and_false, false_and, or_true, true_or, or_false, false_or]) l2, ?_, by simp -implicitDefEqProofs (disch := omega) only [gi_wi, ↓reduceIte, Int.reduceEq, cI_v, cL_v, cV_v, cR_v, wid, wid64, if_pos, if_neg, Nat.add_zero, if_true, if_false, and_self, and_true, true_and, and_false, false_and, or_true, true_or, or_false, false_or]; exact fAM.1 190 52 (by omega), ?_⟩
                · refine MR_pers mM (by omega) (fun a j q1 q2 q3 q4 q5 => by rw [gi_wi, if_neg q3, gi_wi, if_neg (by omega), gi_wi, if_neg (by omega), gi_wi, if_neg (by omega), gi_wi, if_neg (by omega), gi_wi, if_neg q4]) (by simp -implicitDefEqProofs (disch := omega) only [gi_wi, ↓reduceIte, Int.reduceEq, cI_v, cL_v, cV_v, cR_v, wid, wid64, if_pos, if_neg, Nat.add_zero, if_true, if_false, and_self, and_true, true_and, and_false, false_and, or_true, true_or, or_false, false_or]) (by simp -implicitDefEqProofs (disch := omega) only [gi_wi, ↓reduceIte, Int.reduceEq, cI_v, cL_v, cV_v, cR_v, wid, wid64, if_pos, if_neg, Nat.add_zero, if_true, if_false, and_self, and_true, true_and, and_false, false_and, or_true, true_or, or_false, false_or]) (by simp -implicitDefEqProofs (disch := omega) only [gi_wi, ↓reduceIte, Int.reduceEq, cI_v, cL_v, cV_v, cR_v, wid, wid64, if_pos, if_neg, Nat.add_zero, if_true, if_false, and_self, and_true, true_and, and_false, false_and, or_true, true_or, or_false, false_or]) (by simp -implicitDefEqProofs (disch := omega) only [gi_wi, ↓reduceIte, Int.reduceEq, cI_v, cL_v, cV_v, cR_v, wid, wid64, if_pos, if_neg, Nat.add_zero, if_true, if_false, and_self, and_true, true_and, and_false, false_and, or_true, true_or, or_false, false_or]) (by simp -implicitDefEqProofs (disch := omega) only [gi_wi, ↓reduceIte, Int.reduceEq, cI_v, cL_v, cV_v, cR_v, wid, wid64, if_pos, if_neg, Nat.add_zero, if_true, if_false, and_self, and_true, true_and, and_false, false_and, or_true, true_or, or_false, false_or]) (by simp -implicitDefEqProofs (disch := omega) only [gi_wi, ↓reduceIte, Int.reduceEq, cI_v, cL_v, cV_v, cR_v, wid, wid64, if_pos, if_neg, Nat.add_zero, if_true, if_false, and_self, and_true, true_and, and_false, false_and, or_true, true_or, or_false, false_or]) (by simp -implicitDefEqProofs (disch := omega) only [gi_wi, ↓reduceIte, Int.reduceEq, cI_v, cL_v, cV_v, cR_v, wid, wid64, if_pos, if_neg, Nat.add_zero, if_true, if_false, and_self, and_true, true_and, and_false, false_and, or_true, true_or, or_false, false_or])
                · exact frY_wi _ _ _ (by unfold ry; omega) (frY_wi _ _ _ (by unfold ry; omega) (frY_wi _ _ _ (by unfold ry; omega) (frY_wi _ _ _ (by unfold ry; omega) (frY_wi _ _ _ (by unfold ry; omega) (frY_wi _ _ _ (by unfold ry; omega) (frZ_Y fAM))))))
