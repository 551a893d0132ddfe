/-! the reference's reading of sums: what goes on behind a part: Q -/
noncomputable def kAQ (d : Nat) (x1 : Int) (n2 : Nat) (r3 : Int) (A : AH) : RS := if r3 = 0 then go true 3 (runF (d + 6)) (runN (d + 6)) pb_X12_qSums n2 48 [vR 21 190 0, vI x1, vI 1] [] A else go true 3 (runF (d + 6)) (runN (d + 6)) pb_X12_qSums n2 49 [vR 21 190 0, vI x1, vI 1] [vI 1] A
noncomputable def kNQ (d : Nat) (x1 : Int) (n2 : Nat) (A : AH) : RS := if gi A 190 5 = 0 then cI (runF (d + 6) 274 [vR 21 190 0] A) (kAQ d x1 n2) else go true 3 (runF (d + 6)) (runN (d + 6)) pb_X12_qSums n2 48 [vR 21 190 0, vI x1, vI 1] [] A
def RpQ (T : Nat → Int) (L b c0 : Nat) (Ast A : AH) (W C : List Int) (o p : Nat) (t : Bool) : Prop := MdS A T L p t ∧ STQ b c0 A W C o ∧ fVQ b c0 Ast A ∧ c0 + C.length + (b + W.length) < p ∧ o ≤ 6
def NpQ (d : Nat) (T : Nat → Int) (L b c0 : Nat) (x1 : Int) (Ast : AH) (Φ : RS → Prop) (W C : List Int) (o p : Nat) (t : Bool) : Prop := ∀ (A : AH) (n1 n2 : Nat) (u2 u3 u4 u5 : AV), RpQ T L b c0 Ast A W C o p t → 20 * (6 - o) + 100 ≤ n1 → 10 * (L - p) + 6000 ≤ n2 → Φ (cV (go true 3 (runF (d + 5)) (runN (d + 5)) pb_X12_qPartTold n1 2 [vR 21 190 0, vI 1, u2, u3, u4, u5] [] A) (kNQ d x1 n2))
def ApQ (d : Nat) (T : Nat → Int) (L b c0 : Nat) (x1 : Int) (Ast : AH) (Φ : RS → Prop) (W C : List Int) (o p : Nat) (t : Bool) : Prop := ∀ (A : AH) (n1 n2 : Nat), RpQ T L b c0 Ast A W C o p t → 20 * o + 6000 ≤ n1 → 10 * (L - p) + 6000 ≤ n2 → Φ (cI (go true 2 (runF (d + 5)) (runN (d + 5)) pb_X12_qGoesOn n1 0 [vR 21 190 0, vU] [] A) (kAQ d x1 n2))
def BdQ (b c0 : Nat) (x1 : Int) (Ast : AH) (Φ : RS → Prop) (k s : Int) : Prop := ∀ B, gi B 190 5 = k → gi B 190 6 = s → k ≠ 0 → fVQ b c0 Ast B → (0 ≤ gi B 190 100 ∧ gi B 190 100 < 1700) → Φ (some (none, wi B 190 104 x1))
def EpQ (d : Nat) (T : Nat → Int) (L b c0 : Nat) (x1 : Int) (Ast : AH) (Φ : RS → Prop) (W C : List Int) (o p : Nat) (t : Bool) : Prop := ∀ (A : AH), RpQ T L b c0 Ast A W C o p t → ∃ B, runF (d + 5) 272 [vR 21 190 0] A = some (none, B) ∧ gi B 190 5 = 0 ∧ ∀ (n1 n2 : Nat), 20 * o + 6000 ≤ n1 → 10 * (L - p) + 6000 ≤ n2 → Φ (cI (go true 2 (runF (d + 5)) (runN (d + 5)) pb_X12_qGoesOn n1 0 [vR 21 190 0, vU] [] B) (kAQ d x1 n2))
theorem E_finQ {d : Nat} {T : Nat → Int} {L b c0 : Nat} {x1 : Int} {Ast : AH} {Φ : RS → Prop} {W C : List Int} {o p : Nat} {t : Bool} (h : EpQ d T L b c0 x1 Ast Φ W C o p t) (B : AH) (n n2 : Nat) (r : RpQ T L b c0 Ast B W C o p t) (hn : 20 * o + 6000 ≤ n) (hn2 : 10 * (L - p) + 6000 ≤ n2) : Φ (cI (go true 2 (runF (d + 5)) (runN (d + 5)) pb_X12_qGoesOn (n + 1) 115 [vR 21 190 0, vU] [] B) (kAQ d x1 n2)) := by
  obtain ⟨D, d1, _, d3⟩ := h B r
  rw [q_X12_qGoesOn_115, d1, cV_v]
  exact d3 n n2 hn hn2
theorem kA0Q (d : Nat) (x1 : Int) (n2 : Nat) (A : AH) (h : gi A 190 5 ≠ 0) : kAQ d x1 (n2 + 10) 0 A = some (none, wi A 190 104 x1) := by
  unfold kAQ
  rw [if_pos rfl, q_X12_qSums_48, q_X12_qSums_49, q_X12_qSums_15, if_pos rfl, q_X12_qSums_53, if_neg h, q_X12_qSums_78]
theorem kN0Q (d : Nat) (x1 : Int) (n2 : Nat) (A : AH) (h : gi A 190 5 ≠ 0) : kNQ d x1 (n2 + 10) A = some (none, wi A 190 104 x1) := by
  have := kA0Q d x1 n2 A h
  unfold kAQ at this
  unfold kNQ
  rw [if_neg h]
  rw [if_pos rfl] at this
  exact this
theorem kA1Q (d : Nat) (x1 : Int) (n2 : Nat) (A : AH) (h : gi A 190 5 = 0) : kAQ d x1 (n2 + 2) 1 A = cV (go true 3 (runF (d + 5)) (runN (d + 5)) pb_X12_qPartTold (fu + 199) 2 [vR 21 190 0, vI 1, vU, vU, vU, vU] [] A) (kNQ d x1 n2) := by
  unfold kAQ
  rw [if_neg (by omega), q_X12_qSums_49, q_X12_qSums_15, if_neg (by omega), if_pos h, r_X12_qPartTold, q_X12_qPartTold_0]
  rfl
theorem Rp_oQ {T : Nat → Int} {L b c0 : Nat} {Ast A B : AH} {W C W' C' : List Int} {o o' p p' : Nat} {t t' : Bool} (r : RpQ T L b c0 Ast A W C o p t) (f : fVQ b c0 A B) (m : MdS B T L p' t') (s : STQ b c0 B W' C' o') (hl : c0 + C'.length + (b + W'.length) < p') (ho : o' ≤ 6) : RpQ T L b c0 Ast B W' C' o' p' t' := ⟨m, s, frV_trans r.2.2.1 f, hl, ho⟩
theorem cdQ {T : Nat → Int} {L b c0 : Nat} {Ast A B : AH} {W C : List Int} {o p : Nat} {t : Bool} (f : frZ A B) (r : RpQ T L b c0 Ast A W C o p t) : 0 ≤ gi B 190 100 ∧ gi B 190 100 < 1700 := by
  rw [f.1 190 100 (by omega), r.2.1.1.1]
  have := r.2.2.2.1
  have := r.1.2.1
  have := r.1.1.2.2.1.1
  omega
theorem A_badQ {d : Nat} {T : Nat → Int} {L b c0 : Nat} {x1 : Int} {Ast A : AH} {Φ : RS → Prop} {W C : List Int} {o p : Nat} {t : Bool} {k s : Int} (hB : BdQ b c0 x1 Ast Φ k s) (r : RpQ T L b c0 Ast A W C o p t) (B : AH) (f : fVQ b c0 A B) (h5 : gi B 190 5 = k) (h6 : gi B 190 6 = s) (hk : k ≠ 0) (hq : 0 ≤ gi B 190 100 ∧ gi B 190 100 < 1700) (n2 : Nat) (hn : 100 ≤ n2) : Φ (kAQ d x1 n2 0 B) ∧ Φ (kNQ d x1 n2 B) := by
  obtain ⟨n2, rfl⟩ : ∃ e, n2 = e + 10 := ⟨n2 - 10, by omega⟩
  rw [kA0Q d x1 n2 B (by rw [h5]; exact hk), kN0Q d x1 n2 B (by rw [h5]; exact hk)]
  exact ⟨hB B h5 h6 hk (frV_trans r.2.2.1 f) hq, hB B h5 h6 hk (frV_trans r.2.2.1 f) hq⟩
theorem goesAQ (d : Nat) {T : Nat → Int} {L p : Nat} {t : Bool} {b c0 : Nat} (A : AH) (W C : List Int) (o : Nat) (n : Nat) (m : MdS A T L p t) (s : STQ b c0 A W C o) (hW : b + W.length < 1600) (h : ¬ (sgn T L p t = 41 ∧ (lmF W = 20 ∨ lmF W = 23 ∨ lmF W = 24))) : go true 2 (runF (d + 5)) (runN (d + 5)) pb_X12_qGoesOn (n + 1) 0 [vR 21 190 0, vU] [] A = go true 2 (runF (d + 5)) (runN (d + 5)) pb_X12_qGoesOn n 122 [vR 21 190 0, vU] [] (wi A 190 2 (bl T L p : Int)) := by
  obtain ⟨k1, k2, k3⟩ := s_lookM (d + 4) A m
  have sl := s_lastQ (d + 3) (wi A 190 2 (bl T L p : Int)) W C o (StR_Z (by omega) k3 s) hW
  rw [q_X12_qGoesOn_0, if_pos m.2.2.1, k1, cI_v]
  by_cases z : ch T L (bl T L p) = 41
  · have z1 := (ch41 m.1.2.2.1 (t := t) 41).mp z
    rw [if_pos z, sl, cI_v, if_neg (fun y => h ⟨z1, Or.inl y⟩), sl, cI_v, if_neg (fun y => h ⟨z1, Or.inr (Or.inl y)⟩), sl, cI_v, if_neg (fun y => h ⟨z1, Or.inr (Or.inr y)⟩)]; rfl
  · rw [if_neg z]; rfl
/-- what goes on behind a part, none of the signs that join taken -/
theorem goesNQ (d : Nat) {T : Nat → Int} {L p : Nat} {t : Bool} (A : AH) (m : MdL A T L p t) (h4 : jnF T L 4 p t = -1) (h3 : jnF T L 3 p t = -1) : ∀ c, c = 42 ∨ c = 47 ∨ c = 43 ∨ c = 45 → runF (d + 2) 159 [vR 21 190 0, vI c] A = some (some (vI 0), A) := by
  intro c hc
  have hs : sgn T L p t ≠ c := by
    intro y
    unfold jnF at h4 h3
    rw [if_neg (by decide), if_neg (by decide), if_neg (by decide), if_pos rfl] at h4
    rw [if_neg (by decide), if_neg (by decide), if_pos rfl] at h3
    rcases hc with hc | hc | hc | hc
    · rw [if_pos (y.trans hc)] at h4; omega
    · rw [if_neg (by omega), if_pos (y.trans hc)] at h4; omega
    · rw [if_pos (y.trans hc)] at h3; omega
    · rw [if_neg (by omega), if_pos (y.trans hc)] at h3; omega
  have := (s_takesSign d c A m.1 (by omega) (by rcases hc with hc | hc | hc | hc <;> rw [hc] <;> decide) (by rcases hc with hc | hc | hc | hc <;> rw [hc] <;> decide)).2 hs
  rw [← m.2, wi_id] at this
  exact this
set_option maxRecDepth 100000 in
theorem l_mulQ (d : Nat) {T : Nat → Int} {L p : Nat} {t : Bool} {b c0 : Nat} (W : List Int) (op : Int) (hW : ¬ (hdI W = 3 ∨ hdI W = 4)) (o : Nat) : ∀ (pend C : List Int) (n : Nat) (A : AH), (∀ x ∈ pend, x = 3 ∨ x = 4) → STQ b c0 A (pend ++ W) C o → MdS A T L p t → c0 + C.length + (b + (pend.length + W.length)) < 1600 → 3 * pend.length + 10 ≤ n → ∃ B, go true 2 (runF (d + 5)) (runN (d + 5)) pb_X12_qGoesOn n 162 [vR 21 190 0, vI op] [] A = some (some (vI 1), B) ∧ STQ b c0 B (op :: W) (C ++ pend) o ∧ MdS B T L p t ∧ fVQ b c0 A B
  | [], C, n, A, hp, s, m, hC, hn => by
    obtain ⟨n, rfl⟩ : ∃ e, n = e + 10 := ⟨n - 10, by omega⟩
    simp only [List.length_nil] at hC
    have s' := s
    simp only [List.nil_append] at s'
    have i3 := s_isOnQ (d + 4) 3 A W C o s' (by omega) (by omega)
    have i4 := s_isOnQ (d + 4) 4 A W C o s' (by omega) (by omega)
    obtain ⟨⟨s1, s2⟩, ⟨s3, s4⟩, s5, s6, s7⟩ := s'
    refine ⟨wi (wi A 268 (b + W.length) op) 190 102 ((b + W.length + 1 : Nat) : Int), ?_, ⟨⟨by simp -implicitDefEqProofs (disch := omega) only [gi_wi, List.append_nil, ↓reduceIte, Int.reduceEq, cI_v, cL_v, cV_v, cR_v, wid, wid64, if_pos, if_neg, Nat.add_zero, if_true, if_false, and_self, and_true, true_and, and_false, false_and, or_true, true_or, or_false, false_or]; exact s1, fun i hi => by rw [List.append_nil] at hi ⊢; simp -implicitDefEqProofs (disch := omega) only [gi_wi, ↓reduceIte, Int.reduceEq, cI_v, cL_v, cV_v, cR_v, wid, wid64, if_pos, if_neg, Nat.add_zero, if_true, if_false, and_self, and_true, true_and, and_false, false_and, or_true, true_or, or_false, false_or]; exact s2 i hi⟩, ⟨by simp -implicitDefEqProofs (disch := omega) only [gi_wi, ↓reduceIte, Int.reduceEq, cI_v, cL_v, cV_v, cR_v, wid, wid64, if_pos, if_neg, Nat.add_zero, if_true, if_false, and_self, and_true, true_and, and_false, false_and, or_true, true_or, or_false, false_or]; simp; omega, ⟨by simp -implicitDefEqProofs (disch := omega) only [gi_wi, ↓reduceIte, Int.reduceEq, cI_v, cL_v, cV_v, cR_v, wid, wid64, if_pos, if_neg, Nat.add_zero, if_true, if_false, and_self, and_true, true_and, and_false, false_and, or_true, true_or, or_false, false_or], stkR_fr (fun j _ _ => by simp -implicitDefEqProofs (disch := omega) only [gi_wi, ↓reduceIte, Int.reduceEq, cI_v, cL_v, cV_v, cR_v, wid, wid64, if_pos, if_neg, Nat.add_zero, if_true, if_false, and_self, and_true, true_and, and_false, false_and, or_true, true_or, or_false, false_or]) s4⟩⟩, by simp -implicitDefEqProofs (disch := omega) only [gi_wi, ↓reduceIte, Int.reduceEq, cI_v, cL_v, cV_v, cR_v, wid, wid64, if_pos, if_neg, Nat.add_zero, if_true, if_false, and_self, and_true, true_and, and_false, false_and, or_true, true_or, or_false, false_or]; exact s5, by simp -implicitDefEqProofs (disch := omega) only [gi_wi, ↓reduceIte, Int.reduceEq, cI_v, cL_v, cV_v, cR_v, wid, wid64, if_pos, if_neg, Nat.add_zero, if_true, if_false, and_self, and_true, true_and, and_false, false_and, or_true, true_or, or_false, false_or]; exact s6, fun hb => by simp -implicitDefEqProofs (disch := omega) only [gi_wi, ↓reduceIte, Int.reduceEq, cI_v, cL_v, cV_v, cR_v, wid, wid64, if_pos, if_neg, Nat.add_zero, if_true, if_false, and_self, and_true, true_and, and_false, false_and, or_true, true_or, or_false, false_or]; exact s7 hb⟩, MdS_fr (by simp -implicitDefEqProofs (disch := omega) only [gi_wi, ↓reduceIte, Int.reduceEq, cI_v, cL_v, cV_v, cR_v, wid, wid64, if_pos, if_neg, Nat.add_zero, if_true, if_false, and_self, and_true, true_and, and_false, false_and, or_true, true_or, or_false, false_or]) (by simp -implicitDefEqProofs (disch := omega) only [gi_wi, ↓reduceIte, Int.reduceEq, cI_v, cL_v, cV_v, cR_v, wid, wid64, if_pos, if_neg, Nat.add_zero, if_true, if_false, and_self, and_true, true_and, and_false, false_and, or_true, true_or, or_false, false_or]) (by simp -implicitDefEqProofs (disch := omega) only [gi_wi, ↓reduceIte, Int.reduceEq, cI_v, cL_v, cV_v, cR_v, wid, wid64, if_pos, if_neg, Nat.add_zero, if_true, if_false, and_self, and_true, true_and, and_false, false_and, or_true, true_or, or_false, false_or]) (by simp -implicitDefEqProofs (disch := omega) only [gi_wi, ↓reduceIte, Int.reduceEq, cI_v, cL_v, cV_v, cR_v, wid, wid64, if_pos, if_neg, Nat.add_zero, if_true, if_false, and_self, and_true, true_and, and_false, false_and, or_true, true_or, or_false, false_or]) (by simp -implicitDefEqProofs (disch := omega) only [gi_wi, ↓reduceIte, Int.reduceEq, cI_v, cL_v, cV_v, cR_v, wid, wid64, if_pos, if_neg, Nat.add_zero, if_true, if_false, and_self, and_true, true_and, and_false, false_and, or_true, true_or, or_false, false_or]) (fun a j h1 h2 => by rw [gi_wi, if_neg (by omega), gi_wi, if_neg (by omega)]) m, frV_i _ _ (by omega) (frV_w _ _ (by omega) (frV_refl _ _ _ _ _ _ _ A))⟩
    have x2 : gi (wi A 268 (b + W.length) op) 190 102 = ((b + W.length : Nat) : Int) := by simp -implicitDefEqProofs (disch := omega) only [gi_wi, ↓reduceIte, Int.reduceEq, cI_v, cL_v, cV_v, cR_v, wid, wid64, if_pos, if_neg, Nat.add_zero, if_true, if_false, and_self, and_true, true_and, and_false, false_and, or_true, true_or, or_false, false_or]; exact s3
    rw [q_X12_qGoesOn_162, i3, cI_v, decide_eq_false (by omega), bI_f, if_pos rfl, i4, cI_v, decide_eq_false (by omega), bI_f, if_pos rfl, s3, if_pos (by omega), Int.toNat_natCast, q_X12_qGoesOn_195, x2, wid (by omega) (by omega), q_X12_qGoesOn_205, show ((b + W.length : Nat) : Int) + 1 = ((b + W.length + 1 : Nat) : Int) by omega]
  | x :: pend, C, n, A, hp, s, m, hC, hn => by
    simp only [List.length_cons] at hC hn
    obtain ⟨n, rfl⟩ : ∃ e, n = e + 10 := ⟨n - 10, by omega⟩
    have hx := hp x (by simp)
    have el : (pend ++ W).length = pend.length + W.length := by simp
    have i3 := s_isOnQ (d + 4) 3 A _ C o s (by omega) (by simp; omega)
    have i4 := s_isOnQ (d + 4) 4 A _ C o s (by omega) (by simp; omega)
    obtain ⟨B, b1, b2, b3, b4, b5⟩ := s_dropsQ (d := d + 3) x A (pend ++ W) C o s m (by omega) (by omega)
    obtain ⟨D, d1, d2, d3, d4⟩ := l_mulQ d W op hW o pend (C ++ [x]) (n + 8) B (fun y hy => hp y (by simp [hy])) b2 b3 (by simp; omega) (by omega)
    refine ⟨D, ?_, by rw [show C ++ x :: pend = C ++ [x] ++ pend by simp]; exact d2, d3, frV_trans b4 d4⟩
    have e0 : hdI (x :: pend ++ W) = x := rfl
    rw [q_X12_qGoesOn_162, i3, cI_v, e0]
    by_cases z : x = 3
    · rw [decide_eq_true z, bI_t, if_neg (by omega), q_X12_qGoesOn_178, b1, cV_v]; exact d1
    · rw [decide_eq_false z, bI_f, if_pos rfl, i4, cI_v, e0, decide_eq_true (by omega), bI_t, if_neg (by omega), q_X12_qGoesOn_178, b1, cV_v]; exact d1
set_option maxRecDepth 100000 in
theorem l_addQ (d : Nat) {T : Nat → Int} {L p : Nat} {t : Bool} {b c0 : Nat} (W : List Int) (op : Int) (hW : ¬ (1 ≤ hdI W ∧ hdI W ≤ 4)) (o : Nat) : ∀ (pend C : List Int) (n : Nat) (A : AH), (∀ x ∈ pend, 1 ≤ x ∧ x ≤ 4) → STQ b c0 A (pend ++ W) C o → MdS A T L p t → c0 + C.length + (b + (pend.length + W.length)) < 1600 → 3 * pend.length + 10 ≤ n → ∃ B, go true 2 (runF (d + 5)) (runN (d + 5)) pb_X12_qGoesOn n 247 [vR 21 190 0, vI op] [] A = some (some (vI 1), B) ∧ STQ b c0 B (op :: W) (C ++ pend) o ∧ MdS B T L p t ∧ fVQ b c0 A B
  | [], C, n, A, hp, s, m, hC, hn => by
    obtain ⟨n, rfl⟩ : ∃ e, n = e + 10 := ⟨n - 10, by omega⟩
    simp only [List.length_nil] at hC
    have s' := s
    simp only [List.nil_append] at s'
    have i3 := s_isOnQ (d + 4) 3 A W C o s' (by omega) (by omega)
    have i4 := s_isOnQ (d + 4) 4 A W C o s' (by omega) (by omega)
    have i1 := s_isOnQ (d + 4) 1 A W C o s' (by omega) (by omega)
    have i2 := s_isOnQ (d + 4) 2 A W C o s' (by omega) (by omega)
    obtain ⟨⟨s1, s2⟩, ⟨s3, s4⟩, s5, s6, s7⟩ := s'
    refine ⟨wi (wi A 268 (b + W.length) op) 190 102 ((b + W.length + 1 : Nat) : Int), ?_, ⟨⟨by simp -implicitDefEqProofs (disch := omega) only [gi_wi, List.append_nil, ↓reduceIte, Int.reduceEq, cI_v, cL_v, cV_v, cR_v, wid, wid64, if_pos, if_neg, Nat.add_zero, if_true, if_false, and_self, and_true, true_and, and_false, false_and, or_true, true_or, or_false, false_or]; exact s1, fun i hi => by rw [List.append_nil] at hi ⊢; simp -implicitDefEqProofs (disch := omega) only [gi_wi, ↓reduceIte, Int.reduceEq, cI_v, cL_v, cV_v, cR_v, wid, wid64, if_pos, if_neg, Nat.add_zero, if_true, if_false, and_self, and_true, true_and, and_false, false_and, or_true, true_or, or_false, false_or]; exact s2 i hi⟩, ⟨by simp -implicitDefEqProofs (disch := omega) only [gi_wi, ↓reduceIte, Int.reduceEq, cI_v, cL_v, cV_v, cR_v, wid, wid64, if_pos, if_neg, Nat.add_zero, if_true, if_false, and_self, and_true, true_and, and_false, false_and, or_true, true_or, or_false, false_or]; simp; omega, ⟨by simp -implicitDefEqProofs (disch := omega) only [gi_wi, ↓reduceIte, Int.reduceEq, cI_v, cL_v, cV_v, cR_v, wid, wid64, if_pos, if_neg, Nat.add_zero, if_true, if_false, and_self, and_true, true_and, and_false, false_and, or_true, true_or, or_false, false_or], stkR_fr (fun j _ _ => by simp -implicitDefEqProofs (disch := omega) only [gi_wi, ↓reduceIte, Int.reduceEq, cI_v, cL_v, cV_v, cR_v, wid, wid64, if_pos, if_neg, Nat.add_zero, if_true, if_false, and_self, and_true, true_and, and_false, false_and, or_true, true_or, or_false, false_or]) s4⟩⟩, by simp -implicitDefEqProofs (disch := omega) only [gi_wi, ↓reduceIte, Int.reduceEq, cI_v, cL_v, cV_v, cR_v, wid, wid64, if_pos, if_neg, Nat.add_zero, if_true, if_false, and_self, and_true, true_and, and_false, false_and, or_true, true_or, or_false, false_or]; exact s5, by simp -implicitDefEqProofs (disch := omega) only [gi_wi, ↓reduceIte, Int.reduceEq, cI_v, cL_v, cV_v, cR_v, wid, wid64, if_pos, if_neg, Nat.add_zero, if_true, if_false, and_self, and_true, true_and, and_false, false_and, or_true, true_or, or_false, false_or]; exact s6, fun hb => by simp -implicitDefEqProofs (disch := omega) only [gi_wi, ↓reduceIte, Int.reduceEq, cI_v, cL_v, cV_v, cR_v, wid, wid64, if_pos, if_neg, Nat.add_zero, if_true, if_false, and_self, and_true, true_and, and_false, false_and, or_true, true_or, or_false, false_or]; exact s7 hb⟩, MdS_fr (by simp -implicitDefEqProofs (disch := omega) only [gi_wi, ↓reduceIte, Int.reduceEq, cI_v, cL_v, cV_v, cR_v, wid, wid64, if_pos, if_neg, Nat.add_zero, if_true, if_false, and_self, and_true, true_and, and_false, false_and, or_true, true_or, or_false, false_or]) (by simp -implicitDefEqProofs (disch := omega) only [gi_wi, ↓reduceIte, Int.reduceEq, cI_v, cL_v, cV_v, cR_v, wid, wid64, if_pos, if_neg, Nat.add_zero, if_true, if_false, and_self, and_true, true_and, and_false, false_and, or_true, true_or, or_false, false_or]) (by simp -implicitDefEqProofs (disch := omega) only [gi_wi, ↓reduceIte, Int.reduceEq, cI_v, cL_v, cV_v, cR_v, wid, wid64, if_pos, if_neg, Nat.add_zero, if_true, if_false, and_self, and_true, true_and, and_false, false_and, or_true, true_or, or_false, false_or]) (by simp -implicitDefEqProofs (disch := omega) only [gi_wi, ↓reduceIte, Int.reduceEq, cI_v, cL_v, cV_v, cR_v, wid, wid64, if_pos, if_neg, Nat.add_zero, if_true, if_false, and_self, and_true, true_and, and_false, false_and, or_true, true_or, or_false, false_or]) (by simp -implicitDefEqProofs (disch := omega) only [gi_wi, ↓reduceIte, Int.reduceEq, cI_v, cL_v, cV_v, cR_v, wid, wid64, if_pos, if_neg, Nat.add_zero, if_true, if_false, and_self, and_true, true_and, and_false, false_and, or_true, true_or, or_false, false_or]) (fun a j h1 h2 => by rw [gi_wi, if_neg (by omega), gi_wi, if_neg (by omega)]) m, frV_i _ _ (by omega) (frV_w _ _ (by omega) (frV_refl _ _ _ _ _ _ _ A))⟩
    have x2 : gi (wi A 268 (b + W.length) op) 190 102 = ((b + W.length : Nat) : Int) := by simp -implicitDefEqProofs (disch := omega) only [gi_wi, ↓reduceIte, Int.reduceEq, cI_v, cL_v, cV_v, cR_v, wid, wid64, if_pos, if_neg, Nat.add_zero, if_true, if_false, and_self, and_true, true_and, and_false, false_and, or_true, true_or, or_false, false_or]; exact s3
    rw [q_X12_qGoesOn_247, i3, cI_v, decide_eq_false (by omega), bI_f, if_pos rfl, i4, cI_v, decide_eq_false (by omega), bI_f, if_pos rfl, i1, cI_v, decide_eq_false (by omega), bI_f, if_pos rfl, i2, cI_v, decide_eq_false (by omega), bI_f, if_pos rfl, s3, if_pos (by omega), Int.toNat_natCast, q_X12_qGoesOn_296, x2, wid (by omega) (by omega), q_X12_qGoesOn_306, show ((b + W.length : Nat) : Int) + 1 = ((b + W.length + 1 : Nat) : Int) by omega]
  | x :: pend, C, n, A, hp, s, m, hC, hn => by
    simp only [List.length_cons] at hC hn
    obtain ⟨n, rfl⟩ : ∃ e, n = e + 10 := ⟨n - 10, by omega⟩
    have hx := hp x (by simp)
    have el : (pend ++ W).length = pend.length + W.length := by simp
    have i3 := s_isOnQ (d + 4) 3 A _ C o s (by omega) (by simp; omega)
    have i4 := s_isOnQ (d + 4) 4 A _ C o s (by omega) (by simp; omega)
    have i1 := s_isOnQ (d + 4) 1 A _ C o s (by omega) (by simp; omega)
    have i2 := s_isOnQ (d + 4) 2 A _ C o s (by omega) (by simp; omega)
    obtain ⟨B, b1, b2, b3, b4, b5⟩ := s_dropsQ (d := d + 3) x A (pend ++ W) C o s m (by omega) (by omega)
    obtain ⟨D, d1, d2, d3, d4⟩ := l_addQ d W op hW o pend (C ++ [x]) (n + 8) B (fun y hy => hp y (by simp [hy])) b2 b3 (by simp; omega) (by omega)
    refine ⟨D, ?_, by rw [show C ++ x :: pend = C ++ [x] ++ pend by simp]; exact d2, d3, frV_trans b4 d4⟩
    have e0 : hdI (x :: pend ++ W) = x := rfl
    rw [q_X12_qGoesOn_247, i3, cI_v, e0]
    by_cases z : x = 3
    · rw [decide_eq_true z, bI_t, if_neg (by omega), q_X12_qGoesOn_279, b1, cV_v]; exact d1
    · rw [decide_eq_false z, bI_f, if_pos rfl, i4, cI_v, e0]
      by_cases z2 : x = 4
      · rw [decide_eq_true z2, bI_t, if_neg (by omega), q_X12_qGoesOn_279, b1, cV_v]; exact d1
      · rw [decide_eq_false z2, bI_f, if_pos rfl, i1, cI_v, e0]
        by_cases z3 : x = 1
        · rw [decide_eq_true z3, bI_t, if_neg (by omega), q_X12_qGoesOn_279, b1, cV_v]; exact d1
        · rw [decide_eq_false z3, bI_f, if_pos rfl, i2, cI_v, e0, decide_eq_true (by omega), bI_t, if_neg (by omega), q_X12_qGoesOn_279, b1, cV_v]; exact d1
