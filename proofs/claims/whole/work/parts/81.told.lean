/-! a sitting that is laid person by person -/
def numF (P k : Int) : Int := if k < P then k else 10 + (k - P)
def IV (A : AH) (s : Nat) (P : Int) (st pt : Int → Int) (c : Int) : Prop :=
  (∀ x : Int, 0 ≤ x → x < 16 → (∀ k, 0 ≤ k → k < c → numF P k ≠ x) → gi A (s + 1) x.toNat = -1 ∧ gi A (s + 2) x.toNat = 0)
  ∧ (∀ k : Int, 0 ≤ k → k < c → gi A (s + 1) (numF P k).toNat = st k ∧ gi A (s + 2) (numF P k).toNat = if st k = -1 then 0 else pt k)
  ∧ (∀ z : Int, 0 ≤ z → z < 9 → (gi A (s + 3) z.toNat = -1 ∧ ∀ k, 0 ≤ k → k < c → st k ≠ z) ∨ (∃ k, 0 ≤ k ∧ k < c ∧ st k = z ∧ gi A (s + 3) z.toNat = numF P k))
theorem numF_inj {P i k : Int} (hP : P ≤ 8) (hi : 0 ≤ i) (hk : 0 ≤ k) (h : numF P i = numF P k) : i = k := by
  unfold numF at h
  split at h <;> split at h <;> omega
theorem numF_bd {P K k : Int} (hP : 0 ≤ P ∧ P ≤ 8) (hK : K ≤ 6) (h0 : 0 ≤ k) (h1 : k < P + K) : 0 ≤ numF P k ∧ numF P k < 16 := by
  unfold numF
  split <;> omega
theorem IV_fr {A B : AH} {s : Nat} {P : Int} {st pt : Int → Int} {c : Int} (g : ∀ a j, s < a → a ≤ s + 3 → gi B a j = gi A a j) (h : IV A s P st pt c) : IV B s P st pt c := by
  obtain ⟨h1, h2, h3⟩ := h
  refine ⟨fun x q1 q2 q3 => ?_, fun k q1 q2 => ?_, fun z q1 q2 => ?_⟩
  · rw [g _ _ (by omega) (by omega), g _ _ (by omega) (by omega)]; exact h1 x q1 q2 q3
  · rw [g _ _ (by omega) (by omega), g _ _ (by omega) (by omega)]; exact h2 k q1 q2
  · rw [g _ _ (by omega) (by omega)]; exact h3 z q1 q2
theorem IV_put {A : AH} {s : Nat} {P K : Int} {st pt : Int → Int} {c : Int} (hP : 0 ≤ P ∧ P ≤ 8) (hK : K ≤ 6) (h : IV A s P st pt c) (c0 : 0 ≤ c) (c1 : c < P + K) (z0 : 0 ≤ st c) (z1 : st c < 9) (hw : ∀ k, 0 ≤ k → k < c → st k ≠ st c) : IV (wi (wi (wi A (s + 1) (numF P c).toNat (st c)) (s + 2) (numF P c).toNat (pt c)) (s + 3) (st c).toNat (numF P c)) s P st pt (c + 1) := by
  obtain ⟨h1, h2, h3⟩ := h
  have nb := numF_bd hP hK c0 c1
  refine ⟨fun x q1 q2 q3 => ?_, fun k q1 q2 => ?_, fun z q1 q2 => ?_⟩
  · have ne := q3 c c0 (by omega)
    have := h1 x q1 q2 (fun k e1 e2 => q3 k e1 (by omega))
    rw [gi_wi, if_neg (by omega), gi_wi, if_neg (by omega), gi_wi, if_neg (by omega), gi_wi, if_neg (by omega), gi_wi, if_neg (by omega), gi_wi, if_neg (by omega)]
    exact this
  · have kb := numF_bd hP hK q1 (by omega)
    by_cases e : k = c
    · subst e
      rw [gi_wi, if_neg (by omega), gi_wi, if_neg (by omega), gi_wi, if_pos ⟨rfl, rfl⟩, gi_wi, if_neg (by omega), gi_wi, if_pos ⟨rfl, rfl⟩, if_neg (by omega)]
      exact ⟨rfl, rfl⟩
    · have ne : numF P k ≠ numF P c := fun q => e (numF_inj hP.2 q1 c0 q)
      rw [gi_wi, if_neg (by omega), gi_wi, if_neg (by omega), gi_wi, if_neg (by omega), gi_wi, if_neg (by omega), gi_wi, if_neg (by omega), gi_wi, if_neg (by omega)]
      exact h2 k q1 (by omega)
  · by_cases e : z = st c
    · right
      refine ⟨c, c0, by omega, e.symm, ?_⟩
      rw [e, gi_wi, if_pos ⟨rfl, rfl⟩]
    · rw [gi_wi, if_neg (by omega), gi_wi, if_neg (by omega), gi_wi, if_neg (by omega)]
      rcases h3 z q1 q2 with ⟨e1, e2⟩ | ⟨k, e1, e2, e3, e4⟩
      · left
        refine ⟨e1, fun k k1 k2 => ?_⟩
        by_cases ek : k = c
        · rw [ek]; exact fun q => e q.symm
        · exact e2 k k1 (by omega)
      · exact Or.inr ⟨k, e1, by omega, e3, e4⟩
theorem IV_skip {A : AH} {s : Nat} {P K : Int} {st pt : Int → Int} {c : Int} (hP : 0 ≤ P ∧ P ≤ 8) (hK : K ≤ 6) (h : IV A s P st pt c) (c0 : 0 ≤ c) (c1 : c < P + K) (z0 : st c = -1) : IV A s P st pt (c + 1) := by
  obtain ⟨h1, h2, h3⟩ := h
  have nb := numF_bd hP hK c0 c1
  refine ⟨fun x q1 q2 q3 => h1 x q1 q2 (fun k e1 e2 => q3 k e1 (by omega)), fun k q1 q2 => ?_, fun z q1 q2 => ?_⟩
  · by_cases e : k = c
    · subst e
      rw [z0, if_pos rfl]
      exact h1 _ nb.1 nb.2 (fun i e1 e2 e3 => by have := numF_inj hP.2 e1 q1 e3; omega)
    · exact h2 k q1 (by omega)
  · rcases h3 z q1 q2 with ⟨e1, e2⟩ | ⟨k, e1, e2, e3, e4⟩
    · left
      refine ⟨e1, fun k k1 k2 => ?_⟩
      by_cases ek : k = c
      · rw [ek]; omega
      · exact e2 k k1 (by omega)
    · exact Or.inr ⟨k, e1, by omega, e3, e4⟩
theorem IV_who {A : AH} {s : Nat} {P : Int} {st pt : Int → Int} {c : Int} (h : IV A s P st pt c) {z : Int} (hP : P ≤ 8) (z0 : 0 ≤ z) (z1 : z < 9) : gi A (s + 3) z.toNat = -1 ↔ ∀ k, 0 ≤ k → k < c → st k ≠ z := by
  rcases h.2.2 z z0 z1 with ⟨e1, e2⟩ | ⟨k, e1, e2, e3, e4⟩
  · exact ⟨fun _ => e2, fun _ => e1⟩
  · refine ⟨fun q => ?_, fun q => absurd e3 (q k e1 e2)⟩
    rw [e4] at q; unfold numF at q; split at q <;> omega
set_option maxRecDepth 100000 in
theorem s_whoRaw (d s : Nat) (hs : s ≠ 0) (z : Int) (A : AH) (z0 : 0 ≤ z) (z1 : z < 9) : runF (d + 1) 99 [vR 19 s 0, vI z] A = some (some (vI (gi A (s + 3) z.toNat)), A) := by
  rw [r_X9_whoSits, q_X9_whoSits_0 (ha0 := hs), if_neg (by omega), if_pos z1, if_pos (by omega)]
set_option maxRecDepth 100000 in
theorem l_fill (d p N : Nat) (hp : p ≠ 0) (v : Int) (hN : N ≤ 2000) (B : AH) : ∀ (j n k : Nat) (A : AH), k + j = N → (∀ a i, ¬ (a = p ∧ i < N) → gi A a i = gi B a i) → (∀ i, i < k → gi A p i = v) → (∀ a i, gr A a i = gr B a i) → A.2.2 = B.2.2 → 3 * j + 5 ≤ n → ∃ A', go true 3 (runF d) (runN d) pb_J7_fill_53178 n 5 [vR 30 p N, vI v, vI k, vI N] [] A = some (none, A') ∧ (∀ a i, ¬ (a = p ∧ i < N) → gi A' a i = gi B a i) ∧ (∀ i, i < N → gi A' p i = v) ∧ (∀ a i, gr A' a i = gr B a i) ∧ A'.2.2 = B.2.2 := by
  intro j
  induction j with
  | zero =>
    intro n k A h1 h2 h3 h4 h5 hn
    obtain ⟨n, rfl⟩ : ∃ e, n = e + 3 := ⟨n - 3, by omega⟩
    refine ⟨A, ?_, h2, fun i hi => h3 i (by omega), h4, h5⟩
    rw [q_J7_fill_53178_5 (ha0 := hp), if_neg (by omega)]
  | succ j ih =>
    intro n k A h1 h2 h3 h4 h5 hn
    obtain ⟨n, rfl⟩ : ∃ e, n = e + 3 := ⟨n - 3, by omega⟩
    obtain ⟨A', u1, u2⟩ := ih (n + 1) (k + 1) (wi A p k v) (by omega) (fun a i q => by rw [gi_wi, if_neg (by omega)]; exact h2 a i q) (fun i hi => by
      rw [gi_wi]
      by_cases e : i = k
      · rw [if_pos ⟨rfl, e⟩]
      · rw [if_neg (by omega)]; exact h3 i (by omega)) h4 h5 (by omega)
    refine ⟨A', ?_, u2⟩
    rw [q_J7_fill_53178_5 (ha0 := hp), if_pos (by omega), if_pos (by omega), q_J7_fill_53178_14 (ha0 := hp), wid (by omega) (by omega), Int.toNat_natCast, Nat.add_zero (n + 1)]
    rw [show (k : Int) + 1 = ((k + 1 : Nat) : Int) by omega]
    exact u1
set_option maxRecDepth 100000 in
theorem s_fill (d p N : Nat) (hp : p ≠ 0) (v : Int) (hN : N ≤ 2000) (A : AH) : ∃ A', runF (d + 1) 308 [vR 30 p N, vI v] A = some (none, A') ∧ (∀ a i, ¬ (a = p ∧ i < N) → gi A' a i = gi A a i) ∧ (∀ i, i < N → gi A' p i = v) ∧ (∀ a i, gr A' a i = gr A a i) ∧ A'.2.2 = A.2.2 := by
  obtain ⟨A', u1, u2⟩ := l_fill d p N hp v hN A N (fu + 199) 0 A (by omega) (fun _ _ _ => rfl) (fun i hi => by omega) (fun _ _ => rfl) rfl (by have := fu_ge; omega)
  refine ⟨A', ?_, u2⟩
  rw [r_J7_fill_53178, q_J7_fill_53178_0 (ha0 := hp), Nat.add_zero (fu + 199)]
  exact u1
set_option maxRecDepth 100000 in
theorem s_clear (d s : Nat) (hs : s ≠ 0) (P : Int) (st pt : Int → Int) (A : AH) : ∃ A', runF (d + 2) 95 [vR 19 s 0] A = some (none, A') ∧ IV A' s P st pt 0 ∧ gi A' s 7 = 0 ∧ gi A' s 0 = 0 ∧ gi A' s 1 = 0 ∧ gi A' s 2 = -1 ∧ frW s A A' := by
  obtain ⟨A1, a1, a2, a3, a4, a5⟩ := s_fill d (s + 1) 16 (by omega) (-1) (by omega) (wi (wi (wi (wi A s 0 0) s 1 0) s 2 (-1)) s 7 0)
  obtain ⟨A2, b1, b2, b3, b4, b5⟩ := s_fill d (s + 2) 16 (by omega) 0 (by omega) A1
  obtain ⟨A3, c1, c2, c3, c4, c5⟩ := s_fill d (s + 3) 9 (by omega) (-1) (by omega) A2
  have es : ∀ i, gi A3 s i = gi (wi (wi (wi (wi A s 0 0) s 1 0) s 2 (-1)) s 7 0) s i := fun i => by rw [c2 _ _ (by omega), b2 _ _ (by omega), a2 _ _ (by omega)]
  refine ⟨A3, ?_, ⟨fun x q1 q2 _ => ⟨?_, ?_⟩, fun k q1 q2 => by omega, fun z q1 q2 => Or.inl ⟨c3 _ (by omega), fun k k1 k2 => by omega⟩⟩, ?_, ?_, ?_, ?_, ⟨fun a j q => ?_, fun a j => ?_, ?_⟩⟩
  · rw [r_X9_clear, q_X9_clear_0 (ha0 := hs), q_X9_clear_10 (ha0 := hs), q_X9_clear_20 (ha0 := hs), a1, cV_v, b1, cV_v, c1, cV_v]
  · rw [c2 _ _ (by omega), b2 _ _ (by omega)]; exact a3 _ (by omega)
  · rw [c2 _ _ (by omega)]; exact b3 _ (by omega)
  · rw [es]; simp -implicitDefEqProofs (disch := omega) only [gi_wi, ↓reduceIte, Int.reduceEq, cI_v, cL_v, cV_v, cR_v, wid, wid64, if_pos, if_neg, Nat.add_zero, if_true, if_false, and_self, and_true, true_and, and_false, false_and, or_true, true_or, or_false, false_or]
  · rw [es]; simp -implicitDefEqProofs (disch := omega) only [gi_wi, ↓reduceIte, Int.reduceEq, cI_v, cL_v, cV_v, cR_v, wid, wid64, if_pos, if_neg, Nat.add_zero, if_true, if_false, and_self, and_true, true_and, and_false, false_and, or_true, true_or, or_false, false_or]
  · rw [es]; simp -implicitDefEqProofs (disch := omega) only [gi_wi, ↓reduceIte, Int.reduceEq, cI_v, cL_v, cV_v, cR_v, wid, wid64, if_pos, if_neg, Nat.add_zero, if_true, if_false, and_self, and_true, true_and, and_false, false_and, or_true, true_or, or_false, false_or]
  · rw [es]; simp -implicitDefEqProofs (disch := omega) only [gi_wi, ↓reduceIte, Int.reduceEq, cI_v, cL_v, cV_v, cR_v, wid, wid64, if_pos, if_neg, Nat.add_zero, if_true, if_false, and_self, and_true, true_and, and_false, false_and, or_true, true_or, or_false, false_or]
  · rw [c2 _ _ (by omega), b2 _ _ (by omega), a2 _ _ (by omega)]; simp -implicitDefEqProofs (disch := omega) only [gi_wi, ↓reduceIte, Int.reduceEq, cI_v, cL_v, cV_v, cR_v, wid, wid64, if_pos, if_neg, Nat.add_zero, if_true, if_false, and_self, and_true, true_and, and_false, false_and, or_true, true_or, or_false, false_or]
  · rw [c4, b4, a4]; rfl
  · rw [c5, b5, a5]; rfl
/-- laid whole, it is the row's sitting -/
theorem IV_SR {A : AH} {s : Nat} (hs : s ≠ 0) {H : Nat → Nat → Int} {row : Nat → Int} {st pt : Int → Int} (hc : cok H) (h : IV A s (nPe H) st pt (nPe H + nMu H)) (e0 : gi A s 0 = row 0 ∧ gi A s 1 = row 1 ∧ gi A s 2 = row 2) (es : ∀ k, 0 ≤ k → k < nPe H + nMu H → seatR row (numF (nPe H) k) = st k) (ep : ∀ k, 0 ≤ k → k < nPe H + nMu H → st k ≠ -1 → partyF H row (numF (nPe H) k) = pt k) (h0 : ∀ k, 0 ≤ k → k < nPe H → 0 ≤ st k) (hb : ∀ k, 0 ≤ k → k < nPe H + nMu H → -1 ≤ st k ∧ st k < nSe H) (hu : ∀ k i, 0 ≤ i → i < k → k < nPe H + nMu H → st k ≠ -1 → st i ≠ st k) : SR A s H row ∧ dok H row := by
  have hc' := hc
  unfold cok at hc'
  have sit_iff : ∀ k, 0 ≤ k → k < nPe H + nMu H → (sit H row (numF (nPe H) k) = true ↔ st k ≠ -1) := by
    intro k k0 k1
    have e := es k k0 k1
    unfold sit
    rw [e]
    by_cases c : k < nPe H
    · have e2 : numF (nPe H) k = k := by unfold numF; rw [if_pos c]
      have := h0 k k0 c
      rw [e2, decide_eq_true (by omega)]
      simp; omega
    · have e2 : numF (nPe H) k = 10 + (k - nPe H) := by unfold numF; rw [if_neg c]
      rw [e2, decide_eq_false (by omega), decide_eq_true (by omega)]
      simp
  have idx : ∀ x, sit H row x = true → ∃ k, 0 ≤ k ∧ k < nPe H + nMu H ∧ numF (nPe H) k = x := by
    intro x hx
    have := sit_exi hx
    unfold exi at this
    rcases this with q | q
    · exact ⟨x, q.1, by omega, by unfold numF; rw [if_pos q.2]⟩
    · exact ⟨nPe H + (x - 10), by omega, by omega, by unfold numF; rw [if_neg (by omega)]; omega⟩
  have dk : dok H row := by
    refine ⟨fun x hx => ?_, fun x y hx hy e => ?_⟩
    · obtain ⟨k, k0, k1, rfl⟩ := idx x hx
      have := (sit_iff k k0 k1).mp hx
      rw [es k k0 k1]
      have := hb k k0 k1
      omega
    · obtain ⟨k, k0, k1, rfl⟩ := idx x hx
      obtain ⟨i, i0, i1, rfl⟩ := idx y hy
      have nk := (sit_iff k k0 k1).mp hx
      have ni := (sit_iff i i0 i1).mp hy
      rw [es k k0 k1, es i i0 i1] at e
      by_cases c : k = i
      · rw [c]
      · by_cases c2 : k < i
        · exact absurd e (hu i k k0 c2 i1 ni)
        · exact absurd e.symm (hu k i i0 (by omega) k1 nk)
  refine ⟨⟨hs, e0, fun x x0 x1 => ?_, fun x x0 x1 => ?_, fun z z0 z1 => ?_⟩, dk⟩
  · by_cases hx : sit H row x = true
    · rw [if_pos hx]
      obtain ⟨k, k0, k1, rfl⟩ := idx x hx
      rw [es k k0 k1]; exact (h.2.1 k k0 k1).1
    · rw [if_neg hx]
      by_cases c : ∃ k, 0 ≤ k ∧ k < nPe H + nMu H ∧ numF (nPe H) k = x
      · obtain ⟨k, k0, k1, rfl⟩ := c
        have : st k = -1 := Classical.byContradiction (fun q => hx ((sit_iff k k0 k1).mpr q))
        rw [(h.2.1 k k0 k1).1, this]
      · exact (h.1 x x0 x1 (fun k k0 k1 e => c ⟨k, k0, k1, e⟩)).1
  · by_cases hx : sit H row x = true
    · rw [if_pos hx]
      obtain ⟨k, k0, k1, rfl⟩ := idx x hx
      have nk := (sit_iff k k0 k1).mp hx
      rw [(h.2.1 k k0 k1).2, if_neg nk, ep k k0 k1 nk]
    · rw [if_neg hx]
      by_cases c : ∃ k, 0 ≤ k ∧ k < nPe H + nMu H ∧ numF (nPe H) k = x
      · obtain ⟨k, k0, k1, rfl⟩ := c
        have : st k = -1 := Classical.byContradiction (fun q => hx ((sit_iff k k0 k1).mpr q))
        rw [(h.2.1 k k0 k1).2, if_pos this]
      · exact (h.1 x x0 x1 (fun k k0 k1 e => c ⟨k, k0, k1, e⟩)).2
  · rcases h.2.2 z z0 z1 with ⟨e1, e2⟩ | ⟨k, k0, k1, e3, e4⟩
    · rw [e1]
      rcases who_num (H := H) (row := row) z with q | ⟨q1, q2, q3, q4⟩
      · exact q.symm
      · obtain ⟨k, k0, k1, ek⟩ := idx _ q3
        exfalso
        apply e2 k k0 k1
        rw [← es k k0 k1, ek]; exact q4
    · rw [e4]
      have sx := (sit_iff k k0 k1).mpr (by omega)
      have := who_is hc dk sx
      rw [es k k0 k1, e3] at this
      exact this.symm
