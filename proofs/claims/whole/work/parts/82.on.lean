/-! the call on -/
theorem n41 : (41 : Nat) ≠ 0 := by omega
theorem n73 : (73 : Nat) ≠ 0 := by omega
def okP (P S : Int) (st pt : Int → Int) (c : Int) : Prop := (∀ k, 0 ≤ k → k < c → st k < S) ∧ (∀ k i, 0 ≤ i → i < k → k < c → st k ≠ -1 → st i ≠ st k) ∧ (∀ k, P ≤ k → k < c → pt k ≤ if st k = -1 then 0 else 1)
theorem okP_le {P S : Int} {st pt : Int → Int} {c e : Int} (h : okP P S st pt e) (hc : c ≤ e) : okP P S st pt c := ⟨fun k h1 h2 => h.1 k h1 (by omega), fun k i h1 h2 h3 => h.2.1 k i h1 h2 (by omega), fun k h1 h2 => h.2.2 k h1 (by omega)⟩
theorem okP_up {P S : Int} {st pt : Int → Int} {c : Int} (h : okP P S st pt c) (h1 : 0 ≤ c → st c < S) (h2 : st c ≠ -1 → ∀ i, 0 ≤ i → i < c → st i ≠ st c) (h3 : P ≤ c → pt c ≤ if st c = -1 then 0 else 1) : okP P S st pt (c + 1) := by
  refine ⟨fun k k1 k2 => ?_, fun k i k1 k2 k3 k4 => ?_, fun k k1 k2 => ?_⟩
  · by_cases e : k = c
    · rw [e]; exact h1 (by omega)
    · exact h.1 k k1 (by omega)
  · by_cases e : k = c
    · rw [e]; rw [e] at k2 k4; exact h2 k4 i k1 k2
    · exact h.2.1 k i k1 k2 (by omega) k4
  · by_cases e : k = c
    · rw [e]; exact h3 (by omega)
    · exact h.2.2 k k1 (by omega)
def frT4 (A B : AH) : Prop := (∀ a j, ¬ (74 ≤ a ∧ a ≤ 77) → gi B a j = gi A a j) ∧ (∀ a j, gr B a j = gr A a j) ∧ B.2.2 = A.2.2
theorem frT4_refl (A : AH) : frT4 A A := ⟨fun _ _ _ => rfl, fun _ _ => rfl, rfl⟩
theorem frT4_trans {A B C : AH} (h1 : frT4 A B) (h2 : frT4 B C) : frT4 A C := ⟨fun a j r => (h2.1 a j r).trans (h1.1 a j r), fun a j => (h2.2.1 a j).trans (h1.2.1 a j), h2.2.2.trans h1.2.2⟩
theorem frT4_wi {A B : AH} {a k : Nat} (v : Int) (h : 74 ≤ a ∧ a ≤ 77) (h2 : frT4 A B) : frT4 A (wi B a k v) := frT4_trans h2 ⟨fun b j r => by
  rw [gi_wi, if_neg (by omega)], fun _ _ => rfl, rfl⟩
theorem frT4_sc {A B : AH} (h : frT4 A B) : sc A B := ⟨fun a j q => h.1 a j (by unfold scr at q; omega), fun a j _ => h.2.1 a j, h.2.2⟩
theorem frT4_W {A B : AH} (h : frT4 A B) : frW 73 A B := ⟨fun a j q => h.1 a j (by omega), h.2.1, h.2.2⟩
/-- the seats and parties that the tape tells -/
def stTP (T : Nat → Int) (P k : Int) : Int := if k < P then T (6 + k).toNat else T (6 + P + 2 * (k - P)).toNat - 1
def ptT (H : Nat → Nat → Int) (T : Nat → Int) (k : Int) : Int := if k < nPe H then H 226 (34 + 4 * k).toNat else T (7 + nPe H + 2 * (k - nPe H)).toNat
set_option maxRecDepth 100000 in
theorem s_seats (d h : Nat) {H : Nat → Nat → Int} (hc : cok H) (st pt : Int → Int) (c : Int) (A : AH) (b6 : HR A h H) (i6 : IV A 73 (nPe H) st pt c) (c0 : 0 ≤ c) (c1 : c < nPe H + nMu H) (s1 : -1 ≤ st c) : ∃ v A', runF (d + 2) 73 [vR 13 h 0, vR 19 73 0, vI (numF (nPe H) c), vI (pt c), vI (st c)] A = some (some (vI v), A') ∧ frT4 A A' ∧ ((v = 1 ∧ IV A' 73 (nPe H) st pt (c + 1) ∧ 0 ≤ st c ∧ st c < nSe H ∧ ∀ i, 0 ≤ i → i < c → st i ≠ st c) ∨ (v = 0 ∧ ¬ (0 ≤ st c ∧ st c < nSe H ∧ ∀ i, 0 ≤ i → i < c → st i ≠ st c))) := by
  have hc' := hc
  unfold cok at hc'
  have hh0 : h ≠ 0 := by have := b6.1; omega
  have nb := numF_bd (P := nPe H) (K := nMu H) (k := c) (by omega) (by omega) c0 c1
  rw [r_X5_seats, q_X5_seats_0 (ha0 := hh0) (ha1 := n73), s_isSeatC _ _ _ A _ b6, cI_v]
  by_cases e : 0 ≤ st c ∧ st c < nSe H
  · rw [decide_eq_true e, bI_t, if_neg (by omega), s_whoRaw _ 73 (by omega) _ A e.1 (by omega), cI_v]
    have iw := IV_who i6 (z := st c) (by omega) e.1 (by omega)
    by_cases w : gi A (73 + 3) (st c).toNat = -1
    · rw [if_pos w, s_putP _ 73 _ _ _ A (by omega) nb.1 nb.2 e.1 (by omega), cV_v]
      refine ⟨1, _, rfl, ?_, Or.inl ⟨rfl, IV_put (K := nMu H) (by omega) (by omega) i6 c0 c1 e.1 (by omega) (iw.mp w), e.1, e.2, iw.mp w⟩⟩
      exact frT4_wi _ (by omega) (frT4_wi _ (by omega) (frT4_wi _ (by omega) (frT4_refl A)))
    · rw [if_neg w]
      exact ⟨0, A, rfl, frT4_refl A, Or.inr ⟨rfl, fun q => w (iw.mpr q.2.2)⟩⟩
  · rw [decide_eq_false e, bI_f, if_pos rfl]
    exact ⟨0, A, rfl, frT4_refl A, Or.inr ⟨rfl, fun q => e ⟨q.1, q.2.1⟩⟩⟩
set_option maxRecDepth 100000 in
theorem l_rdM (d h : Nat) {H : Nat → Nat → Int} (hc : cok H) (T : Nat → Int) (A0 : AH) (b6 : HR A0 h H) (hT : ∀ j : Nat, j < 1600 → gi A0 41 j = T j ∧ 0 ≤ T j ∧ T j ≤ 255) : ∀ (j n : Nat) (k : Int) (u4 u5 u6 : AV) (A : AH), frT4 A0 A → 0 ≤ k → k + j = nMu H → IV A 73 (nPe H) (stTP T (nPe H)) (ptT H T) (nPe H + k) → okP (nPe H) (nSe H) (stTP T (nPe H)) (ptT H T) (nPe H + k) → 10 * j + 10 ≤ n → ∃ v A', go true 2 (runF (d + 2)) (runN (d + 2)) pb_X5_readsMutes n 2 [vR 30 41 1600, vR 13 h 0, vR 19 73 0, vI k, u4, u5, u6] [] A = some (some (vI v), A') ∧ frT4 A0 A' ∧ ((v = 1 ∧ okP (nPe H) (nSe H) (stTP T (nPe H)) (ptT H T) (nPe H + nMu H) ∧ IV A' 73 (nPe H) (stTP T (nPe H)) (ptT H T) (nPe H + nMu H)) ∨ (v = 0 ∧ ¬ okP (nPe H) (nSe H) (stTP T (nPe H)) (ptT H T) (nPe H + nMu H))) := by
  have hc' := hc
  unfold cok at hc'
  have hh0 : h ≠ 0 := by have := b6.1; omega
  have e5 := b6.2.1.2.2.2.2.1
  have e2 := b6.2.1.2.1
  have hh := b6.1
  intro j
  induction j with
  | zero =>
    intro n k u4 u5 u6 A f k0 k1 iv ok hn
    obtain ⟨n, rfl⟩ : ∃ e, n = e + 3 := ⟨n - 3, by omega⟩
    rw [q_X5_readsMutes_2 (ha0 := n41) (ha1 := hh0) (ha2 := n73), f.1 h 5 (by omega), e5, if_neg (by omega)]
    rw [show k = nMu H by omega] at iv ok
    exact ⟨1, A, rfl, f, Or.inl ⟨rfl, ok, iv⟩⟩
  | succ j ih =>
    intro n k u4 u5 u6 A f k0 k1 iv ok hn
    obtain ⟨n, rfl⟩ : ∃ e, n = e + 10 := ⟨n - 10, by omega⟩
    have es : stTP T (nPe H) (nPe H + k) = T (6 + nPe H + 2 * k).toNat - 1 := by unfold stTP; rw [if_neg (by omega)]; congr 3; omega
    have ep : ptT H T (nPe H + k) = T (7 + nPe H + 2 * k).toNat := by unfold ptT; rw [if_neg (by omega)]; congr 2; omega
    have en : numF (nPe H) (nPe H + k) = 10 + k := by unfold numF; rw [if_neg (by omega)]; omega
    have t1 := hT (6 + nPe H + 2 * k).toNat (by omega)
    have t2 := hT (7 + nPe H + 2 * k).toNat (by omega)
    have g1 : gi A 41 (6 + nPe H + 2 * k).toNat = T (6 + nPe H + 2 * k).toNat := by rw [f.1 41 _ (by omega)]; exact t1.1
    have g2 : gi A 41 (6 + nPe H + 2 * k + 1).toNat = T (7 + nPe H + 2 * k).toNat := by rw [f.1 41 _ (by omega), show (6 + nPe H + 2 * k + 1).toNat = (7 + nPe H + 2 * k).toNat by omega]; exact t2.1
    have bA : HR A h H := HR_sc (frT4_sc f) b6
    rw [q_X5_readsMutes_2 (ha0 := n41) (ha1 := hh0) (ha2 := n73), f.1 h 5 (by omega), f.1 h 2 (by omega), e5, e2, if_pos (by omega), wid (x := 6 + nPe H) (by omega) (by omega), wid (x := 2 * k) (by omega) (by omega), wid (x := 6 + nPe H + 2 * k) (by omega) (by omega), wid (x := 6 + nPe H + 2 * k + 1) (by omega) (by omega), if_pos (by omega), if_pos (by omega), g1, g2, wid (by omega) (by omega), ← es, ← ep, q_X5_readsMutes_44 (ha0 := n41) (ha1 := hh0) (ha2 := n73)]
    have bad : ∀ (m : Nat) (B : AH) (x4 x5 : Int) (u : AV), frT4 A0 B → ¬ okP (nPe H) (nSe H) (stTP T (nPe H)) (ptT H T) (nPe H + k + 1) → ∃ v A', go true 2 (runF (d + 2)) (runN (d + 2)) pb_X5_readsMutes (m + 2) 92 [vR 30 41 1600, vR 13 h 0, vR 19 73 0, vI k, vI x4, vI x5, u] [vI 0] B = some (some (vI v), A') ∧ frT4 A0 A' ∧ ((v = 1 ∧ okP (nPe H) (nSe H) (stTP T (nPe H)) (ptT H T) (nPe H + nMu H) ∧ IV A' 73 (nPe H) (stTP T (nPe H)) (ptT H T) (nPe H + nMu H)) ∨ (v = 0 ∧ ¬ okP (nPe H) (nSe H) (stTP T (nPe H)) (ptT H T) (nPe H + nMu H))) := by
      intro m B x4 x5 u fB no
      rw [q_X5_readsMutes_92 (ha0 := n41) (ha1 := hh0) (ha2 := n73), if_pos rfl]
      exact ⟨0, B, rfl, fB, Or.inr ⟨rfl, fun q => no (okP_le q (by omega))⟩⟩
    have good : ∀ (m : Nat) (B : AH) (x4 x5 : Int) (u : AV), n ≤ m → frT4 A0 B → okP (nPe H) (nSe H) (stTP T (nPe H)) (ptT H T) (nPe H + k + 1) → IV B 73 (nPe H) (stTP T (nPe H)) (ptT H T) (nPe H + k + 1) → ∃ v A', go true 2 (runF (d + 2)) (runN (d + 2)) pb_X5_readsMutes (m + 2) 92 [vR 30 41 1600, vR 13 h 0, vR 19 73 0, vI k, vI x4, vI x5, u] [vI 1] B = some (some (vI v), A') ∧ frT4 A0 A' ∧ ((v = 1 ∧ okP (nPe H) (nSe H) (stTP T (nPe H)) (ptT H T) (nPe H + nMu H) ∧ IV A' 73 (nPe H) (stTP T (nPe H)) (ptT H T) (nPe H + nMu H)) ∨ (v = 0 ∧ ¬ okP (nPe H) (nSe H) (stTP T (nPe H)) (ptT H T) (nPe H + nMu H))) := by
      intro m B x4 x5 u hm fB o1 i1
      rw [q_X5_readsMutes_92 (ha0 := n41) (ha1 := hh0) (ha2 := n73), if_neg (by omega), wid (by omega) (by omega), Nat.add_zero m]
      exact ih m (k + 1) _ _ _ B fB (by omega) (by omega) (by rw [← Int.add_assoc]; exact i1) (by rw [← Int.add_assoc]; exact o1) (by omega)
    by_cases c : stTP T (nPe H) (nPe H + k) = -1
    · rw [if_pos c]
      by_cases p : ptT H T (nPe H + k) = 0
      · rw [if_pos p]
        refine good (n + 6) A _ _ _ (by omega) f (okP_up ok (fun _ => by omega) (fun q => absurd c q) (fun _ => by rw [if_pos c]; omega)) (IV_skip (K := nMu H) (by omega) (by omega) iv (by omega) (by omega) c)
      · rw [if_neg p]
        refine bad (n + 5) A _ _ _ f (fun q => ?_)
        have := q.2.2 (nPe H + k) (by omega) (by omega)
        rw [if_pos c] at this
        omega
    · rw [if_neg c, s_isSide, cI_v]
      by_cases p : 0 ≤ ptT H T (nPe H + k) ∧ ptT H T (nPe H + k) ≤ 1
      · rw [decide_eq_true p, bI_t, if_neg (by omega), wid (by omega) (by omega), ← en]
        obtain ⟨v, B, w1, w2, w3⟩ := s_seats d h hc (stTP T (nPe H)) (ptT H T) (nPe H + k) A bA iv (by omega) (by omega) (by omega)
        rw [w1, cI_v]
        have f2 := frT4_trans f w2
        rcases w3 with ⟨v1, i1, z0, z1, zu⟩ | ⟨v0, no⟩
        · rw [v1, if_neg (by omega)]
          exact good (n + 5) B _ _ _ (by omega) f2 (okP_up ok (fun _ => z1) (fun _ => zu) (fun _ => by rw [if_neg c]; omega)) i1
        · rw [v0, if_pos rfl, q_X5_readsMutes_91 (ha0 := n41) (ha1 := hh0) (ha2 := n73)]
          refine bad (n + 4) B _ _ _ f2 (fun q => no ⟨?_, q.1 _ (by omega) (by omega), fun i i0 i1 => q.2.1 _ i i0 i1 (by omega) c⟩)
          omega
      · rw [decide_eq_false p, bI_f, if_pos rfl, q_X5_readsMutes_91 (ha0 := n41) (ha1 := hh0) (ha2 := n73)]
        refine bad (n + 4) A _ _ _ f (fun q => ?_)
        have := q.2.2 (nPe H + k) (by omega) (by omega)
        rw [if_neg c] at this
        omega
set_option maxRecDepth 100000 in
theorem l_rdP (d h : Nat) {H : Nat → Nat → Int} (hc : cok H) (T : Nat → Int) (x1 : Int) (A0 : AH) (b6 : HR A0 h H) (hT : ∀ j : Nat, j < 1600 → gi A0 41 j = T j ∧ 0 ≤ T j ∧ T j ≤ 255) : ∀ (j n : Nat) (k : Int) (A : AH), frT4 A0 A → 0 ≤ k → k + j = nPe H → IV A 73 (nPe H) (stTP T (nPe H)) (ptT H T) k → okP (nPe H) (nSe H) (stTP T (nPe H)) (ptT H T) k → 10 * j + 10 ≤ n → ∃ v A', go true 2 (runF (d + 3)) (runN (d + 3)) pb_X5_reads n 116 [vR 30 41 1600, vI x1, vR 13 h 0, vR 19 73 0, vI k] [] A = some (some (vI v), A') ∧ frT4 A0 A' ∧ ((v = 1 ∧ okP (nPe H) (nSe H) (stTP T (nPe H)) (ptT H T) (nPe H + nMu H) ∧ IV A' 73 (nPe H) (stTP T (nPe H)) (ptT H T) (nPe H + nMu H)) ∨ (v = 0 ∧ ¬ okP (nPe H) (nSe H) (stTP T (nPe H)) (ptT H T) (nPe H + nMu H))) := by
  have hc' := hc
  unfold cok at hc'
  have hh0 : h ≠ 0 := by have := b6.1; omega
  have e2 := b6.2.1.2.1
  have hh := b6.1
  intro j
  induction j with
  | zero =>
    intro n k A f k0 k1 iv ok hn
    obtain ⟨n, rfl⟩ : ∃ e, n = e + 3 := ⟨n - 3, by omega⟩
    rw [show k = nPe H by omega] at iv ok
    obtain ⟨v, B, w1, w2, w3⟩ := l_rdM d h hc T A0 b6 hT (nMu H).toNat (fu + 199) 0 vU vU vU A f (by omega) (by omega) (by rw [Int.add_zero]; exact iv) (by rw [Int.add_zero]; exact ok) (by have := fu_ge; omega)
    rw [q_X5_reads_116 (ha0 := n41) (ha2 := hh0) (ha3 := n73), f.1 h 2 (by omega), e2, if_neg (by omega), r_X5_readsMutes, q_X5_readsMutes_0 (ha0 := n41) (ha1 := hh0) (ha2 := n73), Nat.add_zero (fu + 199), w1, cI_v, if_pos (by rcases w3 with q | q <;> omega)]
    exact ⟨v, B, rfl, w2, w3⟩
  | succ j ih =>
    intro n k A f k0 k1 iv ok hn
    obtain ⟨n, rfl⟩ : ∃ e, n = e + 10 := ⟨n - 10, by omega⟩
    have es : stTP T (nPe H) k = T (6 + k).toNat := by unfold stTP; rw [if_pos (by omega)]
    have ep : ptT H T k = H 226 (34 + 4 * k).toNat := by unfold ptT; rw [if_pos (by omega)]
    have en : numF (nPe H) k = k := by unfold numF; rw [if_pos (by omega)]
    have t1 := hT (6 + k).toNat (by omega)
    have g1 : gi A 41 (6 + k).toNat = T (6 + k).toNat := by rw [f.1 41 _ (by omega)]; exact t1.1
    have g2 : gi A (h + 4) k.toNat = H 226 (34 + 4 * k).toNat := by rw [f.1 _ _ (by omega)]; exact (b6.2.2.2.2.1 k k0 (by omega)).1
    have bA : HR A h H := HR_sc (frT4_sc f) b6
    obtain ⟨v, B, w1, w2, w3⟩ := s_seats (d + 1) h hc (stTP T (nPe H)) (ptT H T) k A bA iv (by omega) (by omega) (by omega)
    rw [en, es, ep] at w1
    have f2 := frT4_trans f w2
    rw [q_X5_reads_116 (ha0 := n41) (ha2 := hh0) (ha3 := n73), f.1 h 2 (by omega), e2, if_pos (by omega), if_pos (by omega), wid (x := 6 + k) (by omega) (by omega), if_pos (by omega), g1, g2, w1, cI_v]
    rcases w3 with ⟨v1, i1, z0, z1, zu⟩ | ⟨v0, no⟩
    · rw [v1, if_neg (by omega), wid (by omega) (by omega)]
      exact ih (n + 8) (k + 1) B f2 (by omega) (by omega) i1 (okP_up ok (fun _ => z1) (fun _ => zu) (fun q => by omega)) (by omega)
    · rw [v0, if_pos rfl]
      refine ⟨0, B, rfl, f2, Or.inr ⟨rfl, fun q => no ⟨by omega, q.1 _ (by omega) (by omega), fun i i0 i1 => q.2.1 _ i i0 i1 (by omega) (by omega)⟩⟩⟩
