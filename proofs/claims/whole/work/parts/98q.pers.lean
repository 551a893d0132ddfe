/-! the text of a hall: a person, as the class reads it -/
def frU (h : Nat) (A B : AH) : Prop := (∀ a j, a < h → ¬ (a = 42 ∧ 2 ≤ j ∧ j ≤ 12) → a ≠ 44 → a ≠ 45 → a ≠ 47 → gi B a j = gi A a j) ∧ (∀ a j, a < h → ¬ (a = 42 ∧ j = 7) → gr B a j = gr A a j) ∧ (∀ a, a < h → ln B a = ln A a)
theorem frU_refl (h : Nat) (A : AH) : frU h A A := ⟨fun _ _ _ _ _ _ _ => rfl, fun _ _ _ _ => rfl, fun _ _ => rfl⟩
theorem frU_trans {h : Nat} {A B C : AH} (h1 : frU h A B) (h2 : frU h B C) : frU h A C := ⟨fun a j q r s u w => (h2.1 a j q r s u w).trans (h1.1 a j q r s u w), fun a j q r => (h2.2.1 a j q r).trans (h1.2.1 a j q r), fun a q => (h2.2.2 a q).trans (h1.2.2 a q)⟩
theorem frO_U {h : Nat} {A B : AH} (f : frO A B) : frU h A B := ⟨fun a j _ q _ _ r => f.1 a j q r, fun a j _ q => f.2.1 a j q, fun a _ => ln_eq f.2.2 a⟩
theorem frR_U {h : Nat} {A B : AH} (f : frR A B) : frU h A B := frO_U (frR_O f)
theorem frH_U {h : Nat} {A B : AH} (f : frH A B) : frU h A B := ⟨fun a j _ q r s _ => f.1 a j q (by omega) s, fun a j _ q => f.2.1 a j q, fun a _ => ln_eq f.2.2 a⟩
theorem frU_wi {h : Nat} {A B : AH} (a k : Nat) (v : Int) (ha : h ≤ a) (f : frU h A B) : frU h A (wi B a k v) := frU_trans f ⟨fun b j q _ _ _ _ => by rw [gi_wi, if_neg (by omega)], fun _ _ _ _ => rfl, fun _ _ => rfl⟩
abbrev HG : Type := Except (Int × Int) ((Nat → Nat → Int) × Nat × Bool)
def SCR (T : Nat → Int) (L h : Nat) (A : AH) (x : RS) (e : HG) : Prop := (∀ k s, e = .error (k, s) → ∃ B, x = some (some (vI 0), B) ∧ gi B 42 11 = k ∧ gi B 42 12 = s ∧ frU h A B ∧ B.2.2 = A.2.2) ∧ (∀ H' p' t', e = .ok (H', p', t') → ∃ B, x = some (some (vI 1), B) ∧ RdS B T L p' t' ∧ HS B h H' ∧ (gi B 42 11 = gi A 42 11 ∧ gi B 42 12 = gi A 42 12) ∧ gi B h 0 = gi A h 0 ∧ frU h A B ∧ B.2.2 = A.2.2 ∧ ∀ a j, ¬ (a = 42 ∧ j = 7) → gr B a j = gr A a j)
def persH (H : Nat → Nat → Int) (P : Nat) (v ke it pa se : Int) : Nat → Nat → Int := uH (uH (uH (uH (uH (uH H 225 (24 + P) v) 226 (32 + 4 * P) ke) 226 (33 + 4 * P) it) 226 (34 + 4 * P) pa) 226 (35 + 4 * P) se) 224 6 ((P + 1 : Nat) : Int)
theorem persH_o (H : Nat → Nat → Int) (P : Nat) (v ke it pa se : Int) (a j : Nat) (h1 : ¬ (a = 224 ∧ j = 6)) (h2 : ¬ (a = 225 ∧ j = 24 + P)) (h3 : ¬ (a = 226 ∧ 32 + 4 * P ≤ j ∧ j < 36 + 4 * P)) : persH H P v ke it pa se a j = H a j := by
  unfold persH
  rw [uH_at, if_neg h1, uH_at, if_neg (by omega), uH_at, if_neg (by omega), uH_at, if_neg (by omega), uH_at, if_neg (by omega), uH_at, if_neg (by omega)]
theorem persH_v (H : Nat → Nat → Int) (P : Nat) (v ke it pa se : Int) : persH H P v ke it pa se 224 6 = ((P + 1 : Nat) : Int) ∧ persH H P v ke it pa se 225 (24 + P) = v ∧ persH H P v ke it pa se 226 (32 + 4 * P) = ke ∧ persH H P v ke it pa se 226 (33 + 4 * P) = it ∧ persH H P v ke it pa se 226 (34 + 4 * P) = pa ∧ persH H P v ke it pa se 226 (35 + 4 * P) = se := by
  unfold persH
  refine ⟨?_, ?_, ?_, ?_, ?_, ?_⟩
  · rw [uH_at, if_pos ⟨rfl, rfl⟩]
  · rw [uH_at, if_neg (by omega), uH_at, if_neg (by omega), uH_at, if_neg (by omega), uH_at, if_neg (by omega), uH_at, if_neg (by omega), uH_at, if_pos ⟨rfl, rfl⟩]
  · rw [uH_at, if_neg (by omega), uH_at, if_neg (by omega), uH_at, if_neg (by omega), uH_at, if_neg (by omega), uH_at, if_pos ⟨rfl, rfl⟩]
  · rw [uH_at, if_neg (by omega), uH_at, if_neg (by omega), uH_at, if_neg (by omega), uH_at, if_pos ⟨rfl, rfl⟩]
  · rw [uH_at, if_neg (by omega), uH_at, if_neg (by omega), uH_at, if_pos ⟨rfl, rfl⟩]
  · rw [uH_at, if_neg (by omega), uH_at, if_pos ⟨rfl, rfl⟩]
theorem HS_pers {A B : AH} {h : Nat} {H : Nat → Nat → Int} (hc : cok H) (s : HS A h H) (P : Nat) (hP : nPe H = P) (hP8 : P < 8) (v ke it pa se : Int) (hv : vnm v) (g : ∀ a j, 271 ≤ a → ¬ (a = h + 1 ∧ j = P) → ¬ (a = h + 2 ∧ j = P) → ¬ (a = h + 3 ∧ j = P) → ¬ (a = h + 4 ∧ j = P) → ¬ (a = h + 5 ∧ j = P) → ¬ (a = h ∧ j = 2) → gi B a j = gi A a j) (hr : ∀ a j, ¬ (a = 42 ∧ j = 7) → gr B a j = gr A a j) (hl : B.2.2 = A.2.2) (e1 : gi B (h + 1) P = padN v) (e2 : gi B (h + 2) P = ke) (e3 : gi B (h + 3) P = it) (e4 : gi B (h + 4) P = pa) (e5 : gi B (h + 5) P = se) (e6 : gi B h 2 = ((P + 1 : Nat) : Int)) : HS B h (persH H P v ke it pa se) := by
  obtain ⟨s1, s2, s3, s4, s5, s6⟩ := s
  have o := persH_o H P v ke it pa se
  obtain ⟨q1, q2, q3, q4, q5, q6⟩ := persH_v H P v ke it pa se
  unfold cok at hc
  have nP' : nPe (persH H P v ke it pa se) = ((P + 1 : Nat) : Int) := q1
  have nS' : nSe (persH H P v ke it pa se) = nSe H := o 224 11 (by omega) (by omega) (by omega)
  have nM' : nMu (persH H P v ke it pa se) = nMu H := o 224 7 (by omega) (by omega) (by omega)
  have nO' : nPo (persH H P v ke it pa se) = nPo H := o 224 8 (by omega) (by omega) (by omega)
  have nN' : nNo (persH H P v ke it pa se) = nNo H := o 224 9 (by omega) (by omega) (by omega)
  have nH' : nHa (persH H P v ke it pa se) = nHa H := o 224 10 (by omega) (by omega) (by omega)
  obtain ⟨r1, r2, r3, r4, r5, r6, r7, r8, r9, r10, r11, r12, r13, r14, r15⟩ := s1
  have wr : ∀ w : Int, 0 ≤ w → w ≤ 1 → ∀ p, (p = 0 ∨ h + 9 < p) → WR A p H w → WR B p (persH H P v ke it pa se) w := by
    intro w w1 w2 p hp q
    unfold WR codF at *
    rw [o 231 _ (by omega) (by omega) (by omega), o 232 _ (by omega) (by omega) (by omega), ln_eq hl]
    rcases q with q | ⟨x1, x2, x3, x4⟩
    · exact Or.inl q
    · refine Or.inr ⟨x1, x2, x3, fun k y1 y2 => ?_⟩
      rw [o 233 _ (by omega) (by omega) (by omega), g p _ (by omega) (by omega) (by omega) (by omega) (by omega) (by omega) (by omega)]
      exact x4 k y1 y2
  have e16 : gr B h 16 = gr A h 16 := hr h 16 (by omega)
  have e17 : gr B h 17 = gr A h 17 := hr h 17 (by omega)
  refine ⟨⟨r1, ?_, ?_, ?_, ?_, ?_, ?_, ?_, ?_, ?_, ?_, ?_, ?_, ?_, ?_, ?_⟩, ⟨?_, ?_, ?_, ?_⟩, by rw [hr 46 3 (by omega)]; exact s3, s4, by rw [e16]; exact s5, by rw [e17]; exact s6⟩
  · rw [nS', nP', nO', nN', nM', nH', e6, g h 1 (by omega) (by omega) (by omega) (by omega) (by omega) (by omega) (by omega), g h 3 (by omega) (by omega) (by omega) (by omega) (by omega) (by omega) (by omega), g h 4 (by omega) (by omega) (by omega) (by omega) (by omega) (by omega) (by omega), g h 5 (by omega) (by omega) (by omega) (by omega) (by omega) (by omega) (by omega), g h 6 (by omega) (by omega) (by omega) (by omega) (by omega) (by omega) (by omega)]
    exact ⟨r2.1, rfl, r2.2.2⟩
  · intro x hx
    unfold exi at hx
    rw [nP', nM'] at hx
    by_cases c : x = P
    · rw [c, Int.toNat_natCast, e2, e3]
      unfold keepsF itchF
      rw [if_pos (by omega), if_pos (by omega), show (32 + 4 * (P : Int)).toNat = 32 + 4 * P by omega, show (33 + 4 * (P : Int)).toNat = 33 + 4 * P by omega, q3, q4]
      exact ⟨rfl, rfl⟩
    · rw [g (h + 2) _ (by omega) (by omega) (by omega) (by omega) (by omega) (by omega) (by omega), g (h + 3) _ (by omega) (by omega) (by omega) (by omega) (by omega) (by omega) (by omega)]
      have := r3 x (by unfold exi; omega)
      unfold keepsF itchF at *
      by_cases c2 : x < 10
      · rw [if_pos c2] at this ⊢
        rw [if_pos c2] at this ⊢
        rw [o 226 _ (by omega) (by omega) (by omega), o 226 _ (by omega) (by omega) (by omega)]; exact this
      · rw [if_neg c2] at this ⊢
        rw [if_neg c2] at this ⊢
        rw [o 227 _ (by omega) (by omega) (by omega)]; exact this
  · intro x h1 h2 h3
    unfold exi at h3
    rw [nP', nM'] at h3
    rw [g (h + 3) _ (by omega) (by omega) (by omega) (by omega) (by omega) (by omega) (by omega)]
    exact r4 x h1 h2 (by unfold exi; omega)
  · intro k h1 h2
    rw [nP'] at h2
    by_cases c : k = P
    · rw [c, Int.toNat_natCast, e4, e5, show (34 + 4 * (P : Int)).toNat = 34 + 4 * P by omega, show (35 + 4 * (P : Int)).toNat = 35 + 4 * P by omega, q5, q6]
      exact ⟨rfl, rfl⟩
    · rw [g (h + 4) _ (by omega) (by omega) (by omega) (by omega) (by omega) (by omega) (by omega), g (h + 5) _ (by omega) (by omega) (by omega) (by omega) (by omega) (by omega) (by omega), o 226 _ (by omega) (by omega) (by omega), o 226 _ (by omega) (by omega) (by omega)]
      exact r5 k h1 (by omega)
  · intro k h1 h2
    rw [nM'] at h2
    rw [g (h + 6) _ (by omega) (by omega) (by omega) (by omega) (by omega) (by omega) (by omega), o 227 _ (by omega) (by omega) (by omega)]
    exact r6 k h1 h2
  · intro k h1 h2
    rw [nO'] at h2
    rw [g (h + 7) _ (by omega) (by omega) (by omega) (by omega) (by omega) (by omega) (by omega), o 228 _ (by omega) (by omega) (by omega)]
    exact r7 k h1 h2
  · intro k h1 h2
    rw [nN'] at h2
    rw [g (h + 8) _ (by omega) (by omega) (by omega) (by omega) (by omega) (by omega) (by omega), o 229 _ (by omega) (by omega) (by omega)]
    exact r8 k h1 h2
  · intro k h1 h2
    rw [g (h + 9) _ (by omega) (by omega) (by omega) (by omega) (by omega) (by omega) (by omega), o 230 _ (by omega) (by omega) (by omega)]
    exact r9 k h1 h2
  · intro k h1 h2
    rw [nP'] at h2
    by_cases c : k = P
    · rw [c, Int.toNat_natCast, e1, show (24 + (P : Int)).toNat = 24 + P by omega, q2]
    · rw [g (h + 1) _ (by omega) (by omega) (by omega) (by omega) (by omega) (by omega) (by omega), o 225 _ (by omega) (by omega) (by omega)]
      exact r10 k h1 (by omega)
  · intro k h1 h2
    rw [nM'] at h2
    rw [g (h + 1) _ (by omega) (by omega) (by omega) (by omega) (by omega) (by omega) (by omega), o 225 _ (by omega) (by omega) (by omega)]
    exact r11 k h1 h2
  · intro k h1 h2
    rw [nO'] at h2
    rw [g (h + 1) _ (by omega) (by omega) (by omega) (by omega) (by omega) (by omega) (by omega), o 225 _ (by omega) (by omega) (by omega)]
    exact r12 k h1 h2
  · rw [e16]; exact wr 0 (by omega) (by omega) _ s5 r13
  · rw [e17]; exact wr 1 (by omega) (by omega) _ s6 r14
  · rw [g h 18 (by omega) (by omega) (by omega) (by omega) (by omega) (by omega) (by omega)]; exact r15.1
  · rw [g h 18 (by omega) (by omega) (by omega) (by omega) (by omega) (by omega) (by omega)]
    intro z
    have := r15.2 z
    unfold noMin codF at *
    intro w w1 w2 w3 k y1 y2
    rw [o 231 _ (by omega) (by omega) (by omega)] at w3 y1
    rw [o 232 _ (by omega) (by omega) (by omega)] at y2
    rw [o 233 _ (by omega) (by omega) (by omega)]
    exact this w w1 w2 w3 k y1 y2
  · intro k h1 h2
    rw [nP'] at h2
    by_cases c : k = P
    · rw [c, show (24 + (P : Int)).toNat = 24 + P by omega, q2]; exact hv
    · rw [o 225 _ (by omega) (by omega) (by omega)]
      exact s2.1 k h1 (by omega)
  · intro k h1 h2
    rw [nM'] at h2
    rw [o 225 _ (by omega) (by omega) (by omega)]
    exact s2.2.1 k h1 h2
  · intro k h1 h2
    rw [nO'] at h2
    rw [o 225 _ (by omega) (by omega) (by omega)]
    exact s2.2.2.1 k h1 h2
  · intro j h1 h2 h3 h4 h5
    rw [nP'] at h3
    rw [nM'] at h4
    rw [nO'] at h5
    rw [g (h + 1) _ (by omega) (by omega) (by omega) (by omega) (by omega) (by omega) (by omega)]
    exact s2.2.2.2 j h1 h2 (by omega) h4 h5
