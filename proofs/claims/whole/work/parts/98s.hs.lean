/-! the text of a hall: what a mute, a point, a noise, a hatred changes in the hall -/
def muteH (H : Nat → Nat → Int) (M : Nat) (v ke co : Int) : Nat → Nat → Int := uH (uH (uH (uH H 225 (32 + M) v) 227 (12 + 2 * M) ke) 227 (13 + 2 * M) co) 224 7 ((M + 1 : Nat) : Int)
theorem muteH_o (H : Nat → Nat → Int) (M : Nat) (v ke co : Int) (a j : Nat) (x0 : ¬ (a = 225 ∧ j = 32 + M)) (x1 : ¬ (a = 227 ∧ j = 12 + 2 * M)) (x2 : ¬ (a = 227 ∧ j = 13 + 2 * M)) (x3 : ¬ (a = 224 ∧ j = 7)) : muteH H M v ke co a j = H a j := by
  unfold muteH
  rw [uH_at, if_neg x3, uH_at, if_neg x2, uH_at, if_neg x1, uH_at, if_neg x0]
theorem muteH_v (H : Nat → Nat → Int) (M : Nat) (v ke co : Int) : muteH H M v ke co 225 (32 + M) = v ∧ muteH H M v ke co 227 (12 + 2 * M) = ke ∧ muteH H M v ke co 227 (13 + 2 * M) = co ∧ muteH H M v ke co 224 (7) = ((M + 1 : Nat) : Int) := by
  unfold muteH
  refine ⟨?_, ?_, ?_, ?_⟩
  · rw [uH_at, if_neg (by omega), uH_at, if_neg (by omega), uH_at, if_neg (by omega), uH_at, if_pos ⟨rfl, rfl⟩]
  · rw [uH_at, if_neg (by omega), uH_at, if_neg (by omega), uH_at, if_pos ⟨rfl, rfl⟩]
  · rw [uH_at, if_neg (by omega), uH_at, if_pos ⟨rfl, rfl⟩]
  · rw [uH_at, if_pos ⟨rfl, rfl⟩]
theorem HS_mute {A B : AH} {h : Nat} {H : Nat → Nat → Int} (hc : cok H) (s : HS A h H) (M : Nat) (v ke co : Int) (hM : nMu H = M) (hM6 : M < 6) (hv : vnm v) (g : ∀ a j, 271 ≤ a → ¬ (a = h + 1 ∧ j = 10 + M) → ¬ (a = h + 2 ∧ j = 10 + M) → ¬ (a = h + 6 ∧ j = M) → ¬ (a = h ∧ j = 5) → gi B a j = gi A a j) (hr : ∀ a j, ¬ (a = 42 ∧ j = 7) → gr B a j = gr A a j) (hl : B.2.2 = A.2.2) (e1 : gi B (h + 1) (10 + M) = padN v) (e2 : gi B (h + 2) (10 + M) = ke) (e3 : gi B (h + 6) M = co) (ec : gi B h 5 = ((M + 1 : Nat) : Int)) : HS B h (muteH H M v ke co) := by
  obtain ⟨s1, s2, s3, s4, s5, s6⟩ := s
  have o := muteH_o H M v ke co
  obtain ⟨q0, q1, q2, q3⟩ := muteH_v H M v ke co
  unfold cok at hc
  have nPe' : nPe (muteH H M v ke co) = nPe H := o 224 6 (by omega) (by omega) (by omega) (by omega)
  have nMu' : nMu (muteH H M v ke co) = ((M + 1 : Nat) : Int) := q3
  have nPo' : nPo (muteH H M v ke co) = nPo H := o 224 8 (by omega) (by omega) (by omega) (by omega)
  have nNo' : nNo (muteH H M v ke co) = nNo H := o 224 9 (by omega) (by omega) (by omega) (by omega)
  have nHa' : nHa (muteH H M v ke co) = nHa H := o 224 10 (by omega) (by omega) (by omega) (by omega)
  have nSe' : nSe (muteH H M v ke co) = nSe H := o 224 11 (by omega) (by omega) (by omega) (by omega)
  obtain ⟨r1, r2, r3, r4, r5, r6, r7, r8, r9, r10, r11, r12, r13, r14, r15⟩ := s1
  have wr : ∀ w : Int, 0 ≤ w → w ≤ 1 → ∀ p, (p = 0 ∨ h + 9 < p) → WR A p H w → WR B p (muteH H M v ke co) w := by
    intro w w1 w2 p hp q
    unfold WR codF at *
    rw [o 231 _ (by omega) (by omega) (by omega) (by omega), o 232 _ (by omega) (by omega) (by omega) (by omega), ln_eq hl]
    rcases q with q | ⟨x1, x2, x3, x4⟩
    · exact Or.inl q
    · refine Or.inr ⟨x1, x2, x3, fun k y1 y2 => ?_⟩
      rw [o 233 _ (by omega) (by omega) (by omega) (by omega), g (p) _ (by omega) (by omega) (by omega) (by omega) (by omega)]
      exact x4 k y1 y2
  have e16 : gr B h 16 = gr A h 16 := hr h 16 (by omega)
  have e17 : gr B h 17 = gr A h 17 := hr h 17 (by omega)
  refine ⟨⟨r1, ?_, ?_, ?_, ?_, ?_, ?_, ?_, ?_, ?_, ?_, ?_, ?_, ?_, ?_, ?_⟩, ⟨?_, ?_, ?_, ?_⟩, by rw [hr 46 3 (by omega)]; exact s3, s4, by rw [e16]; exact s5, by rw [e17]; exact s6⟩
  · rw [nSe', nPe', nPo', nNo', nMu', nHa', ec, g (h) 1 (by omega) (by omega) (by omega) (by omega) (by omega), g (h) 2 (by omega) (by omega) (by omega) (by omega) (by omega), g (h) 3 (by omega) (by omega) (by omega) (by omega) (by omega), g (h) 4 (by omega) (by omega) (by omega) (by omega) (by omega), g (h) 6 (by omega) (by omega) (by omega) (by omega) (by omega)]
    exact ⟨r2.1, r2.2.1, r2.2.2.1, r2.2.2.2.1, rfl, r2.2.2.2.2.2⟩
  · intro x hx
    unfold exi at hx
    rw [nPe', nMu'] at hx
    by_cases c : x = 10 + M
    · have z := r4 x (by omega) (by omega) (by unfold exi; omega)
      rw [g (h + 3) _ (by omega) (by omega) (by omega) (by omega) (by omega), z, c, show ((10 : Int) + (M : Int)).toNat = 10 + M by omega, e2]
      unfold keepsF itchF
      rw [if_neg (by omega), if_neg (by omega), show (12 + 2 * (10 + (M : Int) - 10)).toNat = 12 + 2 * M by omega, q1]
      exact ⟨rfl, rfl⟩
    · rw [g (h + 2) _ (by omega) (by omega) (by omega) (by omega) (by omega), g (h + 3) _ (by omega) (by omega) (by omega) (by omega) (by omega)]
      have := r3 x (by unfold exi; omega)
      unfold keepsF itchF at *
      by_cases c2 : x < 10
      · rw [if_pos c2] at this ⊢
        rw [if_pos c2] at this ⊢
        rw [o 226 _ (by omega) (by omega) (by omega) (by omega), o 226 _ (by omega) (by omega) (by omega) (by omega)]; exact this
      · rw [if_neg c2] at this ⊢
        rw [if_neg c2] at this ⊢
        rw [o 227 _ (by omega) (by omega) (by omega) (by omega)]; exact this
  · intro x h1 h2 h3
    unfold exi at h3
    rw [nPe', nMu'] at h3
    rw [g (h + 3) _ (by omega) (by omega) (by omega) (by omega) (by omega)]
    exact r4 x h1 h2 (by unfold exi; omega)
  · intro k h1 h2
    rw [nPe'] at h2
    rw [g (h + 4) _ (by omega) (by omega) (by omega) (by omega) (by omega), g (h + 5) _ (by omega) (by omega) (by omega) (by omega) (by omega), o 226 _ (by omega) (by omega) (by omega) (by omega), o 226 _ (by omega) (by omega) (by omega) (by omega)]
    exact r5 k h1 h2
  · intro k h1 h2
    rw [nMu'] at h2
    by_cases c : k = M
    · rw [c, Int.toNat_natCast, e3, show (13 + 2 * (M : Int)).toNat = 13 + 2 * M by omega, q2]
    · rw [g (h + 6) _ (by omega) (by omega) (by omega) (by omega) (by omega), o 227 _ (by omega) (by omega) (by omega) (by omega)]
      exact r6 k h1 (by omega)
  · intro k h1 h2
    rw [nPo'] at h2
    rw [g (h + 7) _ (by omega) (by omega) (by omega) (by omega) (by omega), o 228 _ (by omega) (by omega) (by omega) (by omega)]
    exact r7 k h1 h2
  · intro k h1 h2
    rw [nNo'] at h2
    rw [g (h + 8) _ (by omega) (by omega) (by omega) (by omega) (by omega), o 229 _ (by omega) (by omega) (by omega) (by omega)]
    exact r8 k h1 h2
  · intro k h1 h2
    rw [g (h + 9) _ (by omega) (by omega) (by omega) (by omega) (by omega), o 230 _ (by omega) (by omega) (by omega) (by omega)]
    exact r9 k h1 h2
  · intro k h1 h2
    rw [nPe'] at h2
    rw [g (h + 1) _ (by omega) (by omega) (by omega) (by omega) (by omega), o 225 _ (by omega) (by omega) (by omega) (by omega)]
    exact r10 k h1 h2
  · intro k h1 h2
    rw [nMu'] at h2
    by_cases c : k = M
    · rw [c, show ((10 : Int) + (M : Int)).toNat = 10 + M by omega, e1, show (32 + (M : Int)).toNat = 32 + M by omega, q0]
    · rw [g (h + 1) _ (by omega) (by omega) (by omega) (by omega) (by omega), o 225 _ (by omega) (by omega) (by omega) (by omega)]
      exact r11 k h1 (by omega)
  · intro k h1 h2
    rw [nPo'] at h2
    rw [g (h + 1) _ (by omega) (by omega) (by omega) (by omega) (by omega), o 225 _ (by omega) (by omega) (by omega) (by omega)]
    exact r12 k h1 h2
  · rw [e16]; exact wr 0 (by omega) (by omega) _ s5 r13
  · rw [e17]; exact wr 1 (by omega) (by omega) _ s6 r14
  · rw [g (h) 18 (by omega) (by omega) (by omega) (by omega) (by omega)]; exact r15.1
  · rw [g (h) 18 (by omega) (by omega) (by omega) (by omega) (by omega)]
    intro z
    have := r15.2 z
    unfold noMin codF at *
    intro w w1 w2 w3 k y1 y2
    rw [o 231 _ (by omega) (by omega) (by omega) (by omega)] at w3 y1
    rw [o 232 _ (by omega) (by omega) (by omega) (by omega)] at y2
    rw [o 233 _ (by omega) (by omega) (by omega) (by omega)]
    exact this w w1 w2 w3 k y1 y2
  · intro k h1 h2
    rw [nPe'] at h2
    rw [o 225 _ (by omega) (by omega) (by omega) (by omega)]
    exact s2.1 k h1 h2
  · intro k h1 h2
    rw [nMu'] at h2
    by_cases c : k = M
    · rw [c, show (32 + (M : Int)).toNat = 32 + M by omega, q0]; exact hv
    · rw [o 225 _ (by omega) (by omega) (by omega) (by omega)]
      exact s2.2.1 k h1 (by omega)
  · intro k h1 h2
    rw [nPo'] at h2
    rw [o 225 _ (by omega) (by omega) (by omega) (by omega)]
    exact s2.2.2.1 k h1 h2
  · intro j h1 h2 h3 h4 h5
    rw [nPe'] at h3
    rw [nMu'] at h4
    rw [nPo'] at h5
    rw [g (h + 1) _ (by omega) (by omega) (by omega) (by omega) (by omega)]
    exact s2.2.2.2 j h1 h2 (by omega) (by omega) (by omega)
def pntH (H : Nat → Nat → Int) (K : Nat) (v x y : Int) : Nat → Nat → Int := uH (uH (uH (uH H 225 (40 + K) v) 228 (8 + 2 * K) x) 228 (9 + 2 * K) y) 224 8 ((K + 1 : Nat) : Int)
theorem pntH_o (H : Nat → Nat → Int) (K : Nat) (v x y : Int) (a j : Nat) (x0 : ¬ (a = 225 ∧ j = 40 + K)) (x1 : ¬ (a = 228 ∧ j = 8 + 2 * K)) (x2 : ¬ (a = 228 ∧ j = 9 + 2 * K)) (x3 : ¬ (a = 224 ∧ j = 8)) : pntH H K v x y a j = H a j := by
  unfold pntH
  rw [uH_at, if_neg x3, uH_at, if_neg x2, uH_at, if_neg x1, uH_at, if_neg x0]
theorem pntH_v (H : Nat → Nat → Int) (K : Nat) (v x y : Int) : pntH H K v x y 225 (40 + K) = v ∧ pntH H K v x y 228 (8 + 2 * K) = x ∧ pntH H K v x y 228 (9 + 2 * K) = y ∧ pntH H K v x y 224 (8) = ((K + 1 : Nat) : Int) := by
  unfold pntH
  refine ⟨?_, ?_, ?_, ?_⟩
  · rw [uH_at, if_neg (by omega), uH_at, if_neg (by omega), uH_at, if_neg (by omega), uH_at, if_pos ⟨rfl, rfl⟩]
  · rw [uH_at, if_neg (by omega), uH_at, if_neg (by omega), uH_at, if_pos ⟨rfl, rfl⟩]
  · rw [uH_at, if_neg (by omega), uH_at, if_pos ⟨rfl, rfl⟩]
  · rw [uH_at, if_pos ⟨rfl, rfl⟩]
theorem HS_pnt {A B : AH} {h : Nat} {H : Nat → Nat → Int} (hc : cok H) (s : HS A h H) (K : Nat) (v x y : Int) (hK : nPo H = K) (hK4 : K < 4) (hv : vnm v) (g : ∀ a j, 271 ≤ a → ¬ (a = h + 1 ∧ j = 16 + K) → ¬ (a = h + 7 ∧ j = 2 * K) → ¬ (a = h + 7 ∧ j = 2 * K + 1) → ¬ (a = h ∧ j = 3) → gi B a j = gi A a j) (hr : ∀ a j, ¬ (a = 42 ∧ j = 7) → gr B a j = gr A a j) (hl : B.2.2 = A.2.2) (e1 : gi B (h + 1) (16 + K) = padN v) (e2 : gi B (h + 7) (2 * K) = x) (e3 : gi B (h + 7) (2 * K + 1) = y) (ec : gi B h 3 = ((K + 1 : Nat) : Int)) : HS B h (pntH H K v x y) := by
  obtain ⟨s1, s2, s3, s4, s5, s6⟩ := s
  have o := pntH_o H K v x y
  obtain ⟨q0, q1, q2, q3⟩ := pntH_v H K v x y
  unfold cok at hc
  have nPe' : nPe (pntH H K v x y) = nPe H := o 224 6 (by omega) (by omega) (by omega) (by omega)
  have nMu' : nMu (pntH H K v x y) = nMu H := o 224 7 (by omega) (by omega) (by omega) (by omega)
  have nPo' : nPo (pntH H K v x y) = ((K + 1 : Nat) : Int) := q3
  have nNo' : nNo (pntH H K v x y) = nNo H := o 224 9 (by omega) (by omega) (by omega) (by omega)
  have nHa' : nHa (pntH H K v x y) = nHa H := o 224 10 (by omega) (by omega) (by omega) (by omega)
  have nSe' : nSe (pntH H K v x y) = nSe H := o 224 11 (by omega) (by omega) (by omega) (by omega)
  obtain ⟨r1, r2, r3, r4, r5, r6, r7, r8, r9, r10, r11, r12, r13, r14, r15⟩ := s1
  have wr : ∀ w : Int, 0 ≤ w → w ≤ 1 → ∀ p, (p = 0 ∨ h + 9 < p) → WR A p H w → WR B p (pntH H K v x y) w := by
    intro w w1 w2 p hp q
    unfold WR codF at *
    rw [o 231 _ (by omega) (by omega) (by omega) (by omega), o 232 _ (by omega) (by omega) (by omega) (by omega), ln_eq hl]
    rcases q with q | ⟨x1, x2, x3, x4⟩
    · exact Or.inl q
    · refine Or.inr ⟨x1, x2, x3, fun k y1 y2 => ?_⟩
      rw [o 233 _ (by omega) (by omega) (by omega) (by omega), g (p) _ (by omega) (by omega) (by omega) (by omega) (by omega)]
      exact x4 k y1 y2
  have e16 : gr B h 16 = gr A h 16 := hr h 16 (by omega)
  have e17 : gr B h 17 = gr A h 17 := hr h 17 (by omega)
  refine ⟨⟨r1, ?_, ?_, ?_, ?_, ?_, ?_, ?_, ?_, ?_, ?_, ?_, ?_, ?_, ?_, ?_⟩, ⟨?_, ?_, ?_, ?_⟩, by rw [hr 46 3 (by omega)]; exact s3, s4, by rw [e16]; exact s5, by rw [e17]; exact s6⟩
  · rw [nSe', nPe', nPo', nNo', nMu', nHa', ec, g (h) 1 (by omega) (by omega) (by omega) (by omega) (by omega), g (h) 2 (by omega) (by omega) (by omega) (by omega) (by omega), g (h) 4 (by omega) (by omega) (by omega) (by omega) (by omega), g (h) 5 (by omega) (by omega) (by omega) (by omega) (by omega), g (h) 6 (by omega) (by omega) (by omega) (by omega) (by omega)]
    exact ⟨r2.1, r2.2.1, rfl, r2.2.2.2.1, r2.2.2.2.2.1, r2.2.2.2.2.2⟩
  · intro x hx
    unfold exi at hx
    rw [nPe', nMu'] at hx
    rw [g (h + 2) _ (by omega) (by omega) (by omega) (by omega) (by omega), g (h + 3) _ (by omega) (by omega) (by omega) (by omega) (by omega)]
    have := r3 x (by unfold exi; omega)
    unfold keepsF itchF at *
    by_cases c2 : x < 10
    · rw [if_pos c2] at this ⊢
      rw [if_pos c2] at this ⊢
      rw [o 226 _ (by omega) (by omega) (by omega) (by omega), o 226 _ (by omega) (by omega) (by omega) (by omega)]; exact this
    · rw [if_neg c2] at this ⊢
      rw [if_neg c2] at this ⊢
      rw [o 227 _ (by omega) (by omega) (by omega) (by omega)]; exact this
  · intro x h1 h2 h3
    unfold exi at h3
    rw [nPe', nMu'] at h3
    rw [g (h + 3) _ (by omega) (by omega) (by omega) (by omega) (by omega)]
    exact r4 x h1 h2 (by unfold exi; omega)
  · intro k h1 h2
    rw [nPe'] at h2
    rw [g (h + 4) _ (by omega) (by omega) (by omega) (by omega) (by omega), g (h + 5) _ (by omega) (by omega) (by omega) (by omega) (by omega), o 226 _ (by omega) (by omega) (by omega) (by omega), o 226 _ (by omega) (by omega) (by omega) (by omega)]
    exact r5 k h1 h2
  · intro k h1 h2
    rw [nMu'] at h2
    rw [g (h + 6) _ (by omega) (by omega) (by omega) (by omega) (by omega), o 227 _ (by omega) (by omega) (by omega) (by omega)]
    exact r6 k h1 h2
  · intro k h1 h2
    rw [nPo'] at h2
    by_cases c : k = 2 * K
    · rw [c, show ((2 : Int) * (K : Int)).toNat = 2 * K by omega, e2, show (8 + 2 * (K : Int)).toNat = 8 + 2 * K by omega, q1]
    · by_cases c2 : k = 2 * K + 1
      · rw [c2, show ((2 : Int) * (K : Int) + 1).toNat = 2 * K + 1 by omega, e3, show (8 + (2 * (K : Int) + 1)).toNat = 9 + 2 * K by omega, q2]
      · rw [g (h + 7) _ (by omega) (by omega) (by omega) (by omega) (by omega), o 228 _ (by omega) (by omega) (by omega) (by omega)]
        exact r7 k h1 (by omega)
  · intro k h1 h2
    rw [nNo'] at h2
    rw [g (h + 8) _ (by omega) (by omega) (by omega) (by omega) (by omega), o 229 _ (by omega) (by omega) (by omega) (by omega)]
    exact r8 k h1 h2
  · intro k h1 h2
    rw [g (h + 9) _ (by omega) (by omega) (by omega) (by omega) (by omega), o 230 _ (by omega) (by omega) (by omega) (by omega)]
    exact r9 k h1 h2
  · intro k h1 h2
    rw [nPe'] at h2
    rw [g (h + 1) _ (by omega) (by omega) (by omega) (by omega) (by omega), o 225 _ (by omega) (by omega) (by omega) (by omega)]
    exact r10 k h1 h2
  · intro k h1 h2
    rw [nMu'] at h2
    rw [g (h + 1) _ (by omega) (by omega) (by omega) (by omega) (by omega), o 225 _ (by omega) (by omega) (by omega) (by omega)]
    exact r11 k h1 h2
  · intro k h1 h2
    rw [nPo'] at h2
    by_cases c : k = K
    · rw [c, show ((16 : Int) + (K : Int)).toNat = 16 + K by omega, e1, show (40 + (K : Int)).toNat = 40 + K by omega, q0]
    · rw [g (h + 1) _ (by omega) (by omega) (by omega) (by omega) (by omega), o 225 _ (by omega) (by omega) (by omega) (by omega)]
      exact r12 k h1 (by omega)
  · rw [e16]; exact wr 0 (by omega) (by omega) _ s5 r13
  · rw [e17]; exact wr 1 (by omega) (by omega) _ s6 r14
  · rw [g (h) 18 (by omega) (by omega) (by omega) (by omega) (by omega)]; exact r15.1
  · rw [g (h) 18 (by omega) (by omega) (by omega) (by omega) (by omega)]
    intro z
    have := r15.2 z
    unfold noMin codF at *
    intro w w1 w2 w3 k y1 y2
    rw [o 231 _ (by omega) (by omega) (by omega) (by omega)] at w3 y1
    rw [o 232 _ (by omega) (by omega) (by omega) (by omega)] at y2
    rw [o 233 _ (by omega) (by omega) (by omega) (by omega)]
    exact this w w1 w2 w3 k y1 y2
  · intro k h1 h2
    rw [nPe'] at h2
    rw [o 225 _ (by omega) (by omega) (by omega) (by omega)]
    exact s2.1 k h1 h2
  · intro k h1 h2
    rw [nMu'] at h2
    rw [o 225 _ (by omega) (by omega) (by omega) (by omega)]
    exact s2.2.1 k h1 h2
  · intro k h1 h2
    rw [nPo'] at h2
    by_cases c : k = K
    · rw [c, show (40 + (K : Int)).toNat = 40 + K by omega, q0]; exact hv
    · rw [o 225 _ (by omega) (by omega) (by omega) (by omega)]
      exact s2.2.2.1 k h1 (by omega)
  · intro j h1 h2 h3 h4 h5
    rw [nPe'] at h3
    rw [nMu'] at h4
    rw [nPo'] at h5
    rw [g (h + 1) _ (by omega) (by omega) (by omega) (by omega) (by omega)]
    exact s2.2.2.2 j h1 h2 (by omega) (by omega) (by omega)
def noiH (H : Nat → Nat → Int) (K : Nat) (x y z : Int) : Nat → Nat → Int := uH (uH (uH (uH H 229 (18 + 3 * K) x) 229 (19 + 3 * K) y) 229 (20 + 3 * K) z) 224 9 ((K + 1 : Nat) : Int)
theorem noiH_o (H : Nat → Nat → Int) (K : Nat) (x y z : Int) (a j : Nat) (x0 : ¬ (a = 229 ∧ j = 18 + 3 * K)) (x1 : ¬ (a = 229 ∧ j = 19 + 3 * K)) (x2 : ¬ (a = 229 ∧ j = 20 + 3 * K)) (x3 : ¬ (a = 224 ∧ j = 9)) : noiH H K x y z a j = H a j := by
  unfold noiH
  rw [uH_at, if_neg x3, uH_at, if_neg x2, uH_at, if_neg x1, uH_at, if_neg x0]
theorem noiH_v (H : Nat → Nat → Int) (K : Nat) (x y z : Int) : noiH H K x y z 229 (18 + 3 * K) = x ∧ noiH H K x y z 229 (19 + 3 * K) = y ∧ noiH H K x y z 229 (20 + 3 * K) = z ∧ noiH H K x y z 224 (9) = ((K + 1 : Nat) : Int) := by
  unfold noiH
  refine ⟨?_, ?_, ?_, ?_⟩
  · rw [uH_at, if_neg (by omega), uH_at, if_neg (by omega), uH_at, if_neg (by omega), uH_at, if_pos ⟨rfl, rfl⟩]
  · rw [uH_at, if_neg (by omega), uH_at, if_neg (by omega), uH_at, if_pos ⟨rfl, rfl⟩]
  · rw [uH_at, if_neg (by omega), uH_at, if_pos ⟨rfl, rfl⟩]
  · rw [uH_at, if_pos ⟨rfl, rfl⟩]
theorem HS_noi {A B : AH} {h : Nat} {H : Nat → Nat → Int} (hc : cok H) (s : HS A h H) (K : Nat) (x y z : Int) (hK : nNo H = K) (hK4 : K < 6) (g : ∀ a j, 271 ≤ a → ¬ (a = h + 8 ∧ j = 3 * K) → ¬ (a = h + 8 ∧ j = 3 * K + 1) → ¬ (a = h + 8 ∧ j = 3 * K + 2) → ¬ (a = h ∧ j = 4) → gi B a j = gi A a j) (hr : ∀ a j, ¬ (a = 42 ∧ j = 7) → gr B a j = gr A a j) (hl : B.2.2 = A.2.2) (e1 : gi B (h + 8) (3 * K) = x) (e2 : gi B (h + 8) (3 * K + 1) = y) (e3 : gi B (h + 8) (3 * K + 2) = z) (ec : gi B h 4 = ((K + 1 : Nat) : Int)) : HS B h (noiH H K x y z) := by
  obtain ⟨s1, s2, s3, s4, s5, s6⟩ := s
  have o := noiH_o H K x y z
  obtain ⟨q0, q1, q2, q3⟩ := noiH_v H K x y z
  unfold cok at hc
  have nPe' : nPe (noiH H K x y z) = nPe H := o 224 6 (by omega) (by omega) (by omega) (by omega)
  have nMu' : nMu (noiH H K x y z) = nMu H := o 224 7 (by omega) (by omega) (by omega) (by omega)
  have nPo' : nPo (noiH H K x y z) = nPo H := o 224 8 (by omega) (by omega) (by omega) (by omega)
  have nNo' : nNo (noiH H K x y z) = ((K + 1 : Nat) : Int) := q3
  have nHa' : nHa (noiH H K x y z) = nHa H := o 224 10 (by omega) (by omega) (by omega) (by omega)
  have nSe' : nSe (noiH H K x y z) = nSe H := o 224 11 (by omega) (by omega) (by omega) (by omega)
  obtain ⟨r1, r2, r3, r4, r5, r6, r7, r8, r9, r10, r11, r12, r13, r14, r15⟩ := s1
  have wr : ∀ w : Int, 0 ≤ w → w ≤ 1 → ∀ p, (p = 0 ∨ h + 9 < p) → WR A p H w → WR B p (noiH H K x y z) w := by
    intro w w1 w2 p hp q
    unfold WR codF at *
    rw [o 231 _ (by omega) (by omega) (by omega) (by omega), o 232 _ (by omega) (by omega) (by omega) (by omega), ln_eq hl]
    rcases q with q | ⟨x1, x2, x3, x4⟩
    · exact Or.inl q
    · refine Or.inr ⟨x1, x2, x3, fun k y1 y2 => ?_⟩
      rw [o 233 _ (by omega) (by omega) (by omega) (by omega), g (p) _ (by omega) (by omega) (by omega) (by omega) (by omega)]
      exact x4 k y1 y2
  have e16 : gr B h 16 = gr A h 16 := hr h 16 (by omega)
  have e17 : gr B h 17 = gr A h 17 := hr h 17 (by omega)
  refine ⟨⟨r1, ?_, ?_, ?_, ?_, ?_, ?_, ?_, ?_, ?_, ?_, ?_, ?_, ?_, ?_, ?_⟩, ⟨?_, ?_, ?_, ?_⟩, by rw [hr 46 3 (by omega)]; exact s3, s4, by rw [e16]; exact s5, by rw [e17]; exact s6⟩
  · rw [nSe', nPe', nPo', nNo', nMu', nHa', ec, g (h) 1 (by omega) (by omega) (by omega) (by omega) (by omega), g (h) 2 (by omega) (by omega) (by omega) (by omega) (by omega), g (h) 3 (by omega) (by omega) (by omega) (by omega) (by omega), g (h) 5 (by omega) (by omega) (by omega) (by omega) (by omega), g (h) 6 (by omega) (by omega) (by omega) (by omega) (by omega)]
    exact ⟨r2.1, r2.2.1, r2.2.2.1, rfl, r2.2.2.2.2.1, r2.2.2.2.2.2⟩
  · intro x hx
    unfold exi at hx
    rw [nPe', nMu'] at hx
    rw [g (h + 2) _ (by omega) (by omega) (by omega) (by omega) (by omega), g (h + 3) _ (by omega) (by omega) (by omega) (by omega) (by omega)]
    have := r3 x (by unfold exi; omega)
    unfold keepsF itchF at *
    by_cases c2 : x < 10
    · rw [if_pos c2] at this ⊢
      rw [if_pos c2] at this ⊢
      rw [o 226 _ (by omega) (by omega) (by omega) (by omega), o 226 _ (by omega) (by omega) (by omega) (by omega)]; exact this
    · rw [if_neg c2] at this ⊢
      rw [if_neg c2] at this ⊢
      rw [o 227 _ (by omega) (by omega) (by omega) (by omega)]; exact this
  · intro x h1 h2 h3
    unfold exi at h3
    rw [nPe', nMu'] at h3
    rw [g (h + 3) _ (by omega) (by omega) (by omega) (by omega) (by omega)]
    exact r4 x h1 h2 (by unfold exi; omega)
  · intro k h1 h2
    rw [nPe'] at h2
    rw [g (h + 4) _ (by omega) (by omega) (by omega) (by omega) (by omega), g (h + 5) _ (by omega) (by omega) (by omega) (by omega) (by omega), o 226 _ (by omega) (by omega) (by omega) (by omega), o 226 _ (by omega) (by omega) (by omega) (by omega)]
    exact r5 k h1 h2
  · intro k h1 h2
    rw [nMu'] at h2
    rw [g (h + 6) _ (by omega) (by omega) (by omega) (by omega) (by omega), o 227 _ (by omega) (by omega) (by omega) (by omega)]
    exact r6 k h1 h2
  · intro k h1 h2
    rw [nPo'] at h2
    rw [g (h + 7) _ (by omega) (by omega) (by omega) (by omega) (by omega), o 228 _ (by omega) (by omega) (by omega) (by omega)]
    exact r7 k h1 h2
  · intro k h1 h2
    rw [nNo'] at h2
    by_cases c : k = 3 * K
    · rw [c, show ((3 : Int) * (K : Int)).toNat = 3 * K by omega, e1, show (18 + 3 * (K : Int)).toNat = 18 + 3 * K by omega, q0]
    · by_cases c2 : k = 3 * K + 1
      · rw [c2, show ((3 : Int) * (K : Int) + 1).toNat = 3 * K + 1 by omega, e2, show (18 + (3 * (K : Int) + 1)).toNat = 19 + 3 * K by omega, q1]
      · by_cases c3 : k = 3 * K + 2
        · rw [c3, show ((3 : Int) * (K : Int) + 2).toNat = 3 * K + 2 by omega, e3, show (18 + (3 * (K : Int) + 2)).toNat = 20 + 3 * K by omega, q2]
        · rw [g (h + 8) _ (by omega) (by omega) (by omega) (by omega) (by omega), o 229 _ (by omega) (by omega) (by omega) (by omega)]
          exact r8 k h1 (by omega)
  · intro k h1 h2
    rw [g (h + 9) _ (by omega) (by omega) (by omega) (by omega) (by omega), o 230 _ (by omega) (by omega) (by omega) (by omega)]
    exact r9 k h1 h2
  · intro k h1 h2
    rw [nPe'] at h2
    rw [g (h + 1) _ (by omega) (by omega) (by omega) (by omega) (by omega), o 225 _ (by omega) (by omega) (by omega) (by omega)]
    exact r10 k h1 h2
  · intro k h1 h2
    rw [nMu'] at h2
    rw [g (h + 1) _ (by omega) (by omega) (by omega) (by omega) (by omega), o 225 _ (by omega) (by omega) (by omega) (by omega)]
    exact r11 k h1 h2
  · intro k h1 h2
    rw [nPo'] at h2
    rw [g (h + 1) _ (by omega) (by omega) (by omega) (by omega) (by omega), o 225 _ (by omega) (by omega) (by omega) (by omega)]
    exact r12 k h1 h2
  · rw [e16]; exact wr 0 (by omega) (by omega) _ s5 r13
  · rw [e17]; exact wr 1 (by omega) (by omega) _ s6 r14
  · rw [g (h) 18 (by omega) (by omega) (by omega) (by omega) (by omega)]; exact r15.1
  · rw [g (h) 18 (by omega) (by omega) (by omega) (by omega) (by omega)]
    intro z
    have := r15.2 z
    unfold noMin codF at *
    intro w w1 w2 w3 k y1 y2
    rw [o 231 _ (by omega) (by omega) (by omega) (by omega)] at w3 y1
    rw [o 232 _ (by omega) (by omega) (by omega) (by omega)] at y2
    rw [o 233 _ (by omega) (by omega) (by omega) (by omega)]
    exact this w w1 w2 w3 k y1 y2
  · intro k h1 h2
    rw [nPe'] at h2
    rw [o 225 _ (by omega) (by omega) (by omega) (by omega)]
    exact s2.1 k h1 h2
  · intro k h1 h2
    rw [nMu'] at h2
    rw [o 225 _ (by omega) (by omega) (by omega) (by omega)]
    exact s2.2.1 k h1 h2
  · intro k h1 h2
    rw [nPo'] at h2
    rw [o 225 _ (by omega) (by omega) (by omega) (by omega)]
    exact s2.2.2.1 k h1 h2
  · intro j h1 h2 h3 h4 h5
    rw [nPe'] at h3
    rw [nMu'] at h4
    rw [nPo'] at h5
    rw [g (h + 1) _ (by omega) (by omega) (by omega) (by omega) (by omega)]
    exact s2.2.2.2 j h1 h2 (by omega) (by omega) (by omega)
def hatH (H : Nat → Nat → Int) (K N : Nat) (x : Int) : Nat → Nat → Int := uH (uH H 230 (16 + K) x) 224 10 ((N + 1 : Nat) : Int)
theorem hatH_o (H : Nat → Nat → Int) (K N : Nat) (x : Int) (a j : Nat) (x0 : ¬ (a = 230 ∧ j = 16 + K)) (x1 : ¬ (a = 224 ∧ j = 10)) : hatH H K N x a j = H a j := by
  unfold hatH
  rw [uH_at, if_neg x1, uH_at, if_neg x0]
theorem hatH_v (H : Nat → Nat → Int) (K N : Nat) (x : Int) : hatH H K N x 230 (16 + K) = x ∧ hatH H K N x 224 (10) = ((N + 1 : Nat) : Int) := by
  unfold hatH
  refine ⟨?_, ?_⟩
  · rw [uH_at, if_neg (by omega), uH_at, if_pos ⟨rfl, rfl⟩]
  · rw [uH_at, if_pos ⟨rfl, rfl⟩]
theorem HS_hat {A B : AH} {h : Nat} {H : Nat → Nat → Int} (hc : cok H) (s : HS A h H) (K N : Nat) (x : Int) (hK4 : K < 16) (g : ∀ a j, 271 ≤ a → ¬ (a = h + 9 ∧ j = K) → ¬ (a = h ∧ j = 6) → gi B a j = gi A a j) (hr : ∀ a j, ¬ (a = 42 ∧ j = 7) → gr B a j = gr A a j) (hl : B.2.2 = A.2.2) (e1 : gi B (h + 9) K = x) (ec : gi B h 6 = ((N + 1 : Nat) : Int)) : HS B h (hatH H K N x) := by
  obtain ⟨s1, s2, s3, s4, s5, s6⟩ := s
  have o := hatH_o H K N x
  obtain ⟨q0, q1⟩ := hatH_v H K N x
  unfold cok at hc
  have nPe' : nPe (hatH H K N x) = nPe H := o 224 6 (by omega) (by omega)
  have nMu' : nMu (hatH H K N x) = nMu H := o 224 7 (by omega) (by omega)
  have nPo' : nPo (hatH H K N x) = nPo H := o 224 8 (by omega) (by omega)
  have nNo' : nNo (hatH H K N x) = nNo H := o 224 9 (by omega) (by omega)
  have nHa' : nHa (hatH H K N x) = ((N + 1 : Nat) : Int) := q1
  have nSe' : nSe (hatH H K N x) = nSe H := o 224 11 (by omega) (by omega)
  obtain ⟨r1, r2, r3, r4, r5, r6, r7, r8, r9, r10, r11, r12, r13, r14, r15⟩ := s1
  have wr : ∀ w : Int, 0 ≤ w → w ≤ 1 → ∀ p, (p = 0 ∨ h + 9 < p) → WR A p H w → WR B p (hatH H K N x) w := by
    intro w w1 w2 p hp q
    unfold WR codF at *
    rw [o 231 _ (by omega) (by omega), o 232 _ (by omega) (by omega), ln_eq hl]
    rcases q with q | ⟨x1, x2, x3, x4⟩
    · exact Or.inl q
    · refine Or.inr ⟨x1, x2, x3, fun k y1 y2 => ?_⟩
      rw [o 233 _ (by omega) (by omega), g (p) _ (by omega) (by omega) (by omega)]
      exact x4 k y1 y2
  have e16 : gr B h 16 = gr A h 16 := hr h 16 (by omega)
  have e17 : gr B h 17 = gr A h 17 := hr h 17 (by omega)
  refine ⟨⟨r1, ?_, ?_, ?_, ?_, ?_, ?_, ?_, ?_, ?_, ?_, ?_, ?_, ?_, ?_, ?_⟩, ⟨?_, ?_, ?_, ?_⟩, by rw [hr 46 3 (by omega)]; exact s3, s4, by rw [e16]; exact s5, by rw [e17]; exact s6⟩
  · rw [nSe', nPe', nPo', nNo', nMu', nHa', ec, g (h) 1 (by omega) (by omega) (by omega), g (h) 2 (by omega) (by omega) (by omega), g (h) 3 (by omega) (by omega) (by omega), g (h) 4 (by omega) (by omega) (by omega), g (h) 5 (by omega) (by omega) (by omega)]
    exact ⟨r2.1, r2.2.1, r2.2.2.1, r2.2.2.2.1, r2.2.2.2.2.1, rfl⟩
  · intro x hx
    unfold exi at hx
    rw [nPe', nMu'] at hx
    rw [g (h + 2) _ (by omega) (by omega) (by omega), g (h + 3) _ (by omega) (by omega) (by omega)]
    have := r3 x (by unfold exi; omega)
    unfold keepsF itchF at *
    by_cases c2 : x < 10
    · rw [if_pos c2] at this ⊢
      rw [if_pos c2] at this ⊢
      rw [o 226 _ (by omega) (by omega), o 226 _ (by omega) (by omega)]; exact this
    · rw [if_neg c2] at this ⊢
      rw [if_neg c2] at this ⊢
      rw [o 227 _ (by omega) (by omega)]; exact this
  · intro x h1 h2 h3
    unfold exi at h3
    rw [nPe', nMu'] at h3
    rw [g (h + 3) _ (by omega) (by omega) (by omega)]
    exact r4 x h1 h2 (by unfold exi; omega)
  · intro k h1 h2
    rw [nPe'] at h2
    rw [g (h + 4) _ (by omega) (by omega) (by omega), g (h + 5) _ (by omega) (by omega) (by omega), o 226 _ (by omega) (by omega), o 226 _ (by omega) (by omega)]
    exact r5 k h1 h2
  · intro k h1 h2
    rw [nMu'] at h2
    rw [g (h + 6) _ (by omega) (by omega) (by omega), o 227 _ (by omega) (by omega)]
    exact r6 k h1 h2
  · intro k h1 h2
    rw [nPo'] at h2
    rw [g (h + 7) _ (by omega) (by omega) (by omega), o 228 _ (by omega) (by omega)]
    exact r7 k h1 h2
  · intro k h1 h2
    rw [nNo'] at h2
    rw [g (h + 8) _ (by omega) (by omega) (by omega), o 229 _ (by omega) (by omega)]
    exact r8 k h1 h2
  · intro k h1 h2
    by_cases c : k = K
    · rw [c, Int.toNat_natCast, e1, show (16 + (K : Int)).toNat = 16 + K by omega, q0]
    · rw [g (h + 9) _ (by omega) (by omega) (by omega), o 230 _ (by omega) (by omega)]
      exact r9 k h1 h2
  · intro k h1 h2
    rw [nPe'] at h2
    rw [g (h + 1) _ (by omega) (by omega) (by omega), o 225 _ (by omega) (by omega)]
    exact r10 k h1 h2
  · intro k h1 h2
    rw [nMu'] at h2
    rw [g (h + 1) _ (by omega) (by omega) (by omega), o 225 _ (by omega) (by omega)]
    exact r11 k h1 h2
  · intro k h1 h2
    rw [nPo'] at h2
    rw [g (h + 1) _ (by omega) (by omega) (by omega), o 225 _ (by omega) (by omega)]
    exact r12 k h1 h2
  · rw [e16]; exact wr 0 (by omega) (by omega) _ s5 r13
  · rw [e17]; exact wr 1 (by omega) (by omega) _ s6 r14
  · rw [g (h) 18 (by omega) (by omega) (by omega)]; exact r15.1
  · rw [g (h) 18 (by omega) (by omega) (by omega)]
    intro z
    have := r15.2 z
    unfold noMin codF at *
    intro w w1 w2 w3 k y1 y2
    rw [o 231 _ (by omega) (by omega)] at w3 y1
    rw [o 232 _ (by omega) (by omega)] at y2
    rw [o 233 _ (by omega) (by omega)]
    exact this w w1 w2 w3 k y1 y2
  · intro k h1 h2
    rw [nPe'] at h2
    rw [o 225 _ (by omega) (by omega)]
    exact s2.1 k h1 h2
  · intro k h1 h2
    rw [nMu'] at h2
    rw [o 225 _ (by omega) (by omega)]
    exact s2.2.1 k h1 h2
  · intro k h1 h2
    rw [nPo'] at h2
    rw [o 225 _ (by omega) (by omega)]
    exact s2.2.2.1 k h1 h2
  · intro j h1 h2 h3 h4 h5
    rw [nPe'] at h3
    rw [nMu'] at h4
    rw [nPo'] at h5
    rw [g (h + 1) _ (by omega) (by omega) (by omega)]
    exact s2.2.2.2 j h1 h2 (by omega) (by omega) (by omega)
