/-! the text of a hall: the class reads it all -/
theorem bor_bd {x b : Int} (hx : 0 ≤ x ∧ x < 65536) (hb : 0 ≤ b ∧ b < 16) : 0 ≤ bor x (bshl 1 b) ∧ bor x (bshl 1 b) < 65536 := by
  have p : 2 ^ b.toNat < 2 ^ 16 := Nat.pow_lt_pow_right (by omega) (by omega)
  rw [bshl_1 (by omega) (by omega), bor_n hx.1 (by omega) (Int.natCast_nonneg _) (by omega), Int.toNat_natCast]
  have l : x.toNat ||| 2 ^ b.toNat < 2 ^ 16 := Nat.or_lt_two_pow (by omega) p
  omega
theorem party_bd (w : Nat) (h : partyW w ≠ -1) : 0 ≤ partyW w ∧ partyW w ≤ 2 := by
  unfold partyW at *
  by_cases c1 : w = 6
  · rw [if_pos c1]; decide
  · rw [if_neg c1] at h ⊢
    by_cases c2 : w = 7
    · rw [if_pos c2]; decide
    · rw [if_neg c2] at h ⊢
      by_cases c3 : w = 8
      · rw [if_pos c3]; decide
      · rw [if_neg c3] at h; exact absurd rfl h
def PK (L : Nat) (H : Nat → Nat → Int) (cd p : Nat) : Prop := PI H cd ∧ cd < p ∧ p ≤ L
theorem pk_pers {T : Nat → Int} {L : Nat} {H H' : Nat → Nat → Int} {cd p p' : Nat} {t t' : Bool} (tx : TX T L) (k : PK L H cd p) (h8 : nPe H < 8) (h : persG T L H p t = .ok (H', p', t')) : PK L H' cd p' := by
  obtain ⟨i, k1, k2⟩ := k
  have hc := i.1
  unfold cok at hc
  unfold persG at h
  cases h1 : giveG T L H p t with
  | error y => rw [h1] at h; cases h
  | ok y =>
    obtain ⟨v, p1, t1⟩ := y
    rw [h1] at h; simp only at h
    have a1 := giveG_ok tx k2 h1
    cases h2 : tellG T L p1 t1 3 1 99 with
    | error y => rw [h2] at h; cases h
    | ok y =>
      obtain ⟨ke, _, p2, t2⟩ := y
      rw [h2] at h; simp only at h
      have a2 := tellG_ok tx a1.2.2.2 (by decide) h2
      cases h3 : tellG T L p2 t2 4 0 100 with
      | error y => rw [h3] at h; cases h
      | ok y =>
        obtain ⟨it, _, p3, t3⟩ := y
        rw [h3] at h; simp only at h
        have a3 := tellG_ok tx a2.2.2.2 (by decide) h3
        cases h4 : tkW T L p3 t3 5 with
        | error y => rw [h4] at h; cases h
        | ok y =>
          obtain ⟨p4, t4⟩ := y
          rw [h4] at h; simp only at h
          have a4 := tkW_ok h4
          have s4 := stp_L tx a3.2.2.2
          have s4' := wrd_1 (T := T) (L := L) (p := p3) (t := t3) (by omega) tx
          by_cases c : partyW (wrd T L p4 t4) = -1
          · rw [if_pos c] at h; cases h
          · rw [if_neg c] at h
            have w0 : wrd T L p4 t4 ≠ 0 := fun y => c (by rw [y]; rfl)
            have s5 := wrd_1 w0 tx
            have s5' := stp_L (T := T) (L := L) (p := p4) tx (by omega)
            cases h5 : tellG T L (stp T L p4) true 9 0 (nSe H - 1) with
            | error y => rw [h5] at h; cases h
            | ok y =>
              obtain ⟨se, _, p5, t5⟩ := y
              rw [h5] at h; simp only at h
              have a5 := tellG_ok tx s5' (by decide) h5
              by_cases c2 : ex (fun k => decide (H 226 (35 + 4 * k).toNat = se)) (nPe H).toNat 0 = true
              · rw [if_pos c2] at h; cases h
              · rw [if_neg c2] at h
                injection h with h; injection h with q1 q2; injection q2 with q2 q3
                subst q1 q2
                exact ⟨PI_pers i (by omega) (by omega) (by omega) (by omega) (by omega) (party_bd _ c) (by omega) (by simpa using c2), by omega, by omega⟩
theorem pk_mut {T : Nat → Int} {L : Nat} {H H' : Nat → Nat → Int} {cd p p' : Nat} {t t' : Bool} (tx : TX T L) (k : PK L H cd p) (h8 : nMu H < 6) (h : mutG T L H p t = .ok (H', p', t')) : PK L H' cd p' := by
  obtain ⟨i, k1, k2⟩ := k
  have hc := i.1
  unfold cok at hc
  unfold mutG at h
  cases h1 : giveG T L H p t with
  | error y => rw [h1] at h; cases h
  | ok y =>
    obtain ⟨v, p1, t1⟩ := y
    rw [h1] at h; simp only at h
    have a1 := giveG_ok tx k2 h1
    cases h2 : tellG T L p1 t1 3 1 99 with
    | error y => rw [h2] at h; cases h
    | ok y =>
      obtain ⟨ke, _, p2, t2⟩ := y
      rw [h2] at h; simp only at h
      have a2 := tellG_ok tx a1.2.2.2 (by decide) h2
      cases h3 : tellG T L p2 t2 16 0 99 with
      | error y => rw [h3] at h; cases h
      | ok y =>
        obtain ⟨it, _, p3, t3⟩ := y
        rw [h3] at h; simp only at h
        have a3 := tellG_ok tx a2.2.2.2 (by decide) h3
        injection h with h; injection h with q1 q2; injection q2 with q2 q3
        subst q1 q2
        exact ⟨PI_mute i (by omega) (by omega) (by omega) (by omega) (by omega), by omega, by omega⟩
theorem pk_pnt {T : Nat → Int} {L : Nat} {H H' : Nat → Nat → Int} {cd p p' : Nat} {t t' : Bool} (tx : TX T L) (k : PK L H cd p) (h8 : nPo H < 4) (h : pntG T L H p t = .ok (H', p', t')) : PK L H' cd p' := by
  obtain ⟨i, k1, k2⟩ := k
  have hc := i.1
  unfold cok at hc
  unfold pntG at h
  cases h1 : giveG T L H p t with
  | error y => rw [h1] at h; cases h
  | ok y =>
    obtain ⟨v, p1, t1⟩ := y
    rw [h1] at h; simp only at h
    have a1 := giveG_ok tx k2 h1
    cases h2 : tellG T L p1 t1 6 0 99 with
    | error y => rw [h2] at h; cases h
    | ok y =>
      obtain ⟨ke, _, p2, t2⟩ := y
      rw [h2] at h; simp only at h
      have a2 := tellG_ok tx a1.2.2.2 (by decide) h2
      cases h3 : tellG T L p2 t2 7 0 99 with
      | error y => rw [h3] at h; cases h
      | ok y =>
        obtain ⟨it, _, p3, t3⟩ := y
        rw [h3] at h; simp only at h
        have a3 := tellG_ok tx a2.2.2.2 (by decide) h3
        injection h with h; injection h with q1 q2; injection q2 with q2 q3
        subst q1 q2
        exact ⟨PI_pnt i (by omega) (by omega) (by omega) (by omega) (by omega), by omega, by omega⟩
theorem pk_noi {T : Nat → Int} {L : Nat} {H H' : Nat → Nat → Int} {cd p p' : Nat} {t t' : Bool} (tx : TX T L) (k : PK L H cd p) (h8 : nNo H < 6) (h : noiG T L H p t = .ok (H', p', t')) : PK L H' cd p' := by
  obtain ⟨i, k1, k2⟩ := k
  have hc := i.1
  unfold cok at hc
  unfold noiG at h
  cases h1 : tellG T L p t 9 0 99 with
  | error y => rw [h1] at h; cases h
  | ok y =>
    obtain ⟨v, _, p1, t1⟩ := y
    rw [h1] at h; simp only at h
    have a1 := tellG_ok tx k2 (by decide) h1
    cases h2 : tellG T L p1 t1 13 0 (nSe H - 1) with
    | error y => rw [h2] at h; cases h
    | ok y =>
      obtain ⟨ke, _, p2, t2⟩ := y
      rw [h2] at h; simp only at h
      have a2 := tellG_ok tx a1.2.2.2 (by decide) h2
      cases h3 : tellG T L p2 t2 14 1 9 with
      | error y => rw [h3] at h; cases h
      | ok y =>
        obtain ⟨it, _, p3, t3⟩ := y
        rw [h3] at h; simp only at h
        have a3 := tellG_ok tx a2.2.2.2 (by decide) h3
        injection h with h; injection h with q1 q2; injection q2 with q2 q3
        subst q1 q2
        exact ⟨PI_noi i (by omega) (by omega) (by omega) (by omega) (by omega), by omega, by omega⟩
theorem pk_hat {T : Nat → Int} {L : Nat} {H H' : Nat → Nat → Int} {cd p p' : Nat} {t t' : Bool} (tx : TX T L) (k : PK L H cd p) (h8 : nHa H < 12) (h : hatG T L H p t = .ok (H', p', t')) : PK L H' cd p' := by
  obtain ⟨i, k1, k2⟩ := k
  have hc := i.1
  unfold cok at hc
  have f1 := fnd_rng i.1 (nameV T L p)
  unfold hatG at h
  cases h1 : tkA T L p t with
  | error y => rw [h1] at h; cases h
  | ok y =>
    obtain ⟨p1, t1⟩ := y
    rw [h1] at h; simp only at h
    obtain ⟨a1, a2, a3, a4⟩ := tkA_ok h1
    have x1 := stp_1 (T := T) (L := L) (p := p) (t := t) (Or.inl a1) tx
    have x2 := stp_L tx k2
    by_cases c : fnd H (nameV T L p) = -1 ∨ 16 ≤ fnd H (nameV T L p)
    · rw [if_pos c] at h; cases h
    · rw [if_neg c] at h
      have f2 := fnd_rng i.1 (nameV T L p1)
      cases h2 : tkA T L p1 t1 with
      | error y => rw [h2] at h; cases h
      | ok y =>
        obtain ⟨p2, t2⟩ := y
        rw [h2] at h; simp only at h
        obtain ⟨b1, b2, b3, b4⟩ := tkA_ok h2
        have x3 := stp_1 (T := T) (L := L) (p := p1) (t := t1) (Or.inl b1) tx
        have x4 := stp_L (T := T) (L := L) (p := p1) tx (by omega)
        by_cases c2 : fnd H (nameV T L p1) = -1 ∨ 16 ≤ fnd H (nameV T L p1) ∨ fnd H (nameV T L p1) = fnd H (nameV T L p) ∨ band (bshr (H 230 (16 + fnd H (nameV T L p)).toNat) (fnd H (nameV T L p1))) 1 ≠ 0
        · rw [if_pos c2] at h; cases h
        · rw [if_neg c2] at h
          injection h with h; injection h with q1 q2; injection q2 with q2 q3
          subst q1 q2
          have z1 : ¬ fnd H (nameV T L p1) = -1 := fun y => c2 (Or.inl y)
          have z2 : ¬ 16 ≤ fnd H (nameV T L p1) := fun y => c2 (Or.inr (Or.inl y))
          have hb := i.2.1.2.2.2.2.2.1 (16 + fnd H (nameV T L p)).toNat (by omega) (by omega)
          exact ⟨PI_hat i (by omega) (by omega) (by omega) (bor_bd hb (by omega)), by omega, by omega⟩
theorem pk_wor {T : Nat → Int} {L : Nat} {H H' : Nat → Nat → Int} {cd cd' w p p' : Nat} {t t' : Bool} (tx : TX T L) (k : PK L H cd p) (hw : w ≤ 1) (h0 : wrd T L p t ≠ 0) (h : worG T L H cd w p = .ok (H', cd', p', t')) : PK L H' cd' p' := by
  obtain ⟨i, k1, k2⟩ := k
  have tL := tx.1
  unfold worG at h
  by_cases c : H 231 (2 + w) ≠ -1
  · rw [if_pos c] at h; cases h
  · rw [if_neg c] at h
    have x1 := wrd_1 h0 tx
    have x2 := stp_L tx k2
    cases hS : sumG T L (partG T L false 6) (stp T L p) true with
    | error y => rw [hS] at h; cases h
    | ok y =>
      obtain ⟨cs, p1, t1⟩ := y
      rw [hS] at h
      injection h with h; injection h with q1 q2; injection q2 with q2 q3; injection q3 with q3 q4
      have gp := GP_sum tx (GP_partG tx false 6) _ _ _ _ _ x2 hS
      subst q1 q2 q3
      exact ⟨PI_wor i hw (wfL_end (by decide) (GW_sum (GW_partG false 6) _ _ _ _ _ hS)) (by omega), by omega, gp.2.2⟩
theorem lift2_ok {cd : Nat} {e : HG} {H' : Nat → Nat → Int} {cd' p' : Nat} {t' : Bool} (h : lift2 cd e = .ok (H', cd', p', t')) : e = .ok (H', p', t') ∧ cd' = cd := by
  unfold lift2 at h
  cases e with
  | error y => cases h
  | ok y =>
    obtain ⟨a, b, c⟩ := y
    injection h with h; injection h with q1 q2; injection q2 with q2 q3; injection q3 with q3 q4
    subst q1 q2 q3 q4
    exact ⟨rfl, rfl⟩
theorem pk_st {T : Nat → Int} {L : Nat} {H H' : Nat → Nat → Int} {cd cd' p p' : Nat} {t t' : Bool} (tx : TX T L) (k : PK L H cd p) (h : stG T L H cd p t = .ok (H', cd', p', t')) : PK L H' cd' p' := by
  unfold stG at h
  have kk : wrd T L p t ≠ 0 → PK L H cd (stp T L p) := fun h0 => ⟨k.1, by have := wrd_1 h0 tx; have := k.2.1; omega, stp_L tx k.2.2⟩
  by_cases c1 : wrd T L p t = 2
  · rw [if_pos c1] at h
    by_cases c : nPe H < 8
    · rw [if_pos c] at h
      obtain ⟨q1, q2⟩ := lift2_ok h
      rw [q2]
      exact pk_pers tx (kk (by omega)) c q1
    · rw [if_neg c] at h; cases h
  rw [if_neg c1] at h
  by_cases c2 : wrd T L p t = 10
  · rw [if_pos c2] at h
    by_cases c : nHa H < 12
    · rw [if_pos c] at h
      obtain ⟨q1, q2⟩ := lift2_ok h
      rw [q2]
      exact pk_hat tx (kk (by omega)) c q1
    · rw [if_neg c] at h; cases h
  rw [if_neg c2] at h
  by_cases c3 : wrd T L p t = 11
  · rw [if_pos c3] at h
    by_cases c : nPo H < 4
    · rw [if_pos c] at h
      obtain ⟨q1, q2⟩ := lift2_ok h
      rw [q2]
      exact pk_pnt tx (kk (by omega)) c q1
    · rw [if_neg c] at h; cases h
  rw [if_neg c3] at h
  by_cases c4 : wrd T L p t = 12
  · rw [if_pos c4] at h
    by_cases c : nNo H < 6
    · rw [if_pos c] at h
      obtain ⟨q1, q2⟩ := lift2_ok h
      rw [q2]
      exact pk_noi tx (kk (by omega)) c q1
    · rw [if_neg c] at h; cases h
  rw [if_neg c4] at h
  by_cases c5 : wrd T L p t = 15
  · rw [if_pos c5] at h
    by_cases c : nMu H < 6
    · rw [if_pos c] at h
      obtain ⟨q1, q2⟩ := lift2_ok h
      rw [q2]
      exact pk_mut tx (kk (by omega)) c q1
    · rw [if_neg c] at h; cases h
  rw [if_neg c5] at h
  by_cases c6 : wrd T L p t = 17
  · rw [if_pos c6] at h
    exact pk_wor (t := t) tx k (by decide) (by omega) h
  rw [if_neg c6] at h
  by_cases c7 : wrd T L p t = 18
  · rw [if_pos c7] at h
    exact pk_wor (t := t) tx k (by decide) (by omega) h
  rw [if_neg c7] at h
  cases h
abbrev HG3 : Type := Except (Int × Int) ((Nat → Nat → Int) × Nat × Nat)
noncomputable def rdL (T : Nat → Int) (L : Nat) : Nat → (Nat → Nat → Int) → Nat → Nat → Nat → Bool → HG3
  | 0, H, cd, k, _, _ => .ok (H, cd, k)
  | m + 1, H, cd, k, p, t => if knd T L p t = 0 then .ok (H, cd, k) else if k = 60 then .error (5, bl T L p) else match stG T L H cd p t with
    | .error e => .error e
    | .ok (H', cd', p1, t1) => match tkS T L p1 t1 59 with
      | .error e => .error e
      | .ok (p2, t2) => rdL T L m H' cd' (k + 1) p2 t2
def frU2 (h : Nat) (A B : AH) : Prop := frU h A B
set_option maxRecDepth 100000 in
theorem l_readC (d : Nat) {T : Nat → Int} {L h : Nat} (tx : TX T L) : ∀ (m n k : Nat) (H : Nat → Nat → Int) (cd p : Nat) (t : Bool) (A : AH), k + m = 61 → 1 ≤ k → 5 * m + 20 ≤ n → PK L H cd p → HS2 A h H → RdS A T L p t → gi A h 0 = k →
    (∀ e s, rdL T L m H cd k p t = .error (e, s) → ∃ B, go true 13 (runF (d + 53)) (runN (d + 53)) pb_X4_read n 42 [vR 14 46 0, vI (k : Int)] [] A = some (some (vR 13 0 0), B) ∧ gi B 42 11 = e ∧ gi B 42 12 = s ∧ frU h A B ∧ sz A ≤ sz B ∧ sz B ≤ sz A + uc H ∧ sl B ≤ sl A + 1600 * uc H)
    ∧ (∀ H' cd' k', rdL T L m H cd k p t = .ok (H', cd', k') → ∃ B, go true 13 (runF (d + 53)) (runN (d + 53)) pb_X4_read n 42 [vR 14 46 0, vI (k : Int)] [] A = some (some (vR 13 h 0), B) ∧ HS2 B h H' ∧ PI H' cd' ∧ cd' < L ∧ gi B h 0 = (k' : Int) ∧ (gi B 42 11 = gi A 42 11 ∧ gi B 42 12 = gi A 42 12) ∧ frU h A B ∧ sz A ≤ sz B ∧ sz B ≤ sz A + uc H ∧ sl B ≤ sl A + 1600 * uc H) := by
  intro m
  induction m with
  | zero =>
    intro n k H cd p t A h1 h2 hn pk s r h0
    obtain ⟨n, rfl⟩ : ∃ e, n = e + 20 := ⟨n - 20, by omega⟩
    have e : go true 13 (runF (d + 53)) (runN (d + 53)) pb_X4_read (n + 20) 42 [vR 14 46 0, vI (k : Int)] [] A = some (some (vR 13 h 0), A) := by
      rw [q_X4_read_42, if_pos (by omega), s.1.2.2.1]
    unfold rdL
    refine ⟨(fun e s q => by cases q), (fun H' cd' k' q => ?_)⟩
    injection q with q; injection q with q1 q2; injection q2 with q2 q3
    subst q1 q2 q3
    exact ⟨A, e, s, pk.1, by have := pk.2; omega, h0, ⟨rfl, rfl⟩, frU_refl h A, Nat.le_refl _, by omega, by omega⟩
  | succ m ih =>
    intro n k H cd p t A h1 h2 hn pk s r h0
    obtain ⟨n, rfl⟩ : ∃ e, n = e + 20 := ⟨n - 20, by omega⟩
    have h271 := s.1.2.2.2.1
    unfold rdL
    by_cases c0 : knd T L p t = 0
    · rw [if_pos c0]
      refine ⟨(fun e s q => by cases q), (fun H' cd' k' q => ?_)⟩
      injection q with q; injection q with q1 q2; injection q2 with q2 q3
      subst q1 q2 q3
      refine ⟨A, ?_, s, pk.1, by have := pk.2; omega, h0, ⟨rfl, rfl⟩, frU_refl h A, Nat.le_refl _, by omega, by omega⟩
      rw [q_X4_read_42, if_neg (by omega), r.2.2.2.1, if_pos c0, s.1.2.2.1]
    · rw [if_neg c0]
      by_cases c1 : k = 60
      · rw [if_pos c1]
        refine ⟨(fun e s q => ?_), (fun H' cd' k' q => by cases q)⟩
        injection q with q; injection q with q1 q2
        subst q1 q2
        refine ⟨_, ?_, (FL_f A 5 _).1, (FL_f A 5 _).2.1, frO_U (frF_O (FL_f A 5 (bl T L p)).2.2), Nat.le_refl _, Nat.le_add_right _ _, Nat.le_add_right _ _⟩
        rw [q_X4_read_42, if_neg (by omega), r.2.2.2.1, if_neg c0, if_pos (by omega), s_failC, cI_v, r.2.1]
      · rw [if_neg c1]
        obtain ⟨g1, g2⟩ := s_statementC d tx A cd pk.1.1 s pk.1.2.2.2.1 pk.2.1 r
        have e0 : ∀ R, (cI (runF (d + 53) 56 [vR 14 46 0] A) fun r4 A3 => if r4 = 0 then some (some (vR 13 0 0), A3) else cI (runF (d + 53) 90 [vR 18 42 0, vI 59] A3) fun r6 A5 => if r6 = 0 then some (some (vR 13 0 0), A5) else if gr A5 46 3 = 0 then none else if gr A5 46 3 = 0 then none else go true 13 (runF (d + 53)) (runN (d + 53)) pb_X4_read (n + 17) 116 [vR 14 46 0, vI (k : Int)] [] (wi A5 (gr A5 46 3) 0 (w32 ((gi A5 (gr A5 46 3) 0) + 1)))) = R → go true 13 (runF (d + 53)) (runN (d + 53)) pb_X4_read (n + 20) 42 [vR 14 46 0, vI (k : Int)] [] A = R := by
          intro R hR
          rw [q_X4_read_42, if_neg (by omega), r.2.2.2.1, if_neg c0, if_neg (by omega)]
          exact hR
        cases hS : stG T L H cd p t with
        | error y =>
          obtain ⟨k0, s0⟩ := y
          obtain ⟨B, b1, b2, b3, b4, b5⟩ := g1 k0 s0 hS
          refine ⟨(fun e s q => ?_), (fun H' cd' k' q => by cases q)⟩
          injection q with q; injection q with q1 q2
          subst q1 q2
          have zB : sz B = sz A := by unfold sz; rw [b5]
          have lB : sl B = sl A := by unfold sl; rw [b5]
          exact ⟨B, e0 _ (by rw [b1, cI_v, if_pos rfl]), b2, b3, b4, by omega, by omega, by omega⟩
        | ok y =>
          obtain ⟨H1, cd1, p1, t1⟩ := y
          obtain ⟨B, b1, b2, b3, b4, b5, b6, b7, b8, b9⟩ := g2 H1 cd1 p1 t1 hS
          have pk1 := pk_st tx pk hS
          have k1 := s_takeSign (d + 50) 59 B b2 (by decide)
          simp only
          cases hT : tkS T L p1 t1 59 with
          | error y =>
            obtain ⟨k0, s0⟩ := y
            rw [hT] at k1
            obtain ⟨C, c1', c2⟩ := k1
            refine ⟨(fun e s q => ?_), (fun H' cd' k' q => by cases q)⟩
            injection q with q; injection q with q1 q2
            subst q1 q2
            have zC : sz C = sz B := by unfold sz; rw [c2.2.2.2.2]
            have lC : sl C = sl B := by unfold sl; rw [c2.2.2.2.2]
            exact ⟨C, e0 _ (by rw [b1, cI_v, if_neg (by omega), c1', cI_v, if_pos rfl]), c2.1, c2.2.1, frU_trans b6 (frO_U (frF_O c2.2.2)), by omega, by omega, by omega⟩
          | ok y =>
            obtain ⟨p2, t2⟩ := y
            rw [hT] at k1
            obtain ⟨C, c1', c2, c3, _⟩ := k1
            have kk := tkS_ok hT
            have x1 := sgn_1 kk.1 (by decide) tx
            have x2 := stp_L tx pk1.2.2
            have C46 : gr C 46 3 = h := by rw [c3.2.1 46 3 (by omega)]; exact b3.1.2.2.1
            have C0 : gi C h 0 = k := by rw [c3.1 h 0 (by omega), b5]; exact h0
            have zC : sz C = sz B := by unfold sz; rw [c3.2.2]
            have lC : sl C = sl B := by unfold sl; rw [c3.2.2]
            have sD : HS2 (wi C h 0 ((k + 1 : Nat) : Int)) h H1 := by
              obtain ⟨⟨a1, a2, a3, a4, a5, a6⟩, a7, a8, a9⟩ := b3
              have fC : frO B C := frR_O c3
              have hsC := HS_S fC ⟨a1, a2, a3, a4, a5, a6⟩
              obtain ⟨y1, y2, y3, y4, y5, y6⟩ := hsC
              refine ⟨⟨?_, NM_fr (fun j => by rw [gi_wi, if_neg (by omega)]) y2, y3, y4, y5, y6⟩, ?_, ?_, ?_⟩
              · unfold HR WR at *
                obtain ⟨r1, r2, r3, r4, r5, r6, r7, r8, r9, r10, r11, r12, r13, r14, r15⟩ := y1
                have G : ∀ a j, ¬ (a = h ∧ j = 0) → gi (wi C h 0 ((k + 1 : Nat) : Int)) a j = gi C a j := fun a j q => by rw [gi_wi, if_neg q]
                refine ⟨r1, ?_, fun x hx => ?_, fun x q1 q2 q3 => ?_, fun k q1 q2 => ?_, fun k q1 q2 => ?_, fun k q1 q2 => ?_, fun k q1 q2 => ?_, fun k q1 q2 => ?_, fun k q1 q2 => ?_, fun k q1 q2 => ?_, fun k q1 q2 => ?_, ?_, ?_, ?_⟩
                · rw [G h 1 (by omega), G h 2 (by omega), G h 3 (by omega), G h 4 (by omega), G h 5 (by omega), G h 6 (by omega)]; exact r2
                · rw [G _ _ (by omega), G _ _ (by omega)]; exact r3 x hx
                · rw [G _ _ (by omega)]; exact r4 x q1 q2 q3
                · rw [G _ _ (by omega), G _ _ (by omega)]; exact r5 k q1 q2
                · rw [G _ _ (by omega)]; exact r6 k q1 q2
                · rw [G _ _ (by omega)]; exact r7 k q1 q2
                · rw [G _ _ (by omega)]; exact r8 k q1 q2
                · rw [G _ _ (by omega)]; exact r9 k q1 q2
                · rw [G _ _ (by omega)]; exact r10 k q1 q2
                · rw [G _ _ (by omega)]; exact r11 k q1 q2
                · rw [G _ _ (by omega)]; exact r12 k q1 q2
                · rcases r13 with q | ⟨q1, q2, q3, q4⟩
                  · exact Or.inl q
                  · exact Or.inr ⟨q1, q2, q3, fun k u1 u2 => by rw [G _ _ (fun z => by have := z.1; rw [gr_wi] at this; omega)]; exact q4 k u1 u2⟩
                · rcases r14 with q | ⟨q1, q2, q3, q4⟩
                  · exact Or.inl q
                  · exact Or.inr ⟨q1, q2, q3, fun k u1 u2 => by rw [G _ _ (fun z => by have := z.1; rw [gr_wi] at this; omega)]; exact q4 k u1 u2⟩
                · rw [G h 18 (by omega)]; exact r15
              · show h + 9 < sz C; omega
              · show gr C h 16 < sz C; rw [c3.2.1 h 16 (by omega)]; omega
              · show gr C h 17 < sz C; rw [c3.2.1 h 17 (by omega)]; omega
            have rD : RdS (wi C h 0 ((k + 1 : Nat) : Int)) T L p2 t2 := RdS_fr (A := C) (fun j => by rw [gi_wi, if_neg (by omega)]) (fun j => by rw [gi_wi, if_neg (by omega)]) (fun _ => rfl) rfl c2
            obtain ⟨i1, i2⟩ := ih (n + 16) (k + 1) H1 cd1 p2 t2 (wi C h 0 ((k + 1 : Nat) : Int)) (by omega) (by omega) (by omega) ⟨pk1.1, by have := pk1.2.1; omega, by omega⟩ sD rD (by rw [gi_wi, if_pos ⟨rfl, rfl⟩])
            have e1 : go true 13 (runF (d + 53)) (runN (d + 53)) pb_X4_read (n + 20) 42 [vR 14 46 0, vI (k : Int)] [] A = go true 13 (runF (d + 53)) (runN (d + 53)) pb_X4_read (n + 16) 42 [vR 14 46 0, vI ((k + 1 : Nat) : Int)] [] (wi C h 0 ((k + 1 : Nat) : Int)) := by
              refine e0 _ ?_
              rw [b1, cI_v, if_neg (by omega), c1', cI_v, if_neg (by omega), C46, if_neg (by omega), if_neg (by omega), C0, wid (by omega) (by omega), q_X4_read_116, wid (by omega) (by omega), show (k : Int) + 1 = ((k + 1 : Nat) : Int) by omega]
            have uC : frU h A (wi C h 0 ((k + 1 : Nat) : Int)) := frU_wi _ _ _ (by omega) (frU_trans b6 (frR_U c3))
            have zW : sz (wi C h 0 ((k + 1 : Nat) : Int)) = sz B := zC
            have lW : sl (wi C h 0 ((k + 1 : Nat) : Int)) = sl B := lC
            refine ⟨(fun e s q => ?_), (fun H' cd' k' q => ?_)⟩
            · obtain ⟨D, d1, d2, d3, d4, d5, d6, d7⟩ := i1 e s q
              exact ⟨D, e1.trans d1, d2, d3, frU_trans uC d4, by omega, by omega, by omega⟩
            · obtain ⟨D, d1, d2, d3, d4, d5, d6, d7, d8, d9, d10⟩ := i2 H' cd' k' q
              refine ⟨D, e1.trans d1, d2, d3, d4, d5, ⟨?_, ?_⟩, frU_trans uC d7, by omega, by omega, by omega⟩
              · rw [d6.1, gi_wi, if_neg (by omega), c3.1 42 11 (by omega), b4.1]
              · rw [d6.2, gi_wi, if_neg (by omega), c3.1 42 12 (by omega), b4.2]
