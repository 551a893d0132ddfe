/-! a hall stands: nothing but what was told has changed -/
def rg (cd a j : Nat) : Prop := (a = 224 ∧ 6 ≤ j ∧ j < 12) ∨ (a = 225 ∧ 24 ≤ j ∧ j < 48) ∨ (a = 226 ∧ 32 ≤ j ∧ j < 64) ∨ (a = 227 ∧ 12 ≤ j ∧ j < 24) ∨ (a = 228 ∧ 8 ≤ j ∧ j < 16) ∨ (a = 229 ∧ 18 ≤ j ∧ j < 36) ∨ (a = 230 ∧ 16 ≤ j ∧ j < 32) ∨ ((a = 231 ∨ a = 232) ∧ 2 ≤ j ∧ j < 4) ∨ (a = 233 ∧ 1600 ≤ j ∧ j < 1600 + cd)
def KO (F H : Nat → Nat → Int) (cd : Nat) : Prop := ∀ a j, ¬ rg cd a j → H a j = F a j
theorem ko_st {T : Nat → Int} {L : Nat} {F H H' : Nat → Nat → Int} {cd cd' p p' : Nat} {t t' : Bool} (hc : cok H) (k : KO F H cd) (h : stG T L H cd p t = .ok (H', cd', p', t')) : KO F H' cd' := by
  have hc0 := hc
  unfold cok at hc
  have wor : ∀ w : Nat, w ≤ 1 → worG T L H cd w p = .ok (H', cd', p', t') → KO F H' cd' := by
    intro w hw h
    unfold worG at h
    by_cases c : H 231 (2 + w) ≠ -1
    · rw [if_pos c] at h; cases h
    · rw [if_neg c] at h
      cases hS : sumG T L (partG T L false 6) (stp T L p) true with
      | error y => rw [hS] at h; cases h
      | ok y =>
        obtain ⟨cs, p1, t1⟩ := y
        rw [hS] at h
        injection h with h; injection h with q1 q2; injection q2 with q2 q3
        subst q1 q2
        intro a j hn
        unfold rg at hn
        rw [worH_o H cd w cs a j (fun y => hn (by right; right; right; right; right; right; right; right; omega)) (fun y => hn (by right; right; right; right; right; right; right; left; omega))]
        refine k a j (fun y => hn ?_)
        unfold rg at y
        rcases y with y | y | y | y | y | y | y | y | y
        · left; exact y
        · right; left; exact y
        · right; right; left; exact y
        · right; right; right; left; exact y
        · right; right; right; right; left; exact y
        · right; right; right; right; right; left; exact y
        · right; right; right; right; right; right; left; exact y
        · right; right; right; right; right; right; right; left; exact y
        · right; right; right; right; right; right; right; right; omega
  unfold stG at h
  by_cases c1 : wrd T L p t = 2
  · rw [if_pos c1] at h
    by_cases c : nPe H < 8
    · rw [if_pos c] at h
      obtain ⟨q1, rfl⟩ := lift2_ok h
      obtain ⟨v, ke, it, pa, se, rfl⟩ := u_pers q1
      intro a j hn
      rw [persH_o _ _ _ _ _ _ _ a j (fun y => hn (by unfold rg; left; omega)) (fun y => hn (by unfold rg; right; left; omega)) (fun y => hn (by unfold rg; right; right; left; omega))]
      exact k a j hn
    · rw [if_neg c] at h; cases h
  rw [if_neg c1] at h
  by_cases c2 : wrd T L p t = 10
  · rw [if_pos c2] at h
    by_cases c : nHa H < 12
    · rw [if_pos c] at h
      obtain ⟨q1, rfl⟩ := lift2_ok h
      unfold hatG at q1
      cases h1 : tkA T L (stp T L p) true with
      | error y => rw [h1] at q1; cases q1
      | ok y =>
        obtain ⟨p1, t1⟩ := y
        rw [h1] at q1; simp only at q1
        have f1 := fnd_rng hc0 (nameV T L (stp T L p))
        generalize fnd H (nameV T L (stp T L p)) = y1 at q1 f1
        by_cases d1 : y1 = -1 ∨ 16 ≤ y1
        · rw [if_pos d1] at q1; cases q1
        · rw [if_neg d1] at q1
          cases h2 : tkA T L p1 t1 with
          | error y => rw [h2] at q1; cases q1
          | ok y =>
            obtain ⟨p2, t2⟩ := y
            rw [h2] at q1; simp only at q1
            by_cases d2 : fnd H (nameV T L p1) = -1 ∨ 16 ≤ fnd H (nameV T L p1) ∨ fnd H (nameV T L p1) = y1 ∨ band (bshr (H 230 (16 + y1).toNat) (fnd H (nameV T L p1))) 1 ≠ 0
            · rw [if_pos d2] at q1; cases q1
            · rw [if_neg d2] at q1
              injection q1 with q1; injection q1 with w1 w2
              subst w1
              intro a j hn
              rw [hatH_o _ _ _ _ a j (fun y => hn (by unfold rg; right; right; right; right; right; right; left; omega)) (fun y => hn (by unfold rg; left; omega))]
              exact k a j hn
    · rw [if_neg c] at h; cases h
  rw [if_neg c2] at h
  by_cases c3 : wrd T L p t = 11
  · rw [if_pos c3] at h
    by_cases c : nPo H < 4
    · rw [if_pos c] at h
      obtain ⟨q1, rfl⟩ := lift2_ok h
      obtain ⟨v, x, y, rfl⟩ := u_pnt q1
      intro a j hn
      rw [pntH_o _ _ _ _ _ a j (fun y => hn (by unfold rg; right; left; omega)) (fun y => hn (by unfold rg; right; right; right; right; left; omega)) (fun y => hn (by unfold rg; right; right; right; right; left; omega)) (fun y => hn (by unfold rg; left; omega))]
      exact k a j hn
    · rw [if_neg c] at h; cases h
  rw [if_neg c3] at h
  by_cases c4 : wrd T L p t = 12
  · rw [if_pos c4] at h
    by_cases c : nNo H < 6
    · rw [if_pos c] at h
      obtain ⟨q1, rfl⟩ := lift2_ok h
      obtain ⟨x, y, z, rfl⟩ := u_noi q1
      intro a j hn
      rw [noiH_o _ _ _ _ _ a j (fun y => hn (by unfold rg; right; right; right; right; right; left; omega)) (fun y => hn (by unfold rg; right; right; right; right; right; left; omega)) (fun y => hn (by unfold rg; right; right; right; right; right; left; omega)) (fun y => hn (by unfold rg; left; omega))]
      exact k a j hn
    · rw [if_neg c] at h; cases h
  rw [if_neg c4] at h
  by_cases c5 : wrd T L p t = 15
  · rw [if_pos c5] at h
    by_cases c : nMu H < 6
    · rw [if_pos c] at h
      obtain ⟨q1, rfl⟩ := lift2_ok h
      obtain ⟨v, x, y, rfl⟩ := u_mut q1
      intro a j hn
      rw [muteH_o _ _ _ _ _ a j (fun y => hn (by unfold rg; right; left; omega)) (fun y => hn (by unfold rg; right; right; right; left; omega)) (fun y => hn (by unfold rg; right; right; right; left; omega)) (fun y => hn (by unfold rg; left; omega))]
      exact k a j hn
    · rw [if_neg c] at h; cases h
  rw [if_neg c5] at h
  by_cases c6 : wrd T L p t = 17
  · rw [if_pos c6] at h
    exact wor 0 (by omega) h
  rw [if_neg c6] at h
  by_cases c7 : wrd T L p t = 18
  · rw [if_pos c7] at h
    exact wor 1 (by omega) h
  rw [if_neg c7] at h
  cases h
theorem ko_rd {T : Nat → Int} {L : Nat} (tx : TX T L) {F : Nat → Nat → Int} : ∀ (m : Nat) (H : Nat → Nat → Int) (cd k p : Nat) (t : Bool) (H' : Nat → Nat → Int) (cd' k' : Nat), PK L H cd p → KO F H cd → rdL T L m H cd k p t = .ok (H', cd', k') → KO F H' cd' := by
  intro m
  induction m with
  | zero =>
    intro H cd k p t H' cd' k' pk ko h
    unfold rdL at h
    injection h with h; injection h with q1 q2; injection q2 with q2 q3
    subst q1 q2
    exact ko
  | succ m ih =>
    intro H cd k p t H' cd' k' pk ko h
    unfold rdL at h
    by_cases c0 : knd T L p t = 0
    · rw [if_pos c0] at h
      injection h with h; injection h with q1 q2; injection q2 with q2 q3
      subst q1 q2
      exact ko
    · rw [if_neg c0] at h
      by_cases c1 : k = 60
      · rw [if_pos c1] at h; cases h
      · rw [if_neg c1] at h
        cases hS : stG T L H cd p t with
        | error y => rw [hS] at h; cases h
        | ok y =>
          obtain ⟨H1, cd1, p1, t1⟩ := y
          rw [hS] at h; simp only at h
          have pk1 := pk_st tx pk hS
          have ko1 := ko_st pk.1.1 ko hS
          cases hT : tkS T L p1 t1 59 with
          | error y => rw [hT] at h; cases h
          | ok y =>
            obtain ⟨p2, t2⟩ := y
            rw [hT] at h; simp only at h
            have kk := tkS_ok hT
            have x1 := sgn_1 kk.1 (by decide) tx
            have x2 := stp_L tx pk1.2.2
            exact ih H1 cd1 (k + 1) p2 t2 H' cd' k' ⟨pk1.1, by have := pk1.2.1; omega, by omega⟩ ko1 h
theorem ko_hl {T : Nat → Int} {L : Nat} (tx : TX T L) {A0 : AH} (ph : PH A0) {H' : Nat → Nat → Int} {cd' k' : Nat} (h : hlG T L A0 = .ok (H', cd', k')) : KO (hv A0) H' cd' := by
  unfold hlG at h
  cases hT : tellG T L 0 false 1 2 9 with
  | error y => rw [hT] at h; cases h
  | ok y =>
    obtain ⟨v, pl, p1, t1⟩ := y
    rw [hT] at h; simp only at h
    have tb := tellG_ok tx (by omega) (by decide) hT
    cases hS : tkS T L p1 t1 59 with
    | error y => rw [hS] at h; cases h
    | ok y =>
      obtain ⟨p2, t2⟩ := y
      rw [hS] at h; simp only at h
      have kk := tkS_ok hS
      have x1 := sgn_1 kk.1 (by decide) tx
      have x2 := stp_L (T := T) (L := L) (p := p1) tx tb.2.2.2
      refine ko_rd tx 60 _ 0 1 p2 t2 H' cd' k' ⟨PI_h1 ph ⟨tb.1, tb.2.1⟩, by omega, by omega⟩ ?_ h
      intro a j hn
      unfold rg at hn
      unfold h1
      rw [uH_at, if_neg (by omega)]
      unfold h0
      rw [if_neg (by omega), if_neg (by omega), if_neg (by omega), if_neg (by omega), if_neg (by omega), if_neg (by omega), if_neg (by omega), if_neg (by omega), if_neg (by omega)]
