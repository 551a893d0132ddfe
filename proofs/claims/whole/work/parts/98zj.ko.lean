/-! a hall stands: nothing but what was told has changed -/
def rg (cd a j : Nat) : Prop := (a = 224 ∧ 6 ≤ j ∧ j < 12) ∨ (a = 225 ∧ 24 ≤ j ∧ j < 48) ∨ (a = 226 ∧ 32 ≤ j ∧ j < 64) ∨ (a = 227 ∧ 12 ≤ j ∧ j < 24) ∨ (a = 228 ∧ 8 ≤ j ∧ j < 16) ∨ (a = 229 ∧ 18 ≤ j ∧ j < 36) ∨ (a = 230 ∧ 16 ≤ j ∧ j < 32) ∨ ((a = 231 ∨ a = 232) ∧ 2 ≤ j ∧ j < 4) ∨ (a = 233 ∧ 1600 ≤ j ∧ j < 1600 + cd)
def KO (F H : Nat → Nat → Int) (cd : Nat) : Prop := ∀ a j, ¬ rg cd a j → H a j = F a j
theorem ko_st {T : Nat → Int} {L : Nat} {F H H' : Nat → Nat → Int} {cd cd' p p' : Nat} {t t' : Bool} (hc : cok H) (k : KO F H cd) (h : stG T L H cd p t = .ok (H', cd', p', t')) : KO F H' cd' := by
  unfold cok at hc
  have wor : ∀ w : Nat, w ≤ 1 → worG T L H cd w p = .ok (H', cd', p', t') → KO F H' cd' := by
    intro w hw h
    unfold worG at h
    by_cases c : H 231 (2 + w) ≠ -1
    · rw [if_pos c] at h; cases h
    · rw [if_neg c] at h
      cases hS : sumG T L (partG T L false 6) (stp T L p) true with
      | error y => rw [hS] at h; cases h
      | ok y =>
        obtain ⟨cs, p1, t1⟩ := y
        rw [hS] at h
        injection h with h; injection h with q1 q2; injection q2 with q2 q3
        subst q1 q2
        intro a j hn
        unfold rg at hn
        rw [worH_o H cd w cs a j (fun y => hn (by right; right; right; right; right; right; right; right; omega)) (fun y => hn (by right; right; right; right; right; right; right; left; omega))]
        refine k a j (fun y => hn ?_)
        unfold rg at y
        rcases y with y | y | y | y | y | y | y | y | y
        · left; exact y
        · right; left; exact y
        · right; right; left; exact y
        · right; right; right; left; exact y
        · right; right; right; right; left; exact y
        · right; right; right; right; right; left; exact y
        · right; right; right; right; right; right; left; exact y
        · right; right; right; right; right; right; right; left; exact y
        · right; right; right; right; right; right; right; right; omega
  unfold stG at h
  by_cases c1 : wrd T L p t = 2
  · rw [if_pos c1] at h
    by_cases c : nPe H < 8
    · rw [if_pos c] at h
      obtain ⟨q1, rfl⟩ := lift2_ok h
      obtain ⟨v, ke, it, pa, se, rfl⟩ := u_pers q1
      intro a j hn
      rw [persH_o _ _ _ _ _ _ _ a j (fun y => hn (by unfold rg; left; omega)) (fun y => hn (by unfold rg; right; left; omega)) (fun y => hn (by unfold rg; right; right; left; omega))]
      exact k a j hn
    · rw [if_neg c] at h; cases h
  rw [if_neg c1] at h
  by_cases c2 : wrd T L p t = 10
  · rw [if_pos c2] at h
    by_cases c : nHa H < 12
    · rw [if_pos c] at h
      obtain ⟨q1, rfl⟩ := lift2_ok h
      sorry
    · rw [if_neg c] at h; cases h
  rw [if_neg c2] at h
  by_cases c3 : wrd T L p t = 11
  · rw [if_pos c3] at h
    by_cases c : nPo H < 4
    · rw [if_pos c] at h
      obtain ⟨q1, rfl⟩ := lift2_ok h
      obtain ⟨v, x, y, rfl⟩ := u_pnt q1
      intro a j hn
      rw [pntH_o _ _ _ _ _ a j (fun y => hn (by unfold rg; right; left; omega)) (fun y => hn (by unfold rg; right; right; right; right; left; omega)) (fun y => hn (by unfold rg; right; right; right; right; left; omega)) (fun y => hn (by unfold rg; left; omega))]
      exact k a j hn
    · rw [if_neg c] at h; cases h
  rw [if_neg c3] at h
  by_cases c4 : wrd T L p t = 12
  · rw [if_pos c4] at h
    by_cases c : nNo H < 6
    · rw [if_pos c] at h
      obtain ⟨q1, rfl⟩ := lift2_ok h
      obtain ⟨x, y, z, rfl⟩ := u_noi q1
      intro a j hn
      rw [noiH_o _ _ _ _ _ a j (fun y => hn (by unfold rg; right; right; right; right; right; left; omega)) (fun y => hn (by unfold rg; right; right; right; right; right; left; omega)) (fun y => hn (by unfold rg; right; right; right; right; right; left; omega)) (fun y => hn (by unfold rg; left; omega))]
      exact k a j hn
    · rw [if_neg c] at h; cases h
  rw [if_neg c4] at h
  by_cases c5 : wrd T L p t = 15
  · rw [if_pos c5] at h
    by_cases c : nMu H < 6
    · rw [if_pos c] at h
      obtain ⟨q1, rfl⟩ := lift2_ok h
      obtain ⟨v, x, y, rfl⟩ := u_mut q1
      intro a j hn
      rw [muteH_o _ _ _ _ _ a j (fun y => hn (by unfold rg; right; left; omega)) (fun y => hn (by unfold rg; right; right; right; left; omega)) (fun y => hn (by unfold rg; right; right; right; left; omega)) (fun y => hn (by unfold rg; left; omega))]
      exact k a j hn
    · rw [if_neg c] at h; cases h
  rw [if_neg c5] at h
  by_cases c6 : wrd T L p t = 17
  · rw [if_pos c6] at h
    exact wor 0 (by omega) h
  rw [if_neg c6] at h
  by_cases c7 : wrd T L p t = 18
  · rw [if_pos c7] at h
    exact wor 1 (by omega) h
  rw [if_neg c7] at h
  cases h
