/-! the reference: what one weighs, what his cough costs -/
def fctF (H : Nat → Nat → Int) (row : Nat → Int) (m a q x i : Int) : Int := if i = 0 then keepsF H x else if i = 1 then itchF H x else if i = 2 then nearF H row x else if i = 3 then hatedF H row x else if i = 4 then askedF H row a x else if i = 5 then noiseF H q (seatR row x) m else if i = 6 then seatR row x else if i = 7 then m else if i = 8 then x else partyF H row x
def headF : List Int → Int
  | [] => 0
  | x :: _ => x
def wcut (x : Int) : Int := if x < 0 then 0 else if 999 < x then 999 else x
def codF (H : Nat → Nat → Int) (k : Int) : Int := H 233 (1600 + k).toNat
def toldF (H : Nat → Nat → Int) (row : Nat → Int) (m a q w x : Int) : Int := wcut (headF (evF (fctF H row m a q x) (codF H) (H 232 (2 + w).toNat - H 231 (2 + w).toNat).toNat (H 231 (2 + w).toNat) []))
def weightF (H : Nat → Nat → Int) (row : Nat → Int) (m a q x : Int) : Int := if H 231 2 = -1 then keepsF H x else toldF H row m a q 0 x
def coughF (H : Nat → Nat → Int) (row : Nat → Int) (m a q x : Int) : Int := if H 231 3 = -1 then 5 else toldF H row m a q 1 x
def sok1 (H : Nat → Nat → Int) (w : Int) : Prop := 0 ≤ H 231 (2 + w).toNat ∧ H 231 (2 + w).toNat ≤ H 232 (2 + w).toNat ∧ H 232 (2 + w).toNat ≤ 1600 ∧ wfc (codF H) (H 232 (2 + w).toNat - H 231 (2 + w).toNat).toNat (H 231 (2 + w).toNat) 0
def sok (H : Nat → Nat → Int) : Prop := (H 231 2 = -1 ∨ sok1 H 0) ∧ (H 231 3 = -1 ∨ sok1 H 1)
theorem wcut_bd (x : Int) : 0 ≤ wcut x ∧ wcut x ≤ 999 := by
  unfold wcut
  by_cases h : x < 0
  · rw [if_pos h]; omega
  · rw [if_neg h]
    by_cases h2 : 999 < x
    · rw [if_pos h2]; omega
    · rw [if_neg h2]; omega
theorem keeps_bd {H : Nat → Nat → Int} (hh : hok H) {x : Int} (hx : num x) : 0 ≤ keepsF H x ∧ keepsF H x ≤ 100 := by
  unfold num at hx
  unfold keepsF
  by_cases h : x < 10
  · rw [if_pos h]
    exact hh.1 _ (by omega) (by omega)
  · rw [if_neg h]
    have := hh.2.2.1 (12 + 2 * (x - 10)).toNat (by omega) (by omega)
    omega
theorem itch_bd {H : Nat → Nat → Int} (hh : hok H) {x : Int} (hx : num x) : 0 ≤ itchF H x ∧ itchF H x ≤ 100 := by
  unfold num at hx
  unfold itchF
  by_cases h : x < 10
  · rw [if_pos h]
    exact hh.1 _ (by omega) (by omega)
  · rw [if_neg h]; omega
theorem bI_bd (b : Bool) : 0 ≤ bI b ∧ bI b ≤ 1 := by cases b <;> simp [bI]
theorem seat_bd {H : Nat → Nat → Int} {row : Nat → Int} (hr : rok H row) {x : Int} (h1 : 0 ≤ x) (h2 : x < 16) : -1 ≤ seatR row x ∧ seatR row x ≤ 8 := hr.1 _ (by omega) (by omega)
theorem loud_bd {H : Nat → Nat → Int} (hh : hok H) {q s m k : Int} (h1 : 0 ≤ k) (h2 : k < 6) : 0 ≤ loudF H q s m k ∧ loudF H q s m k ≤ 99 := by
  have b3 := hh.2.2.2.2.1 (20 + 3 * k).toNat (by omega) (by omega)
  unfold loudF
  by_cases h : k = q ∨ H 229 (18 + 3 * k).toNat ≠ m
  · rw [if_pos h]; omega
  · rw [if_neg h]
    by_cases h2 : H 229 (19 + 3 * k).toNat - s < 0
    · rw [if_pos h2]; omega
    · rw [if_neg h2]; omega
theorem noise_bd {H : Nat → Nat → Int} (hc : cok H) (hh : hok H) (q s m : Int) : 0 ≤ noiseF H q s m ∧ noiseF H q s m ≤ 594 := by
  unfold cok at hc
  have h := sm_bd (f := loudF H q s m) (lo := 0) (hi := 99) (nNo H).toNat 0 (fun j h1 h2 => loud_bd hh h1 (by omega))
  unfold noiseF
  omega
theorem near_bd (H : Nat → Nat → Int) (row : Nat → Int) (x : Int) : 0 ≤ nearF H row x ∧ nearF H row x ≤ 16 := by
  have h := sm_bd (f := fun i => bI (sit H row i && besideF row i x)) (lo := 0) (hi := 1) 16 0 (fun j _ _ => bI_bd _)
  unfold nearF
  omega
theorem hated_bd (H : Nat → Nat → Int) (row : Nat → Int) (x : Int) : 0 ≤ hatedF H row x ∧ hatedF H row x ≤ 16 := by
  have h := sm_bd (f := fun i => bI (sit H row i && besideF row i x && foeF H i x)) (lo := 0) (hi := 1) 16 0 (fun j _ _ => bI_bd _)
  unfold hatedF
  omega
theorem asked_bd {H : Nat → Nat → Int} {row : Nat → Int} (hc : cok H) (hh : hok H) (hr : rok H row) {a x : Int} (ha1 : -1 ≤ a) (ha2 : a < nPo H) (hx : num x) : 0 ≤ askedF H row a x ∧ askedF H row a x ≤ 99 := by
  have hp := party_ok hh hr hx
  unfold cok at hc
  unfold askedF
  by_cases h : a = -1 ∨ partyF H row x = 2
  · rw [if_pos h]; omega
  · rw [if_neg h]
    exact hh.2.2.2.1 _ (by omega) (by omega)
theorem fct_bd {H : Nat → Nat → Int} {row : Nat → Int} (hc : cok H) (hh : hok H) (hr : rok H row) {m a q x : Int} (hm1 : 0 ≤ m) (hm2 : m ≤ 2000) (ha1 : -1 ≤ a) (ha2 : a < nPo H) (hx : num x) (i : Int) : -1000000 ≤ fctF H row m a q x i ∧ fctF H row m a q x i ≤ 1000000 := by
  have b0 := keeps_bd hh hx
  have b1 := itch_bd hh hx
  have b2 := near_bd H row x
  have b3 := hated_bd H row x
  have b4 := asked_bd hc hh hr ha1 ha2 hx
  have b5 := noise_bd hc hh q (seatR row x) m
  have b6 := seat_bd hr (x := x) (by unfold num at hx; omega) (by unfold num at hx; omega)
  have b9 := party_ok hh hr hx
  unfold num at hx
  unfold fctF
  repeat' split
  all_goals omega
set_option maxRecDepth 100000 in
theorem l_told (d : Nat) (w x : Int) (hw1 : 0 ≤ w) (hw2 : w ≤ 1) (F : Int → Int) (hF : ∀ i, -1000000 ≤ F i ∧ F i ≤ 1000000) (H : Nat → Nat → Int) (he : H 232 (2 + w).toNat ≤ 1600) : ∀ (m n : Nat) (k : Int) (st : List Int) (A : AH) (u4 : AV), 0 ≤ k → k + m = H 232 (2 + w).toNat → wfc (codF H) m k st.length → bd6 st → plR A st → gi A 190 61 = st.length → st.length ≤ 60 → (∀ i : Int, 0 ≤ i → i < 8 → gi A 236 i.toNat = F i) → hv A = H → 8 * m + 8 ≤ n → ∃ A', go true 0 (runF (d + 2)) (runN (d + 2)) pb_X12_told n 115 [vR 21 190 0, vI w, vI x, vI k, u4] [] A = some (some (vI (wcut (headF (evF F (codF H) m k st)))), A') ∧ scm A A' := by
  intro m
  induction m with
  | zero =>
    intro n k st A u4 h1 h2 hwf hb hp hl hl6 hq hH hn
    obtain ⟨n, rfl⟩ : ∃ e, n = e + 8 := ⟨n - 8, by omega⟩
    have eE := e232 A (j := (2 + w).toNat) (by omega)
    rw [hH] at eE
    unfold wfc at hwf
    obtain ⟨y, rfl⟩ : ∃ y, st = [y] := by
      match st, hwf with
      | [y], _ => exact ⟨y, rfl⟩
    have e0 : gi A 235 0 = y := hp.1
    refine ⟨A, ?_, scm_refl A⟩
    have hy := hb.1
    rw [q_X12_told_115]
    simp -implicitDefEqProofs (disch := omega) only [eE, e0, lcp_lt, evF, headF, q_X12_told_221, lcp_gt, ↓reduceIte, Int.reduceEq, cI_v, cL_v, cV_v, cR_v, wid, wid64, if_pos, if_neg, Nat.add_zero, if_true, if_false, and_self, and_true, true_and, and_false, false_and, or_true, true_or, or_false, false_or]
    unfold wcut
    by_cases c1 : y < 0
    · simp -implicitDefEqProofs (disch := omega) only [↓reduceIte, Int.reduceEq, cI_v, cL_v, cV_v, cR_v, wid, wid64, if_pos, if_neg, Nat.add_zero, if_true, if_false, and_self, and_true, true_and, and_false, false_and, or_true, true_or, or_false, false_or]
    · by_cases c2 : 999 < y <;> simp -implicitDefEqProofs (disch := omega) only [↓reduceIte, Int.reduceEq, cI_v, cL_v, cV_v, cR_v, wid, wid64, if_pos, if_neg, Nat.add_zero, if_true, if_false, and_self, and_true, true_and, and_false, false_and, or_true, true_or, or_false, false_or]
  | succ m ih =>
    intro n k st A u4 h1 h2 hwf hb hp hl hl6 hq hH hn
    obtain ⟨n, rfl⟩ : ∃ e, n = e + 8 := ⟨n - 8, by omega⟩
    have eE := e232 A (j := (2 + w).toNat) (by omega)
    rw [hH] at eE
    have eC : gi A 233 (1600 + k).toNat = codF H k := by rw [e233 A (by omega), hH]; rfl
    unfold wfc at hwf
    rcases hwf with ⟨hv1, hv2, hv3⟩ | ⟨hv1, hv2, hv3⟩
    · rcases hv1 with hv1 | hv1
      · have hst : stepF F (codF H k) st = (codF H k - 1000) :: st := by unfold stepF; rw [if_pos (by omega)]
        obtain ⟨A', e1, e2⟩ := ih (n + 5) (k + 1) ((codF H k - 1000) :: st) (wi (wi A 235 (gi A 190 61).toNat (codF H k - 1000)) 190 61 (gi A 190 61 + 1)) (vI (codF H k)) (by omega) (by omega) (by simpa using hv3) ⟨by omega, hb⟩ ⟨by simp -implicitDefEqProofs (disch := omega) only [gi_wi, hl, Int.toNat_natCast, ↓reduceIte, Int.reduceEq, cI_v, cL_v, cV_v, cR_v, wid, wid64, if_pos, if_neg, Nat.add_zero, if_true, if_false, and_self, and_true, true_and, and_false, false_and, or_true, true_or, or_false, false_or], plR_fr (fun j hj => by simp -implicitDefEqProofs (disch := omega) only [gi_wi, ↓reduceIte, Int.reduceEq, cI_v, cL_v, cV_v, cR_v, wid, wid64, if_pos, if_neg, Nat.add_zero, if_true, if_false, and_self, and_true, true_and, and_false, false_and, or_true, true_or, or_false, false_or]) hp⟩ (by simp -implicitDefEqProofs (disch := omega) only [gi_wi, hl, List.length_cons, ↓reduceIte, Int.reduceEq, cI_v, cL_v, cV_v, cR_v, wid, wid64, if_pos, if_neg, Nat.add_zero, if_true, if_false, and_self, and_true, true_and, and_false, false_and, or_true, true_or, or_false, false_or]; omega) (by simp only [List.length_cons]; omega) (fun i i1 i2 => by simp -implicitDefEqProofs (disch := omega) only [gi_wi, ↓reduceIte, Int.reduceEq, cI_v, cL_v, cV_v, cR_v, wid, wid64, if_pos, if_neg, Nat.add_zero, if_true, if_false, and_self, and_true, true_and, and_false, false_and, or_true, true_or, or_false, false_or]; exact hq i i1 i2) (by rw [scm_hv (scm_wi' _ (by unfold scrM; omega) (scm_wi A _ (by unfold scrM; omega))), hH]) (by omega)
        refine ⟨A', ?_, scm_trans (scm_wi' _ (by unfold scrM; omega) (scm_wi A _ (by unfold scrM; omega))) e2⟩
        rw [q_X12_told_115]
        simp -implicitDefEqProofs (disch := omega) only [eE, eC, s_puts, q_X12_told_158, q_X12_told_200, evF, hst, ↓reduceIte, Int.reduceEq, cI_v, cL_v, cV_v, cR_v, wid, wid64, if_pos, if_neg, Nat.add_zero, if_true, if_false, and_self, and_true, true_and, and_false, false_and, or_true, true_or, or_false, false_or]
        rw [← e1]
      · have hst : stepF F (codF H k) st = F (codF H k - 7) :: st := by unfold stepF; rw [if_neg (by omega), if_pos (by omega)]
        have eF := hq (codF H k - 7) (by omega) (by omega)
        have hFk := hF (codF H k - 7)
        obtain ⟨A', e1, e2⟩ := ih (n + 5) (k + 1) (F (codF H k - 7) :: st) (wi (wi A 235 (gi A 190 61).toNat (F (codF H k - 7))) 190 61 (gi A 190 61 + 1)) (vI (codF H k)) (by omega) (by omega) (by simpa using hv3) ⟨by omega, hb⟩ ⟨by simp -implicitDefEqProofs (disch := omega) only [gi_wi, hl, Int.toNat_natCast, ↓reduceIte, Int.reduceEq, cI_v, cL_v, cV_v, cR_v, wid, wid64, if_pos, if_neg, Nat.add_zero, if_true, if_false, and_self, and_true, true_and, and_false, false_and, or_true, true_or, or_false, false_or], plR_fr (fun j hj => by simp -implicitDefEqProofs (disch := omega) only [gi_wi, ↓reduceIte, Int.reduceEq, cI_v, cL_v, cV_v, cR_v, wid, wid64, if_pos, if_neg, Nat.add_zero, if_true, if_false, and_self, and_true, true_and, and_false, false_and, or_true, true_or, or_false, false_or]) hp⟩ (by simp -implicitDefEqProofs (disch := omega) only [gi_wi, hl, List.length_cons, ↓reduceIte, Int.reduceEq, cI_v, cL_v, cV_v, cR_v, wid, wid64, if_pos, if_neg, Nat.add_zero, if_true, if_false, and_self, and_true, true_and, and_false, false_and, or_true, true_or, or_false, false_or]; omega) (by simp only [List.length_cons]; omega) (fun i i1 i2 => by simp -implicitDefEqProofs (disch := omega) only [gi_wi, ↓reduceIte, Int.reduceEq, cI_v, cL_v, cV_v, cR_v, wid, wid64, if_pos, if_neg, Nat.add_zero, if_true, if_false, and_self, and_true, true_and, and_false, false_and, or_true, true_or, or_false, false_or]; exact hq i i1 i2) (by rw [scm_hv (scm_wi' _ (by unfold scrM; omega) (scm_wi A _ (by unfold scrM; omega))), hH]) (by omega)
        refine ⟨A', ?_, scm_trans (scm_wi' _ (by unfold scrM; omega) (scm_wi A _ (by unfold scrM; omega))) e2⟩
        rw [q_X12_told_115]
        simp -implicitDefEqProofs (disch := omega) only [eE, eC, eF, s_isIn, bI_0, ite_f, decide_eq_true_eq, s_puts, q_X12_told_200, evF, hst, ↓reduceIte, Int.reduceEq, cI_v, cL_v, cV_v, cR_v, wid, wid64, if_pos, if_neg, Nat.add_zero, if_true, if_false, and_self, and_true, true_and, and_false, false_and, or_true, true_or, or_false, false_or]
        rw [← e1]
    · obtain ⟨b, a, r, rfl⟩ : ∃ b a r, st = b :: a :: r := by
        match st, hv2 with
        | b :: a :: r, _ => exact ⟨b, a, r, rfl⟩
      have hst : stepF F (codF H k) (b :: a :: r) = joinF (codF H k) a b :: r := by unfold stepF; rw [if_neg (by omega), if_neg (by omega)]
      obtain ⟨A1, j1, j2, j3, j4, j5⟩ := s_joins d (codF H k) a b r A hl hl6 hp hb.2.1 hb.1 hv1.1 hv1.2
      obtain ⟨A', e1, e2⟩ := ih (n + 4) (k + 1) (joinF (codF H k) a b :: r) A1 (vI (codF H k)) (by omega) (by omega) (by simpa using hv3) ⟨join_bd hb.2.1 hb.1, hb.2.2⟩ j3 j2 (by simp only [List.length_cons] at hl6 ⊢; omega) (fun i i1 i2 => by rw [j4 236 _ (by omega) (by omega)]; exact hq i i1 i2) (by rw [scm_hv j5, hH]) (by omega)
      refine ⟨A', ?_, scm_trans j5 e2⟩
      rw [q_X12_told_115]
      simp -implicitDefEqProofs (disch := omega) only [eE, eC, s_isIn, bI_0, ite_f, decide_eq_true_eq, q_X12_told_194, j1, q_X12_told_200, evF, hst, ↓reduceIte, Int.reduceEq, cI_v, cL_v, cV_v, cR_v, wid, wid64, if_pos, if_neg, Nat.add_zero, if_true, if_false, and_self, and_true, true_and, and_false, false_and, or_true, true_or, or_false, false_or]
      rw [← e1]
theorem sc_f {A B : AH} (h : sc A B) (hc : cok (hv A)) : cok (hv B) := by rw [sc_hv h]; exact hc
theorem scm_f {A B : AH} (h : scm A B) (hc : cok (hv A)) : cok (hv B) := by rw [scm_hv h]; exact hc
set_option maxRecDepth 100000 in
theorem s_told (d : Nat) (w x : Int) (A : AH) (hw1 : 0 ≤ w) (hw2 : w ≤ 1) (hc : cok (hv A)) (hh : hok (hv A)) (hr : rok (hv A) (nv A)) (hm1 : 0 ≤ nv A 0) (hm2 : nv A 0 ≤ 2000) (hx : num x) (hs : sok1 (hv A) w) : ∃ A', runF (d + 4) 211 [vR 21 190 0, vI w, vI x] A = some (some (vI (toldF (hv A) (nv A) (nv A 0) (nv A 2) (gi A 190 65) w x)), A') ∧ scm A A' := by
  obtain ⟨hs1, hs2, hs3, hs4⟩ := hs
  have hn1 : 0 ≤ x := by unfold num at hx; omega
  have hn2 : x < 16 := by unfold num at hx; omega
  have b6 := seat_bd hr hn1 hn2
  have W : ∀ (B : AH) (j : Nat) (v : Int), scm A B → scm A (wi B 236 j v) := fun B j v h => scm_wi' v (by unfold scrM; omega) h
  obtain ⟨A1, eA1⟩ : ∃ A1, A1 = wi A 236 0 (keepsF (hv A) x) := ⟨_, rfl⟩
  have c1 : scm A A1 := by rw [eA1]; exact W _ _ _ (scm_refl A)
  obtain ⟨A2, eA2⟩ : ∃ A2, A2 = wi A1 236 1 (itchF (hv A) x) := ⟨_, rfl⟩
  have c2 : scm A A2 := by rw [eA2]; exact W _ _ _ c1
  obtain ⟨A3, eA3⟩ : ∃ A3, A3 = wi A2 236 2 (nearF (hv A) (nv A) x) := ⟨_, rfl⟩
  have c3 : scm A A3 := by rw [eA3]; exact W _ _ _ c2
  obtain ⟨A4, eA4⟩ : ∃ A4, A4 = wi A3 236 3 (hatedF (hv A) (nv A) x) := ⟨_, rfl⟩
  have c4 : scm A A4 := by rw [eA4]; exact W _ _ _ c3
  obtain ⟨A5, eA5⟩ : ∃ A5, A5 = wi A4 236 4 (askedF (hv A) (nv A) (nv A 2) x) := ⟨_, rfl⟩
  have c5 : scm A A5 := by rw [eA5]; exact W _ _ _ c4
  obtain ⟨A6, eA6⟩ : ∃ A6, A6 = wi A5 236 5 (noiseF (hv A) (gi A 190 65) (seatR (nv A) x) (nv A 0)) := ⟨_, rfl⟩
  have c6 : scm A A6 := by rw [eA6]; exact W _ _ _ c5
  obtain ⟨A7, eA7⟩ : ∃ A7, A7 = wi A6 236 6 (seatR (nv A) x) := ⟨_, rfl⟩
  have c7 : scm A A7 := by rw [eA7]; exact W _ _ _ c6
  obtain ⟨A8, eA8⟩ : ∃ A8, A8 = wi A7 236 7 (nv A 0) := ⟨_, rfl⟩
  have c8 : scm A A8 := by rw [eA8]; exact W _ _ _ c7
  obtain ⟨A9, eA9⟩ : ∃ A9, A9 = wi A8 190 61 0 := ⟨_, rfl⟩
  have c9 : scm A A9 := by rw [eA9]; exact scm_wi' _ (by unfold scrM; omega) c8
  have hq : ∀ i : Int, 0 ≤ i → i < 8 → gi A9 236 i.toNat = fctF (hv A) (nv A) (nv A 0) (nv A 2) (gi A 190 65) x i := by
    intro i i1 i2
    have : i = 0 ∨ i = 1 ∨ i = 2 ∨ i = 3 ∨ i = 4 ∨ i = 5 ∨ i = 6 ∨ i = 7 := by omega
    rw [eA9, eA8, eA7, eA6, eA5, eA4, eA3, eA2, eA1]
    rcases this with rfl | rfl | rfl | rfl | rfl | rfl | rfl | rfl <;> simp [gi_wi, fctF]
  obtain ⟨A', e1, e2⟩ := l_told (d + 1) w x hw1 hw2 (fctF (hv A) (nv A) (nv A 0) (nv A 2) (gi A 190 65) x) (fct_bd hc hh hr hm1 hm2 hr.2.2.1 hr.2.2.2 hx) (hv A) hs3 (hv A 232 (2 + w).toNat - hv A 231 (2 + w).toNat).toNat (fu + 191) (hv A 231 (2 + w).toNat) [] A9 vU hs1 (by omega) hs4 trivial trivial (by rw [eA9]; rfl) (by simp) hq (scm_hv c9) (by have := fu_ge; omega)
  refine ⟨A', ?_, scm_trans c9 e2⟩
  have f1 := scm_f c1 hc
  have g : gi A9 231 (2 + w).toNat = hv A 231 (2 + w).toNat := by rw [e231 _ (by omega), scm_hv c9]
  rw [r_X12_told, q_X12_told_0]
  simp -implicitDefEqProofs (disch := omega) only [s_keepsOf, hx, ↓reduceIte, Int.reduceEq, cI_v, cL_v, cV_v, cR_v, wid, wid64, if_pos, if_neg, Nat.add_zero, if_true, if_false, and_self, and_true, true_and, and_false, false_and, or_true, true_or, or_false, false_or]
  rw [← eA1, q_X12_told_11]
  simp -implicitDefEqProofs (disch := omega) only [s_itchesOf, hx, scm_hv c1, ↓reduceIte, Int.reduceEq, cI_v, cL_v, cV_v, cR_v, wid, wid64, if_pos, if_neg, Nat.add_zero, if_true, if_false, and_self, and_true, true_and, and_false, false_and, or_true, true_or, or_false, false_or]
  rw [← eA2, q_X12_told_22]
  rw [s_nearOf d x A2 (by rw [scm_hv c2]; exact hc) (by rw [scm_hv c2, scm_nv c2]; exact hr) hn1 hn2, scm_hv c2, scm_nv c2]
  simp -implicitDefEqProofs (disch := omega) only [↓reduceIte, Int.reduceEq, cI_v, cL_v, cV_v, cR_v, wid, wid64, if_pos, if_neg, Nat.add_zero, if_true, if_false, and_self, and_true, true_and, and_false, false_and, or_true, true_or, or_false, false_or]
  rw [← eA3, q_X12_told_33]
  rw [s_hatedOf d x A3 (by rw [scm_hv c3]; exact hc) (by rw [scm_hv c3]; exact hh) (by rw [scm_hv c3, scm_nv c3]; exact hr) hn1 hn2, scm_hv c3, scm_nv c3]
  simp -implicitDefEqProofs (disch := omega) only [↓reduceIte, Int.reduceEq, cI_v, cL_v, cV_v, cR_v, wid, wid64, if_pos, if_neg, Nat.add_zero, if_true, if_false, and_self, and_true, true_and, and_false, false_and, or_true, true_or, or_false, false_or]
  rw [← eA4, q_X12_told_44]
  rw [s_askedOf d x A4 (by rw [scm_hv c4]; exact hc) (by rw [scm_hv c4]; exact hh) (by rw [scm_hv c4, scm_nv c4]; exact hr) hx, scm_hv c4, scm_nv c4]
  simp -implicitDefEqProofs (disch := omega) only [↓reduceIte, Int.reduceEq, cI_v, cL_v, cV_v, cR_v, wid, wid64, if_pos, if_neg, Nat.add_zero, if_true, if_false, and_self, and_true, true_and, and_false, false_and, or_true, true_or, or_false, false_or]
  rw [← eA5, q_X12_told_55]
  simp -implicitDefEqProofs (disch := omega) only [s_seatOf, scm_nv c5, e_nv, ↓reduceIte, Int.reduceEq, cI_v, cL_v, cV_v, cR_v, wid, wid64, if_pos, if_neg, Nat.add_zero, if_true, if_false, and_self, and_true, true_and, and_false, false_and, or_true, true_or, or_false, false_or]
  rw [s_noiseAt (d + 2) (seatR (nv A) x) (nv A 0) A5 (by rw [scm_hv c5]; exact hc) (by rw [scm_hv c5]; exact hh) (by omega) (by omega), scm_hv c5, scm_q c5]
  simp -implicitDefEqProofs (disch := omega) only [↓reduceIte, Int.reduceEq, cI_v, cL_v, cV_v, cR_v, wid, wid64, if_pos, if_neg, Nat.add_zero, if_true, if_false, and_self, and_true, true_and, and_false, false_and, or_true, true_or, or_false, false_or]
  rw [← eA6, q_X12_told_76]
  simp -implicitDefEqProofs (disch := omega) only [s_seatOf, scm_nv c6, ↓reduceIte, Int.reduceEq, cI_v, cL_v, cV_v, cR_v, wid, wid64, if_pos, if_neg, Nat.add_zero, if_true, if_false, and_self, and_true, true_and, and_false, false_and, or_true, true_or, or_false, false_or]
  rw [← eA7, q_X12_told_88]
  simp -implicitDefEqProofs (disch := omega) only [scm_nv c7, e_nv, ↓reduceIte, Int.reduceEq, cI_v, cL_v, cV_v, cR_v, wid, wid64, if_pos, if_neg, Nat.add_zero, if_true, if_false, and_self, and_true, true_and, and_false, false_and, or_true, true_or, or_false, false_or]
  rw [← eA8, q_X12_told_101]
  simp -implicitDefEqProofs (disch := omega) only [↓reduceIte, Int.reduceEq, cI_v, cL_v, cV_v, cR_v, wid, wid64, if_pos, if_neg, Nat.add_zero, if_true, if_false, and_self, and_true, true_and, and_false, false_and, or_true, true_or, or_false, false_or]
  rw [← eA9, g]
  exact e1
set_option maxRecDepth 100000 in
theorem s_weightOf (d : Nat) (x : Int) (A : AH) (hc : cok (hv A)) (hh : hok (hv A)) (hr : rok (hv A) (nv A)) (hm1 : 0 ≤ nv A 0) (hm2 : nv A 0 ≤ 2000) (hx : num x) (hs : sok (hv A)) : ∃ A', runF (d + 5) 212 [vR 21 190 0, vI x] A = some (some (vI (weightF (hv A) (nv A) (nv A 0) (nv A 2) (gi A 190 65) x)), A') ∧ scm A A' := by
  unfold weightF
  have e := e231 A (j := 2) (by omega)
  rcases hs.1 with h | h
  · refine ⟨A, ?_, scm_refl A⟩
    rw [r_X12_weightOf, q_X12_weightOf_0]
    rw [h] at e
    simp -implicitDefEqProofs (disch := omega) only [e, h, s_keepsOf, hx, ↓reduceIte, Int.reduceEq, cI_v, cL_v, cV_v, cR_v, wid, wid64, if_pos, if_neg, Nat.add_zero, if_true, if_false, and_self, and_true, true_and, and_false, false_and, or_true, true_or, or_false, false_or]
  · by_cases h' : hv A 231 2 = -1
    · refine ⟨A, ?_, scm_refl A⟩
      rw [r_X12_weightOf, q_X12_weightOf_0]
      rw [h'] at e
      simp -implicitDefEqProofs (disch := omega) only [e, h', s_keepsOf, hx, ↓reduceIte, Int.reduceEq, cI_v, cL_v, cV_v, cR_v, wid, wid64, if_pos, if_neg, Nat.add_zero, if_true, if_false, and_self, and_true, true_and, and_false, false_and, or_true, true_or, or_false, false_or]
    · obtain ⟨A', e1, e2⟩ := s_told d 0 x A (by omega) (by omega) hc hh hr hm1 hm2 hx h
      refine ⟨A', ?_, e2⟩
      rw [r_X12_weightOf, q_X12_weightOf_0, e]
      simp -implicitDefEqProofs (disch := omega) only [e1, ↓reduceIte, Int.reduceEq, cI_v, cL_v, cV_v, cR_v, wid, wid64, if_pos, if_neg, Nat.add_zero, if_true, if_false, and_self, and_true, true_and, and_false, false_and, or_true, true_or, or_false, false_or]
set_option maxRecDepth 100000 in
theorem s_coughOf (d : Nat) (x : Int) (A : AH) (hc : cok (hv A)) (hh : hok (hv A)) (hr : rok (hv A) (nv A)) (hm1 : 0 ≤ nv A 0) (hm2 : nv A 0 ≤ 2000) (hx : num x) (hs : sok (hv A)) : ∃ A', runF (d + 5) 213 [vR 21 190 0, vI x] A = some (some (vI (coughF (hv A) (nv A) (nv A 0) (nv A 2) (gi A 190 65) x)), A') ∧ scm A A' := by
  unfold coughF
  have e := e231 A (j := 3) (by omega)
  rcases hs.2 with h | h
  · refine ⟨A, ?_, scm_refl A⟩
    rw [r_X12_coughOf, q_X12_coughOf_0]
    rw [h] at e
    simp -implicitDefEqProofs (disch := omega) only [e, h, ↓reduceIte, Int.reduceEq, cI_v, cL_v, cV_v, cR_v, wid, wid64, if_pos, if_neg, Nat.add_zero, if_true, if_false, and_self, and_true, true_and, and_false, false_and, or_true, true_or, or_false, false_or]
  · by_cases h' : hv A 231 3 = -1
    · refine ⟨A, ?_, scm_refl A⟩
      rw [r_X12_coughOf, q_X12_coughOf_0]
      rw [h'] at e
      simp -implicitDefEqProofs (disch := omega) only [e, h', ↓reduceIte, Int.reduceEq, cI_v, cL_v, cV_v, cR_v, wid, wid64, if_pos, if_neg, Nat.add_zero, if_true, if_false, and_self, and_true, true_and, and_false, false_and, or_true, true_or, or_false, false_or]
    · obtain ⟨A', e1, e2⟩ := s_told d 1 x A (by omega) (by omega) hc hh hr hm1 hm2 hx h
      refine ⟨A', ?_, e2⟩
      rw [r_X12_coughOf, q_X12_coughOf_0, e]
      simp -implicitDefEqProofs (disch := omega) only [e1, ↓reduceIte, Int.reduceEq, cI_v, cL_v, cV_v, cR_v, wid, wid64, if_pos, if_neg, Nat.add_zero, if_true, if_false, and_self, and_true, true_and, and_false, false_and, or_true, true_or, or_false, false_or]
def signF (H : Nat → Nat → Int) (row : Nat → Int) (x : Int) : Int := if partyF H row x = 0 then 1 else if partyF H row x = 1 then -1 else 0
def movesF (H : Nat → Nat → Int) (row : Nat → Int) (m a q x : Int) (b : Bool) : Int := signF H row x * (if b = true then -coughF H row m a q x else weightF H row m a q x)
set_option maxRecDepth 100000 in
theorem s_signOf (d : Nat) (x : Int) (A : AH) (hx : num x) : runF (d + 3) 214 [vR 21 190 0, vI x] A = some (some (vI (signF (hv A) (nv A) x)), A) := by
  rw [r_X12_signOf, q_X12_signOf_0]
  simp -implicitDefEqProofs (disch := omega) only [s_partyOf, hx, ↓reduceIte, Int.reduceEq, cI_v, cL_v, cV_v, cR_v, wid, wid64, if_pos, if_neg, Nat.add_zero, if_true, if_false, and_self, and_true, true_and, and_false, false_and, or_true, true_or, or_false, false_or]
  unfold signF
  by_cases h : partyF (hv A) (nv A) x = 0
  · simp -implicitDefEqProofs (disch := omega) only [↓reduceIte, Int.reduceEq, cI_v, cL_v, cV_v, cR_v, wid, wid64, if_pos, if_neg, Nat.add_zero, if_true, if_false, and_self, and_true, true_and, and_false, false_and, or_true, true_or, or_false, false_or]
  · by_cases h2 : partyF (hv A) (nv A) x = 1 <;> simp -implicitDefEqProofs (disch := omega) only [↓reduceIte, Int.reduceEq, cI_v, cL_v, cV_v, cR_v, wid, wid64, if_pos, if_neg, Nat.add_zero, if_true, if_false, and_self, and_true, true_and, and_false, false_and, or_true, true_or, or_false, false_or]
theorem weight_bd {H : Nat → Nat → Int} (hh : hok H) (row : Nat → Int) (m a q : Int) {x : Int} (hx : num x) : 0 ≤ weightF H row m a q x ∧ weightF H row m a q x ≤ 999 := by
  have h1 := keeps_bd hh hx
  unfold weightF
  by_cases h : H 231 2 = -1
  · rw [if_pos h]; omega
  · rw [if_neg h]; exact wcut_bd _
theorem cough_bd {H : Nat → Nat → Int} (row : Nat → Int) (m a q x : Int) : 0 ≤ coughF H row m a q x ∧ coughF H row m a q x ≤ 999 := by
  unfold coughF
  by_cases h : H 231 3 = -1
  · rw [if_pos h]; omega
  · rw [if_neg h]; exact wcut_bd _
theorem sign_cs (H : Nat → Nat → Int) (row : Nat → Int) (x : Int) : signF H row x = 1 ∨ signF H row x = -1 ∨ signF H row x = 0 := by
  unfold signF
  by_cases h : partyF H row x = 0
  · rw [if_pos h]; omega
  · rw [if_neg h]; by_cases h2 : partyF H row x = 1
    · rw [if_pos h2]; omega
    · rw [if_neg h2]; omega
theorem moves_bd {H : Nat → Nat → Int} (hh : hok H) (row : Nat → Int) (m a q : Int) {x : Int} (hx : num x) (b : Bool) : -999 ≤ movesF H row m a q x b ∧ movesF H row m a q x b ≤ 999 := by
  have h1 := weight_bd hh row m a q hx
  have h2 := cough_bd (H := H) row m a q x
  unfold movesF
  cases b
  · rw [if_neg (by simp)]
    rcases sign_cs H row x with h | h | h <;> rw [h] <;> omega
  · rw [if_pos rfl]
    rcases sign_cs H row x with h | h | h <;> rw [h] <;> omega
/-- all that the reference needs to be sound for what it reckons -/
def mok (A : AH) : Prop := cok (hv A) ∧ hok (hv A) ∧ sok (hv A) ∧ rok (hv A) (nv A) ∧ 0 ≤ nv A 0 ∧ nv A 0 ≤ 2000
theorem mok_scm {A B : AH} (h : scm A B) (m : mok A) : mok B := by
  unfold mok at *
  rw [scm_hv h, scm_nv h]; exact m
theorem mok_sc {A B : AH} (h : sc A B) (m : mok A) : mok B := by
  unfold mok at *
  rw [sc_hv h, sc_nv h]; exact m
set_option maxRecDepth 100000 in
theorem s_moves (d : Nat) (x : Int) (b : Bool) (A : AH) (hm : mok A) (hx : num x) : ∃ A', runF (d + 6) 215 [vR 21 190 0, vI x, vI (bI b)] A = some (some (vI (movesF (hv A) (nv A) (nv A 0) (nv A 2) (gi A 190 65) x b)), A') ∧ scm A A' := by
  obtain ⟨hc, hh, hs, hr, hm1, hm2⟩ := hm
  have h1 := weight_bd hh (nv A) (nv A 0) (nv A 2) (gi A 190 65) hx
  have h2 := cough_bd (H := hv A) (nv A) (nv A 0) (nv A 2) (gi A 190 65) x
  have hb := moves_bd hh (nv A) (nv A 0) (nv A 2) (gi A 190 65) hx b
  unfold movesF at *
  cases b
  · obtain ⟨A', e1, e2⟩ := s_weightOf d x A hc hh hr hm1 hm2 hx hs
    refine ⟨A', ?_, e2⟩
    rw [if_neg (by simp)] at hb
    rw [r_X12_moves, q_X12_moves_0]
    simp -implicitDefEqProofs (disch := omega) only [s_signOf, hx, bI_f, e1, ↓reduceIte, Int.reduceEq, cI_v, cL_v, cV_v, cR_v, wid, wid64, if_pos, if_neg, Nat.add_zero, if_true, if_false, and_self, and_true, true_and, and_false, false_and, or_true, true_or, or_false, false_or]
    rw [if_neg (by simp)]
  · obtain ⟨A', e1, e2⟩ := s_coughOf d x A hc hh hr hm1 hm2 hx hs
    refine ⟨A', ?_, e2⟩
    rw [if_pos rfl] at hb
    rw [r_X12_moves, q_X12_moves_0]
    simp -implicitDefEqProofs (disch := omega) only [s_signOf, hx, bI_t, e1, ↓reduceIte, Int.reduceEq, cI_v, cL_v, cV_v, cR_v, wid, wid64, if_pos, if_neg, Nat.add_zero, if_true, if_false, and_self, and_true, true_and, and_false, false_and, or_true, true_or, or_false, false_or]
