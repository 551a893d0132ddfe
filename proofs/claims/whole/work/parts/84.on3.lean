/-! the call on: both -/
def rowT (H : Nat → Nat → Int) (T : Nat → Int) (row : Nat → Int) : Nat → Int := fun j => if j = 0 then 256 * T 0 + T 1 else if j = 1 then scT T else if j = 2 then T 5 - 1 else if 3 ≤ j ∧ (j : Int) < 3 + nPe H then T (j + 3) else if 13 ≤ j ∧ (j : Int) < 13 + nMu H then stTP T (nPe H) (nPe H + ((j : Int) - 13)) else if 19 ≤ j ∧ (j : Int) < 19 + nMu H then T (7 + nPe H + 2 * ((j : Int) - 19)).toNat else if j = 25 then 0 else row j
def frN (A B : AH) : Prop := (∀ a j, a ≠ 237 → gi B a j = gi A a j) ∧ (∀ a j, gr B a j = gr A a j) ∧ B.2.2 = A.2.2
theorem frN_hv {A B : AH} (f : frN A B) : hv B = hv A := hv_fr (fun a j q1 q2 => f.1 a j (by omega))
theorem frN_wi {A B : AH} (f : frN A B) (k : Nat) (v : Int) : frN A (wi B 237 k v) := ⟨fun a j q => by rw [gi_wi, if_neg (by omega)]; exact f.1 a j q, f.2.1, f.2.2⟩
set_option maxRecDepth 100000 in
theorem l_onP (d : Nat) (x1 : Int) (T : Nat → Int) (B : AH) (hc : cok (hv B)) (hT : ∀ j : Nat, j < 1600 → gi B 191 j = T j) : ∀ (j n : Nat) (k : Int) (A : AH), 0 ≤ k → k + j = nPe (hv B) → frN B A → (∀ i : Nat, gi A 237 i = if 3 ≤ i ∧ (i : Int) < 3 + k then T (i + 3) else gi B 237 i) → 10 * j + 10 ≤ n → ∃ n' A', go true 2 (runF (d + 2)) (runN (d + 2)) pb_X12_on n 79 [vR 21 190 0, vI x1, vI k] [] A = go true 2 (runF (d + 2)) (runN (d + 2)) pb_X12_on n' 112 [vR 21 190 0, vI x1, vI 0] [] A' ∧ frN B A' ∧ (∀ i : Nat, gi A' 237 i = if 3 ≤ i ∧ (i : Int) < 3 + nPe (hv B) then T (i + 3) else gi B 237 i) ∧ n - 10 * j - 5 ≤ n' := by
  have hc' := hc
  unfold cok at hc'
  intro j
  induction j with
  | zero =>
    intro n k A h1 h2 f h3 hn
    obtain ⟨n, rfl⟩ : ∃ e, n = e + 3 := ⟨n - 3, by omega⟩
    refine ⟨n + 1, A, ?_, f, fun i => by rw [h3 i, show k = nPe (hv B) by omega], by omega⟩
    rw [q_X12_on_79, s_peopleMany, cI_v, frN_hv f, if_neg (by omega)]
  | succ j ih =>
    intro n k A h1 h2 f h3 hn
    obtain ⟨n, rfl⟩ : ∃ e, n = e + 10 := ⟨n - 10, by omega⟩
    have e : gi A 191 (6 + k).toNat = T (6 + k).toNat := by rw [f.1 191 _ (by omega)]; exact hT _ (by omega)
    obtain ⟨n', A', u1, u2, u3, u4⟩ := ih (n + 8) (k + 1) (wi A 237 (3 + k).toNat (T (6 + k).toNat)) (by omega) (by omega) (frN_wi f _ _) (fun i => by
      rw [gi_wi]
      by_cases c : i = (3 + k).toNat
      · rw [if_pos ⟨rfl, c⟩, if_pos (by omega), show (6 + k).toNat = i + 3 by omega]
      · rw [if_neg (fun q => c q.2), h3 i]
        by_cases c2 : 3 ≤ i ∧ (i : Int) < 3 + k
        · rw [if_pos c2, if_pos (by omega)]
        · rw [if_neg c2, if_neg (by omega)]) (by omega)
    refine ⟨n', A', ?_, u2, u3, by omega⟩
    rw [q_X12_on_79, s_peopleMany, cI_v, frN_hv f, if_pos (by omega), wid (x := 6 + k) (by omega) (by omega), if_pos (by omega), wid (x := 3 + k) (by omega) (by omega), if_pos (by omega), q_X12_on_104, wid (by omega) (by omega), e, Nat.add_zero (n + 8)]
    exact u1
set_option maxRecDepth 100000 in
theorem l_onM (d : Nat) (x1 : Int) (T : Nat → Int) (B : AH) (hc : cok (hv B)) (hT : ∀ j : Nat, j < 1600 → gi B 191 j = T j ∧ 0 ≤ T j ∧ T j ≤ 255) : ∀ (j n : Nat) (k : Int) (A : AH), 0 ≤ k → k + j = nMu (hv B) → frN B A → (∀ i : Nat, gi A 237 i = if 13 ≤ i ∧ (i : Int) < 13 + k then stTP T (nPe (hv B)) (nPe (hv B) + ((i : Int) - 13)) else if 19 ≤ i ∧ (i : Int) < 19 + k then T (7 + nPe (hv B) + 2 * ((i : Int) - 19)).toNat else gi B 237 i) → 10 * j + 10 ≤ n → ∃ A', go true 2 (runF (d + 3)) (runN (d + 3)) pb_X12_on n 112 [vR 21 190 0, vI x1, vI k] [] A = some (some (vI 1), wi (wi A' 237 25 0) 190 73 0) ∧ frN B A' ∧ (∀ i : Nat, gi A' 237 i = if 13 ≤ i ∧ (i : Int) < 13 + nMu (hv B) then stTP T (nPe (hv B)) (nPe (hv B) + ((i : Int) - 13)) else if 19 ≤ i ∧ (i : Int) < 19 + nMu (hv B) then T (7 + nPe (hv B) + 2 * ((i : Int) - 19)).toNat else gi B 237 i) := by
  have hc' := hc
  unfold cok at hc'
  intro j
  induction j with
  | zero =>
    intro n k A h1 h2 f h3 hn
    obtain ⟨n, rfl⟩ : ∃ e, n = e + 3 := ⟨n - 3, by omega⟩
    refine ⟨A, ?_, f, fun i => by rw [h3 i, show k = nMu (hv B) by omega]⟩
    rw [q_X12_on_112, s_muteMany, cI_v, frN_hv f, if_neg (by omega), q_X12_on_183]
  | succ j ih =>
    intro n k A h1 h2 f h3 hn
    obtain ⟨n, rfl⟩ : ∃ e, n = e + 10 := ⟨n - 10, by omega⟩
    have hTA : ∀ j : Nat, j < 1600 → gi A 191 j = T j ∧ 0 ≤ T j ∧ T j ≤ 255 := fun j hj => by rw [f.1 191 _ (by omega)]; exact hT j hj
    have sT := s_seatTold (d + 1) (nPe (hv B) + k) T A (by rw [frN_hv f]; exact hc) hTA (by omega) (by rw [frN_hv f]; omega)
    rw [frN_hv f] at sT
    have e : gi (wi A 237 (13 + k).toNat (stTP T (nPe (hv B)) (nPe (hv B) + k))) 191 (7 + nPe (hv B) + 2 * k).toNat = T (7 + nPe (hv B) + 2 * k).toNat := by rw [gi_wi, if_neg (by omega)]; exact (hTA _ (by omega)).1
    have f2 := frN_wi f (13 + k).toNat (stTP T (nPe (hv B)) (nPe (hv B) + k))
    obtain ⟨A', u1, u2⟩ := ih (n + 7) (k + 1) (wi (wi A 237 (13 + k).toNat (stTP T (nPe (hv B)) (nPe (hv B) + k))) 237 (19 + k).toNat (T (7 + nPe (hv B) + 2 * k).toNat)) (by omega) (by omega) (frN_wi f2 _ _) (fun i => by
      rw [gi_wi, gi_wi, h3 i]
      by_cases c : i = (19 + k).toNat
      · rw [if_pos ⟨rfl, c⟩, if_neg (by omega), if_pos (by omega), show (i : Int) - 19 = k by omega]
      · rw [if_neg (fun q => c q.2)]
        by_cases c1 : i = (13 + k).toNat
        · rw [if_pos ⟨rfl, c1⟩, if_pos (by omega), show (i : Int) - 13 = k by omega]
        · rw [if_neg (fun q => c1 q.2)]
          by_cases c2 : 13 ≤ i ∧ (i : Int) < 13 + k
          · rw [if_pos c2, if_pos (by omega)]
          · rw [if_neg c2, if_neg (c := 13 ≤ i ∧ (i : Int) < 13 + (k + 1)) (by omega)]
            by_cases c3 : 19 ≤ i ∧ (i : Int) < 19 + k
            · rw [if_pos c3, if_pos (by omega)]
            · rw [if_neg c3, if_neg (by omega)]) (by omega)
    refine ⟨A', ?_, u2⟩
    rw [q_X12_on_112, s_muteMany, cI_v, frN_hv f, if_pos (by omega), s_peopleMany, cI_v, frN_hv f, wid (x := nPe (hv B) + k) (by omega) (by omega), sT, cI_v, wid (x := 13 + k) (by omega) (by omega), if_pos (by omega), q_X12_on_139, s_peopleMany, cI_v, frN_hv f2, wid (x := 7 + nPe (hv B)) (by omega) (by omega), wid (x := 2 * k) (by omega) (by omega), wid (x := 7 + nPe (hv B) + 2 * k) (by omega) (by omega), if_pos (by omega), wid (x := 19 + k) (by omega) (by omega), if_pos (by omega), e, q_X12_on_164, wid (by omega) (by omega), Nat.add_zero (n + 7)]
    exact u1
theorem REL_onref {n : Nat} {A B : AH} (r : REL n A) (f : frW 73 (wi A 40 1 0) B) : REL (n + 1) (wi (wi (wi B 189 5 (gi A 189 5 + 1)) 190 1 0) 192 5 (gi A 189 5 + 1)) := by
  obtain ⟨t1, t2, t3⟩ := r.2.2.2.2.1
  have G : ∀ a j, ¬ (73 ≤ a ∧ a ≤ 77) → ¬ (a = 40 ∧ j = 1) → ¬ (a = 190 ∧ j = 1) → ¬ (a = 189 ∧ j = 5) → ¬ (a = 192 ∧ j = 5) → gi (wi (wi (wi B 189 5 (gi A 189 5 + 1)) 190 1 0) 192 5 (gi A 189 5 + 1)) a j = gi A a j := fun a j q1 q2 q3 q4 q5 => by
    rw [gi_wi, if_neg q5, gi_wi, if_neg q3, gi_wi, if_neg q4, f.1 a j (by omega), gi_wi, if_neg q2]
  obtain ⟨E, hE⟩ : ∃ E, E = wi (wi (wi B 189 5 (gi A 189 5 + 1)) 190 1 0) 192 5 (gi A 189 5 + 1) := ⟨_, rfl⟩
  have e1 : gi E 190 1 = 0 := by rw [hE]; simp -implicitDefEqProofs (disch := omega) only [gi_wi, ↓reduceIte, Int.reduceEq, cI_v, cL_v, cV_v, cR_v, wid, wid64, if_pos, if_neg, Nat.add_zero, if_true, if_false, and_self, and_true, true_and, and_false, false_and, or_true, true_or, or_false, false_or]
  have e2 : gi E 40 1 = 0 := by rw [hE]; rw [gi_wi, if_neg (by omega), gi_wi, if_neg (by omega), gi_wi, if_neg (by omega), f.1 40 1 (by omega)]; simp -implicitDefEqProofs (disch := omega) only [gi_wi, ↓reduceIte, Int.reduceEq, cI_v, cL_v, cV_v, cR_v, wid, wid64, if_pos, if_neg, Nat.add_zero, if_true, if_false, and_self, and_true, true_and, and_false, false_and, or_true, true_or, or_false, false_or]
  have e3 : gi E 189 5 = gi A 189 5 + 1 := by rw [hE]; simp -implicitDefEqProofs (disch := omega) only [gi_wi, ↓reduceIte, Int.reduceEq, cI_v, cL_v, cV_v, cR_v, wid, wid64, if_pos, if_neg, Nat.add_zero, if_true, if_false, and_self, and_true, true_and, and_false, false_and, or_true, true_or, or_false, false_or]
  have e4 : gi E 192 5 = gi A 189 5 + 1 := by rw [hE]; simp -implicitDefEqProofs (disch := omega) only [gi_wi, ↓reduceIte, Int.reduceEq, cI_v, cL_v, cV_v, cR_v, wid, wid64, if_pos, if_neg, Nat.add_zero, if_true, if_false, and_self, and_true, true_and, and_false, false_and, or_true, true_or, or_false, false_or]
  have er : ∀ a j, gr E a j = gr A a j := fun a j => by rw [hE]; exact f.2.1 a j
  have el : E.2.2 = A.2.2 := by rw [hE]; exact f.2.2
  rw [← hE] at G ⊢
  have en : nv E = nv A := by funext j; exact G 237 j (by omega) (by omega) (by omega) (by omega) (by omega)
  refine REL_mk r (fun a j h => G a j (by omega) (by omega) (by omega) (by omega) (by omega)) (fun a j _ => er a j) el ?_ ?_ ?_ ?_ ?_ (IM_fr (fun a j h => G a j (by omega) (by omega) (by omega) (by omega) (by omega)) r.2.2.2.2.2.2.2.2.1) (PR_fr (fun a j h => G a j (by omega) (by omega) (by omega) (by omega) (by omega)) (fun j => er 79 j) (hv_fr (fun a j h1 h2 => G a j (by omega) (by omega) (by omega) (by omega) (by omega))) r.2.2.2.2.2.2.2.2.2.1)
  · rw [en]
    exact SK_fr (by omega) (fun a j h1 h2 => G a j (by omega) (by omega) (by omega) (by omega) (by omega)) r.2.1
  · unfold TP
    refine ⟨by rw [e1, e2], by rw [e2]; omega, fun j hj => ?_⟩
    rw [G 191 j (by omega) (by omega) (by omega) (by omega) (by omega), G 41 j (by omega) (by omega) (by omega) (by omega) (by omega)]
    exact t3 j hj
  · rw [G 190 7 (by omega) (by omega) (by omega) (by omega) (by omega), G 190 8 (by omega) (by omega) (by omega) (by omega) (by omega), G 42 11 (by omega) (by omega) (by omega) (by omega) (by omega), G 42 12 (by omega) (by omega) (by omega) (by omega) (by omega)]
    exact r.2.2.2.2.2.1
  · intro j hj
    have q := r.2.2.2.2.2.2.1 j hj
    by_cases c : j = 5
    · rw [c] at q ⊢
      rw [e3, e4]; omega
    · rw [G 192 j (by omega) (by omega) (by omega) (by omega) (by omega), G 189 j (by omega) (by omega) (by omega) (by omega) (by omega)]; omega
  · rw [G 190 75 (by omega) (by omega) (by omega) (by omega) (by omega), G 40 14 (by omega) (by omega) (by omega) (by omega) (by omega)]
    exact r.2.2.2.2.2.2.2.1
theorem rowT_st {H : Nat → Nat → Int} (hc : cok H) (T row : Nat → Int) (k : Int) (k0 : 0 ≤ k) (k1 : k < nPe H + nMu H) : seatR (rowT H T row) (numF (nPe H) k) = stTP T (nPe H) k := by
  unfold cok at hc
  unfold seatR rowT numF
  by_cases c : k < nPe H
  · rw [if_pos c, if_neg (by omega), if_neg (by omega), if_neg (by omega), if_pos (by omega)]
    unfold stTP; rw [if_pos c]; congr 1; omega
  · rw [if_neg c, if_neg (by omega), if_neg (by omega), if_neg (by omega), if_neg (by omega), if_pos (by omega)]
    congr 1; omega
theorem rowT_pt {H : Nat → Nat → Int} (hc : cok H) (T row : Nat → Int) (k : Int) (k0 : 0 ≤ k) (k1 : k < nPe H + nMu H) : partyF H (rowT H T row) (numF (nPe H) k) = ptT H T k := by
  unfold cok at hc
  unfold partyF rowT numF ptT
  by_cases c : k < nPe H
  · rw [if_pos c, if_pos (by omega), if_pos c]
  · rw [if_neg c, if_neg (by omega), if_neg c, if_neg (by omega), if_neg (by omega), if_neg (by omega), if_neg (by omega), if_neg (by omega), if_pos (by omega)]
    congr 1; omega
theorem rowT_rok {H : Nat → Nat → Int} (hc : cok H) {T row : Nat → Int} {L : Int} (hT : ∀ j : Nat, j < 1600 → 0 ≤ T j ∧ T j ≤ 255) (hr : rok H row) (ok : TOLD H T L) : rok H (rowT H T row) := by
  have hc' := hc
  unfold cok at hc'
  obtain ⟨o1, o2, o3, o4, o5, o6⟩ := ok
  refine ⟨fun j h1 h2 => ?_, fun j h1 h2 => ?_, ?_⟩
  · unfold rowT
    rw [if_neg (by omega), if_neg (by omega), if_neg (by omega)]
    by_cases c1 : 3 ≤ j ∧ (j : Int) < 3 + nPe H
    · rw [if_pos c1]
      have := o6.1 ((j : Int) - 3) (by omega) (by omega)
      unfold stTP at this
      rw [if_pos (by omega), show (6 + ((j : Int) - 3)).toNat = j + 3 by omega] at this
      have := hT (j + 3) (by omega)
      omega
    · rw [if_neg c1]
      by_cases c2 : 13 ≤ j ∧ (j : Int) < 13 + nMu H
      · rw [if_pos c2]
        have a1 := o6.1 (nPe H + ((j : Int) - 13)) (by omega) (by omega)
        have a2 : -1 ≤ stTP T (nPe H) (nPe H + ((j : Int) - 13)) := by
          unfold stTP; rw [if_neg (by omega)]
          have := hT (6 + nPe H + 2 * (nPe H + ((j : Int) - 13) - nPe H)).toNat (by omega)
          omega
        omega
      · rw [if_neg c2, if_neg (by omega), if_neg (by omega)]
        exact hr.1 j h1 h2
  · by_cases c3 : (j : Int) < 19 + nMu H
    · have e1 : rowT H T row j = T (7 + nPe H + 2 * ((j : Int) - 19)).toNat := by
        unfold rowT
        rw [if_neg (by omega), if_neg (by omega), if_neg (by omega), if_neg (by omega), if_neg (by omega), if_pos (by omega)]
      have e2 : rowT H T row (j - 6) = stTP T (nPe H) (nPe H + ((j : Int) - 19)) := by
        unfold rowT
        rw [if_neg (by omega), if_neg (by omega), if_neg (by omega), if_neg (by omega), if_pos (by omega)]
        congr 1; omega
      have a := o6.2.2 (nPe H + ((j : Int) - 19)) (by omega) (by omega)
      have ep : ptT H T (nPe H + ((j : Int) - 19)) = T (7 + nPe H + 2 * ((j : Int) - 19)).toNat := by unfold ptT; rw [if_neg (by omega)]; congr 2; omega
      have b := hT (7 + nPe H + 2 * ((j : Int) - 19)).toNat (by omega)
      rw [ep] at a
      rw [e1, e2]
      by_cases z : stTP T (nPe H) (nPe H + ((j : Int) - 19)) = -1
      · rw [if_pos z] at a; omega
      · rw [if_neg z] at a; omega
    · have e1 : rowT H T row j = row j := by
        unfold rowT
        rw [if_neg (by omega), if_neg (by omega), if_neg (by omega), if_neg (by omega), if_neg (by omega), if_neg (by omega), if_neg (by omega)]
      have e2 : rowT H T row (j - 6) = row (j - 6) := by
        unfold rowT
        rw [if_neg (by omega), if_neg (by omega), if_neg (by omega), if_neg (by omega), if_neg (by omega), if_neg (by omega), if_neg (by omega)]
      rw [e1, e2]; exact hr.2.1 j h1 h2
  · have e : rowT H T row 2 = T 5 - 1 := by unfold rowT; rw [if_neg (by omega), if_neg (by omega), if_pos rfl]
    have := hT 5 (by omega)
    rw [e]; omega
theorem c_on (d n : Nat) (hn : n ≤ 2000) (A : AH) (r : REL n A) : CP (d + 6) n 139 299 [] A := by
  have g := REL_g r
  have hc := g.1
  unfold cok at hc
  have b6 := r.2.2.1
  have hh0 : gr A 40 5 ≠ 0 := by have := b6.1; omega
  have hh := b6.1
  obtain ⟨t1, t2, t3⟩ := r.2.2.2.2.1
  obtain ⟨L, hL⟩ : ∃ L, L = gi A 40 1 := ⟨_, rfl⟩
  rw [← hL] at t1 t2
  obtain ⟨T, hT⟩ : ∃ T : Nat → Int, T = fun j => gi A 41 j := ⟨_, rfl⟩
  have tT : ∀ j, T j = gi A 41 j := fun j => by rw [hT]
  have tb : ∀ j : Nat, j < 1600 → 0 ≤ T j ∧ T j ≤ 255 := fun j hj => by rw [tT]; exact (t3 j hj).2
  have td := r.2.2.2.2.2.2.2.2.2.2.2.1
  have q5 := r.2.2.2.2.2.2.1 5 (by omega)
  obtain ⟨A1, hA1⟩ : ∃ A1, A1 = wi A 40 1 0 := ⟨_, rfl⟩
  have g1 : ∀ a j, ¬ (a = 40 ∧ j = 1) → gi A1 a j = gi A a j := fun a j q => by rw [hA1, gi_wi, if_neg q]
  have r1 : ∀ a j, gr A1 a j = gr A a j := fun a j => by rw [hA1]; rfl
  have l1 : A1.2.2 = A.2.2 := by rw [hA1]; rfl
  have take : runF (d + 5) 144 [vR 20 40 0] A = some (some (vI L), A1) := by
    rw [r_X11_takeTape, q_X11_takeTape_0, q_X11_takeTape_10, hL, hA1]
  have b1 : HR A1 (gr A 40 5) (hv A) := HR_fr (fun a j q => g1 a j (by omega)) (fun a j _ => r1 a j) l1 b6
  have refC : ∀ (m : Nat) (B : AH), frW 73 A1 B → go true 2 (runF (d + 5)) (runN (d + 5)) pb_X11_on (m + 1) 34 [vR 20 40 0, vI L] [] B = some (some (vI 0), wi B 189 5 (gi A 189 5 + 1)) := by
    intro m B f
    have e : gi B 189 5 = gi A 189 5 := by rw [f.1 189 5 (by omega)]; exact g1 189 5 (by omega)
    have k5 : runF (d + 5) 141 [vR 20 40 0, vI 5] B = some (some (vI 0), wi B 189 5 (gi B 189 5 + 1)) := s_refuse _ 5 B (by omega) (by omega) (by rw [show (5 : Int).toNat = 5 from rfl, e]; omega) (by rw [show (5 : Int).toNat = 5 from rfl, e]; omega)
    rw [q_X11_on_34, k5, cI_v, if_pos (Or.inl rfl), e]
  have refM : ∀ (B : AH), frW 73 A1 B → (∀ C, (∀ a j, ¬ (73 ≤ a ∧ a ≤ 77) → ¬ (a = 40 ∧ j = 1) → ¬ (a = 190 ∧ j = 1) → ¬ (a = 189 ∧ j = 5) → gi C a j = gi A a j) → runF (d + 5) 298 [vR 21 190 0, vI L] C = some (some (vI 0), C)) → runF (d + 6) 299 [vR 21 190 0] (wi B 189 5 (gi A 189 5 + 1)) = some (some (vI 0), wi (wi (wi B 189 5 (gi A 189 5 + 1)) 190 1 0) 192 5 (gi A 189 5 + 1)) := by
    intro B f h
    have e1 : gi (wi B 189 5 (gi A 189 5 + 1)) 190 1 = L := by rw [gi_wi, if_neg (by omega), f.1 190 1 (by omega), g1 190 1 (by omega)]; exact t1
    have e2 : gi (wi (wi B 189 5 (gi A 189 5 + 1)) 190 1 0) 192 5 = gi A 189 5 := by rw [gi_wi, if_neg (by omega), gi_wi, if_neg (by omega), f.1 192 5 (by omega), g1 192 5 (by omega)]; exact q5.1
    rw [r_X12_on, q_X12_on_0, e1, q_X12_on_10, h _ (fun a j z1 z2 z3 z4 => by rw [gi_wi, if_neg z3, gi_wi, if_neg z4, f.1 a j (by omega)]; exact g1 a j z2), cI_v, if_pos rfl, e2, wid (by omega) (by omega), q_X12_on_28]
  by_cases tl : gi A 190 53 = 1
  · have s2 : 2 ≤ nSe (hv A) := by rcases td with q | q <;> omega
    obtain ⟨v, B, u1, u2, u3⟩ := s_reads (d + 1) (gr A 40 5) g.1 T L A1 b1 (fun j hj => by rw [g1 41 j (by omega), ← tT]; exact ⟨rfl, tb j hj⟩) t2
    have mdl : ∀ C, (∀ a j, ¬ (68 ≤ a ∧ a ≤ 78) → ¬ (a = 40 ∧ j = 1) → ¬ (a = 190 ∧ j = 1) → ¬ (a = 189 ∧ j = 5) → gi C a j = gi A a j) → ∃ v, runF (d + 5) 298 [vR 21 190 0, vI L] C = some (some (vI v), C) ∧ ((v = 1 ∧ TOLD (hv A) T L) ∨ (v = 0 ∧ ¬ TOLD (hv A) T L)) := by
      intro C h
      have eh : hv C = hv A := hv_fr (fun a j q1 q2 => h a j (by omega) (by omega) (by omega) (by omega))
      have := s_isToldM (d + 1) T L C (by rw [eh]; exact g.1) (fun j hj => by rw [h 191 j (by omega) (by omega) (by omega) (by omega), (t3 j hj).1, ← tT]; exact ⟨rfl, tb j hj⟩) t2 (by rw [h 190 53 (by omega) (by omega) (by omega) (by omega)]; exact tl)
      rw [eh] at this
      exact this
    rcases u3 with ⟨v1, ok, iv, c0, c1, c2, c7⟩ | ⟨v0, no⟩
    · obtain ⟨C, k1, k2, k3⟩ := s_copyP (d + 4) 68 73 B (by omega) (by omega) (by omega)
      obtain ⟨D, hD⟩ : ∃ D, D = wi C 78 2 0 := ⟨_, rfl⟩
      have gD : ∀ a j, ¬ (68 ≤ a ∧ a ≤ 77) → ¬ (a = 78 ∧ j = 2) → ¬ (a = 40 ∧ j = 1) → gi D a j = gi A a j := fun a j z1 z2 z3 => by rw [hD, gi_wi, if_neg z2, k3.1 a j (by omega), u2.1 a j (by omega)]; exact g1 a j z3
      have rD : ∀ a j, gr D a j = gr A a j := fun a j => by rw [hD]; show gr C a j = _; rw [k3.2.1, u2.2.1]; exact r1 a j
      have lD : D.2.2 = A.2.2 := by rw [hD]; show C.2.2 = _; rw [k3.2.2, u2.2.2]; exact l1
      have runC : runF (d + 6) 139 [vR 20 40 0] A = some (some (vI 1), D) := by
        have kf : runF (d + 5) 75 [vR 16 78 0] C = some (none, D) := by rw [r_X6_forget, q_X6_forget_0, hD]
        rw [r_X11_on, q_X11_on_0, take, cI_v, r1, if_neg hh0, s_isToldC _ _ A1 _ b1, cI_v, decide_eq_true (by omega), bI_t, if_neg (by omega), r1, u1, cI_v, v1, if_neg (by omega), k1, cV_v, kf, cV_v]
      have eD : gi D 190 1 = L := by rw [gD 190 1 (by omega) (by omega) (by omega)]; exact t1
      obtain ⟨D1, hD1⟩ : ∃ D1, D1 = wi D 190 1 0 := ⟨_, rfl⟩
      have gD1 : ∀ a j, ¬ (a = 190 ∧ j = 1) → gi D1 a j = gi D a j := fun a j z => by rw [hD1, gi_wi, if_neg z]
      obtain ⟨w, m1, m2⟩ := mdl D1 (fun a j z1 z2 z3 z4 => by rw [gD1 a j z3]; exact gD a j (by omega) (by omega) z2)
      have w1 : w = 1 := by rcases m2 with q | q; exact q.1; exact absurd ok q.2
      have tD : ∀ j : Nat, j < 1600 → gi D1 191 j = T j := fun j hj => by rw [gD1 191 j (by omega), gD 191 j (by omega) (by omega) (by omega), tT]; exact (t3 j hj).1
      have t0 := tb 0 (by omega)
      have tb1 := tb 1 (by omega)
      have tb2 := tb 2 (by omega)
      have tb3 := tb 3 (by omega)
      have tb4 := tb 4 (by omega)
      have tb5 := tb 5 (by omega)
      obtain ⟨D2, hD2⟩ : ∃ D2, D2 = wi (wi (wi D1 237 0 (256 * T 0 + T 1)) 237 1 (scT T)) 237 2 (T 5 - 1) := ⟨_, rfl⟩
      have f2 : frN D1 D2 := by
        rw [hD2]; exact frN_wi (frN_wi (frN_wi ⟨fun _ _ _ => rfl, fun _ _ => rfl, rfl⟩ _ _) _ _) _ _
      have eh2 : hv D2 = hv A := by
        rw [frN_hv f2]
        exact hv_fr (fun a j q1 q2 => by rw [gD1 a j (by omega)]; exact gD a j (by omega) (by omega) (by omega))
      have tD2 : ∀ j : Nat, j < 1600 → gi D2 191 j = T j := fun j hj => by rw [f2.1 191 j (by omega)]; exact tD j hj
      obtain ⟨n3, D3, o1, o2, o3, o4⟩ := l_onP (d + 3) L T D2 (by rw [eh2]; exact g.1) tD2 (nPe (hv A)).toNat (fu + 194) 0 D2 (by omega) (by rw [eh2]; omega) ⟨fun _ _ _ => rfl, fun _ _ => rfl, rfl⟩ (fun i => by rw [if_neg (by omega)]) (by have := fu_ge; omega)
      have eh3 : hv D3 = hv A := by rw [frN_hv o2]; exact eh2
      obtain ⟨D4, p1, p2, p3⟩ := l_onM (d + 2) L T D3 (by rw [eh3]; exact g.1) (fun j hj => by rw [o2.1 191 j (by omega), tD2 j hj]; exact ⟨rfl, tb j hj⟩) (nMu (hv A)).toNat n3 0 D3 (by omega) (by rw [eh3]; omega) ⟨fun _ _ _ => rfl, fun _ _ => rfl, rfl⟩ (fun i => by rw [if_neg (by omega), if_neg (by omega)]) (by have := fu_ge; omega)
      rw [eh2] at o3
      rw [eh3] at p3
      have runM : runF (d + 6) 299 [vR 21 190 0] D = some (some (vI 1), wi (wi D4 237 25 0) 190 73 0) := by
        have x0 : w32 (w32 (256 * gi D1 191 0) + gi D1 191 1) = 256 * T 0 + T 1 := by
          rw [tD 0 (by omega), tD 1 (by omega), wid (x := 256 * T 0) (by omega) (by omega), wid (by omega) (by omega)]
        have x1 : runF (d + 5) 295 [vR 21 190 0] (wi D1 237 0 (256 * T 0 + T 1)) = some (some (vI (scT T)), wi D1 237 0 (256 * T 0 + T 1)) := by
          have k : ∀ j : Nat, j < 1600 → gi (wi D1 237 0 (256 * T 0 + T 1)) 191 j = T j := fun j hj => by rw [gi_wi, if_neg (by omega)]; exact tD j hj
          rw [r_X12_scaleTold, q_X12_scaleTold_0, k 2 (by omega), k 3 (by omega), k 4 (by omega), wid (x := 65536 * T 2) (by omega) (by omega), wid (x := 256 * T 3) (by omega) (by omega), wid (x := 65536 * T 2 + 256 * T 3) (by omega) (by omega), wid (x := 65536 * T 2 + 256 * T 3 + T 4) (by omega) (by omega), wid (x := 65536 * T 2 + 256 * T 3 + T 4 - 99999) (by omega) (by omega), wid (by omega) (by omega), show 65536 * T 2 + 256 * T 3 + T 4 - 99999 - 1 = scT T by unfold scT; omega]
        have x2 : w32 (gi (wi (wi D1 237 0 (256 * T 0 + T 1)) 237 1 (scT T)) 191 5 - 1) = T 5 - 1 := by
          rw [gi_wi, if_neg (by omega), gi_wi, if_neg (by omega), tD 5 (by omega), wid (by omega) (by omega)]
        rw [r_X12_on, q_X12_on_0, eD, ← hD1, q_X12_on_10, m1, cI_v, w1, if_neg (by omega), x0, q_X12_on_53, x1, cI_v, q_X12_on_63, x2, ← hD2, q_X12_on_77, Nat.add_zero (fu + 194), o1, p1]
      obtain ⟨E, hE⟩ : ∃ E, E = wi (wi D4 237 25 0) 190 73 0 := ⟨_, rfl⟩
      rw [← hE] at runM
      have GE : ∀ a j, a ≠ 237 → ¬ (a = 190 ∧ j = 73) → ¬ (a = 190 ∧ j = 1) → gi E a j = gi D a j := fun a j z1 z2 z3 => by
        rw [hE, gi_wi, if_neg z2, gi_wi, if_neg (by omega), p2.1 a j z1, o2.1 a j z1, f2.1 a j z1]; exact gD1 a j z3
      have GA : ∀ a j, a ≠ 237 → ¬ (a = 190 ∧ j = 73) → ¬ (a = 190 ∧ j = 1) → ¬ (68 ≤ a ∧ a ≤ 77) → ¬ (a = 78 ∧ j = 2) → ¬ (a = 40 ∧ j = 1) → gi E a j = gi A a j := fun a j z1 z2 z3 z4 z5 z6 => (GE a j z1 z2 z3).trans (gD a j z4 z5 z6)
      have RE : ∀ a j, gr E a j = gr A a j := fun a j => by
        rw [hE]; show gr D4 a j = _; rw [p2.2.1, o2.2.1, f2.2.1, hD1]; exact rD a j
      have LE : E.2.2 = A.2.2 := by rw [hE]; show D4.2.2 = _; rw [p2.2.2, o2.2.2, f2.2.2, hD1]; exact lD
      have nE : nv E = rowT (hv A) T (nv A) := by
        funext j
        unfold nv rowT
        rw [hE, gi_wi, if_neg (by omega), gi_wi]
        by_cases j25 : j = 25
        · rw [if_pos ⟨rfl, j25⟩, if_neg (by omega), if_neg (by omega), if_neg (by omega), if_neg (by omega), if_neg (by omega), if_neg (by omega), if_pos j25]
        · have e2 : gi D2 237 j = if j = 0 then 256 * T 0 + T 1 else if j = 1 then scT T else if j = 2 then T 5 - 1 else gi A 237 j := by
            rw [hD2, gi_wi, gi_wi, gi_wi, gD1 237 j (by omega), gD 237 j (by omega) (by omega) (by omega)]
            by_cases a0 : j = 0
            · rw [if_neg (by omega), if_neg (by omega), if_pos (by omega), if_pos a0]
            · by_cases a1 : j = 1
              · rw [if_neg (by omega), if_pos (by omega), if_neg a0, if_pos a1]
              · by_cases a2 : j = 2
                · rw [if_pos (by omega), if_neg a0, if_neg a1, if_pos a2]
                · rw [if_neg (by omega), if_neg (by omega), if_neg (by omega), if_neg a0, if_neg a1, if_neg a2]
          rw [if_neg (by omega), p3 j, o3 j, e2]
          by_cases a0 : j < 3
          · rw [if_neg (by omega), if_neg (by omega), if_neg (by omega)]
            by_cases a1 : j = 0
            · rw [if_pos a1, if_pos a1]
            · rw [if_neg a1, if_neg a1]
              by_cases a2 : j = 1
              · rw [if_pos a2, if_pos a2]
              · rw [if_neg a2, if_neg a2, if_pos (by omega), if_pos (by omega)]
          · rw [if_neg (c := j = 0) (by omega), if_neg (c := j = 1) (by omega), if_neg (c := j = 2) (by omega), if_neg (c := j = 0) (by omega), if_neg (c := j = 1) (by omega), if_neg (c := j = 2) (by omega)]
            by_cases a1 : 3 ≤ j ∧ (j : Int) < 3 + nPe (hv A)
            · rw [if_neg (by omega), if_neg (by omega), if_pos a1, if_pos a1]
            · rw [if_neg a1, if_neg a1]
              by_cases a2 : 13 ≤ j ∧ (j : Int) < 13 + nMu (hv A)
              · rw [if_pos a2, if_pos a2]
              · rw [if_neg a2, if_neg a2]
                by_cases a3 : 19 ≤ j ∧ (j : Int) < 19 + nMu (hv A)
                · rw [if_pos a3, if_pos a3]
                · rw [if_neg a3, if_neg a3, if_neg j25]
      have row0 : rowT (hv A) T (nv A) 0 = 256 * T 0 + T 1 := by unfold rowT; rw [if_pos rfl]
      have row1 : rowT (hv A) T (nv A) 1 = scT T := by unfold rowT; rw [if_neg (by omega), if_pos rfl]
      have row2 : rowT (hv A) T (nv A) 2 = T 5 - 1 := by unfold rowT; rw [if_neg (by omega), if_neg (by omega), if_pos rfl]
      have row25 : rowT (hv A) T (nv A) 25 = 0 := by unfold rowT; rw [if_neg (by omega), if_neg (by omega), if_neg (by omega), if_neg (by omega), if_neg (by omega), if_neg (by omega), if_pos rfl]
      have stb : ∀ k, 0 ≤ k → k < nPe (hv A) + nMu (hv A) → -1 ≤ stTP T (nPe (hv A)) k ∧ (k < nPe (hv A) → 0 ≤ stTP T (nPe (hv A)) k) := by
        intro k k0 k1
        unfold stTP
        by_cases c : k < nPe (hv A)
        · rw [if_pos c]; have := tb (6 + k).toNat (by omega); omega
        · rw [if_neg c]; have := tb (6 + nPe (hv A) + 2 * (k - nPe (hv A))).toNat (by omega); omega
      obtain ⟨sr, dk⟩ := IV_SR (row := rowT (hv A) T (nv A)) n73 g.1 iv ⟨by rw [c0, row0], by rw [c1, row1], by rw [c2, row2]⟩ (fun k k0 k1 => rowT_st g.1 T _ k k0 k1) (fun k k0 k1 _ => rowT_pt g.1 T _ k k0 k1) (fun k k0 k1 => (stb k k0 (by omega)).2 k1) (fun k k0 k1 => ⟨(stb k k0 k1).1, ok.2.2.2.2.2.1 k k0 k1⟩) (fun k i i0 i1 k1 k2 => ok.2.2.2.2.2.2.1 k i i0 i1 k1 k2)
      have sE : ∀ a j, 68 ≤ a → a ≤ 72 → gi E a j = gi C a j := fun a j z1 z2 => by rw [GE a j (by omega) (by omega) (by omega), hD, gi_wi, if_neg (by omega)]
      have e7 : gi E 68 7 = 0 := by rw [sE 68 7 (by omega) (by omega), k2.1.2.2.2]; exact c7
      have sk : SK (n + 1) E 68 (hv A) (nv E) := by
        rw [nE]
        refine ⟨SR_fr (fun a j z1 z2 => sE a j z1 (by omega)) (SR_cp (by omega) k2 sr), ⟨by rw [e7]; omega, by rw [row25, e7]; rfl, fun k k0 k1 => by rw [row25] at k1; omega⟩, rowT_rok g.1 tb g.2.2.2.1 ok, dk, by rw [row0]; have := ok.2.2.1; omega, by rw [row1]; exact ok.2.2.2.1⟩
      refine ⟨vI 1, D, E, runC, runM, REL_mk r (fun a j h => GA a j (by omega) (by omega) (by omega) (by omega) (by omega) (by omega)) (fun a j _ => RE a j) LE sk ?_ ?_ (RF_fr (fun a j h => GA a j (by omega) (by omega) (by omega) (by omega) (by omega) (by omega)) r.2.2.2.2.2.2.1) ?_ (IM_fr (fun a j h => GA a j (by omega) (by omega) (by omega) (by omega) (by omega) (by omega)) r.2.2.2.2.2.2.2.2.1) ?_⟩
      · have z1 : gi E 190 1 = 0 := by
          rw [hE, gi_wi, if_neg (by omega), gi_wi, if_neg (by omega), p2.1 _ _ (by omega), o2.1 _ _ (by omega), f2.1 _ _ (by omega), hD1]; simp -implicitDefEqProofs (disch := omega) only [gi_wi, ↓reduceIte, Int.reduceEq, cI_v, cL_v, cV_v, cR_v, wid, wid64, if_pos, if_neg, Nat.add_zero, if_true, if_false, and_self, and_true, true_and, and_false, false_and, or_true, true_or, or_false, false_or]
        have z2 : gi E 40 1 = 0 := by
          rw [GE 40 1 (by omega) (by omega) (by omega), hD, gi_wi, if_neg (by omega), k3.1 40 1 (by omega), u2.1 40 1 (by omega), hA1]; simp -implicitDefEqProofs (disch := omega) only [gi_wi, ↓reduceIte, Int.reduceEq, cI_v, cL_v, cV_v, cR_v, wid, wid64, if_pos, if_neg, Nat.add_zero, if_true, if_false, and_self, and_true, true_and, and_false, false_and, or_true, true_or, or_false, false_or]
        refine ⟨by rw [z1, z2], by rw [z2]; omega, fun j hj => ?_⟩
        rw [GA 191 j (by omega) (by omega) (by omega) (by omega) (by omega) (by omega), GA 41 j (by omega) (by omega) (by omega) (by omega) (by omega) (by omega)]
        exact t3 j hj
      · rw [GA 190 7 (by omega) (by omega) (by omega) (by omega) (by omega) (by omega), GA 190 8 (by omega) (by omega) (by omega) (by omega) (by omega) (by omega), GA 42 11 (by omega) (by omega) (by omega) (by omega) (by omega) (by omega), GA 42 12 (by omega) (by omega) (by omega) (by omega) (by omega) (by omega)]
        exact r.2.2.2.2.2.1
      · rw [GA 190 75 (by omega) (by omega) (by omega) (by omega) (by omega) (by omega), GA 40 14 (by omega) (by omega) (by omega) (by omega) (by omega) (by omega)]
        exact r.2.2.2.2.2.2.2.1
      · have pr := r.2.2.2.2.2.2.2.2.2.1
        have z1 : gi E 190 73 = 0 := by rw [hE]; simp -implicitDefEqProofs (disch := omega) only [gi_wi, ↓reduceIte, Int.reduceEq, cI_v, cL_v, cV_v, cR_v, wid, wid64, if_pos, if_neg, Nat.add_zero, if_true, if_false, and_self, and_true, true_and, and_false, false_and, or_true, true_or, or_false, false_or]
        have z2 : gi E 78 2 = 0 := by rw [GE 78 2 (by omega) (by omega) (by omega), hD]; simp -implicitDefEqProofs (disch := omega) only [gi_wi, ↓reduceIte, Int.reduceEq, cI_v, cL_v, cV_v, cR_v, wid, wid64, if_pos, if_neg, Nat.add_zero, if_true, if_false, and_self, and_true, true_and, and_false, false_and, or_true, true_or, or_false, false_or]
        refine ⟨by rw [z2]; omega, by rw [z1, z2], ?_, ?_, fun i hi => by rw [RE]; exact pr.2.2.2.2.1 i hi, fun i h1 h2 => by rw [z2] at h2; omega⟩
        · rw [GA 78 1 (by omega) (by omega) (by omega) (by omega) (by omega) (by omega)]; exact pr.2.2.1
        · rw [GA 190 74 (by omega) (by omega) (by omega) (by omega) (by omega) (by omega)]; exact pr.2.2.2.1
    · refine ⟨vI 0, wi B 189 5 (gi A 189 5 + 1), _, ?_, refM B u2 (fun C h => ?_), REL_onref r (by rw [← hA1]; exact u2)⟩
      · rw [r_X11_on, q_X11_on_0, take, cI_v, r1, if_neg hh0, s_isToldC _ _ A1 _ b1, cI_v, decide_eq_true (by omega), bI_t, if_neg (by omega), r1, u1, cI_v, v0, if_pos rfl]
        exact refC _ B u2
      · obtain ⟨w, m1, m2⟩ := mdl C (fun a j z1 z2 z3 z4 => h a j (by omega) z2 z3 z4)
        have w0 : w = 0 := by rcases m2 with q | q; exact absurd q.2 no; exact q.1
        rw [m1, w0]
  · have s0 : gi A 190 53 = 0 ∧ nSe (hv A) = 0 := by rcases td with q | q <;> omega
    refine ⟨vI 0, wi A1 189 5 (gi A 189 5 + 1), _, ?_, refM A1 (frW_refl 73 A1) (fun C h => ?_), REL_onref r (by rw [← hA1]; exact frW_refl 73 A1)⟩
    · rw [r_X11_on, q_X11_on_0, take, cI_v, r1, if_neg hh0, s_isToldC _ _ A1 _ b1, cI_v, decide_eq_false (by omega), bI_f, if_pos rfl]
      exact refC _ A1 (frW_refl 73 A1)
    · rw [r_X12_isTold, q_X12_isTold_0, h 190 53 (by omega) (by omega) (by omega) (by omega), s0.1, if_pos rfl]
