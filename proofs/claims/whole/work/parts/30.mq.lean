/-! the reference: simple queries; the mean -/
def rowEq (r r' : Nat → Int) : Prop := ∀ j, 3 ≤ j → j < 25 → r j = r' j
theorem seat_row {r r' : Nat → Int} (e : rowEq r r') {x : Int} (h1 : 0 ≤ x) (h2 : x < 16) : seatR r x = seatR r' x := e _ (by omega) (by omega)
theorem sit_row {r r' : Nat → Int} (e : rowEq r r') {H : Nat → Nat → Int} (hc : cok H) (x : Int) : sit H r x = sit H r' x := by
  unfold cok at hc
  unfold sit
  by_cases h : 10 ≤ x ∧ x < 10 + nMu H
  · rw [seat_row e (by omega) (by omega)]
  · rw [decide_eq_false h, Bool.false_and, Bool.false_and]
theorem party_row {r r' : Nat → Int} (e : rowEq r r') (H : Nat → Nat → Int) {x : Int} (hx : num x) : partyF H r x = partyF H r' x := by
  unfold num at hx
  unfold partyF
  by_cases h : x < 10
  · rw [if_pos h, if_pos h]
  · rw [if_neg h, if_neg h, e _ (by omega) (by omega)]
theorem fct_row {r r' : Nat → Int} (e : rowEq r r') {H : Nat → Nat → Int} (hc : cok H) (m a q : Int) {x : Int} (hx : num x) : fctF H r m a q x = fctF H r' m a q x := by
  have h1 : 0 ≤ x := by unfold num at hx; omega
  have h2 : x < 16 := by unfold num at hx; omega
  have bs : ∀ j, 0 ≤ j → j < 16 → besideF r j x = besideF r' j x := fun j j1 j2 => by
    unfold besideF; rw [seat_row e j1 j2, seat_row e h1 h2]
  have e2 : nearF H r x = nearF H r' x := sm_congr 16 0 (fun j j1 j2 => by
    rw [sit_row e hc, bs j j1 (by omega)])
  have e3 : hatedF H r x = hatedF H r' x := sm_congr 16 0 (fun j j1 j2 => by
    rw [sit_row e hc, bs j j1 (by omega)])
  funext i
  unfold fctF askedF
  rw [e2, e3, party_row e H hx, seat_row e h1 h2]
theorem told_row {r r' : Nat → Int} (e : rowEq r r') {H : Nat → Nat → Int} (hc : cok H) (m a q w : Int) {x : Int} (hx : num x) : toldF H r m a q w x = toldF H r' m a q w x := by
  unfold toldF; rw [fct_row e hc m a q hx]
theorem weight_row {r r' : Nat → Int} (e : rowEq r r') {H : Nat → Nat → Int} (hc : cok H) (m a q : Int) {x : Int} (hx : num x) : weightF H r m a q x = weightF H r' m a q x := by
  unfold weightF; rw [told_row e hc m a q 0 hx]
theorem cough_row {r r' : Nat → Int} (e : rowEq r r') {H : Nat → Nat → Int} (hc : cok H) (m a q : Int) {x : Int} (hx : num x) : coughF H r m a q x = coughF H r' m a q x := by
  unfold coughF; rw [told_row e hc m a q 1 hx]
theorem moves_row {r r' : Nat → Int} (e : rowEq r r') {H : Nat → Nat → Int} (hc : cok H) (m a q : Int) {x : Int} (hx : num x) (b : Bool) : movesF H r m a q x b = movesF H r' m a q x b := by
  unfold movesF signF; rw [weight_row e hc m a q hx, cough_row e hc m a q hx, party_row e H hx]
theorem mn_row {r r' : Nat → Int} (e : rowEq r r') {H : Nat → Nat → Int} (hc : cok H) (m a q : Int) : mnF H r m a q = mnF H r' m a q := by
  unfold mnF
  refine sm_congr 16 0 (fun j _ _ => ?_)
  rw [sit_row e hc]
  by_cases c : sit H r' j = true
  · rw [if_pos c, if_pos c]
    unfold mmF
    rw [moves_row e hc m a q (sit_num hc c), moves_row e hc m a q (sit_num hc c)]
  · rw [if_neg c, if_neg c]
theorem sw_row {r r' : Nat → Int} (e : rowEq r r') {H : Nat → Nat → Int} (hc : cok H) (m a q t : Int) : swF H r m a q t = swF H r' m a q t := by
  unfold swF
  refine sm_congr 16 0 (fun j _ _ => ?_)
  rw [sit_row e hc]
  by_cases c : sit H r' j = true
  · rw [if_pos c, if_pos c, moves_row e hc m a q (sit_num hc c)]
  · rw [if_neg c, if_neg c]
theorem hv_wi7 (A : AH) (k : Nat) (v : Int) : hv (wi A 237 k v) = hv A := by
  funext a j
  unfold hv
  rw [gi_wi]
  by_cases e : (a = 224 ∧ 6 ≤ j) ∨ (a = 225 ∧ 24 ≤ j) ∨ (a = 226 ∧ 32 ≤ j) ∨ (a = 227 ∧ 12 ≤ j) ∨ (a = 228 ∧ 8 ≤ j) ∨ (a = 229 ∧ 18 ≤ j) ∨ (a = 230 ∧ 16 ≤ j) ∨ (a = 231 ∧ 2 ≤ j) ∨ (a = 232 ∧ 2 ≤ j) ∨ (a = 233 ∧ 1600 ≤ j)
  · rw [if_pos e, if_pos e, if_neg (by omega)]
  · rw [if_neg e, if_neg e]
theorem nv_wi7 (A : AH) (k : Nat) (v : Int) (j : Nat) : nv (wi A 237 k v) j = if j = k then v else nv A j := by
  unfold nv; rw [gi_wi]; simp
theorem row_wi7 (A : AH) (k : Nat) (v : Int) (h : k < 3 ∨ 25 ≤ k) : rowEq (nv (wi A 237 k v)) (nv A) := fun j h1 h2 => by rw [nv_wi7, if_neg (by omega)]
theorem mok_wi0 {A : AH} (m : mok A) {v : Int} (h1 : 0 ≤ v) (h2 : v ≤ 2000) : mok (wi A 237 0 v) := by
  obtain ⟨m1, m2, m3, m4, m5, m6⟩ := m
  unfold mok
  rw [hv_wi7, nv_wi7, if_pos rfl]
  refine ⟨m1, m2, m3, ⟨fun j a b => ?_, fun j a b => ?_, ?_⟩, h1, h2⟩
  · rw [nv_wi7, if_neg (by omega)]; exact m4.1 j a b
  · rw [nv_wi7, if_neg (by omega), nv_wi7, if_neg (by omega)]; exact m4.2.1 j a b
  · rw [nv_wi7, if_neg (by omega)]; exact m4.2.2
theorem mok_wi2 {A : AH} (m : mok A) {v : Int} (h1 : -1 ≤ v) (h2 : v < nPo (hv A)) : mok (wi A 237 2 v) := by
  obtain ⟨m1, m2, m3, m4, m5, m6⟩ := m
  unfold mok
  rw [hv_wi7, nv_wi7, if_neg (by omega)]
  refine ⟨m1, m2, m3, ⟨fun j a b => ?_, fun j a b => ?_, ?_⟩, m5, m6⟩
  · rw [nv_wi7, if_neg (by omega)]; exact m4.1 j a b
  · rw [nv_wi7, if_neg (by omega), nv_wi7, if_neg (by omega)]; exact m4.2.1 j a b
  · rw [nv_wi7, if_pos rfl]; exact ⟨h1, h2⟩
theorem sc_wi_c {A B : AH} (f : sc A B) (a k : Nat) (v : Int) : sc (wi A a k v) (wi B a k v) := ⟨fun b j h => by
  rw [gi_wi, gi_wi]
  by_cases e : b = a ∧ j = k
  · rw [if_pos e, if_pos e]
  · rw [if_neg e, if_neg e]; exact f.1 b j h, fun b j h => f.2.1 b j h, f.2.2⟩
/-- written and written back -/
theorem sc_back {A B : AH} {a k : Nat} {v : Int} (f : sc (wi A a k v) B) : sc A (wi B a k (gi A a k)) := ⟨fun b j h => by
  rw [gi_wi]
  by_cases e : b = a ∧ j = k
  · rw [if_pos e, e.1, e.2]
  · rw [if_neg e, f.1 b j h, gi_wi, if_neg e], fun b j h => f.2.1 b j h, f.2.2⟩
theorem sc_over {A B : AH} {a k : Nat} {v : Int} (f : sc (wi A a k v) B) (w : Int) : sc (wi A a k w) (wi B a k w) := ⟨fun b j h => by
  rw [gi_wi, gi_wi]
  by_cases e : b = a ∧ j = k
  · rw [if_pos e, if_pos e]
  · rw [if_neg e, if_neg e, f.1 b j h, gi_wi, if_neg e], fun b j h => f.2.1 b j h, f.2.2⟩
theorem scm_wi_c {A B : AH} (f : scm A B) (a k : Nat) (v : Int) : scm (wi A a k v) (wi B a k v) := ⟨fun b j h => by
  rw [gi_wi, gi_wi]
  by_cases e : b = a ∧ j = k
  · rw [if_pos e, if_pos e]
  · rw [if_neg e, if_neg e]; exact f.1 b j h, fun b j h => f.2.1 b j h, f.2.2⟩
/-- written and written back -/
theorem scm_back {A B : AH} {a k : Nat} {v : Int} (f : scm (wi A a k v) B) : scm A (wi B a k (gi A a k)) := ⟨fun b j h => by
  rw [gi_wi]
  by_cases e : b = a ∧ j = k
  · rw [if_pos e, e.1, e.2]
  · rw [if_neg e, f.1 b j h, gi_wi, if_neg e], fun b j h => f.2.1 b j h, f.2.2⟩
theorem scm_over {A B : AH} {a k : Nat} {v : Int} (f : scm (wi A a k v) B) (w : Int) : scm (wi A a k w) (wi B a k w) := ⟨fun b j h => by
  rw [gi_wi, gi_wi]
  by_cases e : b = a ∧ j = k
  · rw [if_pos e, if_pos e]
  · rw [if_neg e, if_neg e, f.1 b j h, gi_wi, if_neg e], fun b j h => f.2.1 b j h, f.2.2⟩
set_option maxRecDepth 100000 in
theorem l_meanMove (d : Nat) : ∀ (j n : Nat) (k y : Int) (A : AH), mok A → 0 ≤ k → k + j = 16 → -199800 * k ≤ y → y ≤ 199800 * k → 10 * j + 10 ≤ n → ∃ A', go true 1 (runF (d + 6)) (runN (d + 6)) pb_X12_meanMove n 4 [vR 21 190 0, vL y, vS, vI k] [] A = some (some (vL (y + sm (fun x => if sit (hv A) (nv A) x = true then mmF (hv A) (nv A) (nv A 0) (nv A 2) (gi A 190 65) x else 0) j k)), A') ∧ scm A A' := by
  intro j
  induction j with
  | zero =>
    intro n k y A hm h1 h2 h3 h4 hn
    obtain ⟨n, rfl⟩ : ∃ e, n = e + 10 := ⟨n - 10, by omega⟩
    refine ⟨A, ?_, scm_refl A⟩
    rw [q_X12_meanMove_4]; simp -implicitDefEqProofs (disch := omega) only [sm, Int.add_zero, ↓reduceIte, Int.reduceEq, cI_v, cL_v, cV_v, cR_v, wid, wid64, if_pos, if_neg, Nat.add_zero, if_true, if_false, and_self, and_true, true_and, and_false, false_and, or_true, true_or, or_false, false_or]
  | succ j ih =>
    intro n k y A hm h1 h2 h3 h4 hn
    obtain ⟨n, rfl⟩ : ∃ e, n = e + 10 := ⟨n - 10, by omega⟩
    rw [q_X12_meanMove_4]
    simp -implicitDefEqProofs (disch := omega) only [↓reduceIte, Int.reduceEq, cI_v, cL_v, cV_v, cR_v, wid, wid64, if_pos, if_neg, Nat.add_zero, if_true, if_false, and_self, and_true, true_and, and_false, false_and, or_true, true_or, or_false, false_or]
    rw [s_doesSit (d + 4) k A hm.1]
    simp -implicitDefEqProofs (disch := omega) only [bI_0, ite_f, q_X12_meanMove_50, sm, ↓reduceIte, Int.reduceEq, cI_v, cL_v, cV_v, cR_v, wid, wid64, if_pos, if_neg, Nat.add_zero, if_true, if_false, and_self, and_true, true_and, and_false, false_and, or_true, true_or, or_false, false_or]
    by_cases c : sit (hv A) (nv A) k = true
    · have hx := sit_num hm.1 c
      have hi := itch_bd hm.2.1 hx
      have hb := mm_bd hm.2.1 (row := nv A) (m := nv A 0) (a := nv A 2) (q := gi A 190 65) hx
      have b1 := moves_bd hm.2.1 (nv A) (nv A 0) (nv A 2) (gi A 190 65) hx false
      have b2 := moves_bd hm.2.1 (nv A) (nv A 0) (nv A 2) (gi A 190 65) hx true
      have p1 := prod_bd (a := 100 - itchF (hv A) k) (b := movesF (hv A) (nv A) (nv A 0) (nv A 2) (gi A 190 65) k false) (u := 100) (v := 999) (by omega) (by omega)
      have p2 := prod_bd (a := itchF (hv A) k) (b := movesF (hv A) (nv A) (nv A 0) (nv A 2) (gi A 190 65) k true) (u := 100) (v := 999) (by omega) (by omega)
      obtain ⟨A1, e1, f1⟩ := s_moves d k false A hm hx
      have hm1 := mok_scm f1 hm
      obtain ⟨A2, e2, f2⟩ := s_moves d k true A1 hm1 hx
      have hm2 := mok_scm f2 hm1
      rw [scm_hv f1, scm_nv f1, scm_q f1] at e2
      obtain ⟨A3, e3, f3⟩ := ih (n + 8) (k + 1) (y + mmF (hv A) (nv A) (nv A 0) (nv A 2) (gi A 190 65) k) A2 hm2 (by omega) (by omega) (by omega) (by omega) (by omega)
      rw [scm_hv f2, scm_nv f2, scm_q f2, scm_hv f1, scm_nv f1, scm_q f1] at e3
      refine ⟨A3, ?_, scm_trans f1 (scm_trans f2 f3)⟩
      simp -implicitDefEqProofs (disch := omega) only [c, s_itchesOf, hx, ↓reduceIte, Int.reduceEq, cI_v, cL_v, cV_v, cR_v, wid, wid64, if_pos, if_neg, Nat.add_zero, if_true, if_false, and_self, and_true, true_and, and_false, false_and, or_true, true_or, or_false, false_or]
      rw [bI_f] at e1
      rw [bI_t] at e2
      unfold mmF at hb e3 ⊢
      simp -implicitDefEqProofs (disch := omega) only [s_itchesOf, hx, scm_hv f1, e1, e2, q_X12_meanMove_50, ↓reduceIte, Int.reduceEq, cI_v, cL_v, cV_v, cR_v, wid, wid64, if_pos, if_neg, Nat.add_zero, if_true, if_false, and_self, and_true, true_and, and_false, false_and, or_true, true_or, or_false, false_or]
      rw [e3, Int.add_assoc]
    · have c' : sit (hv A) (nv A) k = false := by simpa using c
      obtain ⟨A3, e3, f3⟩ := ih (n + 8) (k + 1) y A hm (by omega) (by omega) (by omega) (by omega) (by omega)
      refine ⟨A3, ?_, f3⟩
      simp -implicitDefEqProofs (disch := omega) only [c', Bool.false_eq_true, Int.zero_add, ↓reduceIte, Int.reduceEq, cI_v, cL_v, cV_v, cR_v, wid, wid64, if_pos, if_neg, Nat.add_zero, if_true, if_false, and_self, and_true, true_and, and_false, false_and, or_true, true_or, or_false, false_or]
      exact e3
set_option maxRecDepth 100000 in
theorem s_meanMove (d : Nat) (A : AH) (hm : mok A) : ∃ A', runF (d + 7) 227 [vR 21 190 0] A = some (some (vL (mnF (hv A) (nv A) (nv A 0) (nv A 2) (gi A 190 65))), A') ∧ scm A A' := by
  obtain ⟨A', e1, e2⟩ := l_meanMove d 16 (fu + 199) 0 0 A hm (by omega) (by omega) (by omega) (by omega) (by have := fu_ge; omega)
  refine ⟨A', ?_, e2⟩
  rw [r_X12_meanMove, q_X12_meanMove_0]
  simp -implicitDefEqProofs (disch := omega) only [↓reduceIte, Int.reduceEq, cI_v, cL_v, cV_v, cR_v, wid, wid64, if_pos, if_neg, Nat.add_zero, if_true, if_false, and_self, and_true, true_and, and_false, false_and, or_true, true_or, or_false, false_or]
  rw [e1, Int.zero_add]; rfl
set_option maxRecDepth 100000 in
theorem l_meanOfM (d : Nat) (A : AH) (N m : Int) (hm : mok A) (hm1 : m = nv A 0) (hm2 : m + N ≤ 1500) : ∀ (j n : Nat) (k y : Int) (B : AH), scm (wi A 237 0 (m + k)) B → 0 ≤ k → k + j = N → -100000000 - 3196800 * k ≤ y → y ≤ 100000000 + 3196800 * k → 10 * j + 10 ≤ n → ∃ A', go true 1 (runF (d + 7)) (runN (d + 7)) pb_X12_meanOf n 22 [vR 21 190 0, vI N, vI m, vL y, vS, vI k] [] B = some (some (vL (y + sm (fun k => mnF (hv A) (nv A) k (nv A 2) (gi A 190 65)) j (m + k))), A') ∧ scm A A' := by
  have hm0 := hm.2.2.2.2.1
  intro j
  induction j with
  | zero =>
    intro n k y B f h1 h2 h3 h4 hn
    obtain ⟨n, rfl⟩ : ∃ e, n = e + 10 := ⟨n - 10, by omega⟩
    refine ⟨wi B 237 0 m, ?_, by rw [hm1]; exact scm_back f⟩
    rw [q_X12_meanOf_22]; simp -implicitDefEqProofs (disch := omega) only [sm, Int.add_zero, ↓reduceIte, Int.reduceEq, cI_v, cL_v, cV_v, cR_v, wid, wid64, if_pos, if_neg, Nat.add_zero, if_true, if_false, and_self, and_true, true_and, and_false, false_and, or_true, true_or, or_false, false_or]
  | succ j ih =>
    intro n k y B f h1 h2 h3 h4 hn
    obtain ⟨n, rfl⟩ : ∃ e, n = e + 10 := ⟨n - 10, by omega⟩
    have hB : mok B := mok_scm f (mok_wi0 hm (by omega) (by omega))
    have q0 : nv B 0 = m + k := by rw [scm_nv f, nv_wi7, if_pos rfl]
    have q2 : nv B 2 = nv A 2 := by rw [scm_nv f, nv_wi7, if_neg (by omega)]
    have q5 : gi B 190 65 = gi A 190 65 := by rw [scm_q f]; simp -implicitDefEqProofs (disch := omega) only [gi_wi, ↓reduceIte, Int.reduceEq, cI_v, cL_v, cV_v, cR_v, wid, wid64, if_pos, if_neg, Nat.add_zero, if_true, if_false, and_self, and_true, true_and, and_false, false_and, or_true, true_or, or_false, false_or]
    have qh : hv B = hv A := by rw [scm_hv f, hv_wi7]
    have qr : mnF (hv A) (nv B) (m + k) (nv A 2) (gi A 190 65) = mnF (hv A) (nv A) (m + k) (nv A 2) (gi A 190 65) := by
      rw [scm_nv f]; exact mn_row (row_wi7 A 0 _ (by omega)) hm.1 _ _ _
    obtain ⟨B1, e1, f1⟩ := s_meanMove d B hB
    rw [q0, q2, q5, qh, qr] at e1
    have bd := mn_bd (row := nv A) hm.1 hm.2.1 (m + k) (nv A 2) (gi A 190 65)
    have z0 : gi B1 237 0 = m + k := by
      have : nv B1 0 = m + k := by rw [scm_nv f1]; exact q0
      exact this
    obtain ⟨A', u1, u2⟩ := ih (n + 8) (k + 1) (y + mnF (hv A) (nv A) (m + k) (nv A 2) (gi A 190 65)) (wi B1 237 0 (m + (k + 1))) (scm_over (scm_trans f f1) _) (by omega) (by omega) (by omega) (by omega) (by omega)
    refine ⟨A', ?_, u2⟩
    rw [q_X12_meanOf_22]
    simp -implicitDefEqProofs (disch := omega) only [e1, z0, q_X12_meanOf_45, ↓reduceIte, Int.reduceEq, cI_v, cL_v, cV_v, cR_v, wid, wid64, if_pos, if_neg, Nat.add_zero, if_true, if_false, and_self, and_true, true_and, and_false, false_and, or_true, true_or, or_false, false_or]
    rw [show m + k + 1 = m + (k + 1) by omega, u1, sm, Int.add_assoc y, Int.add_assoc m]
set_option maxRecDepth 100000 in
theorem s_meanOfM (d : Nat) (N : Int) (A : AH) (hm : mok A) (hm2 : nv A 0 + N ≤ 1500) (hN : 0 ≤ N) (hs1 : -100000 ≤ nv A 1) (hs2 : nv A 1 ≤ 100000) : ∃ A', runF (d + 8) 228 [vR 21 190 0, vI N] A = some (some (vL (100 * nv A 1 + mnS (hv A) (nv A) (nv A 0) (nv A 2) (gi A 190 65) N.toNat)), A') ∧ scm A A' := by
  have hm0 := hm.2.2.2.2.1
  have f0 : scm (wi A 237 0 (nv A 0 + 0)) A := ⟨fun b j h => by
    rw [gi_wi, Int.add_zero]
    by_cases e : b = 237 ∧ j = 0
    · rw [if_pos e, e.1, e.2]; rfl
    · rw [if_neg e], fun _ _ _ => rfl, rfl⟩
  obtain ⟨A', u1, u2⟩ := l_meanOfM d A N (nv A 0) hm rfl hm2 N.toNat (fu + 199) 0 (100 * nv A 1) A f0 (by omega) (by omega) (by omega) (by omega) (by have := fu_ge; omega)
  refine ⟨A', ?_, u2⟩
  rw [r_X12_meanOf, q_X12_meanOf_0]
  simp -implicitDefEqProofs (disch := omega) only [e_nv, ↓reduceIte, Int.reduceEq, cI_v, cL_v, cV_v, cR_v, wid, wid64, if_pos, if_neg, Nat.add_zero, if_true, if_false, and_self, and_true, true_and, and_false, false_and, or_true, true_or, or_false, false_or]
  rw [u1, Int.add_zero]; rfl
set_option maxRecDepth 100000 in
theorem s_isAhead (d : Nat) (x y z : Int) (A : AH) (h1 : 0 ≤ nv A 0) (h2 : nv A 0 ≤ 2000) (h3 : z ≤ 1000) (h4 : 0 ≤ y) : runF (d + 2) 229 [vR 21 190 0, vI x, vI y, vI z] A = some (some (vI (bI (decide (y ≤ x ∧ x ≤ z ∧ nv A 0 + x ≤ 999)))), A) := by
  rw [r_X12_isAhead, q_X12_isAhead_0]
  simp -implicitDefEqProofs (disch := omega) only [s_isIn, bI_0, ite_f, decide_eq_true_eq, q_X12_isAhead_30, e_nv, ↓reduceIte, Int.reduceEq, cI_v, cL_v, cV_v, cR_v, wid, wid64, if_pos, if_neg, Nat.add_zero, if_true, if_false, and_self, and_true, true_and, and_false, false_and, or_true, true_or, or_false, false_or]
  by_cases c1 : y ≤ x ∧ x ≤ z
  · simp -implicitDefEqProofs (disch := omega) only [↓reduceIte, Int.reduceEq, cI_v, cL_v, cV_v, cR_v, wid, wid64, if_pos, if_neg, Nat.add_zero, if_true, if_false, and_self, and_true, true_and, and_false, false_and, or_true, true_or, or_false, false_or]
    by_cases c2 : 999 < nv A 0 + x
    · simp -implicitDefEqProofs (disch := omega) only [↓reduceIte, Int.reduceEq, cI_v, cL_v, cV_v, cR_v, wid, wid64, if_pos, if_neg, Nat.add_zero, if_true, if_false, and_self, and_true, true_and, and_false, false_and, or_true, true_or, or_false, false_or]; rw [decide_eq_false (by omega)]; rfl
    · simp -implicitDefEqProofs (disch := omega) only [↓reduceIte, Int.reduceEq, cI_v, cL_v, cV_v, cR_v, wid, wid64, if_pos, if_neg, Nat.add_zero, if_true, if_false, and_self, and_true, true_and, and_false, false_and, or_true, true_or, or_false, false_or]; rw [decide_eq_true (by omega)]; rfl
  · simp -implicitDefEqProofs (disch := omega) only [↓reduceIte, Int.reduceEq, cI_v, cL_v, cV_v, cR_v, wid, wid64, if_pos, if_neg, Nat.add_zero, if_true, if_false, and_self, and_true, true_and, and_false, false_and, or_true, true_or, or_false, false_or]; rw [decide_eq_false (by omega)]; rfl
