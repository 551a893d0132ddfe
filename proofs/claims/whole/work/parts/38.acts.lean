/-! calls: point, move, take, dismiss, seed -/
def upR (row : Nat → Int) (k : Nat) (v : Int) : Nat → Int := fun j => if j = k then v else row j
theorem nv_up (A : AH) (k : Nat) (v : Int) : nv (wi A 237 k v) = upR (nv A) k v := by funext j; rw [nv_wi7]; rfl
theorem seat_up {row : Nat → Int} {x v : Int} (hx : 0 ≤ x) (y : Int) : seatR (upR row (3 + x).toNat v) y = if y = x then v else seatR row y := by
  unfold seatR upR
  by_cases c : y = x
  · rw [if_pos c, c, if_pos rfl]
  · rw [if_neg c, if_neg (by omega)]
theorem sit_up {H : Nat → Nat → Int} {row : Nat → Int} {x v : Int} (hx : 0 ≤ x) (y : Int) (hv1 : y = x → (seatR row x ≠ -1 ↔ v ≠ -1) ∨ x < 10) : sit H (upR row (3 + x).toNat v) y = sit H row y := by
  unfold sit
  rw [seat_up hx]
  by_cases c : y = x
  · rw [if_pos c]
    rcases hv1 c with h | h
    · by_cases e : v ≠ -1
      · rw [decide_eq_true e, c, decide_eq_true (h.mpr e)]
      · rw [decide_eq_false e, c, decide_eq_false (fun q => e (h.mp q))]
    · rw [decide_eq_false (p := 10 ≤ y ∧ y < 10 + nMu H) (by omega), Bool.false_and, Bool.false_and]
  · rw [if_neg c]
theorem party_up {H : Nat → Nat → Int} {row : Nat → Int} {k : Nat} {v : Int} (hk : k < 19) (y : Int) : partyF H (upR row k v) y = partyF H row y := by
  unfold partyF upR
  by_cases c : y < 10
  · rw [if_pos c, if_pos c]
  · rw [if_neg c, if_neg c, if_neg (by omega)]
theorem rok_up {H : Nat → Nat → Int} {row : Nat → Int} {x v : Int} (hx : 0 ≤ x) (hx2 : x < 16) (h1 : -1 < v) (h2 : v ≤ 8) (r : rok H row) : rok H (upR row (3 + x).toNat v) := by
  refine ⟨fun j a b => ?_, fun j a b => ?_, ?_⟩
  · unfold upR; by_cases c : j = (3 + x).toNat
    · rw [if_pos c]; omega
    · rw [if_neg c]; exact r.1 j a b
  · have q := r.2.1 j a b
    unfold upR
    rw [if_neg (by omega)]
    refine ⟨q.1, q.2.1, ?_⟩
    by_cases c : j - 6 = (3 + x).toNat
    · rw [if_pos c]; intro z; omega
    · rw [if_neg c]; exact q.2.2
  · unfold upR; rw [if_neg (by omega)]; exact r.2.2
theorem REL_act {n : Nat} {A B1 A1 C1 A2 : AH} (r : REL n A) (c1 : cpS A B1 (80 + 5 * (gi A 78 1).toNat) 68) (f1 : frK (gi A 78 1).toNat A B1) (e1 : gi B1 78 1 = (gi A 78 1 + 1) % 20) (e2 : gi B1 78 2 = min (gi A 78 2 + 1) 20) (f2 : ∀ a j, ¬ (68 ≤ a ∧ a ≤ 72) → ¬ (a = 40 ∧ j = 14) → ¬ scr a j → gi A1 a j = gi B1 a j) (f2r : ∀ a j, a ≠ 180 → gr A1 a j = gr B1 a j) (f2s : A1.2.2 = B1.2.2) (m1 : gi C1 190 74 = (gi A1 190 74 + 1) % 20) (m2 : gi C1 190 73 = min (gi A1 190 73 + 1) 20) (m3 : ∀ a i, a ≠ 243 → ¬ (a = 190 ∧ (i = 73 ∨ i = 74)) → gi C1 a i = gi A1 a i) (m4 : ∀ i : Nat, i < 146 → gi C1 243 (146 * ((gi A1 190 74 + 1) % 20).toNat + i) = gi A1 237 i) (m5 : ∀ i : Nat, ¬ (146 * ((gi A1 190 74 + 1) % 20).toNat ≤ i ∧ i < 146 * ((gi A1 190 74 + 1) % 20).toNat + 146) → gi C1 243 i = gi A1 243 i) (m6 : ∀ a i, gr C1 a i = gr A1 a i) (m7 : C1.2.2 = A1.2.2) (f3 : ∀ a i, a ≠ 237 → ¬ (a = 190 ∧ i = 75) → ¬ scr a i → gi A2 a i = gi C1 a i) (f4 : ∀ a i, a ≠ 180 → gr A2 a i = gr C1 a i) (f5 : A2.2.2 = C1.2.2) (sk : SK (n + 1) A2 68 (hv A) (nv A2)) (h5 : gi A2 190 75 = gi A2 40 14 ∧ 0 ≤ gi A2 40 14 ∧ gi A2 40 14 < 2147483648) : REL (n + 1) A2 := by
  have h78 := r.2.2.2.2.2.2.2.2.2.1.2.2.1
  have G : ∀ a j, ¬ (68 ≤ a ∧ a ≤ 72) → ¬ (a = 40 ∧ j = 14) → ¬ scr a j → ¬ (a = 78 ∧ (j = 1 ∨ j = 2)) → ¬ (80 ≤ a ∧ a ≤ 179) → a ≠ 237 → a ≠ 243 → ¬ (a = 190 ∧ (j = 73 ∨ j = 74 ∨ j = 75)) → gi A2 a j = gi A a j := by
    intro a j g1 g2 g3 g4 g5 g6 g7 g8
    rw [f3 a j g6 (by omega) g3, m3 a j g7 (by omega), f2 a j g1 g2 g3, f1.1 a j (by omega) g4]
  have R : ∀ a j, a ≠ 180 → gr A2 a j = gr A a j := fun a j h => by rw [f4 a j h, m6, f2r a j h, f1.2.1]
  have S : ∀ {a j : Nat}, (a = 190 → j ≠ 61 ∧ j ≠ 69 ∧ j ≠ 70 ∧ j ≠ 106 ∧ j ≠ 107 ∧ j ≠ 108) → a ≠ 235 → a ≠ 236 → ¬ (238 ≤ a ∧ a ≤ 242) → a ≠ 269 → ¬ (73 ≤ a ∧ a ≤ 77) → ¬ (180 ≤ a ∧ a ≤ 184) → ¬ scr a j := fun h1 h2 h3 h4 h5 h6 h7 => by unfold scr; omega
  have B2 : ∀ a j, 78 ≤ a → a ≤ 179 → gi A2 a j = gi B1 a j := fun a j q1 q2 => by
    rw [f3 a j (by omega) (by omega) (S (by omega) (by omega) (by omega) (by omega) (by omega) (by omega) (by omega)), m3 a j (by omega) (by omega), f2 a j (by omega) (by omega) (S (by omega) (by omega) (by omega) (by omega) (by omega) (by omega) (by omega))]
  have z4 : gi A1 190 74 = gi A 190 74 := by rw [f2 190 74 (by omega) (by omega) (S (by omega) (by omega) (by omega) (by omega) (by omega) (by omega) (by omega)), f1.1 190 74 (by omega) (by omega)]
  have z3 : gi A1 190 73 = gi A 190 73 := by rw [f2 190 73 (by omega) (by omega) (S (by omega) (by omega) (by omega) (by omega) (by omega) (by omega) (by omega)), f1.1 190 73 (by omega) (by omega)]
  have z7 : ∀ j, gi A1 237 j = gi A 237 j := fun j => by rw [f2 237 j (by omega) (by omega) (S (by omega) (by omega) (by omega) (by omega) (by omega) (by omega) (by omega)), f1.1 237 j (by omega) (by omega)]
  have z8 : ∀ j, gi A1 243 j = gi A 243 j := fun j => by rw [f2 243 j (by omega) (by omega) (S (by omega) (by omega) (by omega) (by omega) (by omega) (by omega) (by omega)), f1.1 243 j (by omega) (by omega)]
  have c9 : ∀ j, gi A2 243 j = gi C1 243 j := fun j => f3 243 j (by omega) (by omega) (S (by omega) (by omega) (by omega) (by omega) (by omega) (by omega) (by omega))
  have sn : ∀ j, (j = 73 ∨ j = 74) → gi A2 190 j = gi C1 190 j := fun j hj => f3 190 j (by omega) (by omega) (S (by omega) (by omega) (by omega) (by omega) (by omega) (by omega) (by omega))
  have eh : hv A2 = hv A := hv_fr (fun a j q1 q2 => G a j (by omega) (by omega) (S (by omega) (by omega) (by omega) (by omega) (by omega) (by omega) (by omega)) (by omega) (by omega) (by omega) (by omega) (by omega))
  refine REL_mk r (fun a j h => G a j (by omega) (by omega) (S (by omega) (by omega) (by omega) (by omega) (by omega) (by omega) (by omega)) (by omega) (by omega) (by omega) (by omega) (by omega)) R (by rw [f5, m7, f2s, f1.2.2]) sk (TP_fr (fun a j h => G a j (by omega) (by omega) (S (by omega) (by omega) (by omega) (by omega) (by omega) (by omega) (by omega)) (by omega) (by omega) (by omega) (by omega) (by omega)) r.2.2.2.2.1) ?_ (RF_fr (fun a j h => G a j (by omega) (by omega) (S (by omega) (by omega) (by omega) (by omega) (by omega) (by omega) (by omega)) (by omega) (by omega) (by omega) (by omega) (by omega)) r.2.2.2.2.2.2.1) h5 (IM_fr (fun a j h => G a j (by omega) (by omega) (S (by omega) (by omega) (by omega) (by omega) (by omega) (by omega) (by omega)) (by omega) (by omega) (by omega) (by omega) (by omega)) r.2.2.2.2.2.2.2.2.1) ?_
  · have q : ∀ a j, (a = 42 ∨ (a = 190 ∧ (j = 7 ∨ j = 8))) → gi A2 a j = gi A a j := fun a j h => G a j (by omega) (by omega) (S (by omega) (by omega) (by omega) (by omega) (by omega) (by omega) (by omega)) (by omega) (by omega) (by omega) (by omega) (by omega)
    rw [q 190 7 (by omega), q 190 8 (by omega), q 42 11 (by omega), q 42 12 (by omega)]
    exact r.2.2.2.2.2.1
  · refine PR_keep r ⟨by rw [B2 78 1 (by omega) (by omega)]; exact e1, by rw [B2 78 2 (by omega) (by omega)]; exact e2⟩ ⟨by rw [sn 74 (by omega), m1, z4], by rw [sn 73 (by omega), m2, z3]⟩ ?_ (fun a j q1 q2 q3 => by rw [B2 a j (by omega) q2, f1.1 a j q3 (by omega)]) (fun i hi => by rw [c9]; have := m4 i hi; rw [z4, z7] at this; exact this) (fun i hi => by rw [c9]; have := m5 i (by rw [z4]; exact hi); rw [z8] at this; exact this) (fun j => R 79 j (by omega)) eh
    obtain ⟨q1, q2, q3, q4⟩ := c1
    refine ⟨⟨?_, ?_, ?_, ?_⟩, fun j hj => ⟨?_, ?_⟩, fun j hj => ?_, fun j hj => ?_⟩
    · rw [B2 _ _ (by omega) (by omega)]; exact q1.1
    · rw [B2 _ _ (by omega) (by omega)]; exact q1.2.1
    · rw [B2 _ _ (by omega) (by omega)]; exact q1.2.2.1
    · rw [B2 _ _ (by omega) (by omega)]; exact q1.2.2.2
    · rw [B2 _ _ (by omega) (by omega)]; exact (q2 j hj).1
    · rw [B2 _ _ (by omega) (by omega)]; exact (q2 j hj).2
    · rw [B2 _ _ (by omega) (by omega)]; exact q3 j hj
    · rw [B2 _ _ (by omega) (by omega)]; exact q4 j hj
theorem c_seed (d n : Nat) (hn : n ≤ 2000) (x : Int) (hx : x < 2147483648) (A : AH) (r : REL n A) : CP (d + 2) n 135 252 [vI x] A := by
  by_cases c : x < 0
  · have q := r.2.2.2.2.2.2.1 5 (by omega)
    refine CP_ref r 5 (by omega) ?_ ?_
    · rw [r_X11_seed, q_X11_seed_0, if_pos c, s_refuse _ 5 A (by omega) (by omega) q.2.1 (show gi A 189 5 ≤ 100000 by have := q.2.2; omega), cI_v, if_pos (by omega)]; rfl
    · have e : gi (wi A 189 5 (gi A 189 5 + 1)) 192 5 = gi A 189 5 := by rw [gi_wi, if_neg (by omega)]; exact q.1
      have := q.2.2
      rw [r_X12_seed, q_X12_seed_0, if_pos c, e, wid (by omega) (by omega), q_X12_seed_14]
  · refine ⟨vI 1, wi A 40 14 x, wi (wi A 40 14 x) 190 75 x, ?_, ?_, ?_⟩
    · rw [r_X11_seed, q_X11_seed_0, if_neg c]
    · rw [r_X12_seed, q_X12_seed_0, if_neg c]
    · have G : ∀ a j, a ≠ 40 ∨ j ≠ 14 → a ≠ 190 ∨ j ≠ 75 → gi (wi (wi A 40 14 x) 190 75 x) a j = gi A a j := fun a j h1 h2 => by rw [gi_wi, gi_wi, if_neg (by omega), if_neg (by omega)]
      have en : nv (wi (wi A 40 14 x) 190 75 x) = nv A := by funext j; exact G 237 j (by omega) (by omega)
      refine REL_mk r (fun a j h => G a j (by omega) (by omega)) (fun _ _ _ => rfl) rfl ?_ (TP_fr (fun a j h => G a j (by omega) (by omega)) r.2.2.2.2.1) ?_ (RF_fr (fun a j h => G a j (by omega) (by omega)) r.2.2.2.2.2.2.1) ?_ (IM_fr (fun a j h => G a j (by omega) (by omega)) r.2.2.2.2.2.2.2.2.1) (PR_fr (fun a j h => G a j (by omega) (by omega)) (fun _ => rfl) (hv_fr (fun a j h1 h2 => G a j (by omega) (by omega))) r.2.2.2.2.2.2.2.2.2.1)
      · rw [en]
        exact SK_fr (by omega) (fun a j h1 h2 => G a j (by omega) (by omega)) r.2.1
      · rw [G 190 7 (by omega) (by omega), G 190 8 (by omega) (by omega), G 42 11 (by omega) (by omega), G 42 12 (by omega) (by omega)]
        exact r.2.2.2.2.2.1
      · simp -implicitDefEqProofs (disch := omega) only [gi_wi, ↓reduceIte, Int.reduceEq, cI_v, cL_v, cV_v, cR_v, wid, wid64, if_pos, if_neg, Nat.add_zero, if_true, if_false, and_self, and_true, true_and, and_false, false_and, or_true, true_or, or_false, false_or]; omega
theorem c_point (d n : Nat) (hn : n ≤ 2000) (x : Int) (A : AH) (r : REL n A) : CP (d + 5) n 130 258 [vI x] A := by
  have g := REL_g r
  have b6 := r.2.2.1
  have b7 := r.2.1.1
  have hc := g.1
  unfold cok at hc
  have hh0 : gr A 40 5 ≠ 0 := by have := b6.1; omega
  have ha := g.2.2.2.1.2.2
  have pr := r.2.2.2.2.2.2.2.2.2.1
  by_cases c : (-1 ≤ x ∧ x < nPo (hv A)) ∧ nv A 2 ≠ x
  · have p20 := pr.2.2.1
    obtain ⟨B1, e1, e2, e3, e4, e5⟩ := s_keepC (d + 2) A pr.2.2.1 pr.1 pr.2.2.2.2.1
    have i4 : gi (wi B1 68 2 x) 190 74 = gi A 190 74 := by rw [gi_wi, if_neg (by omega)]; exact e3.1 190 74 (by omega) (by omega)
    have i3 : gi (wi B1 68 2 x) 190 73 = gi A 190 73 := by rw [gi_wi, if_neg (by omega)]; exact e3.1 190 73 (by omega) (by omega)
    obtain ⟨C1, k1, k2, k3, k4, k5, k6, k7, k8⟩ := s_keepsM (d + 3) (wi B1 68 2 x) (by rw [i4]; exact pr.2.2.2.1) (by rw [i3, pr.2.1]; exact pr.1)
    have base : ∀ a j, (a = 237 ∨ (69 ≤ a ∧ a ≤ 72) ∨ (a = 68 ∧ j ≠ 2) ∨ a = 40 ∨ (a = 190 ∧ j = 75) ∨ (224 ≤ a ∧ a ≤ 233)) → gi C1 a j = gi A a j := fun a j h => by
      rw [k4 a j (by omega) (by omega), gi_wi, if_neg (by omega), e3.1 a j (by omega) (by omega)]
    refine ⟨vI 1, wi B1 68 2 x, wi C1 237 2 x, ?_, ?_, ?_⟩
    · rw [r_X11_point, q_X11_point_0, b7.2.1.2.2, if_neg (by omega)]
      have fin : ∀ m, go true 2 (runF (d + 4)) (runN (d + 4)) pb_X11_point (m + 2) 33 [vR 20 40 0, vI x] [] A = some (some (vI 1), wi B1 68 2 x) := fun m => by
        rw [q_X11_point_33, e1, cV_v, q_X11_point_52]
      by_cases c1 : x = -1
      · rw [if_pos c1]; exact fin _
      · rw [if_neg c1, if_neg hh0, s_isPointC _ _ x A _ b6, cI_v, decide_eq_true (by omega), bI_t, if_neg (by omega)]
        exact fin _
    · have hv1 : hv (wi B1 68 2 x) = hv A := hv_fr (fun a j h1 h2 => by rw [gi_wi, if_neg (by omega)]; exact e3.1 a j (by omega) (by omega))
      have n2 : gi (wi B1 68 2 x) 237 2 = nv A 2 := by rw [gi_wi, if_neg (by omega)]; exact e3.1 237 2 (by omega) (by omega)
      rw [r_X12_point, q_X12_point_0, s_pointMany, cI_v, hv1, wid (by omega) (by omega), s_isIn, cI_v, decide_eq_true (by omega), bI_t, if_neg (by omega), n2, if_neg c.2, k1, cV_v, q_X12_point_44]
    · have enC : nv (wi C1 237 2 x) = upR (nv A) 2 x := by
        rw [nv_up]; congr 1; funext j; exact base 237 j (by omega)
      have ehv : hv A = hv A := rfl
      refine REL_act (A1 := wi B1 68 2 x) r e2 e3 e4 e5 (fun a j h1 h2 h3 => by rw [gi_wi, if_neg (by omega)]) (fun _ _ _ => rfl) rfl k2 k3 k4 k5 k6 k7 k8 (fun a i h1 h2 h3 => by rw [gi_wi, if_neg (by omega)]) (fun _ _ _ => rfl) rfl ?_ ?_
      · rw [enC]
        obtain ⟨⟨r1, r2, r3, r4, r5⟩, ⟨q1, q2, q3⟩, o, dk, m0, m1⟩ := r.2.1
        have re : rowEq (upR (nv A) 2 x) (nv A) := fun j h1 h2 => by unfold upR; rw [if_neg (by omega)]
        have si : ∀ y, sit (hv A) (upR (nv A) 2 x) y = sit (hv A) (nv A) y := sit_row re g.1
        have se : ∀ y, sit (hv A) (nv A) y = true → seatR (upR (nv A) 2 x) y = seatR (nv A) y := fun y hy => by
          have := sit_num g.1 hy
          unfold num at this
          exact seat_row re (by omega) (by omega)
        have up : ∀ j, j ≠ 2 → upR (nv A) 2 x j = nv A j := fun j hj => by unfold upR; rw [if_neg hj]
        have cl : ∀ a j, 68 ≤ a → a ≤ 72 → ¬ (a = 68 ∧ j = 2) → gi (wi C1 237 2 x) a j = gi A a j := fun a j h1 h2 h3 => by rw [gi_wi, if_neg (by omega)]; exact base a j (by omega)
        refine ⟨⟨r1, ⟨?_, ?_, ?_⟩, fun y h1 h2 => ?_, fun y h1 h2 => ?_, fun z h1 h2 => ?_⟩, ⟨?_, ?_, fun k h1 h2 => ?_⟩, ⟨fun j a b => ?_, fun j a b => ?_, ?_⟩, ⟨fun y hy => ?_, fun y w hy hw q => ?_⟩, ?_, ?_⟩
        · rw [cl 68 0 (by omega) (by omega) (by omega), up 0 (by omega)]; exact r2.1
        · rw [cl 68 1 (by omega) (by omega) (by omega), up 1 (by omega)]; exact r2.2.1
        · rw [gi_wi, if_neg (by omega), k4 68 2 (by omega) (by omega), gi_wi, if_pos (by omega)]; rfl
        · rw [cl _ _ (by omega) (by omega) (by omega), r3 y h1 h2, si]
          by_cases cc : sit (hv A) (nv A) y = true
          · rw [if_pos cc, if_pos cc, se y cc]
          · rw [if_neg cc, if_neg cc]
        · rw [cl _ _ (by omega) (by omega) (by omega), r4 y h1 h2, si]
          by_cases cc : sit (hv A) (nv A) y = true
          · rw [if_pos cc, if_pos cc, party_row re _ (sit_num g.1 cc)]
          · rw [if_neg cc, if_neg cc]
        · rw [cl _ _ (by omega) (by omega) (by omega), r5 z h1 h2]
          refine (who_cg (fun j j1 j2 => ?_)).symm
          rw [si]
          by_cases cc : sit (hv A) (nv A) j = true
          · rw [se j cc]
          · rw [show sit (hv A) (nv A) j = false by simpa using cc]; rfl
        · rw [cl 68 7 (by omega) (by omega) (by omega)]; omega
        · rw [cl 68 7 (by omega) (by omega) (by omega), up 25 (by omega)]; exact q2
        · rw [up 25 (by omega)] at h2 ⊢
          rw [cl 68 7 (by omega) (by omega) (by omega), cl (68 + 4) _ (by omega) (by omega) (by omega), up _ (by omega), up _ (by omega), up _ (by omega)]
          exact q3 k h1 h2
        · rw [up j (by omega)]; exact o.1 j a b
        · rw [up j (by omega), up (j - 6) (by omega)]; exact o.2.1 j a b
        · show -1 ≤ upR (nv A) 2 x 2 ∧ _
          unfold upR; rw [if_pos rfl]; exact c.1
        · rw [si] at hy
          rw [se y hy]; exact dk.1 y hy
        · rw [si] at hy hw
          rw [se y hy, se w hw] at q
          exact dk.2 y w hy hw q
        · rw [up 0 (by omega)]; exact m0
        · rw [up 1 (by omega)]; exact m1
      · rw [gi_wi, if_neg (by omega), gi_wi, if_neg (by omega), base 190 75 (by omega), base 40 14 (by omega)]
        exact r.2.2.2.2.2.2.2.1
  · have q := r.2.2.2.2.2.2.1 3 (by omega)
    have q3 := q.2.2
    refine CP_ref r 3 (by omega) ?_ ?_
    · rw [r_X11_point, q_X11_point_0, b7.2.1.2.2]
      have fin : ∀ m, go true 2 (runF (d + 4)) (runN (d + 4)) pb_X11_point (m + 1) 27 [vR 20 40 0, vI x] [] A = some (some (vI 0), wi A 189 3 (gi A 189 3 + 1)) := fun m => by
        rw [q_X11_point_27, s_refuse _ 3 A (by omega) (by omega) q.2.1 (show gi A 189 3 ≤ 100000 by omega), cI_v, if_pos (by omega)]; rfl
      by_cases c1 : x = nv A 2
      · rw [if_pos c1]; exact fin _
      · rw [if_neg c1, if_neg (by omega), if_neg hh0, s_isPointC _ _ x A _ b6, cI_v, decide_eq_false (by omega), bI_f, if_pos rfl]
        exact fin _
    · have sr := sc_ref A 3 (gi A 189 3 + 1)
      have e : gi (wi A 189 3 (gi A 189 3 + 1)) 192 3 = gi A 189 3 := by rw [gi_wi, if_neg (by omega)]; exact q.1
      have fin : ∀ m, go true 2 (runF (d + 4)) (runN (d + 4)) pb_X12_point (m + 1) 28 [vR 21 190 0, vI x] [] (wi A 189 3 (gi A 189 3 + 1)) = some (some (vI 0), wi (wi A 189 3 (gi A 189 3 + 1)) 192 3 (gi A 189 3 + 1)) := fun m => by
        rw [q_X12_point_28, s_refuses _ _ (by rw [e]; omega) (by rw [e]; omega), e, cI_v, if_pos (by omega)]
      rw [r_X12_point, q_X12_point_0, s_pointMany, cI_v, sr.1, wid (by omega) (by omega), s_isIn, cI_v]
      by_cases c1 : -1 ≤ x ∧ x < nPo (hv A)
      · rw [decide_eq_true (by omega), bI_t, if_neg (by omega), e_nv, sr.2, if_pos (by omega)]
        exact fin _
      · rw [decide_eq_false (by omega), bI_f, if_pos rfl]
        exact fin _
