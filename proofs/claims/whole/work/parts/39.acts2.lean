/-! calls: move, take, dismiss -/
theorem KR_up {n : Nat} {A B : AH} {s : Nat} {row row' : Nat → Int} (r : KR n A s row) (h1 : gi B s 7 = gi A s 7) (h2 : ∀ j, gi B (s + 4) j = gi A (s + 4) j) (h3 : ∀ j, 25 ≤ j → row' j = row j) : KR (n + 1) B s row' := by
  obtain ⟨q1, q2, q3⟩ := r
  unfold KR
  rw [h1, h3 25 (by omega)]
  refine ⟨by omega, q2, fun k a b => ?_⟩
  rw [h2, h3 _ (by omega), h3 _ (by omega), h3 _ (by omega)]
  exact q3 k a b
theorem up_ne {row : Nat → Int} {k j : Nat} {v : Int} (h : j ≠ k) : upR row k v j = row j := by unfold upR; rw [if_neg h]
set_option maxRecDepth 100000 in
theorem s_putP (d : Nat) (s : Nat) (x p z : Int) (A : AH) (hs : s ≠ 0) (hx1 : 0 ≤ x) (hx2 : x < 16) (hz1 : 0 ≤ z) (hz2 : z < 9) : runF (d + 1) 100 [vR 19 s 0, vI x, vI p, vI z] A = some (none, wi (wi (wi A (s + 1) x.toNat z) (s + 2) x.toNat p) (s + 3) z.toNat x) := by
  rw [r_X9_put, q_X9_put_0 _ _ _ _ _ _ _ _ hs, if_pos (by omega), if_pos (by omega), q_X9_put_14 _ _ _ _ _ _ _ _ hs, if_pos (by omega)]
set_option maxRecDepth 100000 in
theorem s_leave (d : Nat) (s : Nat) (x : Int) (A : AH) (hs : s ≠ 0) (hx1 : 0 ≤ x) (hx2 : x < 16) (hz1 : 0 ≤ gi A (s + 1) x.toNat) (hz2 : gi A (s + 1) x.toNat < 9) : runF (d + 1) 101 [vR 19 s 0, vI x] A = some (none, wi (wi (wi A (s + 3) (gi A (s + 1) x.toNat).toNat (-1)) (s + 1) x.toNat (-1)) (s + 2) x.toNat 0) := by
  rw [r_X9_leave, q_X9_leave_0 _ _ _ _ _ _ hs, if_pos (by omega), if_neg (by omega), if_pos (by omega), q_X9_leave_18 _ _ _ _ _ _ _ hs, if_pos (by omega), if_pos (by omega), q_X9_leave_32 _ _ _ _ _ _ _ hs]
set_option maxRecDepth 100000 in
theorem s_isSide (d : Nat) (x : Int) (A : AH) : runF (d + 1) 142 [vI x] A = some (some (vI (bI (decide (0 ≤ x ∧ x ≤ 1)))), A) := by
  rw [r_X11_isSide, q_X11_isSide_0]
  by_cases c : x = 0
  · rw [if_pos c, q_X11_isSide_9, decide_eq_true (by omega)]; rfl
  · rw [if_neg c]
    by_cases c2 : x = 1
    · rw [if_pos c2, q_X11_isSide_9, decide_eq_true (by omega)]; rfl
    · rw [if_neg c2, decide_eq_false (by omega)]; rfl
theorem c_move (d n : Nat) (hn : n ≤ 2000) (x z : Int) (A : AH) (r : REL n A) : CP (d + 5) n 131 259 [vI x, vI z] A := by
  have g := REL_g r
  have b6 := r.2.2.1
  have b7 := r.2.1.1
  have hc := g.1
  unfold cok at hc
  have hh0 : gr A 40 5 ≠ 0 := by have := b6.1; omega
  have pr := r.2.2.2.2.2.2.2.2.2.1
  by_cases c : sit (hv A) (nv A) x = true ∧ (0 ≤ z ∧ z < nSe (hv A)) ∧ seatR (nv A) x ≠ z
  · have hx := sit_num g.1 c.1
    have hx1 : 0 ≤ x := by unfold num at hx; omega
    have hx2 : x < 16 := by unfold num at hx; omega
    have hsx := g.2.2.2.2.1 x c.1
    have ex := b7.2.2.1 x hx1 hx2
    rw [if_pos c.1] at ex
    have p20 := pr.2.2.1
    obtain ⟨B1, e1, e2, e3, e4, e5⟩ := s_keepC (d + 2) A pr.2.2.1 pr.1 pr.2.2.2.2.1
    have sB : SR B1 68 (hv A) (nv A) := SR_fr (fun a j h1 h2 => e3.1 a j (by omega) (by omega)) b7
    obtain ⟨o, eo⟩ : ∃ o, o = whoF (hv A) (nv A) z := ⟨_, rfl⟩
    have wn := who_num (H := hv A) (row := nv A) z
    rw [← eo] at wn
    obtain ⟨r0, hr0⟩ : ∃ r0, r0 = if o = -1 then nv A else upR (nv A) (3 + o).toNat (seatR (nv A) x) := ⟨_, rfl⟩
    have ox : o ≠ x := fun q => by
      rcases wn with w | ⟨w1, w2, w3, w4⟩
      · omega
      · rw [q] at w4; exact c.2.2 w4
    have r0s : ∀ y, seatR r0 y = if y = o ∧ o ≠ -1 then seatR (nv A) x else seatR (nv A) y := fun y => by
      rw [hr0]
      by_cases co : o = -1
      · rw [if_pos co, if_neg (by omega)]
      · rw [if_neg co]
        rcases wn with w | ⟨w1, w2, w3, w4⟩
        · omega
        · rw [seat_up w1]
          by_cases cy : y = o
          · rw [if_pos cy, if_pos ⟨cy, co⟩]
          · rw [if_neg cy, if_neg (by omega)]
    have r0o : ∀ j, (j < 3 ∨ 19 ≤ j) → r0 j = nv A j := fun j hj => by
      rw [hr0]
      by_cases co : o = -1
      · rw [if_pos co]
      · rw [if_neg co]
        rcases wn with w | ⟨w1, w2, w3, w4⟩
        · omega
        · exact up_ne (by omega)
    have r0si : ∀ y, sit (hv A) r0 y = sit (hv A) (nv A) y := fun y => by
      rw [hr0]
      by_cases co : o = -1
      · rw [if_pos co]
      · rw [if_neg co]
        rcases wn with w | ⟨w1, w2, w3, w4⟩
        · omega
        · refine sit_up w1 y (fun _ => ?_)
          left
          have := g.2.2.2.2.1 o w3
          omega
    have r0p : ∀ y, partyF (hv A) r0 y = partyF (hv A) (nv A) y := fun y => by
      rw [hr0]
      by_cases co : o = -1
      · rw [if_pos co]
      · rw [if_neg co]
        rcases wn with w | ⟨w1, w2, w3, w4⟩
        · omega
        · exact party_up (by omega) y
    have r0k : rok (hv A) r0 := by
      rw [hr0]
      by_cases co : o = -1
      · rw [if_pos co]; exact g.2.2.2.1
      · rw [if_neg co]
        rcases wn with w | ⟨w1, w2, w3, w4⟩
        · omega
        · exact rok_up w1 w2 (by omega) (by omega) g.2.2.2.1
    have r0x : seatR r0 x = seatR (nv A) x := by rw [r0s, if_neg (by omega)]
    obtain ⟨A1, a1, a2, a3, a4, a5, a6⟩ := s_exch (d + 2) (row' := upR r0 (3 + x).toNat z) (x := x) (z := z) g.1 sB g.2.2.2.2 c.1 c.2.1.1 c.2.1.2 c.2.2 ⟨by rw [up_ne (by omega), r0o 0 (by omega)], by rw [up_ne (by omega), r0o 1 (by omega)], by rw [up_ne (by omega), r0o 2 (by omega)]⟩ (fun y => by
        rw [sit_up hx1 y (fun _ => Or.inl (by rw [r0x]; omega)), r0si]) (fun y _ => by rw [party_up (by omega), r0p]) (by rw [seat_up hx1, if_pos rfl]) (by
        rw [← eo]
        intro co
        rw [seat_up hx1, if_neg ox, r0s, if_pos ⟨rfl, co⟩]) (by
        rw [← eo]
        intro y y1 y2 _
        rw [seat_up hx1, if_neg y1, r0s, if_neg (by omega)])
    have fA1 : ∀ a j, ¬ (68 ≤ a ∧ a ≤ 72) → gi A1 a j = gi B1 a j := fun a j h => a4.1 a j h
    have fAA : ∀ a j, ¬ (68 ≤ a ∧ a ≤ 179) → gi A1 a j = gi A a j := fun a j h => by rw [fA1 a j (by omega), e3.1 a j (by omega) (by omega)]
    obtain ⟨C1, k1, k2, k3, k4, k5, k6, k7, k8⟩ := s_keepsM (d + 3) A1 (by rw [fAA 190 74 (by omega)]; exact pr.2.2.2.1) (by rw [fAA 190 73 (by omega), pr.2.1]; exact pr.1)
    have base : ∀ a j, ¬ (68 ≤ a ∧ a ≤ 179) → a ≠ 243 → ¬ (a = 190 ∧ (j = 73 ∨ j = 74)) → gi C1 a j = gi A a j := fun a j h1 h2 h3 => by rw [k4 a j h2 h3, fAA a j h1]
    have hvA1 : hv A1 = hv A := hv_fr (fun a j h1 h2 => fAA a j (by omega))
    have nvA1 : nv A1 = nv A := by funext j; exact fAA 237 j (by omega)
    have hvC1 : hv C1 = hv A := hv_fr (fun a j h1 h2 => base a j (by omega) (by omega) (by omega))
    have nvC1 : nv C1 = nv A := by funext j; exact base 237 j (by omega) (by omega) (by omega)
    have fin : ∀ (C2 : AH), nv C2 = r0 → hv C2 = hv A → (∀ a i, a ≠ 237 → gi C2 a i = gi C1 a i) → (∀ a i, gr C2 a i = gr C1 a i) → C2.2.2 = C1.2.2 → REL (n + 1) (wi C2 237 (3 + x).toNat z) := by
      intro C2 n2 h2 g2 gr2 s2
      refine REL_act (A1 := A1) (C1 := C1) r e2 e3 e4 e5 (fun a j h1 _ _ => fA1 a j h1) (fun a j _ => a4.2.1 a j) a4.2.2 k2 k3 k4 k5 k6 k7 k8 (fun a i h1 _ _ => by rw [gi_wi, if_neg (by omega)]; exact g2 a i h1) (fun a i _ => gr2 a i) s2 ?_ ?_
      · rw [nv_up, n2]
        have cc : ∀ a j, 68 ≤ a → a ≤ 72 → gi (wi C2 237 (3 + x).toNat z) a j = gi A1 a j := fun a j h1 h2 => by rw [gi_wi, if_neg (by omega), g2 a j (by omega), k4 a j (by omega) (by omega)]
        have sk := r.2.1
        refine ⟨SR_fr (fun a j h1 h2 => cc a j (by omega) (by omega)) a2, KR_up sk.2.1 (by rw [cc 68 7 (by omega) (by omega), a5, e3.1 68 7 (by omega) (by omega)]) (fun j => by rw [cc _ _ (by omega) (by omega), a6, e3.1 _ j (by omega) (by omega)]) (fun j hj => by rw [up_ne (by omega), r0o j (by omega)]), rok_up hx1 hx2 (by omega) (by omega) r0k, a3, ?_, ?_⟩
        · rw [up_ne (by omega), r0o 0 (by omega)]; exact sk.2.2.2.2.1
        · rw [up_ne (by omega), r0o 1 (by omega)]; exact sk.2.2.2.2.2
      · rw [gi_wi, if_neg (by omega), gi_wi, if_neg (by omega), g2 190 75 (by omega), g2 40 14 (by omega), base 190 75 (by omega) (by omega) (by omega), base 40 14 (by omega) (by omega) (by omega)]
        exact r.2.2.2.2.2.2.2.1
    have cls : runF (d + 5) 131 [vR 20 40 0, vI x, vI z] A = some (some (vI 1), A1) := by
      rw [r_X11_move, q_X11_move_0, s_isThere _ 68 x A _ _ g.1 g.2.2.2.2 b7, c.1, bI_t, cI_v, if_neg (by omega), if_neg hh0, s_isSeatC _ _ z A _ b6, cI_v, decide_eq_true c.2.1, bI_t, if_neg (by omega), if_pos (by omega), ex, if_neg c.2.2, e1, cV_v, a1, cV_v]
    have pre : runF (d + 5) 259 [vR 21 190 0, vI x, vI z] A1 = (if o = -1 then go true 2 (runF (d + 4)) (runN (d + 4)) pb_X12_move (fu + 198) 70 [vR 21 190 0, vI x, vI z, vI o] [] C1 else go true 2 (runF (d + 4)) (runN (d + 4)) pb_X12_move (fu + 198) 70 [vR 21 190 0, vI x, vI z, vI o] [] (wi C1 237 (3 + o).toNat (seatR (nv A) x))) := by
      have so : ∀ m, runF (m + 1) 199 [vR 21 190 0, vI x] A1 = some (some (vI (seatR (nv A) x)), A1) := fun m => by rw [s_seatOf m x A1 hx1 hx2, nvA1]
      have soC : ∀ m, runF (m + 1) 199 [vR 21 190 0, vI x] C1 = some (some (vI (seatR (nv A) x)), C1) := fun m => by rw [s_seatOf m x C1 hx1 hx2, nvC1]
      have ew : whoF (hv A) (nv A) z = o := eo.symm
      unfold whoF at ew
      rw [r_X12_move, q_X12_move_0, s_isIn, cI_v, decide_eq_true (by omega), bI_t, if_neg (by omega), s_doesSit _ x A1 (by rw [hvA1]; exact g.1), hvA1, nvA1, c.1, bI_t, cI_v, if_neg (by omega), s_isSeat _ z A1 (by rw [hvA1]; exact g.1), hvA1, cI_v, decide_eq_true c.2.1, bI_t, if_neg (by omega), so, cI_v, if_neg c.2.2, k1, cV_v, s_sitterAt _ z C1 (by rw [hvC1]; exact g.1), hvC1, nvC1, ew, cI_v, soC, cI_v]
      by_cases co : o = -1
      · rw [if_pos co, if_pos co]
      · rw [if_neg co, if_neg co]
        rcases wn with w | ⟨w1, w2, w3, w4⟩
        · omega
        · rw [wid (by omega) (by omega), if_pos (by omega)]
    by_cases co : o = -1
    · refine ⟨vI 1, A1, wi C1 237 (3 + x).toNat z, cls, ?_, fin C1 (by rw [hr0, if_pos co, nvC1]) hvC1 (fun _ _ _ => rfl) (fun _ _ => rfl) rfl⟩
      rw [pre, if_pos co, q_X12_move_70, wid (by omega) (by omega), if_pos (by omega), q_X12_move_79]
    · refine ⟨vI 1, A1, wi (wi C1 237 (3 + o).toNat (seatR (nv A) x)) 237 (3 + x).toNat z, cls, ?_, fin _ (by rw [hr0, if_neg co, nv_up, nvC1]) (by rw [hv_wi7]; exact hvC1) (fun a i h => by rw [gi_wi, if_neg (by omega)]) (fun _ _ => rfl) rfl⟩
      rw [pre, if_neg co, q_X12_move_70, wid (by omega) (by omega), if_pos (by omega), q_X12_move_79]
  · have q := r.2.2.2.2.2.2.1 3 (by omega)
    have q3 := q.2.2
    refine CP_ref r 3 (by omega) ?_ ?_
    · have fin : ∀ m, go true 2 (runF (d + 4)) (runN (d + 4)) pb_X11_move (m + 1) 35 [vR 20 40 0, vI x, vI z] [] A = some (some (vI 0), wi A 189 3 (gi A 189 3 + 1)) := fun m => by
        rw [q_X11_move_35, s_refuse _ 3 A (by omega) (by omega) q.2.1 (show gi A 189 3 ≤ 100000 by omega), cI_v, if_pos (by omega)]; rfl
      rw [r_X11_move, q_X11_move_0, s_isThere _ 68 x A _ _ g.1 g.2.2.2.2 b7, cI_v]
      by_cases c1 : sit (hv A) (nv A) x = true
      · have hx := sit_num g.1 c1
        unfold num at hx
        have ex := b7.2.2.1 x (by omega) (by omega)
        rw [if_pos c1] at ex
        rw [c1, bI_t, if_neg (by omega), if_neg hh0, s_isSeatC _ _ z A _ b6, cI_v]
        by_cases c2 : 0 ≤ z ∧ z < nSe (hv A)
        · rw [decide_eq_true c2, bI_t, if_neg (by omega), if_pos (by omega), ex]
          by_cases c3 : seatR (nv A) x = z
          · rw [if_pos c3]; exact fin _
          · exact absurd ⟨c1, c2, c3⟩ c
        · rw [decide_eq_false c2, bI_f, if_pos rfl]; exact fin _
      · rw [show sit (hv A) (nv A) x = false by simpa using c1, bI_f, if_pos rfl]; exact fin _
    · have sr := sc_ref A 3 (gi A 189 3 + 1)
      have e : gi (wi A 189 3 (gi A 189 3 + 1)) 192 3 = gi A 189 3 := by rw [gi_wi, if_neg (by omega)]; exact q.1
      have fin : ∀ m, go true 2 (runF (d + 4)) (runN (d + 4)) pb_X12_move (m + 1) 37 [vR 21 190 0, vI x, vI z, vU] [] (wi A 189 3 (gi A 189 3 + 1)) = some (some (vI 0), wi (wi A 189 3 (gi A 189 3 + 1)) 192 3 (gi A 189 3 + 1)) := fun m => by
        rw [q_X12_move_37, s_refuses _ _ (by rw [e]; omega) (by rw [e]; omega), e, cI_v, if_pos (by omega)]
      rw [r_X12_move, q_X12_move_0, s_isIn, cI_v]
      by_cases c0 : 0 ≤ x ∧ x ≤ 15
      · rw [decide_eq_true c0, bI_t, if_neg (by omega), s_doesSit _ x _ (by rw [sr.1]; exact g.1), sr.1, sr.2, cI_v]
        by_cases c1 : sit (hv A) (nv A) x = true
        · rw [c1, bI_t, if_neg (by omega), s_isSeat _ z _ (by rw [sr.1]; exact g.1), sr.1, cI_v]
          by_cases c2 : 0 ≤ z ∧ z < nSe (hv A)
          · rw [decide_eq_true c2, bI_t, if_neg (by omega), s_seatOf _ x _ (by omega) (by omega), sr.2, cI_v]
            by_cases c3 : seatR (nv A) x = z
            · rw [if_pos c3]; exact fin _
            · exact absurd ⟨c1, c2, c3⟩ c
          · rw [decide_eq_false c2, bI_f, if_pos rfl]; exact fin _
        · rw [show sit (hv A) (nv A) x = false by simpa using c1, bI_f, if_pos rfl]; exact fin _
      · rw [decide_eq_false c0, bI_f, if_pos rfl]; exact fin _
