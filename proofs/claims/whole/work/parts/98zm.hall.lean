/-! calls: hall -/
def qx (a j : Nat) : Prop := ry a j ∨ a = 42 ∨ a = 44 ∨ a = 45 ∨ a = 47 ∨ (a = 190 ∧ (j = 1 ∨ j = 3 ∨ j = 7 ∨ j = 8)) ∨ (a = 192 ∧ j = 1) ∨ (a = 189 ∧ j = 1) ∨ (a = 40 ∧ j = 1)
theorem hz_qx {a j : Nat} (h : hz0 a j) : ¬ qx a j ∧ 224 ≤ a ∧ a ≤ 233 := by
  unfold hz0 at h
  unfold qx ry
  rcases h with ⟨rfl, h⟩ | ⟨rfl, h⟩ | ⟨rfl, h⟩ | ⟨rfl, h⟩ | ⟨rfl, h⟩ | ⟨rfl, h⟩ | ⟨rfl, h⟩ | ⟨rfl, h⟩ | ⟨rfl, h⟩ | ⟨rfl, h⟩
  all_goals (refine ⟨fun q => ?_, by omega, by omega⟩; omega)
theorem lo_qx {a j : Nat} (h : a = 41 ∨ (48 ≤ a ∧ a ≤ 188) ∨ (a = 40 ∧ j ≠ 1) ∨ (a = 189 ∧ j ≠ 1) ∨ a = 191 ∨ (a = 192 ∧ j ≠ 1) ∨ (193 ≤ a ∧ a ≤ 223) ∨ 235 ≤ a ∨ (a = 190 ∧ (j = 53 ∨ j = 65 ∨ j = 73 ∨ j = 74 ∨ j = 75 ∨ j = 110))) : ¬ qx a j := by
  intro q
  unfold qx ry at q
  rcases q with q | q | q | q | q | q | q | q | q
  · rcases q with q | q | q | q | q | q | q | q | q | q | q | q <;> omega
  all_goals omega
theorem hv_ex {A B : AH} (g : ∀ a j, hz0 a j → gi B a j = gi A a j) : hv B = hv A := by
  funext a j
  by_cases c : hz0 a j
  · rw [hv_in c, hv_in c, g a j c]
  · rw [hv_out c, hv_out c]
theorem PH_lo {A B : AH} (g : ∀ a j, 225 ≤ a → a ≤ 229 → ¬ hz0 a j → gi B a j = gi A a j) (r : PH A) : PH B := by
  obtain ⟨r1, r2, r3, r4, r5, r6⟩ := r
  refine ⟨fun j hj => ?_, fun j hj => ?_, fun j hj => ?_, fun j hj => ?_, fun j hj => ?_, fun j hj => ?_⟩
  · rw [g _ _ (by omega) (by omega) (by unfold hz0; omega)]; exact r1 j hj
  · rw [g _ _ (by omega) (by omega) (by unfold hz0; omega)]; exact r2 j hj
  · rw [g _ _ (by omega) (by omega) (by unfold hz0; omega)]; exact r3 j hj
  · rw [g _ _ (by omega) (by omega) (by unfold hz0; omega)]; exact r4 j hj
  · rw [g _ _ (by omega) (by omega) (by unfold hz0; omega)]; exact r5 j hj
  · rw [g _ _ (by omega) (by omega) (by unfold hz0; omega)]; exact r6 j hj
theorem c_hall (d n : Nat) (hn : n ≤ 2000) (A : AH) (r : REL n A) : CP (d + 60) n 111 177 [] A := by
  obtain ⟨p1, p2, p3, p4, p5, p6, p7, p8, p9, p10, p11, p12, p13⟩ := r
  obtain ⟨t1, t2, t3⟩ := p5
  obtain ⟨L, hL⟩ : ∃ L : Nat, gi A 40 1 = (L : Int) := ⟨(gi A 40 1).toNat, by omega⟩
  have hL2 : L ≤ 1600 := by omega
  obtain ⟨T, hT⟩ : ∃ T : Nat → Int, T = fun j => gi A 41 j := ⟨_, rfl⟩
  have tT : ∀ j, T j = gi A 41 j := fun j => by rw [hT]
  have tx : TX T L := ⟨hL2, fun j hj => by rw [tT]; exact (t3 j hj).2⟩
  have eT : (fun j => gi (wi A 40 1 0) 41 j) = T := by
    rw [hT]; funext j; rw [gi_wi, if_neg (by omega)]
  obtain ⟨td, wd⟩ := p12
  obtain ⟨m1, m2, m3, m4, m5, m6⟩ := p13
  have take : runF (d + 59) 144 [vR 20 40 0] A = some (some (vI (L : Int)), wi A 40 1 0) := by
    rw [r_X11_takeTape, q_X11_takeTape_0, q_X11_takeTape_10, hL]
  obtain ⟨B, b1, b2, b3, b4, b5, b6, b7⟩ := s_rbegin (d + 56) (wi A 40 1 0) (L := L) wd.1 (by rw [eT]; exact tx)
  rw [eT] at b2
  have zB : sz B = sz A := by unfold sz; rw [b7]; rfl
  have lB : sl B = sl A := by unfold sl; rw [b7]; rfl
  have lnB : ∀ a, ln B a = ln A a := fun a => by unfold ln; rw [b7]; rfl
  have gB : ∀ a j, a ≠ 42 → ¬ (a = 40 ∧ j = 1) → gi B a j = gi A a j := fun a j q1 q2 => by rw [b5 a j q1, gi_wi, if_neg q2]
  have B40 : gi B 40 1 = 0 := by rw [b5 40 1 (by omega), gi_wi, if_pos ⟨rfl, rfl⟩]
  obtain ⟨i1, i2⟩ := s_readC (d + 5) tx B A p11 (by omega) b2
  rw [zB, lB] at i1 i2
  have e0 : ∀ R, (cR 13 (runF (d + 59) 54 [vR 14 46 0] B) fun p5 l6 A4 =>
      if p5 = 0 then
        cI (runF (d + 59) 141 [vR 20 40 0, vI 1] A4) fun r8 A7 => some (some (vI (-1)), A7)
      else
      cV (runF (d + 59) 96 [vR 19 68 0, vR 13 (gr (wr A4 40 5 p5) 40 5) 0] (wr A4 40 5 p5)) fun A9 =>
      cV (runF (d + 59) 75 [vR 16 78 0] A9) fun A10 =>
      if gr A10 40 5 = 0 then none else
      some (some (vI (gi A10 (gr A10 40 5) 0)), A10)) = R → runF (d + 60) 111 [vR 20 40 0] A = R := by
    intro R hR
    rw [r_X11_hall, q_X11_hall_0, take, cI_v, b1, cV_v]
    exact hR
  cases hG : hlG T L A with
  | error y =>
    obtain ⟨k, s⟩ := y
    obtain ⟨C, c1, c2, c3, c4, c5, c6, c7⟩ := i1 k s hG
    have q1 := p7 1 (by omega)
    have C189 : gi C 189 1 = gi A 189 1 := by rw [c4.1 189 1 (by omega) (by omega) (by omega) (by omega) (by omega)]; exact gB 189 1 (by omega) (by omega)
    obtain ⟨D, hD⟩ : ∃ D, D = wi C 189 1 (gi A 189 1 + 1) := ⟨_, rfl⟩
    have gD : ∀ a j, a < sz A → a ≠ 42 → a ≠ 44 → a ≠ 45 → a ≠ 47 → ¬ (a = 40 ∧ j = 1) → ¬ (a = 189 ∧ j = 1) → gi D a j = gi A a j := fun a j z1 z2 z3 z4 z5 z6 z7 => by
      rw [hD, gi_wi, if_neg z7, c4.1 a j z1 (by omega) z3 z4 z5]; exact gB a j z2 z6
    have rD : ∀ a j, a < sz A → a ≠ 42 → a ≠ 46 → gr D a j = gr A a j := fun a j z1 z2 z3 => by
      rw [hD, gr_wi, c4.2.1 a j z1 (by omega) (by omega), b6 a j z2]; rfl
    have lD : ∀ a, a < sz A → ln D a = ln A a := fun a z1 => by rw [hD, ln_wi, c4.2.2 a z1, lnB]
    have runC : runF (d + 60) 111 [vR 20 40 0] A = some (some (vI (-1)), D) := by
      refine e0 _ ?_
      rw [c1, cR_v, if_pos rfl, s_refuse _ 1 C (by omega) (by omega) (show 0 ≤ gi C 189 1 by omega) (show gi C 189 1 ≤ 100000 by omega), cI_v, hD]
      show some (some (vI (-1)), wi C 189 1 (gi C 189 1 + 1)) = _
      rw [C189]
    obtain ⟨u1, _⟩ := s_hallM (d + 49) tx D A (by rw [gD 190 1 (by omega) (by omega) (by omega) (by omega) (by omega) (by omega) (by omega), t1]; exact hL) (fun j hj => by rw [gD 191 j (by omega) (by omega) (by omega) (by omega) (by omega) (by omega) (by omega), tT]; exact (t3 j hj).1) (WC_fr (A := A) (fun a j q => gD a j (by omega) (by omega) (by omega) (by omega) (by omega) (by omega) (by omega)) wd.2) (PH_r (A := A) (fun a j q1 q2 => gD a j (by omega) (by omega) (by omega) (by omega) (by omega) (by omega) (by omega)) p11) (fun a j q1 q2 => gD a j (by omega) (by omega) (by omega) (by omega) (by omega) (by omega) (by omega)) (by rw [gD 192 1 (by omega) (by omega) (by omega) (by omega) (by omega) (by omega) (by omega)]; omega)
    obtain ⟨E, x1, x2, x3, x4, x5, x6, x7⟩ := u1 k s hG
    have G : ∀ a j, a < sz A → ¬ qx a j → gi E a j = gi A a j := fun a j z1 z2 => by
      have w : ¬ ry a j := fun y => z2 (Or.inl y)
      have v : ¬ (a = 42 ∨ a = 44 ∨ a = 45 ∨ a = 47 ∨ (a = 190 ∧ (j = 1 ∨ j = 3 ∨ j = 7 ∨ j = 8)) ∨ (a = 192 ∧ j = 1) ∨ (a = 189 ∧ j = 1) ∨ (a = 40 ∧ j = 1)) := fun y => z2 (Or.inr y)
      rw [x7.1 a j w (by omega) (by omega)]
      exact gD a j z1 (by omega) (by omega) (by omega) (by omega) (by omega) (by omega)
    have rE : ∀ a j, a < sz A → a ≠ 42 → a ≠ 46 → gr E a j = gr A a j := fun a j z1 z2 z3 => by rw [x7.2.1]; exact rD a j z1 z2 z3
    have lE : ∀ a, a < sz A → ln E a = ln A a := fun a z => by rw [← lD a z]; unfold ln; rw [x7.2.2]
    have zE : sz E = sz C := by unfold sz; rw [x7.2.2, hD]; rfl
    have slE : sl E = sl C := by unfold sl; rw [x7.2.2, hD]; rfl
    have eh : hv E = hv A := hv_ex (fun a j q => by have := hz_qx q; exact G a j (by omega) this.1)
    have en : nv E = nv A := by funext j; exact G 237 j (by omega) (lo_qx (by omega))
    have h48 := p3.1
    have g40 := rE 40 5 (by omega) (by omega) (by omega)
    refine ⟨vI (-1), D, E, runC, x1, ?_⟩
    unfold REL
    rw [eh, en, g40, G 190 65 (by omega) (lo_qx (by omega))]
    refine ⟨p1, SK_fr (by omega) (fun a j z1 z2 => G a j (by omega) (lo_qx (by omega))) p2, HR_lt ⟨m2, m3, m4⟩ (fun a j z1 z2 => G a j z1 (lo_qx (by omega))) (fun a j z1 z2 => rE a j z1 (by omega) (by omega)) lE p3, p4, ?_, ?_, ?_, ?_, IM_fr (fun a j z => G a j (by omega) (lo_qx (by omega))) p9, PR_fr (fun a j z => G a j (by omega) (lo_qx (by omega))) (fun j => rE 79 j (by omega) (by omega) (by omega)) eh p10, x6, ?_, ?_⟩
    · have z1 : gi E 40 1 = 0 := by
        rw [x7.1 40 1 (by unfold ry; omega) (by omega) (by omega), hD, gi_wi, if_neg (by omega), c4.1 40 1 (by omega) (by omega) (by omega) (by omega) (by omega)]; exact B40
      refine ⟨by rw [x4, z1], by rw [z1]; omega, fun j hj => ?_⟩
      rw [G 191 j (by omega) (lo_qx (by omega)), G 41 j (by omega) (lo_qx (by omega))]
      exact t3 j hj
    · have f1 : ∀ j, gi E 42 j = gi C 42 j := fun j => by
        rw [x7.1 42 j (by unfold ry; omega) (by omega) (by omega), hD, gi_wi, if_neg (by omega)]
      rw [f1, f1, x2, x3, c2, c3]; exact ⟨rfl, rfl⟩
    · intro j hj
      by_cases c : j = 1
      · have z1 : gi E 189 1 = gi A 189 1 + 1 := by
          rw [x7.1 189 1 (by unfold ry; omega) (by omega) (by omega), hD, gi_wi, if_pos ⟨rfl, rfl⟩]
        have z2 : gi E 192 1 = gi A 189 1 + 1 := by
          rw [x5, gD 192 1 (by omega) (by omega) (by omega) (by omega) (by omega) (by omega) (by omega), q1.1]
        rw [c, z1, z2]; omega
      · rw [G 192 j (by omega) (lo_qx (by omega)), G 189 j (by omega) (lo_qx (by omega))]
        have := p7 j hj
        omega
    · rw [G 190 75 (by omega) (lo_qx (by omega)), G 40 14 (by omega) (lo_qx (by omega))]; exact p8
    · unfold TD
      rw [eh, G 190 53 (by omega) (lo_qx (by omega))]
      exact ⟨td, WD_fr (fun a j z => G a j (by omega) (lo_qx (by omega))) (lE 41 (by omega)) wd⟩
    · unfold RM
      rw [g40, rE _ 16 (by omega) (by omega) (by omega), rE _ 17 (by omega) (by omega) (by omega), zE, slE]
      omega
  | ok y =>
    obtain ⟨H', cd', k'⟩ := y
    obtain ⟨C, c1, c2, c3, c4, c5, c6, c7, c8, c9, c10⟩ := i2 H' cd' k' hG
    obtain ⟨hc, hk, so, ck, se, ns⟩ := c3
    obtain ⟨⟨hr, nm, g46, h271, h16, h17⟩, z1, z2, z3⟩ := c2
    have hr1 : HR (wr C 40 5 (sz A)) (sz A) H' := HR_fr (A := C) (fun a j _ => rfl) (fun a j q => by rw [gr_wr, if_neg (by omega)]) rfl hr
    obtain ⟨F, f1, f2, f3, f4, f5, f6, f7⟩ := s_sbegin (d + 56) (sz A) hc se h271 (wr C 40 5 (sz A)) hr1
    obtain ⟨D, hD⟩ : ∃ D, D = wi F 78 2 0 := ⟨_, rfl⟩
    have gDC : ∀ a j, ¬ (68 ≤ a ∧ a ≤ 72) → ¬ (a = 78 ∧ j = 2) → gi D a j = gi C a j := fun a j q1 q2 => by rw [hD, gi_wi, if_neg q2, f7.1 a j (by omega)]; rfl
    have gD : ∀ a j, a < sz A → ¬ (68 ≤ a ∧ a ≤ 72) → ¬ (a = 78 ∧ j = 2) → a ≠ 42 → a ≠ 44 → a ≠ 45 → a ≠ 47 → ¬ (a = 40 ∧ j = 1) → gi D a j = gi A a j := fun a j y1 y2 y3 z2 z3 z4 z5 z6 => by
      rw [gDC a j y2 y3, c7.1 a j y1 (by omega) z3 z4 z5]; exact gB a j z2 z6
    have rDC : ∀ a j, gr D a j = gr (wr C 40 5 (sz A)) a j := fun a j => by rw [hD, gr_wi, f7.2.1]
    have rD : ∀ a j, a < sz A → a ≠ 42 → a ≠ 46 → ¬ (a = 40 ∧ j = 5) → gr D a j = gr A a j := fun a j y1 y2 y3 y4 => by
      rw [rDC, gr_wr, if_neg y4, c7.2.1 a j y1 (by omega) (by omega), b6 a j y2]; rfl
    have D22 : D.2.2 = C.2.2 := by rw [hD]; show F.2.2 = _; rw [f7.2.2]; rfl
    have D405 : gr D 40 5 = sz A := by rw [rDC, gr_wr, if_pos ⟨rfl, rfl⟩]
    have Dk : gi D (sz A) 0 = (k' : Int) := by rw [gDC _ _ (by omega) (by omega)]; exact c5
    have runC : runF (d + 60) 111 [vR 20 40 0] A = some (some (vI (k' : Int)), D) := by
      refine e0 _ ?_
      have kf : runF (d + 59) 75 [vR 16 78 0] F = some (none, D) := by rw [r_X6_forget, q_X6_forget_0, hD]
      rw [c1, cR_v, if_neg (by omega), gr_wr, if_pos ⟨rfl, rfl⟩, f1, cV_v, kf, cV_v, D405, if_neg (by omega), Dk]
    obtain ⟨_, u2⟩ := s_hallM (d + 49) tx D A (by rw [gD 190 1 (by omega) (by omega) (by omega) (by omega) (by omega) (by omega) (by omega) (by omega), t1]; exact hL) (fun j hj => by rw [gD 191 j (by omega) (by omega) (by omega) (by omega) (by omega) (by omega) (by omega) (by omega), tT]; exact (t3 j hj).1) (WC_fr (A := A) (fun a j q => gD a j (by omega) (by omega) (by omega) (by omega) (by omega) (by omega) (by omega) (by omega)) wd.2) (PH_r (A := A) (fun a j q1 q2 => gD a j (by omega) (by omega) (by omega) (by omega) (by omega) (by omega) (by omega) (by omega)) p11) (fun a j q1 q2 => gD a j (by omega) (by omega) (by omega) (by omega) (by omega) (by omega) (by omega) (by omega)) (by have := p7 1 (by omega); rw [gD 192 1 (by omega) (by omega) (by omega) (by omega) (by omega) (by omega) (by omega) (by omega)]; omega)
    obtain ⟨M, x1, x2, x3, x4, x5, x6, x7, x8, x9, x10⟩ := u2 H' cd' k' hG
    have GM : ∀ a j, a < sz A → ¬ qx a j → ¬ (68 ≤ a ∧ a ≤ 72) → ¬ (a = 78 ∧ j = 2) → gi M a j = gi A a j := fun a j z1 z2 z3 z4 => by
      have w : ¬ ry a j := fun y => z2 (Or.inl y)
      have v : ¬ (a = 42 ∨ a = 44 ∨ a = 45 ∨ a = 47 ∨ (a = 190 ∧ (j = 1 ∨ j = 3 ∨ j = 7 ∨ j = 8)) ∨ (a = 192 ∧ j = 1) ∨ (a = 189 ∧ j = 1) ∨ (a = 40 ∧ j = 1)) := fun y => z2 (Or.inr y)
      rw [x10.1 a j w (by omega) (by omega)]
      exact gD a j z1 z3 z4 (by omega) (by omega) (by omega) (by omega) (by omega)
    have ehM : hv M = hv A := hv_ex (fun a j q => by have := hz_qx q; exact GM a j (by omega) this.1 (by omega) (by omega))
    obtain ⟨E, y1, y2, y3, y4, y5, y6, y7, y8⟩ := s_stands (d + 58) M x2 hc x4 (by rw [ehM]; exact ko_hl tx p11 hG)
    have nhz : ∀ a j, (a < 224 ∨ 234 ≤ a) → ¬ hz0 a j := fun a j q => by unfold hz0; omega
    have G : ∀ a j, a < sz A → ¬ qx a j → ¬ hz0 a j → ¬ (68 ≤ a ∧ a ≤ 72) → ¬ (a = 78 ∧ j = 2) → a ≠ 237 → ¬ (a = 190 ∧ (j = 53 ∨ j = 73)) → gi E a j = gi A a j := fun a j z1 z2 z3 z4 z5 z6 z7 => by
      rw [y6 a j z3 z6 z7]; exact GM a j z1 z2 z4 z5
    have GED : ∀ a j, (a = 40 ∨ a = 42 ∨ (48 ≤ a ∧ a ≤ 72) ∨ a = 78 ∨ 271 ≤ a) → gi E a j = gi D a j := fun a j z => by
      rw [y6 a j (nhz a j (by omega)) (by omega) (by omega), x10.1 a j (by unfold ry; omega) (by omega) (by omega)]
    have rE : ∀ a j, gr E a j = gr D a j := fun a j => by rw [y7, x10.2.1]
    have E22 : E.2.2 = C.2.2 := by rw [y8, x10.2.2, D22]
    have zE : sz E = sz C := by unfold sz; rw [E22]
    have slE : sl E = sl C := by unfold sl; rw [E22]
    have E405 : gr E 40 5 = sz A := by rw [rE]; exact D405
    have runM : runF (d + 60) 177 [vR 21 190 0] D = some (some (vI (k' : Int)), E) := by
      have e52 : gi E 190 52 = (k' : Int) := by rw [y6 190 52 (nhz _ _ (by omega)) (by omega) (by omega)]; exact x5
      rw [x1, y1, cV_v, e52]
    have sE : ∀ a j, 68 ≤ a → a ≤ 72 → gi E a j = gi F a j := fun a j z1 z2 => by rw [GED a j (by omega), hD, gi_wi, if_neg (by omega)]
    have rEC : ∀ a j, ¬ (a = 40 ∧ j = 5) → gr E a j = gr C a j := fun a j z => by rw [rE, rDC, gr_wr, if_neg z]
    refine ⟨vI (k' : Int), D, E, runC, runM, ?_⟩
    unfold REL
    rw [y2, E405, G 190 65 (by omega) (lo_qx (by omega)) (nhz _ _ (by omega)) (by omega) (by omega) (by omega) (by omega)]
    refine ⟨⟨hc, hk, so⟩, SK_0 (n + 1) hc se y3 (IV_fr (fun a j w1 w2 => sE a j (by omega) (by omega)) f2) (by rw [sE 68 7 (by omega) (by omega)]; exact f3) (by rw [sE 68 0 (by omega) (by omega)]; exact f4) (by rw [sE 68 1 (by omega) (by omega)]; exact f5) (by rw [sE 68 2 (by omega) (by omega)]; exact f6), HR_fr (fun a j w => by rw [GED a j (by omega), gDC a j (by omega) (by omega)]) (fun a j w => rEC a j (by omega)) E22 hr, p4, ?_, ?_, RF_fr (fun a j w => ?_) p7, ?_, IM_fr (fun a j w => G a j (by omega) (lo_qx (by omega)) (nhz _ _ (by omega)) (by omega) (by omega) (by omega) (by omega)) p9, ?_, PH_lo (A := M) (fun a j w1 w2 w3 => y6 a j w3 (by omega) (by omega)) (PH_MR x2 hk), ?_, ?_⟩
    · have w1 : gi E 40 1 = 0 := by
        rw [GED 40 1 (by omega), gDC 40 1 (by omega) (by omega), c7.1 40 1 (by omega) (by omega) (by omega) (by omega) (by omega)]; exact B40
      have w2 : gi E 190 1 = 0 := by rw [y6 190 1 (nhz _ _ (by omega)) (by omega) (by omega)]; exact x8
      refine ⟨by rw [w1, w2], by rw [w1]; omega, fun j hj => ?_⟩
      rw [G 191 j (by omega) (lo_qx (by omega)) (nhz _ _ (by omega)) (by omega) (by omega) (by omega) (by omega), G 41 j (by omega) (lo_qx (by omega)) (nhz _ _ (by omega)) (by omega) (by omega) (by omega) (by omega)]
      exact t3 j hj
    · rw [GED 42 11 (by omega), GED 42 12 (by omega), gDC 42 11 (by omega) (by omega), gDC 42 12 (by omega) (by omega), c6.1, c6.2, b3, b4, y6 190 7 (nhz _ _ (by omega)) (by omega) (by omega), y6 190 8 (nhz _ _ (by omega)) (by omega) (by omega), x6, x7]
      exact ⟨rfl, rfl⟩
    · by_cases c : a = 192 ∧ j = 1
      · rw [c.1, c.2, y6 192 1 (nhz _ _ (by omega)) (by omega) (by omega), x9]
        exact gD 192 1 (by omega) (by omega) (by omega) (by omega) (by omega) (by omega) (by omega) (by omega)
      · by_cases c' : a = 189
        · rw [y6 a j (nhz _ _ (by omega)) (by omega) (by omega), x10.1 a j (by unfold ry; omega) (by omega) (by omega)]
          exact gD a j (by omega) (by omega) (by omega) (by omega) (by omega) (by omega) (by omega) (by omega)
        · exact G a j (by omega) (lo_qx (by omega)) (nhz _ _ (by omega)) (by omega) (by omega) (by omega) (by omega)
    · rw [G 190 75 (by omega) (lo_qx (by omega)) (nhz _ _ (by omega)) (by omega) (by omega) (by omega) (by omega), G 40 14 (by omega) (lo_qx (by omega)) (nhz _ _ (by omega)) (by omega) (by omega) (by omega) (by omega)]; exact p8
    · have w2 : gi E 78 2 = 0 := by rw [GED 78 2 (by omega), hD]; simp -implicitDefEqProofs (disch := omega) only [gi_wi, ↓reduceIte, Int.reduceEq, cI_v, cL_v, cV_v, cR_v, wid, wid64, if_pos, if_neg, Nat.add_zero, if_true, if_false, and_self, and_true, true_and, and_false, false_and, or_true, true_or, or_false, false_or]
      refine ⟨by rw [w2]; omega, by rw [w2]; exact y4, ?_, ?_, fun i hi => by rw [rE, rD 79 i (by omega) (by omega) (by omega) (by omega)]; exact p10.2.2.2.2.1 i hi, fun i h1 h2 => by rw [w2] at h2; omega⟩
      · rw [G 78 1 (by omega) (lo_qx (by omega)) (nhz _ _ (by omega)) (by omega) (by omega) (by omega) (by omega)]; exact p10.2.2.1
      · rw [G 190 74 (by omega) (lo_qx (by omega)) (nhz _ _ (by omega)) (by omega) (by omega) (by omega) (by omega)]; exact p10.2.2.2.1
    · unfold TD
      rw [y2, y5]
      refine ⟨Or.inl ⟨rfl, ns⟩, WD_fr (fun a j w => G a j (by omega) (lo_qx (by omega)) (nhz _ _ (by omega)) (by omega) (by omega) (by omega) (by omega)) ?_ wd⟩
      show ln E 41 = ln A 41
      have : ln E 41 = ln C 41 := by unfold ln; rw [E22]
      rw [this, c7.2.2 41 (by omega), lnB]
    · unfold RM
      rw [E405, rEC _ 16 (by omega), rEC _ 17 (by omega), zE, slE]
      omega
