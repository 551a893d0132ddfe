/-! calls: take, dismiss, undo -/
/-- the row where mute m sits at z for p (z = -1: nowhere) -/
def muR (row : Nat → Int) (m z p : Int) : Nat → Int := upR (upR row (13 + m).toNat z) (19 + m).toNat p
theorem mu_seat {row : Nat → Int} {m z p : Int} (hm1 : 0 ≤ m) (hm2 : m < 6) {y : Int} (hy : y < 16) : seatR (muR row m z p) y = if y = 10 + m then z else seatR row y := by
  unfold seatR muR upR
  rw [if_neg (by omega)]
  by_cases c : y = 10 + m
  · rw [if_pos c, if_pos (by omega)]
  · rw [if_neg c, if_neg (by omega)]
theorem mu_sit {H : Nat → Nat → Int} (hc : cok H) {row : Nat → Int} {m z p : Int} (hm1 : 0 ≤ m) (hm2 : m < nMu H) (y : Int) : sit H (muR row m z p) y = if y = 10 + m then decide (z ≠ -1) else sit H row y := by
  unfold cok at hc
  by_cases c : y = 10 + m
  · rw [if_pos c]
    unfold sit
    rw [mu_seat hm1 (by omega) (by omega), if_pos c, decide_eq_false (p := 0 ≤ y ∧ y < nPe H) (by omega), decide_eq_true (p := 10 ≤ y ∧ y < 10 + nMu H) (by omega), Bool.false_or, Bool.true_and]
  · rw [if_neg c]
    unfold sit
    by_cases c2 : 10 ≤ y ∧ y < 10 + nMu H
    · rw [mu_seat hm1 (by omega) (by omega), if_neg c]
    · rw [decide_eq_false c2, Bool.false_and, Bool.false_and]
theorem mu_party {H : Nat → Nat → Int} {row : Nat → Int} {m z p : Int} (hm1 : 0 ≤ m) (hm2 : m < 6) (y : Int) : partyF H (muR row m z p) y = if y = 10 + m then p else partyF H row y := by
  unfold partyF muR upR
  by_cases c : y < 10
  · rw [if_pos c, if_pos c, if_neg (by omega)]
  · rw [if_neg c, if_neg c]
    by_cases c2 : y = 10 + m
    · rw [if_pos c2, if_pos (by omega)]
    · rw [if_neg c2, if_neg (by omega), if_neg (by omega)]
theorem mu_rok {H : Nat → Nat → Int} {row : Nat → Int} {m z p : Int} (hm1 : 0 ≤ m) (hm2 : m < 6) (h1 : -1 ≤ z ∧ z ≤ 8) (h2 : 0 ≤ p ∧ p ≤ 1) (h3 : z = -1 → p = 0) (r : rok H row) : rok H (muR row m z p) := by
  refine ⟨fun j a b => ?_, fun j a b => ?_, ?_⟩
  · by_cases c : j = (13 + m).toNat
    · have e : muR row m z p j = z := by unfold muR upR; rw [if_neg (by omega), if_pos c]
      rw [e]; exact h1
    · have e : muR row m z p j = row j := by unfold muR upR; rw [if_neg (by omega), if_neg c]
      rw [e]; exact r.1 j a b
  · by_cases c : j = (19 + m).toNat
    · have e : muR row m z p j = p := by unfold muR upR; rw [if_pos c]
      have e6 : muR row m z p (j - 6) = z := by unfold muR upR; rw [if_neg (by omega), if_pos (by omega)]
      rw [e, e6]; exact ⟨h2.1, h2.2, h3⟩
    · have e : muR row m z p j = row j := by unfold muR upR; rw [if_neg c, if_neg (by omega)]
      have e6 : muR row m z p (j - 6) = row (j - 6) := by unfold muR upR; rw [if_neg (by omega), if_neg (by omega)]
      rw [e, e6]; exact r.2.1 j a b
  · have e : muR row m z p 2 = row 2 := by unfold muR upR; rw [if_neg (by omega), if_neg (by omega)]
    rw [e]; exact r.2.2
theorem mu_ne {row : Nat → Int} {m z p : Int} (hm1 : 0 ≤ m) {j : Nat} (h : j < 13 ∨ 25 ≤ j) (hm2 : m < 6) : muR row m z p j = row j := by
  unfold muR; rw [up_ne (by omega), up_ne (by omega)]
/-- both have put mute m to z for p in their sittings -/
theorem mu_act {n : Nat} {A B1 A1 C1 : AH} {m z p : Int} (r : REL n A) (hm1 : 0 ≤ m) (hm2 : m < nMu (hv A)) (hz : -1 ≤ z ∧ z ≤ 8) (hp : 0 ≤ p ∧ p ≤ 1) (hzp : z = -1 → p = 0) (e2 : cpS A B1 (80 + 5 * (gi A 78 1).toNat) 68) (e3 : frK (gi A 78 1).toNat A B1) (e4 : gi B1 78 1 = (gi A 78 1 + 1) % 20) (e5 : gi B1 78 2 = min (gi A 78 2 + 1) 20) (a4 : frW 68 B1 A1) (a5 : gi A1 68 7 = gi B1 68 7) (a6 : ∀ j, gi A1 72 j = gi B1 72 j) (k2 : gi C1 190 74 = (gi A1 190 74 + 1) % 20) (k3 : gi C1 190 73 = min (gi A1 190 73 + 1) 20) (k4 : ∀ a i, a ≠ 243 → ¬ (a = 190 ∧ (i = 73 ∨ i = 74)) → gi C1 a i = gi A1 a i) (k5 : ∀ i : Nat, i < 146 → gi C1 243 (146 * ((gi A1 190 74 + 1) % 20).toNat + i) = gi A1 237 i) (k6 : ∀ i : Nat, ¬ (146 * ((gi A1 190 74 + 1) % 20).toNat ≤ i ∧ i < 146 * ((gi A1 190 74 + 1) % 20).toNat + 146) → gi C1 243 i = gi A1 243 i) (k7 : ∀ a i, gr C1 a i = gr A1 a i) (k8 : C1.2.2 = A1.2.2) (sr : SR A1 68 (hv A) (muR (nv A) m z p)) (dk : dok (hv A) (muR (nv A) m z p)) : REL (n + 1) (wi (wi C1 237 (13 + m).toNat z) 237 (19 + m).toNat p) := by
  have hc := r.1.1
  unfold cok at hc
  have p20 := r.2.2.2.2.2.2.2.2.2.1.2.2.1
  have fAA : ∀ a j, ¬ (68 ≤ a ∧ a ≤ 179) → gi A1 a j = gi A a j := fun a j h => by rw [a4.1 a j (by omega), e3.1 a j (by omega) (by omega)]
  have base : ∀ a j, ¬ (68 ≤ a ∧ a ≤ 179) → a ≠ 243 → ¬ (a = 190 ∧ (j = 73 ∨ j = 74)) → gi C1 a j = gi A a j := fun a j h1 h2 h3 => by rw [k4 a j h2 h3, fAA a j h1]
  have nvC1 : nv C1 = nv A := by funext j; exact base 237 j (by omega) (by omega) (by omega)
  refine REL_act (A1 := A1) (C1 := C1) r e2 e3 e4 e5 (fun a j h1 _ _ => a4.1 a j h1) (fun a j _ => a4.2.1 a j) a4.2.2 k2 k3 k4 k5 k6 k7 k8 (fun a i h1 _ _ => by rw [gi_wi, if_neg (by omega), gi_wi, if_neg (by omega)]) (fun _ _ _ => rfl) rfl ?_ ?_
  · rw [nv_up, nv_up, nvC1]
    have cc : ∀ a j, 68 ≤ a → a ≤ 72 → gi (wi (wi C1 237 (13 + m).toNat z) 237 (19 + m).toNat p) a j = gi A1 a j := fun a j h1 h2 => by rw [gi_wi, if_neg (by omega), gi_wi, if_neg (by omega), k4 a j (by omega) (by omega)]
    have sk := r.2.1
    refine ⟨SR_fr (fun a j h1 h2 => cc a j (by omega) (by omega)) sr, KR_up sk.2.1 (by rw [cc 68 7 (by omega) (by omega), a5, e3.1 68 7 (by omega) (by omega)]) (fun j => by rw [cc _ _ (by omega) (by omega), a6, e3.1 _ j (by omega) (by omega)]) (fun j hj => mu_ne hm1 (by omega) (by omega)), mu_rok hm1 (by omega) hz hp hzp sk.2.2.1, dk, ?_, ?_⟩
    · show 0 ≤ muR (nv A) m z p 0 ∧ muR (nv A) m z p 0 ≤ 999
      rw [mu_ne hm1 (by omega) (by omega)]; exact sk.2.2.2.2.1
    · show -99999 ≤ muR (nv A) m z p 1 ∧ muR (nv A) m z p 1 ≤ 99999
      rw [mu_ne hm1 (by omega) (by omega)]; exact sk.2.2.2.2.2
  · rw [gi_wi, if_neg (by omega), gi_wi, if_neg (by omega), gi_wi, if_neg (by omega), gi_wi, if_neg (by omega), base 190 75 (by omega) (by omega) (by omega), base 40 14 (by omega) (by omega) (by omega)]
    exact r.2.2.2.2.2.2.2.1
theorem c_take (d n : Nat) (hn : n ≤ 2000) (m p z : Int) (hm32 : -2147483648 ≤ m) (hm33 : m < 2147483648) (A : AH) (r : REL n A) : CP (d + 5) n 132 260 [vI m, vI p, vI z] A := by
  have g := REL_g r
  have b6 := r.2.2.1
  have b7 := r.2.1.1
  have hc := g.1
  unfold cok at hc
  have hh0 : gr A 40 5 ≠ 0 := by have := b6.1; omega
  have pr := r.2.2.2.2.2.2.2.2.2.1
  have wn := who_num (H := hv A) (row := nv A) z
  by_cases c : (0 ≤ m ∧ m < nMu (hv A)) ∧ sit (hv A) (nv A) (10 + m) = false ∧ (0 ≤ p ∧ p ≤ 1) ∧ (0 ≤ z ∧ z < nSe (hv A)) ∧ whoF (hv A) (nv A) z = -1
  · obtain ⟨c1, c2, c3, c4, c5⟩ := c
    have p20 := pr.2.2.1
    obtain ⟨B1, e1, e2, e3, e4, e5⟩ := s_keepC (d + 2) A pr.2.2.1 pr.1 pr.2.2.2.2.1
    have sB : SR B1 68 (hv A) (nv A) := SR_fr (fun a j h1 h2 => e3.1 a j (by omega) (by omega)) b7
    have ms := fun y => mu_sit g.1 (row := nv A) (z := z) (p := p) c1.1 c1.2 y
    obtain ⟨s1, s2⟩ := SR_put (row' := muR (nv A) m z p) (x := 10 + m) (p := p) (z := z) g.1 sB g.2.2.2.2 (by omega) (by omega) c4.1 c4.2 c2 c5 ⟨mu_ne c1.1 (by omega) (by omega), mu_ne c1.1 (by omega) (by omega), mu_ne c1.1 (by omega) (by omega)⟩ ⟨by rw [ms, if_pos rfl, decide_eq_true (by omega)], by rw [mu_seat c1.1 (by omega) (by omega), if_pos rfl], by rw [mu_party c1.1 (by omega), if_pos rfl]⟩ (fun y hy => ⟨by rw [ms, if_neg hy], fun hs => by
      have := sit_num g.1 hs
      unfold num at this
      exact ⟨by rw [mu_seat c1.1 (by omega) (by omega), if_neg hy], by rw [mu_party c1.1 (by omega), if_neg hy]⟩⟩)
    obtain ⟨A1, hA1⟩ : ∃ A1, A1 = wi (wi (wi B1 (68 + 1) (10 + m).toNat z) (68 + 2) (10 + m).toNat p) (68 + 3) z.toNat (10 + m) := ⟨_, rfl⟩
    have a4 : frW 68 B1 A1 := by rw [hA1]; exact frW_wi _ (by omega) (frW_wi _ (by omega) (frW_wi _ (by omega) (frW_refl 68 B1)))
    rw [← hA1] at s1
    have fAA : ∀ a j, ¬ (68 ≤ a ∧ a ≤ 179) → gi A1 a j = gi A a j := fun a j h => by rw [a4.1 a j (by omega), e3.1 a j (by omega) (by omega)]
    obtain ⟨C1, k1, k2, k3, k4, k5, k6, k7, k8⟩ := s_keepsM (d + 3) A1 (by rw [fAA 190 74 (by omega)]; exact pr.2.2.2.1) (by rw [fAA 190 73 (by omega), pr.2.1]; exact pr.1)
    have hvA1 : hv A1 = hv A := hv_fr (fun a j h1 h2 => fAA a j (by omega))
    have nvA1 : nv A1 = nv A := by funext j; exact fAA 237 j (by omega)
    refine ⟨vI 1, A1, wi (wi C1 237 (13 + m).toNat z) 237 (19 + m).toNat p, ?_, ?_, mu_act r c1.1 c1.2 (by omega) c3 (by omega) e2 e3 e4 e5 a4 (by rw [hA1]; simp -implicitDefEqProofs (disch := omega) only [gi_wi, ↓reduceIte, Int.reduceEq, cI_v, cL_v, cV_v, cR_v, wid, wid64, if_pos, if_neg, Nat.add_zero, if_true, if_false, and_self, and_true, true_and, and_false, false_and, or_true, true_or, or_false, false_or]) (fun j => by rw [hA1]; simp -implicitDefEqProofs (disch := omega) only [gi_wi, ↓reduceIte, Int.reduceEq, cI_v, cL_v, cV_v, cR_v, wid, wid64, if_pos, if_neg, Nat.add_zero, if_true, if_false, and_self, and_true, true_and, and_false, false_and, or_true, true_or, or_false, false_or]) k2 k3 k4 k5 k6 k7 k8 s1 s2⟩
    · rw [r_X11_take, q_X11_take_0, if_neg hh0, s_isMuteC _ _ m A _ b6, cI_v, decide_eq_true c1, bI_t, if_neg (by omega), wid (by omega) (by omega), s_isThere _ 68 _ A _ _ g.1 g.2.2.2.2 b7, c2, bI_f, cI_v, if_pos rfl, s_isSide, cI_v, decide_eq_true c3, bI_t, if_neg (by omega), if_neg hh0, s_isSeatC _ _ z A _ b6, cI_v, decide_eq_true c4, bI_t, if_neg (by omega), s_whoSits _ 68 z A _ _ g.1 g.2.2.2.2 b7, c5, cI_v, if_pos rfl, q_X11_take_65, e1, cV_v, s_putP _ 68 _ _ _ B1 (by omega) (by omega) (by omega) (by omega) (by omega), cV_v, hA1]
    · have ew : whoF (hv A) (nv A) z = -1 := c5
      unfold whoF at ew
      rw [r_X12_take, q_X12_take_0, s_muteMany, cI_v, hvA1, wid (x := nMu (hv A) - 1) (by omega) (by omega), s_isIn, cI_v, decide_eq_true (by omega), bI_t, if_neg (by omega), wid (x := 10 + m) (by omega) (by omega), s_doesSit _ _ A1 (by rw [hvA1]; exact g.1), hvA1, nvA1, c2, bI_f, cI_v, if_pos rfl, s_isIn, cI_v, decide_eq_true c3, bI_t, if_neg (by omega), s_isSeat _ z A1 (by rw [hvA1]; exact g.1), hvA1, cI_v, decide_eq_true c4, bI_t, if_neg (by omega), s_sitterAt _ z A1 (by rw [hvA1]; exact g.1), hvA1, nvA1, ew, cI_v, if_pos rfl, k1, cV_v, wid (x := 13 + m) (by omega) (by omega), if_pos (by omega), q_X12_take_73, wid (x := 19 + m) (by omega) (by omega), if_pos (by omega), q_X12_take_83]
  · have q := r.2.2.2.2.2.2.1 3 (by omega)
    have q3 := q.2.2
    refine CP_ref r 3 (by omega) ?_ ?_
    · have fin : ∀ m' x4, go true 2 (runF (d + 4)) (runN (d + 4)) pb_X11_take (m' + 1) 59 [vR 20 40 0, vI m, vI p, vI z, vI x4] [] A = some (some (vI 0), wi A 189 3 (gi A 189 3 + 1)) := fun m' x4 => by
        rw [q_X11_take_59, s_refuse _ 3 A (by omega) (by omega) q.2.1 (show gi A 189 3 ≤ 100000 by omega), cI_v, if_pos (by omega)]; rfl
      rw [r_X11_take, q_X11_take_0, if_neg hh0, s_isMuteC _ _ m A _ b6, cI_v]
      by_cases c1 : 0 ≤ m ∧ m < nMu (hv A)
      · rw [decide_eq_true c1, bI_t, if_neg (by omega), wid (by omega) (by omega), s_isThere _ 68 _ A _ _ g.1 g.2.2.2.2 b7, cI_v]
        by_cases c2 : sit (hv A) (nv A) (10 + m) = true
        · rw [c2, bI_t, if_neg (by omega)]; exact fin _ _
        · have c2' : sit (hv A) (nv A) (10 + m) = false := by simpa using c2
          rw [c2', bI_f, if_pos rfl, s_isSide, cI_v]
          by_cases c3 : 0 ≤ p ∧ p ≤ 1
          · rw [decide_eq_true c3, bI_t, if_neg (by omega), if_neg hh0, s_isSeatC _ _ z A _ b6, cI_v]
            by_cases c4 : 0 ≤ z ∧ z < nSe (hv A)
            · rw [decide_eq_true c4, bI_t, if_neg (by omega), s_whoSits _ 68 z A _ _ g.1 g.2.2.2.2 b7, cI_v, if_neg (fun c5 => c ⟨c1, c2', c3, c4, c5⟩)]
              exact fin _ _
            · rw [decide_eq_false c4, bI_f, if_pos rfl]; exact fin _ _
          · rw [decide_eq_false c3, bI_f, if_pos rfl]; exact fin _ _
      · rw [decide_eq_false c1, bI_f, if_pos rfl]; exact fin _ _
    · have sr := sc_ref A 3 (gi A 189 3 + 1)
      have e : gi (wi A 189 3 (gi A 189 3 + 1)) 192 3 = gi A 189 3 := by rw [gi_wi, if_neg (by omega)]; exact q.1
      have fin : ∀ m', go true 2 (runF (d + 4)) (runN (d + 4)) pb_X12_take (m' + 1) 54 [vR 21 190 0, vI m, vI p, vI z] [] (wi A 189 3 (gi A 189 3 + 1)) = some (some (vI 0), wi (wi A 189 3 (gi A 189 3 + 1)) 192 3 (gi A 189 3 + 1)) := fun m' => by
        rw [q_X12_take_54, s_refuses _ _ (by rw [e]; omega) (by rw [e]; omega), e, cI_v, if_pos (by omega)]
      rw [r_X12_take, q_X12_take_0, s_muteMany, cI_v, sr.1, wid (x := nMu (hv A) - 1) (by omega) (by omega), s_isIn, cI_v]
      by_cases c1 : 0 ≤ m ∧ m < nMu (hv A)
      · rw [decide_eq_true (by omega), bI_t, if_neg (by omega), wid (x := 10 + m) (by omega) (by omega), s_doesSit _ _ _ (by rw [sr.1]; exact g.1), sr.1, sr.2, cI_v]
        by_cases c2 : sit (hv A) (nv A) (10 + m) = true
        · rw [c2, bI_t, if_neg (by omega)]; exact fin _
        · have c2' : sit (hv A) (nv A) (10 + m) = false := by simpa using c2
          rw [c2', bI_f, if_pos rfl, s_isIn, cI_v]
          by_cases c3 : 0 ≤ p ∧ p ≤ 1
          · rw [decide_eq_true c3, bI_t, if_neg (by omega), s_isSeat _ z _ (by rw [sr.1]; exact g.1), sr.1, cI_v]
            by_cases c4 : 0 ≤ z ∧ z < nSe (hv A)
            · rw [decide_eq_true c4, bI_t, if_neg (by omega), s_sitterAt _ z _ (by rw [sr.1]; exact g.1), sr.1, sr.2, cI_v, if_neg (fun c5 : ff (fun i => sit (hv A) (nv A) i && decide (seatR (nv A) i = z)) 16 0 = -1 => c ⟨c1, c2', c3, c4, c5⟩)]
              exact fin _
            · rw [decide_eq_false c4, bI_f, if_pos rfl]; exact fin _
          · rw [decide_eq_false c3, bI_f, if_pos rfl]; exact fin _
      · rw [decide_eq_false (by omega), bI_f, if_pos rfl]; exact fin _
theorem c_dismiss (d n : Nat) (hn : n ≤ 2000) (m : Int) (hm32 : -2147483648 ≤ m) (hm33 : m < 2147483648) (A : AH) (r : REL n A) : CP (d + 5) n 133 261 [vI m] A := by
  have g := REL_g r
  have b6 := r.2.2.1
  have b7 := r.2.1.1
  have hc := g.1
  unfold cok at hc
  have hh0 : gr A 40 5 ≠ 0 := by have := b6.1; omega
  have pr := r.2.2.2.2.2.2.2.2.2.1
  by_cases c : (0 ≤ m ∧ m < nMu (hv A)) ∧ sit (hv A) (nv A) (10 + m) = true
  · obtain ⟨c1, c2⟩ := c
    have p20 := pr.2.2.1
    have hsx := g.2.2.2.2.1 _ c2
    obtain ⟨B1, e1, e2, e3, e4, e5⟩ := s_keepC (d + 2) A pr.2.2.1 pr.1 pr.2.2.2.2.1
    have sB : SR B1 68 (hv A) (nv A) := SR_fr (fun a j h1 h2 => e3.1 a j (by omega) (by omega)) b7
    have ex := sB.2.2.1 (10 + m) (by omega) (by omega)
    rw [if_pos c2] at ex
    have ms := fun y => mu_sit g.1 (row := nv A) (z := -1) (p := 0) c1.1 c1.2 y
    obtain ⟨s1, s2⟩ := SR_leave (row' := muR (nv A) m (-1) 0) (x := 10 + m) g.1 sB g.2.2.2.2 c2 ⟨mu_ne c1.1 (by omega) (by omega), mu_ne c1.1 (by omega) (by omega), mu_ne c1.1 (by omega) (by omega)⟩ (by rw [ms, if_pos rfl]; rfl) (fun y hy => ⟨by rw [ms, if_neg hy], fun hs => by
      have := sit_num g.1 hs
      unfold num at this
      exact ⟨by rw [mu_seat c1.1 (by omega) (by omega), if_neg hy], by rw [mu_party c1.1 (by omega), if_neg hy]⟩⟩)
    obtain ⟨A1, hA1⟩ : ∃ A1, A1 = wi (wi (wi B1 (68 + 3) (seatR (nv A) (10 + m)).toNat (-1)) (68 + 1) (10 + m).toNat (-1)) (68 + 2) (10 + m).toNat 0 := ⟨_, rfl⟩
    have a4 : frW 68 B1 A1 := by rw [hA1]; exact frW_wi _ (by omega) (frW_wi _ (by omega) (frW_wi _ (by omega) (frW_refl 68 B1)))
    rw [← hA1] at s1
    have fAA : ∀ a j, ¬ (68 ≤ a ∧ a ≤ 179) → gi A1 a j = gi A a j := fun a j h => by rw [a4.1 a j (by omega), e3.1 a j (by omega) (by omega)]
    obtain ⟨C1, k1, k2, k3, k4, k5, k6, k7, k8⟩ := s_keepsM (d + 3) A1 (by rw [fAA 190 74 (by omega)]; exact pr.2.2.2.1) (by rw [fAA 190 73 (by omega), pr.2.1]; exact pr.1)
    have hvA1 : hv A1 = hv A := hv_fr (fun a j h1 h2 => fAA a j (by omega))
    have nvA1 : nv A1 = nv A := by funext j; exact fAA 237 j (by omega)
    refine ⟨vI 1, A1, wi (wi C1 237 (13 + m).toNat (-1)) 237 (19 + m).toNat 0, ?_, ?_, mu_act r c1.1 c1.2 (by omega) (by omega) (fun _ => rfl) e2 e3 e4 e5 a4 (by rw [hA1]; simp -implicitDefEqProofs (disch := omega) only [gi_wi, ↓reduceIte, Int.reduceEq, cI_v, cL_v, cV_v, cR_v, wid, wid64, if_pos, if_neg, Nat.add_zero, if_true, if_false, and_self, and_true, true_and, and_false, false_and, or_true, true_or, or_false, false_or]) (fun j => by rw [hA1]; simp -implicitDefEqProofs (disch := omega) only [gi_wi, ↓reduceIte, Int.reduceEq, cI_v, cL_v, cV_v, cR_v, wid, wid64, if_pos, if_neg, Nat.add_zero, if_true, if_false, and_self, and_true, true_and, and_false, false_and, or_true, true_or, or_false, false_or]) k2 k3 k4 k5 k6 k7 k8 s1 s2⟩
    · rw [r_X11_dismiss, q_X11_dismiss_0, if_neg hh0, s_isMuteC _ _ m A _ b6, cI_v, decide_eq_true c1, bI_t, if_neg (by omega), wid (by omega) (by omega), s_isThere _ 68 _ A _ _ g.1 g.2.2.2.2 b7, c2, bI_t, cI_v, if_neg (by omega), e1, cV_v, s_leave _ 68 _ B1 (by omega) (by omega) (by omega) (by rw [ex]; omega) (by rw [ex]; omega), ex, cV_v, hA1]
    · rw [r_X12_dismiss, q_X12_dismiss_0, s_muteMany, cI_v, hvA1, wid (x := nMu (hv A) - 1) (by omega) (by omega), s_isIn, cI_v, decide_eq_true (by omega), bI_t, if_neg (by omega), wid (x := 10 + m) (by omega) (by omega), s_doesSit _ _ A1 (by rw [hvA1]; exact g.1), hvA1, nvA1, c2, bI_t, cI_v, if_neg (by omega), k1, cV_v, wid (x := 13 + m) (by omega) (by omega), if_pos (by omega), q_X12_dismiss_46, wid (x := 19 + m) (by omega) (by omega), if_pos (by omega), q_X12_dismiss_56]
  · have q := r.2.2.2.2.2.2.1 3 (by omega)
    have q3 := q.2.2
    refine CP_ref r 3 (by omega) ?_ ?_
    · have fin : ∀ m' x4, go true 2 (runF (d + 4)) (runN (d + 4)) pb_X11_dismiss (m' + 1) 27 [vR 20 40 0, vI m, vI x4] [] A = some (some (vI 0), wi A 189 3 (gi A 189 3 + 1)) := fun m' x4 => by
        rw [q_X11_dismiss_27, s_refuse _ 3 A (by omega) (by omega) q.2.1 (show gi A 189 3 ≤ 100000 by omega), cI_v, if_pos (by omega)]; rfl
      rw [r_X11_dismiss, q_X11_dismiss_0, if_neg hh0, s_isMuteC _ _ m A _ b6, cI_v]
      by_cases c1 : 0 ≤ m ∧ m < nMu (hv A)
      · have c2 : sit (hv A) (nv A) (10 + m) = false := by
          by_cases c2 : sit (hv A) (nv A) (10 + m) = true
          · exact absurd ⟨c1, c2⟩ c
          · simpa using c2
        rw [decide_eq_true c1, bI_t, if_neg (by omega), wid (by omega) (by omega), s_isThere _ 68 _ A _ _ g.1 g.2.2.2.2 b7, c2, bI_f, cI_v, if_pos rfl]
        exact fin _ _
      · rw [decide_eq_false c1, bI_f, if_pos rfl]; exact fin _ _
    · have sr := sc_ref A 3 (gi A 189 3 + 1)
      have e : gi (wi A 189 3 (gi A 189 3 + 1)) 192 3 = gi A 189 3 := by rw [gi_wi, if_neg (by omega)]; exact q.1
      have fin : ∀ m', go true 2 (runF (d + 4)) (runN (d + 4)) pb_X12_dismiss (m' + 1) 27 [vR 21 190 0, vI m] [] (wi A 189 3 (gi A 189 3 + 1)) = some (some (vI 0), wi (wi A 189 3 (gi A 189 3 + 1)) 192 3 (gi A 189 3 + 1)) := fun m' => by
        rw [q_X12_dismiss_27, s_refuses _ _ (by rw [e]; omega) (by rw [e]; omega), e, cI_v, if_pos (by omega)]
      rw [r_X12_dismiss, q_X12_dismiss_0, s_muteMany, cI_v, sr.1, wid (x := nMu (hv A) - 1) (by omega) (by omega), s_isIn, cI_v]
      by_cases c1 : 0 ≤ m ∧ m < nMu (hv A)
      · have c2 : sit (hv A) (nv A) (10 + m) = false := by
          by_cases c2 : sit (hv A) (nv A) (10 + m) = true
          · exact absurd ⟨c1, c2⟩ c
          · simpa using c2
        rw [decide_eq_true (by omega), bI_t, if_neg (by omega), wid (x := 10 + m) (by omega) (by omega), s_doesSit _ _ _ (by rw [sr.1]; exact g.1), sr.1, sr.2, c2, bI_f, cI_v, if_pos rfl]
        exact fin _
      · rw [decide_eq_false (by omega), bI_f, if_pos rfl]; exact fin _
set_option maxRecDepth 100000 in
theorem l_undo (d : Nat) (A : AH) (z : Int) (hz : 0 ≤ z ∧ z < 20) : ∀ (j n : Nat) (k : Int) (B : AH), 0 ≤ k → k + j = 146 → gi B 190 74 = z → (∀ a i, a ≠ 237 → gi B a i = gi A a i) → (∀ i : Nat, (i : Int) < k → gi B 237 i = gi A 243 (146 * z.toNat + i)) → (∀ a i, gr B a i = gr A a i) → B.2.2 = A.2.2 → 10 * j + 10 ≤ n → (0 < gi A 190 73 ∧ gi A 190 73 ≤ 20) → ∃ A', go true 2 (runF d) (runN d) pb_X12_undo n 21 [vR 21 190 0, vI k] [] B = some (some (vI 1), A') ∧ gi A' 190 74 = (z + 19) % 20 ∧ gi A' 190 73 = gi A 190 73 - 1 ∧ (∀ a i, a ≠ 237 → ¬ (a = 190 ∧ (i = 73 ∨ i = 74)) → gi A' a i = gi A a i) ∧ (∀ i : Nat, i < 146 → gi A' 237 i = gi A 243 (146 * z.toNat + i)) ∧ (∀ a i, gr A' a i = gr A a i) ∧ A'.2.2 = A.2.2 := by
  intro j
  induction j with
  | zero =>
    intro n k B h1 h2 h3 h4 h5 h7 h8 hn h9
    obtain ⟨n, rfl⟩ : ∃ e, n = e + 10 := ⟨n - 10, by omega⟩
    have q : gi B 190 73 = gi A 190 73 := h4 190 73 (by omega)
    have tm : (z + 20 - 1).tmod 20 = (z + 19) % 20 := by rw [Int.tmod_eq_emod_of_nonneg (by omega)]; omega
    refine ⟨wi (wi B 190 74 ((z + 19) % 20)) 190 73 (gi A 190 73 - 1), ?_, by simp -implicitDefEqProofs (disch := omega) only [gi_wi, ↓reduceIte, Int.reduceEq, cI_v, cL_v, cV_v, cR_v, wid, wid64, if_pos, if_neg, Nat.add_zero, if_true, if_false, and_self, and_true, true_and, and_false, false_and, or_true, true_or, or_false, false_or], by simp -implicitDefEqProofs (disch := omega) only [gi_wi, ↓reduceIte, Int.reduceEq, cI_v, cL_v, cV_v, cR_v, wid, wid64, if_pos, if_neg, Nat.add_zero, if_true, if_false, and_self, and_true, true_and, and_false, false_and, or_true, true_or, or_false, false_or], fun a i g1 g2 => ?_, fun i hi => ?_, h7, h8⟩
    · rw [q_X12_undo_21, if_neg (by omega), h3, wid (x := z + 20) (by omega) (by omega), wid (x := z + 20 - 1) (by omega) (by omega), tm, q_X12_undo_71]
      simp -implicitDefEqProofs (disch := omega) only [gi_wi, q, q_X12_undo_81, ↓reduceIte, Int.reduceEq, cI_v, cL_v, cV_v, cR_v, wid, wid64, if_pos, if_neg, Nat.add_zero, if_true, if_false, and_self, and_true, true_and, and_false, false_and, or_true, true_or, or_false, false_or]
    · simp -implicitDefEqProofs (disch := omega) only [gi_wi, ↓reduceIte, Int.reduceEq, cI_v, cL_v, cV_v, cR_v, wid, wid64, if_pos, if_neg, Nat.add_zero, if_true, if_false, and_self, and_true, true_and, and_false, false_and, or_true, true_or, or_false, false_or]; exact h4 a i g1
    · simp -implicitDefEqProofs (disch := omega) only [gi_wi, ↓reduceIte, Int.reduceEq, cI_v, cL_v, cV_v, cR_v, wid, wid64, if_pos, if_neg, Nat.add_zero, if_true, if_false, and_self, and_true, true_and, and_false, false_and, or_true, true_or, or_false, false_or]; exact h5 i (by omega)
  | succ j ih =>
    intro n k B h1 h2 h3 h4 h5 h7 h8 hn h9
    obtain ⟨n, rfl⟩ : ∃ e, n = e + 10 := ⟨n - 10, by omega⟩
    have q : gi B 243 (146 * z + k).toNat = gi A 243 (146 * z.toNat + k.toNat) := by rw [h4 243 _ (by omega), show (146 * z + k).toNat = 146 * z.toNat + k.toNat by omega]
    obtain ⟨A', u⟩ := ih (n + 8) (k + 1) (wi B 237 k.toNat (gi A 243 (146 * z.toNat + k.toNat))) (by omega) (by omega) (by simp -implicitDefEqProofs (disch := omega) only [gi_wi, ↓reduceIte, Int.reduceEq, cI_v, cL_v, cV_v, cR_v, wid, wid64, if_pos, if_neg, Nat.add_zero, if_true, if_false, and_self, and_true, true_and, and_false, false_and, or_true, true_or, or_false, false_or]; exact h3) (fun a i g1 => by simp -implicitDefEqProofs (disch := omega) only [gi_wi, ↓reduceIte, Int.reduceEq, cI_v, cL_v, cV_v, cR_v, wid, wid64, if_pos, if_neg, Nat.add_zero, if_true, if_false, and_self, and_true, true_and, and_false, false_and, or_true, true_or, or_false, false_or]; exact h4 a i g1) (fun i hi => by
      by_cases c : i = k.toNat
      · subst c
        rw [gi_wi, if_pos (by omega)]
      · rw [gi_wi, if_neg (by omega)]
        exact h5 i (by omega)) h7 h8 (by omega) h9
    refine ⟨A', ?_, u.2⟩
    rw [q_X12_undo_21, if_pos (by omega), h3, wid (x := 146 * z) (by omega) (by omega), wid (x := 146 * z + k) (by omega) (by omega), if_pos (by omega), if_pos (by omega), q, q_X12_undo_49, wid (by omega) (by omega)]
    exact u.1
theorem c_undo (d n : Nat) (hn : n ≤ 2000) (A : AH) (r : REL n A) : CP (d + 4) n 134 251 [] A := by
  have g := REL_g r
  have pr := r.2.2.2.2.2.2.2.2.2.1
  obtain ⟨p1, p2, p3, p4, p5, p6⟩ := pr
  by_cases c : gi A 78 2 = 0
  · have q := r.2.2.2.2.2.2.1 4 (by omega)
    have q3 := q.2.2
    refine CP_ref r 4 (by omega) ?_ ?_
    · rw [r_X11_undo, q_X11_undo_0, r_X6_back, q_X6_back_0 _ _ _ _ _ (by omega), if_pos c, cI_v, if_pos rfl, s_refuse _ 4 A (by omega) (by omega) q.2.1 (show gi A 189 4 ≤ 100000 by omega), cI_v, if_pos rfl]; rfl
    · have e : gi (wi A 189 4 (gi A 189 4 + 1)) 192 4 = gi A 189 4 := by rw [gi_wi, if_neg (by omega)]; exact q.1
      have e2 : gi (wi A 189 4 (gi A 189 4 + 1)) 190 73 = 0 := by rw [gi_wi, if_neg (by omega), p2]; exact c
      rw [r_X12_undo, q_X12_undo_0, e2, if_pos rfl, e, wid (by omega) (by omega), q_X12_undo_17]
  · obtain ⟨p, hp⟩ : ∃ p, p = (gi A 78 1 - 1) % 20 := ⟨_, rfl⟩
    have tm : (gi A 78 1 + 20 - 1).tmod 20 = p := by rw [Int.tmod_eq_emod_of_nonneg (by omega)]; omega
    obtain ⟨B0, hB0⟩ : ∃ B0, B0 = wi (wi A 78 1 p) 78 2 (gi A 78 2 - 1) := ⟨_, rfl⟩
    have g0 : ∀ a j, a ≠ 78 → gi B0 a j = gi A a j := fun a j h => by rw [hB0]; simp -implicitDefEqProofs (disch := omega) only [gi_wi, ↓reduceIte, Int.reduceEq, cI_v, cL_v, cV_v, cR_v, wid, wid64, if_pos, if_neg, Nat.add_zero, if_true, if_false, and_self, and_true, true_and, and_false, false_and, or_true, true_or, or_false, false_or]
    have er : gr B0 79 p.toNat = 80 + 5 * p.toNat := by rw [hB0, gr_wi, gr_wi]; exact p5 _ (by omega)
    obtain ⟨A1, e1, e2, e3⟩ := s_copyP (d + 1) 68 (80 + 5 * p.toNat) B0 (by omega) (by omega) (by omega)
    have fA : ∀ a j, a ≠ 78 → ¬ (68 ≤ a ∧ a ≤ 72) → gi A1 a j = gi A a j := fun a j h1 h2 => by rw [e3.1 a j (by omega), g0 a j h1]
    obtain ⟨A2, u1, u2, u3, u4, u5, u6, u7⟩ := l_undo (d + 3) A1 (gi A 190 74) p4 146 (fu + 198) 0 A1 (by omega) (by omega) (by rw [fA 190 74 (by omega) (by omega)]) (fun _ _ _ => rfl) (fun i hi => by omega) (fun _ _ => rfl) rfl (by have := fu_ge; omega) (by rw [fA 190 73 (by omega) (by omega), p2]; omega)
    refine ⟨vI 1, A1, A2, ?_, ?_, ?_⟩
    · rw [r_X11_undo, q_X11_undo_0, r_X6_back, q_X6_back_0 _ _ _ _ _ (by omega), if_neg c, wid (x := gi A 78 1 + 20) (by omega) (by omega), wid (x := gi A 78 1 + 20 - 1) (by omega) (by omega), tm, q_X6_back_25 _ _ _ _ _ (by omega)]
      have z2 : gi (wi A 78 1 p) 78 2 = gi A 78 2 := by simp -implicitDefEqProofs (disch := omega) only [gi_wi, ↓reduceIte, Int.reduceEq, cI_v, cL_v, cV_v, cR_v, wid, wid64, if_pos, if_neg, Nat.add_zero, if_true, if_false, and_self, and_true, true_and, and_false, false_and, or_true, true_or, or_false, false_or]
      have z1 : gi B0 78 1 = p := by rw [hB0]; simp -implicitDefEqProofs (disch := omega) only [gi_wi, ↓reduceIte, Int.reduceEq, cI_v, cL_v, cV_v, cR_v, wid, wid64, if_pos, if_neg, Nat.add_zero, if_true, if_false, and_self, and_true, true_and, and_false, false_and, or_true, true_or, or_false, false_or]
      rw [z2, wid (by omega) (by omega), ← hB0, q_X6_back_35 _ _ _ _ _ (by omega), z1, if_pos (by omega), er, e1, cV_v, cI_v, if_neg (by omega), q_X11_undo_22]
    · rw [r_X12_undo, q_X12_undo_0, fA 190 73 (by omega) (by omega), p2, if_neg c]
      exact u1
    · have G : ∀ a j, a ≠ 78 → ¬ (68 ≤ a ∧ a ≤ 72) → a ≠ 237 → ¬ (a = 190 ∧ (j = 73 ∨ j = 74)) → gi A2 a j = gi A a j := fun a j h1 h2 h3 h4 => by rw [u4 a j h3 h4, fA a j h1 h2]
      have R : ∀ a j, gr A2 a j = gr A a j := fun a j => by rw [u6, e3.2.1, hB0]; rfl
      have z1 : gi A2 78 1 = p := by rw [u4 78 1 (by omega) (by omega), e3.1 78 1 (by omega), hB0]; simp -implicitDefEqProofs (disch := omega) only [gi_wi, ↓reduceIte, Int.reduceEq, cI_v, cL_v, cV_v, cR_v, wid, wid64, if_pos, if_neg, Nat.add_zero, if_true, if_false, and_self, and_true, true_and, and_false, false_and, or_true, true_or, or_false, false_or]
      have z2 : gi A2 78 2 = gi A 78 2 - 1 := by rw [u4 78 2 (by omega) (by omega), e3.1 78 2 (by omega), hB0]; simp -implicitDefEqProofs (disch := omega) only [gi_wi, ↓reduceIte, Int.reduceEq, cI_v, cL_v, cV_v, cR_v, wid, wid64, if_pos, if_neg, Nat.add_zero, if_true, if_false, and_self, and_true, true_and, and_false, false_and, or_true, true_or, or_false, false_or]
      have eh : hv A2 = hv A := hv_fr (fun a j h1 h2 => G a j (by omega) (by omega) (by omega) (by omega))
      have old := p6 0 (by omega) (by omega)
      rw [show (gi A 78 1 - 1 - 0) % 20 = p by omega, show gi A 190 74 - 0 = gi A 190 74 by omega] at old
      refine REL_mk r (fun a j h => G a j (by omega) (by omega) (by omega) (by omega)) (fun a j _ => R a j) (by rw [u7, e3.2.2, hB0]; rfl) ?_ (TP_fr (fun a j h => G a j (by omega) (by omega) (by omega) (by omega)) r.2.2.2.2.1) ?_ (RF_fr (fun a j h => G a j (by omega) (by omega) (by omega) (by omega)) r.2.2.2.2.2.2.1) ?_ (IM_fr (fun a j h => G a j (by omega) (by omega) (by omega) (by omega)) r.2.2.2.2.2.2.2.2.1) ?_
      · refine SK_row (row := bkR A (gi A 190 74)) g.1 (fun j hj => ?_) ?_
        · have := u5 j hj
          rw [fA 243 _ (by omega) (by omega)] at this
          show gi A2 237 j = _
          rw [this]
          unfold bkR
          rw [show gi A 190 74 % 20 = gi A 190 74 by omega]
        · have b0 : SK n B0 (80 + 5 * p.toNat) (hv A) (bkR A (gi A 190 74)) := SK_fr (by omega) (fun a j h1 h2 => g0 a j (by omega)) old
          have b1 : SK (n + 1) A1 68 (hv A) (bkR A (gi A 190 74)) := ⟨SR_cp (by omega) e2 b0.1, KR_cp e2 (KR_fr (n := n) (n' := n + 1) (by omega) (fun _ _ _ _ => rfl) b0.2.1), b0.2.2⟩
          exact SK_fr (by omega) (fun a j h1 h2 => u4 a j (by omega) (by omega)) b1
      · rw [G 190 7 (by omega) (by omega) (by omega) (by omega), G 190 8 (by omega) (by omega) (by omega) (by omega), G 42 11 (by omega) (by omega) (by omega) (by omega), G 42 12 (by omega) (by omega) (by omega) (by omega)]
        exact r.2.2.2.2.2.1
      · rw [G 190 75 (by omega) (by omega) (by omega) (by omega), G 40 14 (by omega) (by omega) (by omega) (by omega)]
        exact r.2.2.2.2.2.2.2.1
      · unfold PR
        rw [z1, z2, u2, u3, fA 190 73 (by omega) (by omega), p2, eh]
        refine ⟨by omega, rfl, by omega, by omega, fun i hi => by rw [R]; exact p5 i hi, fun i h1 h2 => ?_⟩
        have o := p6 (i + 1) (by omega) (by omega)
        have e1 : (p - 1 - i) % 20 = (gi A 78 1 - 1 - (i + 1)) % 20 := by omega
        have eb : bkR A2 ((gi A 190 74 + 19) % 20 - i) = bkR A (gi A 190 74 - (i + 1)) := by
          funext j
          unfold bkR
          rw [G 243 _ (by omega) (by omega) (by omega) (by omega), show ((gi A 190 74 + 19) % 20 - i) % 20 = (gi A 190 74 - (i + 1)) % 20 by omega]
        rw [e1, eb]
        exact SK_fr (by omega) (fun a j q1 q2 => G a j (by omega) (by omega) (by omega) (by omega)) o
