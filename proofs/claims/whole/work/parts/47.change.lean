/-! the call change -/
def swR (row : Nat → Int) (a b : Int) : Nat → Int := upR (upR row (3 + a).toNat (seatR row b)) (3 + b).toNat (seatR row a)
theorem sw_seat {row : Nat → Int} {a b : Int} (ha : 0 ≤ a) (hb : 0 ≤ b) (y : Int) : seatR (swR row a b) y = if y = b then seatR row a else if y = a then seatR row b else seatR row y := by
  unfold swR; rw [seat_up hb, seat_up ha]
theorem sw_sit {H : Nat → Nat → Int} {row : Nat → Int} {a b : Int} (ha : 0 ≤ a) (hb : 0 ≤ b) (h1 : seatR row a ≠ -1) (h2 : seatR row b ≠ -1) (hab : a ≠ b) (y : Int) : sit H (swR row a b) y = sit H row y := by
  unfold swR
  rw [sit_up hb y (fun _ => Or.inl ?_), sit_up ha y (fun _ => Or.inl ⟨fun _ => h2, fun _ => h1⟩)]
  rw [seat_up ha, if_neg (fun q => hab q.symm)]
  exact ⟨fun _ => h1, fun _ => h2⟩
theorem sw_party {H : Nat → Nat → Int} {row : Nat → Int} {a b : Int} (ha : a < 16) (hb : b < 16) (y : Int) : partyF H (swR row a b) y = partyF H row y := by
  unfold swR; rw [party_up (by omega), party_up (by omega)]
theorem sw_rok {H : Nat → Nat → Int} {row : Nat → Int} {a b : Int} (ha : 0 ≤ a ∧ a < 16) (hb : 0 ≤ b ∧ b < 16) (h1 : 0 ≤ seatR row a ∧ seatR row a ≤ 8) (h2 : 0 ≤ seatR row b ∧ seatR row b ≤ 8) (r : rok H row) : rok H (swR row a b) := by
  unfold swR
  exact rok_up hb.1 hb.2 (by omega) (by omega) (rok_up ha.1 ha.2 (by omega) (by omega) r)
theorem sw_lo {row : Nat → Int} {a b : Int} (ha : 0 ≤ a ∧ a < 16) (hb : 0 ≤ b ∧ b < 16) {j : Nat} (hj : j < 3 ∨ 19 ≤ j) : swR row a b j = row j := by
  unfold swR; rw [up_ne (by omega), up_ne (by omega)]
def cvF (p : Int) (H : Nat → Nat → Int) (row : Nat → Int) : Int := if p = 0 then mnF H row (row 0) (row 2) (-1) else -mnF H row (row 0) (row 2) (-1)
theorem cv_bd {p : Int} {H : Nat → Nat → Int} {row : Nat → Int} (hc : cok H) (hh : hok H) : -3196800 ≤ cvF p H row ∧ cvF p H row ≤ 3196800 := by
  have := mn_bd (row := row) hc hh (row 0) (row 2) (-1)
  unfold cvF; split <;> omega
def chI (P : Int → Int → Bool) (f : Int → Int → Int) (a : Int) : Nat → Int → Int → Int → Int × Int
  | 0, _, e, v => (e, v)
  | n + 1, b, e, v => if P a b = true ∧ v < f a b then chI P f a n (b + 1) (a * 16 + b) (f a b) else chI P f a n (b + 1) e v
def chO (P : Int → Int → Bool) (f : Int → Int → Int) : Nat → Int → Int → Int → Int
  | 0, _, e, _ => e
  | n + 1, a, e, v => chO P f n (a + 1) (chI P f a n (a + 1) e v).1 (chI P f a n (a + 1) e v).2
theorem ch_rng {P : Int → Int → Bool} {f : Int → Int → Int} {a : Int} (ha : 0 ≤ a ∧ a < 16) {lo hi : Int} (hf : ∀ x y, P x y = true → lo ≤ f x y ∧ f x y ≤ hi) : ∀ (n : Nat) (b e v : Int), 0 ≤ b → b + n ≤ 16 → -1 ≤ e ∧ e < 256 → lo ≤ v ∧ v ≤ hi → (-1 ≤ (chI P f a n b e v).1 ∧ (chI P f a n b e v).1 < 256) ∧ (lo ≤ (chI P f a n b e v).2 ∧ (chI P f a n b e v).2 ≤ hi)
  | 0, _, _, _, _, _, h1, h2 => ⟨h1, h2⟩
  | n + 1, b, e, v, hb, hb2, h1, h2 => by
    unfold chI
    by_cases c : P a b = true ∧ v < f a b
    · rw [if_pos c]; exact ch_rng ha hf n (b + 1) _ _ (by omega) (by omega) (by omega) (hf a b c.1)
    · rw [if_neg c]; exact ch_rng ha hf n (b + 1) e v (by omega) (by omega) h1 h2
set_option maxRecDepth 100000 in
theorem s_suppose2 (d : Nat) (m' a' q' : Int) (A : AH) {h s : Nat} {H : Nat → Nat → Int} {row : Nat → Int} {m a q : Int} (b : BS A h s H row m a q) (q1 : gi A 180 2 = 0 ∨ (gi A 180 2 = 1 ∧ noMin H)) : ∃ A', runF (d + 1) 2 [vR 10 180 0, vI m', vI a', vI q'] A = some (none, A') ∧ BI A' h s H row m' a' q' ∧ frL A A' := by
  obtain ⟨⟨b1, b2⟩, b3, b6, b7, b8⟩ := b
  have f : frL A (wi (wi (wi (wi A 180 6 m') 180 5 a') 180 4 q') 180 3 0) := ⟨fun c j hc => by simp -implicitDefEqProofs (disch := omega) only [gi_wi, ↓reduceIte, Int.reduceEq, cI_v, cL_v, cV_v, cR_v, wid, wid64, if_pos, if_neg, Nat.add_zero, if_true, if_false, and_self, and_true, true_and, and_false, false_and, or_true, true_or, or_false, false_or], fun _ _ _ => rfl, rfl⟩
  refine ⟨wi (wi (wi (wi A 180 6 m') 180 5 a') 180 4 q') 180 3 0, ?_, ⟨⟨⟨b1, b2⟩, ⟨by simp -implicitDefEqProofs (disch := omega) only [gi_wi, ↓reduceIte, Int.reduceEq, cI_v, cL_v, cV_v, cR_v, wid, wid64, if_pos, if_neg, Nat.add_zero, if_true, if_false, and_self, and_true, true_and, and_false, false_and, or_true, true_or, or_false, false_or], by simp -implicitDefEqProofs (disch := omega) only [gi_wi, ↓reduceIte, Int.reduceEq, cI_v, cL_v, cV_v, cR_v, wid, wid64, if_pos, if_neg, Nat.add_zero, if_true, if_false, and_self, and_true, true_and, and_false, false_and, or_true, true_or, or_false, false_or], by simp -implicitDefEqProofs (disch := omega) only [gi_wi, ↓reduceIte, Int.reduceEq, cI_v, cL_v, cV_v, cR_v, wid, wid64, if_pos, if_neg, Nat.add_zero, if_true, if_false, and_self, and_true, true_and, and_false, false_and, or_true, true_or, or_false, false_or]⟩, HR_sc (frL_sc f) b6, SR_fr (fun c j _ _ => f.1 c j (by omega)) b7, b8⟩, ⟨?_, Or.inl (by simp -implicitDefEqProofs (disch := omega) only [gi_wi, ↓reduceIte, Int.reduceEq, cI_v, cL_v, cV_v, cR_v, wid, wid64, if_pos, if_neg, Nat.add_zero, if_true, if_false, and_self, and_true, true_and, and_false, false_and, or_true, true_or, or_false, false_or])⟩⟩, f⟩
  · rw [r_X0_suppose, q_X0_suppose_0]
    simp -implicitDefEqProofs (disch := omega) only [q_X0_suppose_10, q_X0_suppose_20, ↓reduceIte, Int.reduceEq, cI_v, cL_v, cV_v, cR_v, wid, wid64, if_pos, if_neg, Nat.add_zero, if_true, if_false, and_self, and_true, true_and, and_false, false_and, or_true, true_or, or_false, false_or]
  · simp -implicitDefEqProofs (disch := omega) only [gi_wi, ↓reduceIte, Int.reduceEq, cI_v, cL_v, cV_v, cR_v, wid, wid64, if_pos, if_neg, Nat.add_zero, if_true, if_false, and_self, and_true, true_and, and_false, false_and, or_true, true_or, or_false, false_or]
    exact q1
set_option maxRecDepth 100000 in
theorem s_swingFor (d : Nat) (p : Int) (A : AH) {h : Nat} {H : Nat → Nat → Int} {row : Nat → Int} {m a q : Int} (b : BS A h 73 H row m a q) (q1 : gi A 180 2 = 0 ∨ (gi A 180 2 = 1 ∧ noMin H)) (g : gok H row) (hm : 0 ≤ row 0 ∧ row 0 ≤ 999) : ∃ A', runF (d + 7) 24 [vR 11 185 0, vI p] A = some (some (vI (cvF p H row)), A') ∧ BI A' h 73 H row (row 0) (row 2) (-1) ∧ sc A A' ∧ (∀ a j, 73 ≤ a → a ≤ 77 → gi A' a j = gi A a j) := by
  have ha := g.2.2.2.1.2.2
  have s0 := b.2.2.2.1.2.1
  obtain ⟨A1, e1, b1, f1⟩ := s_suppose2 (d + 5) (row 0) (row 2) (-1) A b q1
  obtain ⟨A2, e2, t2, q2, f2⟩ := s_tally d A1 b1.1 g ha.1 ha.2 hm.1 (by omega) b1.2
  have b2 := BS_frT f2 b1.1
  have e3 := s_meanSwing (d + 4) A2 b2 g t2
  have bd := mn_bd (row := row) g.1 g.2.1 (row 0) (row 2) (-1)
  refine ⟨A2, ?_, ⟨b2, q2⟩, sc_trans (frL_sc f1) (frT_sc f2), fun a j h1 h2 => by rw [f2.1 a j (by omega) (by omega), f1.1 a j (by omega)]⟩
  rw [r_X1_swingFor, q_X1_swingFor_0, s0.1, s0.2.2, e1, cV_v, e2, cV_v, e3, cI_v, cI_v]
  unfold cvF
  by_cases c : p = 0
  · rw [if_pos c, if_pos c]
  · rw [if_neg c, if_neg c, wid (by omega) (by omega)]
def CH (A : AH) (h : Nat) (H : Nat → Nat → Int) (row : Nat → Int) : Prop := BS A h 73 H row (row 0) (row 2) (-1) ∧ (gi A 180 2 = 0 ∨ (gi A 180 2 = 1 ∧ noMin H))
set_option maxRecDepth 100000 in
theorem l_chI (d : Nat) (p : Int) {h s : Nat} {H : Nat → Nat → Int} {row : Nat → Int} (hs : s ≠ 0) (g : gok H row) (hm : 0 ≤ row 0 ∧ row 0 ≤ 999) (a : Int) (ha : 0 ≤ a ∧ a < 16) : ∀ (j n : Nat) (b e v : Int) (u8 u9 : AV) (A : AH), CH A h H row → 0 ≤ b → a < b → b + j = 16 → -1 ≤ e ∧ e < 256 → -3196800 ≤ v ∧ v ≤ 3196800 → 20 * j + 20 ≤ n → ∃ A' n' u8' u9', go true 0 (runF (d + 7)) (runN (d + 7)) pb_X1_changed n 46 [vR 11 185 0, vR 13 h 0, vR 19 s 0, vI p, vI e, vI v, vI a, vI b, u8, u9] [] A = go true 0 (runF (d + 7)) (runN (d + 7)) pb_X1_changed n' 33 [vR 11 185 0, vR 13 h 0, vR 19 s 0, vI p, vI (chI (fun x y => sit H row x && sit H row y) (fun x y => cvF p H (swR row x y)) a j b e v).1, vI (chI (fun x y => sit H row x && sit H row y) (fun x y => cvF p H (swR row x y)) a j b e v).2, vI (a + 1), vI 16, u8', u9'] [] A' ∧ CH A' h H row ∧ sc A A' ∧ n - 20 * j - 5 ≤ n' := by
  have hc := g.1
  have hd := g.2.2.2.2
  unfold cok at hc
  intro j
  induction j with
  | zero =>
    intro n b e v u8 u9 A bi h1 h2 h3 h4 h5 hn
    obtain ⟨n, rfl⟩ : ∃ e, n = e + 2 := ⟨n - 2, by omega⟩
    have hh0 : h ≠ 0 := by have := bi.1.2.2.1.1; omega
    refine ⟨A, n, u8, u9, ?_, bi, sc_refl A, by omega⟩
    rw [q_X1_changed_46 _ _ _ _ _ _ _ _ _ _ _ _ _ hh0 hs, if_neg (by omega), wid (by omega) (by omega), show b = 16 by omega, Nat.add_zero n]; rfl
  | succ j ih =>
    intro n b e v u8 u9 A bi h1 h2 h3 h4 h5 hn
    obtain ⟨n, rfl⟩ : ∃ e, n = e + 20 := ⟨n - 20, by omega⟩
    have hh0 : h ≠ 0 := by have := bi.1.2.2.1.1; omega
    have sA := bi.1.2.2.2.1
    have thA := s_isThere (d + 6) 73 a A H row g.1 hd sA
    have thB := s_isThere (d + 6) 73 b A H row g.1 hd sA
    have skip : ∀ m, ¬ (sit H row a && sit H row b) = true → go true 0 (runF (d + 7)) (runN (d + 7)) pb_X1_changed (m + 1) 157 [vR 11 185 0, vR 13 h 0, vR 19 s 0, vI p, vI e, vI v, vI a, vI b, u8, u9] [] A = go true 0 (runF (d + 7)) (runN (d + 7)) pb_X1_changed m 46 [vR 11 185 0, vR 13 h 0, vR 19 s 0, vI p, vI e, vI v, vI a, vI (b + 1), u8, u9] [] A := fun m _ => by
      rw [q_X1_changed_157 _ _ _ _ _ _ _ _ _ _ _ _ _ hh0 hs, wid (by omega) (by omega), Nat.add_zero m]
    by_cases c : sit H row a = true ∧ sit H row b = true
    · have sa := hd.1 a c.1
      have sb := hd.1 b c.2
      have nab : seatR row a ≠ seatR row b := fun q => by have := hd.2 a b c.1 c.2 q; omega
      have ea := sA.2.2.1 a ha.1 ha.2
      have eb := sA.2.2.1 b h1 (by omega)
      rw [if_pos c.1] at ea
      rw [if_pos c.2] at eb
      have wb := who_is g.1 hd c.2
      have ssit := sw_sit (H := H) (row := row) ha.1 h1 (by omega) (by omega) (by omega : a ≠ b)
      have sst := sw_seat (row := row) ha.1 h1
      obtain ⟨A1, x1, x2, x3, x4, x5, x6⟩ := s_exch (d + 5) (A := A) (s := 73) (row := row) (row' := swR row a b) (x := a) (z := seatR row b) g.1 sA hd c.1 sb.1 sb.2 nab ⟨sw_lo ha ⟨h1, by omega⟩ (by omega), sw_lo ha ⟨h1, by omega⟩ (by omega), sw_lo ha ⟨h1, by omega⟩ (by omega)⟩ ssit (fun y _ => sw_party ha.2 (by omega) y) (by rw [sst, if_neg (by omega), if_pos rfl]) (fun _ => by rw [wb, sst, if_pos rfl]) (fun y y1 y2 _ => by rw [wb] at y2; rw [sst, if_neg y2, if_neg y1])
      have g1 : gok H (swR row a b) := ⟨g.1, g.2.1, g.2.2.1, sw_rok ha ⟨h1, by omega⟩ (by omega) (by omega) g.2.2.2.1, x3⟩
      have r0 : swR row a b 0 = row 0 := sw_lo ha ⟨h1, by omega⟩ (by omega)
      have r2 : swR row a b 2 = row 2 := sw_lo ha ⟨h1, by omega⟩ (by omega)
      have bs1 : BS A1 h 73 H (swR row a b) (row 0) (row 2) (-1) := by
        obtain ⟨⟨b1, b2⟩, ⟨b3, b4, b5⟩, b6, b7, b8⟩ := bi.1
        exact ⟨⟨by rw [x4.2.1]; exact b1, by rw [x4.2.1]; exact b2⟩, ⟨by rw [x4.1 180 6 (by omega)]; exact b3, by rw [x4.1 180 5 (by omega)]; exact b4, by rw [x4.1 180 4 (by omega)]; exact b5⟩, HR_sc (frW_sc x4) b6, x2, b8⟩
      obtain ⟨A2, y1, y2, y3, y4⟩ := s_swingFor d p A1 bs1 (by rw [x4.1 180 2 (by omega)]; exact bi.2) g1 (by rw [r0]; exact hm)
      rw [r0, r2] at y2
      have cvb := cv_bd (p := p) (row := swR row a b) g.1 g.2.1
      have wback : whoF H (swR row a b) (seatR row a) = b := by
        have := who_is g.1 x3 (x := b) (by rw [ssit]; exact c.2)
        rw [sst, if_pos rfl] at this
        exact this
      obtain ⟨A3, z1, z2, z3, z4, z5, z6⟩ := s_exch (d + 5) (A := A2) (s := 73) (row := swR row a b) (row' := row) (x := a) (z := seatR row a) g.1 y2.1.2.2.2.1 x3 (by rw [ssit]; exact c.1) sa.1 sa.2 (by rw [sst, if_neg (by omega), if_pos rfl]; exact fun q => nab q.symm) ⟨r0.symm, (sw_lo ha ⟨h1, by omega⟩ (by omega)).symm, r2.symm⟩ (fun y => (ssit y).symm) (fun y _ => (sw_party ha.2 (by omega) y).symm) rfl (fun _ => by rw [wback, sst, if_neg (by omega), if_pos rfl]) (fun y y1 y2 _ => by rw [wback] at y2; rw [sst, if_neg y2, if_neg y1])
      have bi3 : CH A3 h H row := by
        obtain ⟨⟨b1, b2⟩, ⟨b3, b4, b5⟩, b6, b7, b8⟩ := y2.1
        exact ⟨⟨⟨by rw [z4.2.1]; exact b1, by rw [z4.2.1]; exact b2⟩, ⟨by rw [z4.1 180 6 (by omega)]; exact b3, by rw [z4.1 180 5 (by omega)]; exact b4, by rw [z4.1 180 4 (by omega)]; exact b5⟩, HR_sc (frW_sc z4) b6, z2, b8⟩, by rw [z4.1 180 2 (by omega)]; exact y2.2.1⟩
      have fc := sc_trans (frW_sc x4) (sc_trans y3 (frW_sc z4))
      have pre : go true 0 (runF (d + 7)) (runN (d + 7)) pb_X1_changed (n + 20) 46 [vR 11 185 0, vR 13 h 0, vR 19 s 0, vI p, vI e, vI v, vI a, vI b, u8, u9] [] A = (if v < cvF p H (swR row a b) then go true 0 (runF (d + 7)) (runN (d + 7)) pb_X1_changed (n + 18) 146 [vR 11 185 0, vR 13 h 0, vR 19 s 0, vI p, vI e, vI v, vI a, vI b, vI (seatR row a), vI (cvF p H (swR row a b))] [vI (a * 16 + b)] A3 else go true 0 (runF (d + 7)) (runN (d + 7)) pb_X1_changed (n + 17) 146 [vR 11 185 0, vR 13 h 0, vR 19 s 0, vI p, vI e, vI v, vI a, vI b, vI (seatR row a), vI (cvF p H (swR row a b))] [vI e] A3) := by
        rw [q_X1_changed_46 _ _ _ _ _ _ _ _ _ _ _ _ _ hh0 hs, if_pos (by omega), thA, c.1, bI_t, cI_v, if_neg (by omega), thB, c.2, bI_t, cI_v, if_neg (by omega), if_pos (by omega), if_pos (by omega), ea, eb, x1, cV_v, q_X1_changed_108 _ _ _ _ _ _ _ _ _ _ _ _ _ hh0 hs, y1, cI_v, z1, cV_v, wid (x := a * 16) (by omega) (by omega), wid (x := a * 16 + b) (by omega) (by omega)]
      by_cases c2 : v < cvF p H (swR row a b)
      · obtain ⟨A', n', u8', u9', w1, w2, w3, w4⟩ := ih (n + 16) (b + 1) (a * 16 + b) (cvF p H (swR row a b)) (vI (seatR row a)) (vI (cvF p H (swR row a b))) A3 bi3 (by omega) (by omega) (by omega) (by omega) (by omega) (by omega)
        refine ⟨A', n', u8', u9', ?_, w2, sc_trans fc w3, by omega⟩
        have ce : chI (fun x y => sit H row x && sit H row y) (fun x y => cvF p H (swR row x y)) a (j + 1) b e v = chI (fun x y => sit H row x && sit H row y) (fun x y => cvF p H (swR row x y)) a j (b + 1) (a * 16 + b) (cvF p H (swR row a b)) := by
          rw [chI, if_pos ⟨by rw [c.1, c.2]; rfl, c2⟩]
        rw [pre, if_pos c2, q_X1_changed_146 _ _ _ _ _ _ _ _ _ _ _ _ _ _ hh0 hs, s_maxI, cI_v, Int.max_eq_right (by omega), q_X1_changed_157 _ _ _ _ _ _ _ _ _ _ _ _ _ hh0 hs, wid (by omega) (by omega), ce]
        exact w1
      · obtain ⟨A', n', u8', u9', w1, w2, w3, w4⟩ := ih (n + 15) (b + 1) e v (vI (seatR row a)) (vI (cvF p H (swR row a b))) A3 bi3 (by omega) (by omega) (by omega) h4 h5 (by omega)
        refine ⟨A', n', u8', u9', ?_, w2, sc_trans fc w3, by omega⟩
        have ce : chI (fun x y => sit H row x && sit H row y) (fun x y => cvF p H (swR row x y)) a (j + 1) b e v = chI (fun x y => sit H row x && sit H row y) (fun x y => cvF p H (swR row x y)) a j (b + 1) e v := by
          rw [chI, if_neg (fun q => c2 q.2)]
        rw [pre, if_neg c2, q_X1_changed_146 _ _ _ _ _ _ _ _ _ _ _ _ _ _ hh0 hs, s_maxI, cI_v, Int.max_eq_left (by omega), q_X1_changed_157 _ _ _ _ _ _ _ _ _ _ _ _ _ hh0 hs, wid (by omega) (by omega), ce]
        exact w1
    · have nc : ¬ (sit H row a && sit H row b) = true := by
        rw [Bool.and_eq_true]; exact c
      obtain ⟨A', n', u8', u9', w1, w2, w3, w4⟩ := ih (n + 18) (b + 1) e v u8 u9 A bi (by omega) (by omega) (by omega) h4 h5 (by omega)
      refine ⟨A', n', u8', u9', ?_, w2, w3, by omega⟩
      have ce : chI (fun x y => sit H row x && sit H row y) (fun x y => cvF p H (swR row x y)) a (j + 1) b e v = chI (fun x y => sit H row x && sit H row y) (fun x y => cvF p H (swR row x y)) a j (b + 1) e v := by
        rw [chI, if_neg (fun q => nc q.1)]
      rw [q_X1_changed_46 _ _ _ _ _ _ _ _ _ _ _ _ _ hh0 hs, if_pos (by omega), thA, cI_v, ce]
      by_cases ca : sit H row a = true
      · have cb : sit H row b = false := by
          by_cases cb : sit H row b = true
          · exact absurd ⟨ca, cb⟩ c
          · simpa using cb
        rw [ca, bI_t, if_neg (by omega), thB, cb, bI_f, cI_v, if_pos rfl, skip _ nc]
        exact w1
      · rw [show sit H row a = false by simpa using ca, bI_f, if_pos rfl, skip _ nc]
        exact w1
set_option maxRecDepth 100000 in
theorem l_chO (d : Nat) (p : Int) {h s : Nat} {H : Nat → Nat → Int} {row : Nat → Int} (hs : s ≠ 0) (g : gok H row) (hm : 0 ≤ row 0 ∧ row 0 ≤ 999) : ∀ (j n : Nat) (a e v : Int) (u7 u8 u9 : AV) (A : AH), CH A h H row → 0 ≤ a → a + j = 16 → -1 ≤ e ∧ e < 256 → -3196800 ≤ v ∧ v ≤ 3196800 → 400 * j + 20 ≤ n → ∃ A', go true 0 (runF (d + 7)) (runN (d + 7)) pb_X1_changed n 33 [vR 11 185 0, vR 13 h 0, vR 19 s 0, vI p, vI e, vI v, vI a, u7, u8, u9] [] A = some (some (vI (chO (fun x y => sit H row x && sit H row y) (fun x y => cvF p H (swR row x y)) j a e v)), A') ∧ sc A A' := by
  intro j
  induction j with
  | zero =>
    intro n a e v u7 u8 u9 A bi h1 h2 h3 h4 hn
    obtain ⟨n, rfl⟩ : ∃ e, n = e + 2 := ⟨n - 2, by omega⟩
    have hh0 : h ≠ 0 := by have := bi.1.2.2.1.1; omega
    refine ⟨A, ?_, sc_refl A⟩
    rw [q_X1_changed_33 _ _ _ _ _ _ _ _ _ _ _ _ _ hh0 hs, if_neg (by omega), chO]
  | succ j ih =>
    intro n a e v u7 u8 u9 A bi h1 h2 h3 h4 hn
    obtain ⟨n, rfl⟩ : ∃ e, n = e + 2 := ⟨n - 2, by omega⟩
    have hh0 : h ≠ 0 := by have := bi.1.2.2.1.1; omega
    obtain ⟨A1, n1, u8', u9', w1, w2, w3, w4⟩ := l_chI d p hs g hm a ⟨h1, by omega⟩ j (n + 1) (a + 1) e v u8 u9 A bi (by omega) (by omega) (by omega) h3 h4 (by omega)
    have rng := ch_rng (P := fun x y => sit H row x && sit H row y) (f := fun x y => cvF p H (swR row x y)) (a := a) ⟨h1, by omega⟩ (lo := -3196800) (hi := 3196800) (fun x y _ => cv_bd g.1 g.2.1) j (a + 1) e v (by omega) (by omega) h3 h4
    obtain ⟨A', u1, u2⟩ := ih n1 (a + 1) _ _ (vI 16) u8' u9' A1 w2 (by omega) (by omega) rng.1 rng.2 (by omega)
    refine ⟨A', ?_, sc_trans w3 u2⟩
    rw [q_X1_changed_33 _ _ _ _ _ _ _ _ _ _ _ _ _ hh0 hs, if_pos (by omega), wid (by omega) (by omega), w1, chO]
    exact u1
set_option maxRecDepth 100000 in
theorem s_changes (d : Nat) (a b : Int) (A : AH) (ha : 0 ≤ a ∧ a < 16) (hb : 0 ≤ b ∧ b < 16) : runF (d + 2) 241 [vR 21 190 0, vI a, vI b] A = some (none, wi (wi A 237 (3 + a).toNat (seatR (nv A) b)) 237 (3 + b).toNat (seatR (nv A) a)) := by
  rw [r_X12_changes, q_X12_changes_0, s_seatOf _ a A ha.1 ha.2, cI_v, s_seatOf _ b A hb.1 hb.2, cI_v, wid (by omega) (by omega), if_pos (by omega), q_X12_changes_19, wid (by omega) (by omega), if_pos (by omega), q_X12_changes_28]
theorem nv_sw (A : AH) (a b : Int) : nv (wi (wi A 237 (3 + a).toNat (seatR (nv A) b)) 237 (3 + b).toNat (seatR (nv A) a)) = swR (nv A) a b := by rw [nv_up, nv_up]; rfl
/-- changed and changed back -/
theorem sw_sw {row : Nat → Int} {a b : Int} (ha : 0 ≤ a) (hb : 0 ≤ b) (hab : a ≠ b) : swR (swR row a b) a b = row := by
  funext j
  have s1 := sw_seat (row := row) ha hb a
  have s2 := sw_seat (row := row) ha hb b
  rw [if_neg hab, if_pos rfl] at s1
  rw [if_pos rfl] at s2
  show upR (upR (swR row a b) (3 + a).toNat (seatR (swR row a b) b)) (3 + b).toNat (seatR (swR row a b) a) j = row j
  rw [s1, s2]
  unfold upR
  by_cases c1 : j = (3 + b).toNat
  · rw [if_pos c1, c1]; rfl
  · rw [if_neg c1]
    by_cases c2 : j = (3 + a).toNat
    · rw [if_pos c2, c2]; rfl
    · rw [if_neg c2]
      show upR (upR row (3 + a).toNat (seatR row b)) (3 + b).toNat (seatR row a) j = row j
      unfold upR; rw [if_neg c1, if_neg c2]
theorem mn_sg {p s v : Int} (hp : p = 0 ∨ p = 1) (hs : s = if p = 0 then 1 else -1) : s * v = if p = 0 then v else -v := by
  rcases hp with rfl | rfl
  · rw [hs, if_pos rfl, if_pos rfl, Int.one_mul]
  · rw [hs, if_neg (by omega), if_neg (by omega), Int.neg_one_mul]
def e1F (e : Int) : Int := if e = -1 then -1 else e / 16
def e2F (e : Int) : Int := if e = -1 then -1 else e % 16
set_option maxRecDepth 100000 in
theorem l_cmI (d : Nat) (p w sg : Int) (hp : p = 0 ∨ p = 1) (hsg : sg = if p = 0 then 1 else -1) (A : AH) (g : gok (hv A) (nv A)) (hm : 0 ≤ nv A 0 ∧ nv A 0 ≤ 999) (hq : gi A 190 65 = -1) (a : Int) (ha : 0 ≤ a ∧ a < 16) : ∀ (j n : Nat) (b e v : Int) (u10 u11 : AV) (B : AH), sc A B → 0 ≤ b → a < b → b + j = 16 → -1 ≤ e ∧ e < 256 → -3196800 ≤ v ∧ v ≤ 3196800 → 20 * j + 20 ≤ n → ∃ A' n' u10' u11', go true 0 (runF (d + 7)) (runN (d + 7)) pb_X12_change n 63 [vR 21 190 0, vI p, vI w, vI sg, vL v, vS, vI (e1F e), vI (e2F e), vI a, vI b, u10, u11] [] B = go true 0 (runF (d + 7)) (runN (d + 7)) pb_X12_change n' 50 [vR 21 190 0, vI p, vI w, vI sg, vL (chI (fun x y => sit (hv A) (nv A) x && sit (hv A) (nv A) y) (fun x y => cvF p (hv A) (swR (nv A) x y)) a j b e v).2, vS, vI (e1F (chI (fun x y => sit (hv A) (nv A) x && sit (hv A) (nv A) y) (fun x y => cvF p (hv A) (swR (nv A) x y)) a j b e v).1), vI (e2F (chI (fun x y => sit (hv A) (nv A) x && sit (hv A) (nv A) y) (fun x y => cvF p (hv A) (swR (nv A) x y)) a j b e v).1), vI (a + 1), vI 16, u10', u11'] [] A' ∧ sc A A' ∧ n - 20 * j - 5 ≤ n' := by
  have hc := g.1
  have hd := g.2.2.2.2
  unfold cok at hc
  intro j
  induction j with
  | zero =>
    intro n b e v u10 u11 B f h1 h2 h3 h4 h5 hn
    obtain ⟨n, rfl⟩ : ∃ e, n = e + 3 := ⟨n - 3, by omega⟩
    refine ⟨B, n + 1, u10, u11, ?_, f, by omega⟩
    rw [q_X12_change_63, if_neg (by omega), wid (by omega) (by omega), show b = 16 by omega]; rfl
  | succ j ih =>
    intro n b e v u10 u11 B f h1 h2 h3 h4 h5 hn
    obtain ⟨n, rfl⟩ : ∃ e, n = e + 20 := ⟨n - 20, by omega⟩
    have dsA := s_doesSit (d + 5) a B (sc_f f g.1)
    have dsB := s_doesSit (d + 5) b B (sc_f f g.1)
    rw [sc_hv f, sc_nv f] at dsA dsB
    by_cases c : sit (hv A) (nv A) a = true ∧ sit (hv A) (nv A) b = true
    · have sa := hd.1 a c.1
      have sb := hd.1 b c.2
      have hab : a ≠ b := by omega
      obtain ⟨B1, hB1⟩ : ∃ B1, B1 = wi (wi B 237 (3 + a).toNat (seatR (nv A) b)) 237 (3 + b).toNat (seatR (nv A) a) := ⟨_, rfl⟩
      have c1 := s_changes (d + 5) a b B ha ⟨h1, by omega⟩
      rw [sc_nv f, ← hB1] at c1
      have nB1 : nv B1 = swR (nv A) a b := by
        have := nv_sw B a b
        rw [sc_nv f, ← hB1] at this
        exact this
      have hB1v : hv B1 = hv A := by rw [hB1, hv_wi7, hv_wi7]; exact sc_hv f
      have qB1 : gi B1 190 65 = -1 := by rw [hB1, gi_wi, if_neg (by omega), gi_wi, if_neg (by omega), sc_q f]; exact hq
      have r0 : swR (nv A) a b 0 = nv A 0 := sw_lo ha ⟨h1, by omega⟩ (by omega)
      have r2 : swR (nv A) a b 2 = nv A 2 := sw_lo ha ⟨h1, by omega⟩ (by omega)
      have mB1 : mok B1 := by
        unfold mok
        rw [hB1v, nB1, r0]
        exact ⟨g.1, g.2.1, g.2.2.1, sw_rok ha ⟨h1, by omega⟩ (by omega) (by omega) g.2.2.2.1, hm.1, by omega⟩
      obtain ⟨B2, m1, m2⟩ := s_meanMove d B1 mB1
      rw [hB1v, nB1, qB1] at m1
      have cvb := cv_bd (p := p) (row := swR (nv A) a b) g.1 g.2.1
      have mnb := mn_bd (row := swR (nv A) a b) g.1 g.2.1 (swR (nv A) a b 0) (swR (nv A) a b 2) (-1)
      have esg : sg * mnF (hv A) (swR (nv A) a b) (swR (nv A) a b 0) (swR (nv A) a b 2) (-1) = cvF p (hv A) (swR (nv A) a b) := by
        rw [mn_sg hp hsg]; rfl
      have nB2 : nv B2 = swR (nv A) a b := by rw [scm_nv m2]; exact nB1
      obtain ⟨B3, hB3⟩ : ∃ B3, B3 = wi (wi B2 237 (3 + a).toNat (seatR (nv B2) b)) 237 (3 + b).toNat (seatR (nv B2) a) := ⟨_, rfl⟩
      have c3 := s_changes (d + 5) a b B2 ha ⟨h1, by omega⟩
      rw [← hB3] at c3
      have nB3 : nv B3 = nv A := by rw [hB3, nv_sw, nB2]; exact sw_sw ha.1 h1 hab
      have f3 : sc A B3 := by
        refine ⟨fun x i hx => ?_, fun x i hx => ?_, ?_⟩
        · by_cases cx : x = 237
          · subst cx
            have : nv B3 i = nv A i := by rw [nB3]
            exact this
          · rw [hB3, gi_wi, if_neg (by omega), gi_wi, if_neg (by omega), m2.1 x i (by unfold scr at hx; unfold scrM; omega), hB1, gi_wi, if_neg (by omega), gi_wi, if_neg (by omega)]
            exact f.1 x i hx
        · rw [hB3, gr_wi, gr_wi, m2.2.1 x i hx, hB1, gr_wi, gr_wi]; exact f.2.1 x i hx
        · rw [hB3]
          show B2.2.2 = A.2.2
          rw [m2.2.2, hB1]; exact f.2.2
      have pre : go true 0 (runF (d + 7)) (runN (d + 7)) pb_X12_change (n + 20) 63 [vR 21 190 0, vI p, vI w, vI sg, vL v, vS, vI (e1F e), vI (e2F e), vI a, vI b, u10, u11] [] B = (if v < cvF p (hv A) (swR (nv A) a b) then go true 0 (runF (d + 7)) (runN (d + 7)) pb_X12_change (n + 17) 139 [vR 21 190 0, vI p, vI w, vI sg, vL (cvF p (hv A) (swR (nv A) a b)), vS, vI a, vI b, vI a, vI b, vL (cvF p (hv A) (swR (nv A) a b)), vS] [] B3 else go true 0 (runF (d + 7)) (runN (d + 7)) pb_X12_change (n + 18) 139 [vR 21 190 0, vI p, vI w, vI sg, vL v, vS, vI (e1F e), vI (e2F e), vI a, vI b, vL (cvF p (hv A) (swR (nv A) a b)), vS] [] B3) := by
        rw [q_X12_change_63, if_pos (by omega), dsA, c.1, bI_t, cI_v, if_neg (by omega), dsB, c.2, bI_t, cI_v, if_neg (by omega), c1, cV_v, m1, cL_v, c3, cV_v, esg, wid64 (by omega) (by omega)]
        simp only [lcp_gt]
      by_cases c2 : v < cvF p (hv A) (swR (nv A) a b)
      · obtain ⟨A', n', u10', u11', w1, w2, w3⟩ := ih (n + 16) (b + 1) (a * 16 + b) (cvF p (hv A) (swR (nv A) a b)) (vL (cvF p (hv A) (swR (nv A) a b))) vS B3 f3 (by omega) (by omega) (by omega) (by omega) (by omega) (by omega)
        refine ⟨A', n', u10', u11', ?_, w2, by omega⟩
        have ce : chI (fun x y => sit (hv A) (nv A) x && sit (hv A) (nv A) y) (fun x y => cvF p (hv A) (swR (nv A) x y)) a (j + 1) b e v = chI (fun x y => sit (hv A) (nv A) x && sit (hv A) (nv A) y) (fun x y => cvF p (hv A) (swR (nv A) x y)) a j (b + 1) (a * 16 + b) (cvF p (hv A) (swR (nv A) a b)) := by
          rw [chI, if_pos ⟨by rw [c.1, c.2]; rfl, c2⟩]
        have e1 : e1F (a * 16 + b) = a := by unfold e1F; rw [if_neg (by omega)]; omega
        have e2 : e2F (a * 16 + b) = b := by unfold e2F; rw [if_neg (by omega)]; omega
        rw [e1, e2] at w1
        rw [pre, if_pos c2, q_X12_change_139, wid (by omega) (by omega), ce]
        exact w1
      · obtain ⟨A', n', u10', u11', w1, w2, w3⟩ := ih (n + 17) (b + 1) e v (vL (cvF p (hv A) (swR (nv A) a b))) vS B3 f3 (by omega) (by omega) (by omega) h4 h5 (by omega)
        refine ⟨A', n', u10', u11', ?_, w2, by omega⟩
        have ce : chI (fun x y => sit (hv A) (nv A) x && sit (hv A) (nv A) y) (fun x y => cvF p (hv A) (swR (nv A) x y)) a (j + 1) b e v = chI (fun x y => sit (hv A) (nv A) x && sit (hv A) (nv A) y) (fun x y => cvF p (hv A) (swR (nv A) x y)) a j (b + 1) e v := by
          rw [chI, if_neg (fun q => c2 q.2)]
        rw [pre, if_neg c2, q_X12_change_139, wid (by omega) (by omega), ce]
        exact w1
    · have nc : ¬ (sit (hv A) (nv A) a && sit (hv A) (nv A) b) = true := by
        rw [Bool.and_eq_true]; exact c
      obtain ⟨A', n', u10', u11', w1, w2, w3⟩ := ih (n + 18) (b + 1) e v u10 u11 B f (by omega) (by omega) (by omega) h4 h5 (by omega)
      refine ⟨A', n', u10', u11', ?_, w2, by omega⟩
      have ce : chI (fun x y => sit (hv A) (nv A) x && sit (hv A) (nv A) y) (fun x y => cvF p (hv A) (swR (nv A) x y)) a (j + 1) b e v = chI (fun x y => sit (hv A) (nv A) x && sit (hv A) (nv A) y) (fun x y => cvF p (hv A) (swR (nv A) x y)) a j (b + 1) e v := by
        rw [chI, if_neg (fun q => nc q.1)]
      rw [q_X12_change_63, if_pos (by omega), dsA, cI_v, ce]
      by_cases ca : sit (hv A) (nv A) a = true
      · have cb : sit (hv A) (nv A) b = false := by
          by_cases cb : sit (hv A) (nv A) b = true
          · exact absurd ⟨ca, cb⟩ c
          · simpa using cb
        rw [ca, bI_t, if_neg (by omega), dsB, cb, bI_f, cI_v, if_pos rfl, q_X12_change_139, wid (by omega) (by omega)]
        exact w1
      · rw [show sit (hv A) (nv A) a = false by simpa using ca, bI_f, if_pos rfl, q_X12_change_139, wid (by omega) (by omega)]
        exact w1
set_option maxRecDepth 100000 in
theorem l_cmO (d : Nat) (p w sg : Int) (hp : p = 0 ∨ p = 1) (hsg : sg = if p = 0 then 1 else -1) (A : AH) (g : gok (hv A) (nv A)) (hm : 0 ≤ nv A 0 ∧ nv A 0 ≤ 999) (hq : gi A 190 65 = -1) : ∀ (j n : Nat) (a e v : Int) (u9 u10 u11 : AV) (B : AH), sc A B → 0 ≤ a → a + j = 16 → -1 ≤ e ∧ e < 256 → -3196800 ≤ v ∧ v ≤ 3196800 → 400 * j + 20 ≤ n → ∃ A', go true 0 (runF (d + 7)) (runN (d + 7)) pb_X12_change n 50 [vR 21 190 0, vI p, vI w, vI sg, vL v, vS, vI (e1F e), vI (e2F e), vI a, u9, u10, u11] [] B = some (some (vI (if w = 0 then e1F (chO (fun x y => sit (hv A) (nv A) x && sit (hv A) (nv A) y) (fun x y => cvF p (hv A) (swR (nv A) x y)) j a e v) else e2F (chO (fun x y => sit (hv A) (nv A) x && sit (hv A) (nv A) y) (fun x y => cvF p (hv A) (swR (nv A) x y)) j a e v))), A') ∧ sc A A' := by
  intro j
  induction j with
  | zero =>
    intro n a e v u9 u10 u11 B f h1 h2 h3 h4 hn
    obtain ⟨n, rfl⟩ : ∃ e, n = e + 4 := ⟨n - 4, by omega⟩
    refine ⟨B, ?_, f⟩
    rw [q_X12_change_50, if_neg (by omega), chO]
    by_cases c : w = 0
    · rw [if_pos c, if_pos c]
    · rw [if_neg c, if_neg c]
  | succ j ih =>
    intro n a e v u9 u10 u11 B f h1 h2 h3 h4 hn
    obtain ⟨n, rfl⟩ : ∃ e, n = e + 4 := ⟨n - 4, by omega⟩
    obtain ⟨A1, n1, u10', u11', w1, w2, w3⟩ := l_cmI d p w sg hp hsg A g hm hq a ⟨h1, by omega⟩ j (n + 3) (a + 1) e v u10 u11 B f (by omega) (by omega) (by omega) h3 h4 (by omega)
    have rng := ch_rng (P := fun x y => sit (hv A) (nv A) x && sit (hv A) (nv A) y) (f := fun x y => cvF p (hv A) (swR (nv A) x y)) (a := a) ⟨h1, by omega⟩ (lo := -3196800) (hi := 3196800) (fun x y _ => cv_bd g.1 g.2.1) j (a + 1) e v (by omega) (by omega) h3 h4
    obtain ⟨A', u1, u2⟩ := ih n1 (a + 1) _ _ (vI 16) u10' u11' A1 w2 (by omega) (by omega) rng.1 rng.2 (by omega)
    refine ⟨A', ?_, u2⟩
    rw [q_X12_change_50, if_pos (by omega), wid (by omega) (by omega), w1, chO]
    exact u1
theorem chO_rng {P : Int → Int → Bool} {f : Int → Int → Int} {lo hi : Int} (hf : ∀ x y, P x y = true → lo ≤ f x y ∧ f x y ≤ hi) : ∀ (j : Nat) (a e v : Int), 0 ≤ a → a + j = 16 → -1 ≤ e ∧ e < 256 → lo ≤ v ∧ v ≤ hi → -1 ≤ chO P f j a e v ∧ chO P f j a e v < 256
  | 0, _, _, _, _, _, h, _ => h
  | j + 1, a, e, v, h1, h2, h3, h4 => by
    have rng := ch_rng (P := P) (f := f) (a := a) ⟨h1, by omega⟩ hf j (a + 1) e v (by omega) (by omega) h3 h4
    exact chO_rng hf j (a + 1) _ _ (by omega) (by omega) rng.1 rng.2
theorem c_change (d n : Nat) (p w : Int) (A : AH) (r : REL n A) : CP (d + 9) n 124 242 [vI p, vI w] A := by
  have g := REL_g r
  have b6 := r.2.2.1
  have b7 := r.2.1.1
  have hm := r.2.1.2.2.2.2.1
  have hh0 : gr A 40 5 ≠ 0 := by have := b6.1; omega
  by_cases c : (0 ≤ p ∧ p ≤ 1) ∧ (0 ≤ w ∧ w ≤ 1)
  · obtain ⟨B1, a1, a2, a3⟩ := s_copyP (d + 6) 73 68 A (by omega) (by omega) (by omega)
    have f1 := frW_sc a3
    have s1 : SR B1 73 (hv A) (nv A) := SR_cp (by omega) a2 b7
    have h1 : HR B1 (gr A 40 5) (hv A) := HR_sc f1 b6
    obtain ⟨B2, l1, l2, l3⟩ := s_look (d + 5) (gr A 40 5) 73 B1 h1 s1 (by omega)
    obtain ⟨B3, y1, y2, y3, y4⟩ := s_swingFor d p B2 l2.1 l2.2.1 g hm
    have cvb := cv_bd (p := p) (row := nv A) g.1 g.2.1
    obtain ⟨B4, u1, u2⟩ := l_chO d p (s := 68) (by omega) g hm 16 (fu + 199) 0 (-1) (cvF p (hv A) (nv A)) vU vU vU B3 ⟨y2.1, y2.2.1⟩ (by omega) (by omega) (by omega) cvb (by have := fu_ge; omega)
    obtain ⟨E, hE⟩ : ∃ E, E = chO (fun x y => sit (hv A) (nv A) x && sit (hv A) (nv A) y) (fun x y => cvF p (hv A) (swR (nv A) x y)) 16 0 (-1) (cvF p (hv A) (nv A)) := ⟨_, rfl⟩
    have er := chO_rng (P := fun x y => sit (hv A) (nv A) x && sit (hv A) (nv A) y) (f := fun x y => cvF p (hv A) (swR (nv A) x y)) (lo := -3196800) (hi := 3196800) (fun x y _ => cv_bd g.1 g.2.1) 16 0 (-1) (cvF p (hv A) (nv A)) (by omega) (by omega) (by omega) cvb
    rw [← hE] at u1 er
    refine CP_q r (vI (if w = 0 then e1F E else e2F E)) ⟨B4, ?_, sc_trans f1 (sc_trans (frL_sc l3) (sc_trans y3 u2))⟩ (fun A3 f => ?_)
    · have t1 : E ≠ -1 → E.tdiv 16 = E / 16 := fun q => Int.tdiv_eq_ediv_of_nonneg (by omega)
      have t2 : E ≠ -1 → E.tmod 16 = E % 16 := fun q => Int.tmod_eq_emod_of_nonneg (by omega)
      rw [r_X11_change, q_X11_change_0, s_isSide, cI_v, decide_eq_true c.1, bI_t, if_neg (by omega), if_neg (by omega), if_neg (by omega), r_X1_changed, q_X1_changed_0 _ _ _ _ _ _ _ hh0 (by omega), a1, cV_v, l1, cV_v, y1, cI_v, Nat.add_zero (fu + 199), u1, cI_v]
      unfold e1F e2F
      by_cases ce : E = -1
      · rw [if_pos ce, if_pos ce, if_pos ce]
        by_cases cw : w = 0
        · rw [if_pos cw]
        · rw [if_neg cw]
      · rw [if_neg ce, if_neg ce, if_neg ce]
        by_cases cw : w = 0
        · rw [if_pos cw, if_pos cw, t1 ce, wid (by omega) (by omega)]
        · rw [if_neg cw, if_neg cw, t2 ce]
    · have m3 := mok_sc f (REL_mok r)
      have q3 : gi A3 190 65 = -1 := by rw [sc_q f]; exact r.2.2.2.1
      obtain ⟨A4, m1, m2⟩ := s_meanMove (d + 1) A3 m3
      rw [q3, sc_hv f, sc_nv f] at m1
      have hp : p = 0 ∨ p = 1 := by omega
      have g3 : gok (hv A3) (nv A3) := by rw [sc_hv f, sc_nv f]; exact g
      have hm3 : 0 ≤ nv A3 0 ∧ nv A3 0 ≤ 999 := by rw [sc_nv f]; exact hm
      have mnb := mn_bd (row := nv A) g.1 g.2.1 (nv A 0) (nv A 2) (-1)
      have fin : ∀ sg nn, sg = (if p = 0 then 1 else -1) → 10000 ≤ nn → ∃ A', go true 0 (runF (d + 8)) (runN (d + 8)) pb_X12_change nn 31 [vR 21 190 0, vI p, vI w, vU, vU, vU, vU, vU, vU, vU, vU, vU] [vI sg] A3 = some (some (vI (if w = 0 then e1F E else e2F E)), A') ∧ sc A3 A' := by
        intro sg nn hsg hnn
        obtain ⟨nn, rfl⟩ : ∃ e, nn = e + 1 := ⟨nn - 1, by omega⟩
        obtain ⟨A5, v1, v2⟩ := l_cmO (d + 1) p w sg hp hsg A3 g3 hm3 q3 16 nn 0 (-1) (cvF p (hv A) (nv A)) vU vU vU A4 (scm_sc m2) (by omega) (by omega) (by omega) cvb (by omega)
        refine ⟨A5, ?_, v2⟩
        have esg : sg * mnF (hv A) (nv A) (nv A 0) (nv A 2) (-1) = cvF p (hv A) (nv A) := by rw [mn_sg hp hsg]; rfl
        rw [q_X12_change_31, m1, cL_v, esg, wid64 (by omega) (by omega), Nat.add_zero nn]
        rw [sc_hv f, sc_nv f, ← hE] at v1
        exact v1
      rw [r_X12_change, q_X12_change_0, s_isIn, cI_v, decide_eq_true c.1, bI_t, if_neg (by omega), s_isIn, cI_v, decide_eq_true c.2, bI_t, if_neg (by omega)]
      by_cases cp : p = 0
      · rw [if_pos cp]
        exact fin 1 _ (by rw [if_pos cp]) (by have := fu_ge; omega)
      · rw [if_neg cp]
        exact fin (-1) _ (by rw [if_neg cp]) (by have := fu_ge; omega)
  · refine CP_q r (vI (-1)) ⟨A, ?_, sc_refl A⟩ (fun A1 f => ⟨A1, ?_, sc_refl A1⟩)
    · rw [r_X11_change, q_X11_change_0, s_isSide, cI_v]
      by_cases c1 : 0 ≤ p ∧ p ≤ 1
      · rw [decide_eq_true c1, bI_t, if_neg (by omega)]
        by_cases c2 : w < 0
        · rw [if_pos c2]
        · rw [if_neg c2, if_pos (by omega)]
      · rw [decide_eq_false c1, bI_f, if_pos rfl]
    · rw [r_X12_change, q_X12_change_0, s_isIn, cI_v]
      by_cases c1 : 0 ≤ p ∧ p ≤ 1
      · rw [decide_eq_true c1, bI_t, if_neg (by omega), s_isIn, cI_v, decide_eq_false (by omega), bI_f, if_pos rfl]
      · rw [decide_eq_false c1, bI_f, if_pos rfl]
