/-! the call fell -/
def feC (H : Nat → Nat → Int) (row : Nat → Int) (m a q w : Int) (t : Nat × Nat × Nat) (S : Nat) : Nat × Nat × Nat := if swF H row m a q S = w then (t.1 + 1, t.2.1 &&& S, t.2.2 ||| S) else t
def fiF (x : Int) (t : Nat × Nat × Nat) : Int := if x = 0 then (t.1 : Int) else if x = 2 then (t.2.2 : Int) else if t.1 = 0 then 0 else (t.2.1 : Int)
set_option maxRecDepth 100000 in
theorem l_feC (d h : Nat) {H : Nat → Nat → Int} {row : Nat → Int} {m a q : Int} (w x : Int) (F : Nat) (A : AH) (b : BS A h 68 H row m a q) (g : gok H row) (hT : TR A H row m a q) (hF : ∀ i, F.testBit i = itB H i) : ∀ (j n S : Nat) (t : Nat × Nat × Nat), S + j = 256 → t.1 ≤ S → t.2.1 < 256 → t.2.2 < 256 → 20 * j + 20 ≤ n → go true 0 (runF (d + 2)) (runN (d + 2)) pb_X1_setsBy n 35 [vR 11 185 0, vR 13 h 0, vR 19 68 0, vI w, vI x, vI F, vI t.1, vI t.2.1, vI t.2.2, vI S] [] A = some (some (vI (fiF x (((List.range' S j).filter (okS (itB H) 8)).foldl (feC H row m a q w) t))), A) := by
  have hh0 : h ≠ 0 := by have := b.2.2.1.1; omega
  have n68 : (68 : Nat) ≠ 0 := by omega
  intro j
  induction j with
  | zero =>
    intro n S t h1 h2 h3 h4 hn
    obtain ⟨n, rfl⟩ : ∃ e, n = e + 10 := ⟨n - 10, by omega⟩
    rw [q_X1_setsBy_35 (ha1 := hh0) (ha2 := n68), if_neg (by omega)]
    show _ = some (some (vI (fiF x t)), A)
    unfold fiF
    by_cases c0 : x = 0
    · rw [if_pos c0, if_pos c0]
    · rw [if_neg c0, if_neg c0]
      by_cases c2 : x = 2
      · rw [if_pos c2, if_pos c2]
      · rw [if_neg c2, if_neg c2]
        by_cases c3 : t.1 = 0
        · rw [if_pos c3, if_pos (by omega)]
        · rw [if_neg c3, if_neg (by omega)]
  | succ j ih =>
    intro n S t h1 h2 h3 h4 hn
    obtain ⟨n, rfl⟩ : ∃ e, n = e + 20 := ⟨n - 20, by omega⟩
    have fz : band (S : Int) (bxor F (-1)) = 0 ↔ okS (itB H) 8 S = true := by
      rw [band_free (by omega), okS_sp]
      exact ⟨fun z i hi ht => by rw [← hF]; exact z i hi ht, fun z i hi ht => by rw [hF]; exact z i hi ht⟩
    have nx : ∀ (k : Nat) (t' : Nat × Nat × Nat), n + 5 ≤ k → t'.1 ≤ S + 1 → t'.2.1 < 256 → t'.2.2 < 256 → go true 0 (runF (d + 2)) (runN (d + 2)) pb_X1_setsBy (k + 1) 83 [vR 11 185 0, vR 13 h 0, vR 19 68 0, vI w, vI x, vI F, vI t'.1, vI t'.2.1, vI t'.2.2, vI S] [] A = some (some (vI (fiF x (((List.range' (S + 1) j).filter (okS (itB H) 8)).foldl (feC H row m a q w) t'))), A) := by
      intro k t' hk y1 y2 y3
      rw [q_X1_setsBy_83 (ha1 := hh0) (ha2 := n68), wid (by omega) (by omega), show (S : Int) + 1 = ((S + 1 : Nat) : Int) by omega, Nat.add_zero k]
      exact ih k (S + 1) t' (by omega) y1 y2 y3 (by omega)
    rw [q_X1_setsBy_35 (ha1 := hh0) (ha2 := n68), if_pos (by omega), List.range'_succ, List.filter_cons]
    by_cases c : okS (itB H) 8 S = true
    · rw [if_pos (fz.mpr c), if_pos c, q_X1_setsBy_53 (ha1 := hh0) (ha2 := n68), s_swing _ _ A b g hT (by omega) (by omega), cI_v, List.foldl_cons]
      by_cases c1 : swF H row m a q S = w
      · have ef : feC H row m a q w t S = (t.1 + 1, t.2.1 &&& S, t.2.2 ||| S) := by unfold feC; rw [if_pos c1]
        have l1 : t.2.1 &&& S < 256 := Nat.lt_of_le_of_lt Nat.and_le_left h3
        have l2 : t.2.2 ||| S < 256 := Nat.or_lt_two_pow (n := 8) h4 (by omega)
        rw [if_pos c1, ef, q_X1_setsBy_66 (ha1 := hh0) (ha2 := n68), wid (by omega) (by omega), band_n (by omega) (by omega) (by omega) (by omega), bor_n (by omega) (by omega) (by omega) (by omega), Int.toNat_natCast, Int.toNat_natCast, Int.toNat_natCast]
        exact nx (n + 16) (t.1 + 1, t.2.1 &&& S, t.2.2 ||| S) (by omega) (by show t.1 + 1 ≤ S + 1; omega) l1 l2
      · have ef : feC H row m a q w t S = t := by unfold feC; rw [if_neg c1]
        rw [if_neg c1, ef]
        exact nx (n + 17) t (by omega) (by omega) h3 h4
    · rw [if_neg (fun z => c (fz.mp z)), if_neg c]
      exact nx (n + 18) t (by omega) (by omega) h3 h4
def feM (B A : AH) (w : Int) (pp : Nat → Nat) (t : Nat × Nat × Nat) (s : Nat) : Nat × Nat × Nat := if sm (oth (hv B) (nv B) (nv B 0) (nv B 2) (gi B 190 65)) 16 0 + sm (gMv A s) (cn (itB (hv B)) 16) 0 = w then (t.1 + 1, t.2.1 &&& pp s, t.2.2 ||| pp s) else t
set_option maxRecDepth 100000 in
theorem l_feM (d : Nat) (w x : Int) (hx : 0 ≤ x ∧ x ≤ 2) (B A : AH) (mB : mok B) (h : LI B A 16) (pp : Nat → Nat) (hp : ∀ s : Nat, s < 2 ^ cn (itB (hv B)) 16 → runF (d + 3) 246 [vR 21 190 0, vI s] A = some (some (vI (pp s)), A) ∧ pp s < 256) : ∀ (j n s : Nat) (t : Nat × Nat × Nat), s + j = 2 ^ cn (itB (hv B)) 16 → t.1 ≤ s → t.2.1 < 256 → t.2.2 < 256 → 20 * j + 20 ≤ n → go true 0 (runF (d + 3)) (runN (d + 3)) pb_X12_fell n 36 [vR 21 190 0, vI w, vI x, vI t.1, vI t.2.1, vI t.2.2, vI s] [] A = some (some (vI (fiF x ((List.range' s j).foldl (feM B A w pp) t))), A) := by
  have c8 := cn_id (itB (hv B)) 8
  rw [← cn_16 mB.1] at c8
  have c69 := h.2.2.2.1
  have p8 : 2 ^ cn (itB (hv B)) 16 ≤ 2 ^ 8 := Nat.pow_le_pow_right (by omega) c8
  have esh : bshl 1 (gi A 190 69) = ((2 ^ cn (itB (hv B)) 16 : Nat) : Int) := by rw [c69, bshl_1 (by omega) (by omega), Int.toNat_natCast]
  intro j
  induction j with
  | zero =>
    intro n s t h1 h2 h3 h4 hn
    obtain ⟨n, rfl⟩ : ∃ e, n = e + 10 := ⟨n - 10, by omega⟩
    rw [q_X12_fell_36, esh, if_neg (by omega)]
    show _ = some (some (vI (fiF x t)), A)
    unfold fiF
    by_cases c0 : x = 0
    · rw [if_pos c0, if_pos c0]
    · rw [if_neg c0, if_neg c0]
      by_cases c1 : x = 1
      · rw [if_pos c1, if_neg (c := x = 2) (by omega)]
        by_cases c3 : t.1 = 0
        · rw [if_pos (c := t.1 = 0) c3, if_pos (c := (t.1 : Int) = 0) (by omega)]
        · rw [if_neg (c := t.1 = 0) c3, if_neg (c := (t.1 : Int) = 0) (by omega)]
      · rw [if_neg c1, if_pos (c := x = 2) (by omega)]
  | succ j ih =>
    intro n s t h1 h2 h3 h4 hn
    obtain ⟨n, rfl⟩ : ∃ e, n = e + 20 := ⟨n - 20, by omega⟩
    have nx : ∀ (k : Nat) (t' : Nat × Nat × Nat), n + 5 ≤ k → t'.1 ≤ s + 1 → t'.2.1 < 256 → t'.2.2 < 256 → go true 0 (runF (d + 3)) (runN (d + 3)) pb_X12_fell (k + 1) 85 [vR 21 190 0, vI w, vI x, vI t'.1, vI t'.2.1, vI t'.2.2, vI s] [] A = some (some (vI (fiF x ((List.range' (s + 1) j).foldl (feM B A w pp) t'))), A) := by
      intro k t' hk y1 y2 y3
      rw [q_X12_fell_85, wid (by omega) (by omega), show (s : Int) + 1 = ((s + 1 : Nat) : Int) by omega, Nat.add_zero k]
      exact ih k (s + 1) t' (by omega) y1 y2 y3 (by omega)
    obtain ⟨hp1, hp2⟩ := hp s (by omega)
    rw [q_X12_fell_36, esh, if_pos (by omega), s_moved _ B A mB h s (by omega) (by omega), cI_v, List.range'_succ, List.foldl_cons]
    by_cases c1 : sm (oth (hv B) (nv B) (nv B 0) (nv B 2) (gi B 190 65)) 16 0 + sm (gMv A s) (cn (itB (hv B)) 16) 0 = w
    · have ef : feM B A w pp t s = (t.1 + 1, t.2.1 &&& pp s, t.2.2 ||| pp s) := by unfold feM; rw [if_pos c1]
      have l1 : t.2.1 &&& pp s < 256 := Nat.lt_of_le_of_lt Nat.and_le_left h3
      have l2 : t.2.2 ||| pp s < 256 := Nat.or_lt_two_pow (n := 8) h4 (by omega)
      rw [if_pos c1, hp1, cI_v, hp1, cI_v, ef, wid (by omega) (by omega), band_n (by omega) (by omega) (by omega) (by omega), bor_n (by omega) (by omega) (by omega) (by omega), Int.toNat_natCast, Int.toNat_natCast, Int.toNat_natCast]
      exact nx (n + 17) (t.1 + 1, t.2.1 &&& pp s, t.2.2 ||| pp s) (by omega) (by show t.1 + 1 ≤ s + 1; omega) l1 l2
    · have ef : feM B A w pp t s = t := by unfold feM; rw [if_neg c1]
      rw [if_neg c1, ef]
      exact nx (n + 18) t (by omega) (by omega) h3 h4
theorem c_fell (d n : Nat) (w x : Int) (A : AH) (r : REL n A) : CP (d + 9) n 126 247 [vI w, vI x] A := by
  have g := REL_g r
  have b6 := r.2.2.1
  have b7 := r.2.1.1
  have hm := r.2.1.2.2.2.2.1
  have ha := g.2.2.2.1.2.2
  have hc := g.1
  unfold cok at hc
  have hh0 : gr A 40 5 ≠ 0 := by have := b6.1; omega
  have n68 : (68 : Nat) ≠ 0 := by omega
  by_cases c : 0 ≤ x ∧ x ≤ 2
  · obtain ⟨F, f1, f2, f3⟩ := s_itching (d + 6) (gr A 40 5) g.1 g.2.1 A b6
    obtain ⟨A1, e1, e2, e3⟩ := s_look (d + 5) (gr A 40 5) 68 A b6 b7 (by omega)
    obtain ⟨A2, t1, t2, t3, t4⟩ := s_tally (d + 1) A1 e2.1 g ha.1 ha.2 hm.1 (by omega) e2.2
    have b2 : BS A2 (gr A 40 5) 68 (hv A) (nv A) (nv A 0) (nv A 2) (-1) := BS_frT t4 e2.1
    have u := l_feC (d + 5) (gr A 40 5) w x F A2 b2 g t2 f3 256 (fu + 199) 0 (0, F, 0) (by omega) (by show 0 ≤ 0; omega) f2 (by show 0 < 256; omega) (by have := fu_ge; omega)
    refine CP_q r (vI (fiF x ((prs (itB (hv A)) 8).foldl (fun y p => feC (hv A) (nv A) (nv A 0) (nv A 2) (-1) w y p.2) (0, F, 0)))) ⟨A2, ?_, sc_trans (frL_sc e3) (frT_sc t4)⟩ (fun A3 f => ?_)
    · rw [r_X11_fell, q_X11_fell_0, if_neg (by omega), if_neg (by omega), r_X1_setsBy, q_X1_setsBy_0 (ha1 := hh0) (ha2 := n68), f1, cI_v, e1, cV_v, t1, cV_v, Nat.add_zero (fu + 199)]
      rw [← fold_2 (itB (hv A)) 8 (feC (hv A) (nv A) (nv A 0) (nv A 2) (-1) w) (0, F, 0)]
      rw [show (2 ^ 8 : Nat) = 256 from rfl]
      have u' : go true 0 (runF (d + 7)) (runN (d + 7)) pb_X1_setsBy (fu + 199) 35 [vR 11 185 0, vR 13 (gr A 40 5) 0, vR 19 68 0, vI w, vI x, vI F, vI 0, vI F, vI 0, vI 0] [] A2 = _ := u
      rw [u', cI_v]
    · have m3 := mok_sc f (REL_mok r)
      obtain ⟨A4, l1, l2⟩ := s_laysI (d + 1) A3 m3
      have c8 := cn_id (itB (hv A3)) 8
      have p8 : 2 ^ cn (itB (hv A3)) 8 ≤ 2 ^ 8 := Nat.pow_le_pow_right (by omega) c8
      have ppx : ∀ s, s < 2 ^ cn (itB (hv A3)) 16 → ∃ S, (s, S) ∈ prs (itB (hv A3)) 8 := by
        intro s hs
        rw [cn_16 m3.1] at hs
        have : s ∈ (prs (itB (hv A3)) 8).map Prod.fst := by rw [prs_1]; exact List.mem_range.mpr hs
        obtain ⟨p, hp, e⟩ := List.mem_map.mp this
        exact ⟨p.2, by rw [← e]; exact hp⟩
      have un : ∀ s S S', (s, S) ∈ prs (itB (hv A3)) 8 → (s, S') ∈ prs (itB (hv A3)) 8 → S = S' := by
        intro s S S' q1 q2
        have v1 := s_people (d + 1) m3 l2 q1
        have v2 := s_people (d + 1) m3 l2 q2
        have v3 : some (some (vI (S : Int)), A4) = some (some (vI (S' : Int)), A4) := v1.symm.trans v2
        have v4 : vI (S : Int) = vI (S' : Int) := by injection v3 with v3; injection v3 with v3 _; injection v3
        have v5 : (S : Int) = S' := congrArg (fun z : AV => z.2.1) v4
        omega
      have pex : ∃ pp : Nat → Nat, ∀ s, s < 2 ^ cn (itB (hv A3)) 16 → (s, pp s) ∈ prs (itB (hv A3)) 8 := by
        refine ⟨fun s => if q : s < 2 ^ cn (itB (hv A3)) 16 then Classical.choose (ppx s q) else 0, fun s hs => ?_⟩
        show (s, if q : s < 2 ^ cn (itB (hv A3)) 16 then Classical.choose (ppx s q) else 0) ∈ _
        rw [dif_pos hs]
        exact Classical.choose_spec (ppx s hs)
      obtain ⟨pp, hpp⟩ := pex
      have P0 : 2 ^ (nPe (hv A)).toNat ≤ 2 ^ 8 := Nat.pow_le_pow_right (by omega) (by omega)
      have P1 : 0 < 2 ^ (nPe (hv A)).toNat := Nat.two_pow_pos _
      have v := l_feM (d + 5) w x c A3 A4 m3 l2 pp (fun s hs => by
        have hq := hpp s hs
        have hq2 := s_people (d + 7) m3 l2 hq
        rw [show d + 7 + 1 = d + 5 + 3 by omega] at hq2
        exact ⟨hq2, (prs_3 _ _ _ hq).2.1⟩) (2 ^ cn (itB (hv A3)) 16) (fu + 198) 0 (0, 2 ^ (nPe (hv A)).toNat - 1, 0) (by omega) (by show 0 ≤ 0; omega) (by show 2 ^ (nPe (hv A)).toNat - 1 < 256; omega) (by show 0 < 256; omega) (by
        have := fu_ge
        rw [cn_16 m3.1]
        omega)
      have esh : w32 (bshl 1 (nPe (hv A4)) - 1) = ((2 ^ (nPe (hv A)).toNat - 1 : Nat) : Int) := by
        rw [LI_hv l2, sc_hv f, bshl_1 (by omega) (by omega), wid (by omega) (by omega)]; omega
      have v' : go true 0 (runF (d + 8)) (runN (d + 8)) pb_X12_fell (fu + 198) 36 [vR 21 190 0, vI w, vI x, vI 0, vI ((2 ^ (nPe (hv A)).toNat - 1 : Nat) : Int), vI 0, vI 0] [] A4 = _ := v
      refine ⟨A4, ?_, LI_sc l2⟩
      rw [r_X12_fell, q_X12_fell_0, s_isIn, cI_v, decide_eq_true c, bI_t, if_neg (by omega), l1, cV_v, s_peopleMany, cI_v, esh, Nat.add_zero (fu + 198), v']
      have e3h : hv A = hv A3 := (sc_hv f).symm
      have e3n : nv A = nv A3 := (sc_nv f).symm
      have e3q : (-1 : Int) = gi A3 190 65 := by rw [sc_q f]; exact r.2.2.2.1.symm
      have rel := fold_rel (fun (t t' : Nat × Nat × Nat) => t.1 = t'.1 ∧ t.2.2 = t'.2.2 ∧ ((t.1 = 0 ∧ t.2.1 = F ∧ t'.2.1 = 2 ^ (nPe (hv A)).toNat - 1) ∨ (t.1 ≠ 0 ∧ t.2.1 = t'.2.1))) (fun y p => feC (hv A) (nv A) (nv A 0) (nv A 2) (-1) w y p.2) (fun y p => feM A3 A4 w pp y p.1) (prs (itB (hv A3)) 8) (0, F, 0) (0, 2 ^ (nPe (hv A)).toNat - 1, 0) (fun p hp t t' ht => by
        have pm1 := pr_moved m3 l2 hp
        obtain ⟨q1, q2, q3⟩ := prs_3 _ _ p hp
        have ep : pp p.1 = p.2 := un p.1 _ _ (hpp p.1 (by rw [cn_16 m3.1]; exact q1)) hp
        obtain ⟨z1, z2, z3⟩ := ht
        unfold feC feM
        rw [pm1, ep, e3h, e3n, e3q]
        by_cases z : swF (hv A3) (nv A3) (nv A3 0) (nv A3 2) (gi A3 190 65) p.2 = w
        · rw [if_pos z, if_pos z]
          refine ⟨by show t.1 + 1 = t'.1 + 1; omega, by show t.2.2 ||| p.2 = t'.2.2 ||| p.2; rw [z2], Or.inr ⟨by show t.1 + 1 ≠ 0; omega, ?_⟩⟩
          show t.2.1 &&& p.2 = t'.2.1 &&& p.2
          rcases z3 with ⟨_, y1, y2⟩ | ⟨_, y1⟩
          · rw [y1, y2]
            apply Nat.eq_of_testBit_eq
            intro i
            rw [Nat.testBit_and, Nat.testBit_and, f3 i, Nat.testBit_two_pow_sub_one]
            by_cases ci : i < 8
            · rw [q3 i ci, e3h]
              cases q : itB (hv A3) i
              · simp
              · have := (itB_lt m3.1 q).2.1
                rw [decide_eq_true (p := i < (nPe (hv A3)).toNat) (by omega)]
            · rw [Nat.testBit_lt_two_pow (Nat.lt_of_lt_of_le q2 (Nat.pow_le_pow_right (by omega) (by omega)))]; simp
          · rw [y1]
        · rw [if_neg z, if_neg z]
          exact ⟨z1, z2, by rw [← e3h]; exact z3⟩) ⟨rfl, rfl, Or.inl ⟨rfl, rfl, rfl⟩⟩
      rw [cn_16 m3.1, fold_1 (itB (hv A3)) 8, e3h]
      rw [e3h] at rel
      obtain ⟨z1, z2, z3⟩ := rel
      unfold fiF
      rw [← z1, ← z2]
      by_cases c0 : x = 0
      · rw [if_pos c0, if_pos c0]
      · rw [if_neg c0, if_neg c0]
        by_cases c2 : x = 2
        · rw [if_pos c2, if_pos c2]
        · rw [if_neg c2, if_neg c2]
          rcases z3 with ⟨y0, _, _⟩ | ⟨y0, y1⟩
          · rw [if_pos y0, if_pos y0]
          · rw [if_neg y0, if_neg y0, y1]
  · refine CP_q r (vI (-1)) ⟨A, ?_, sc_refl A⟩ (fun A1 f => ⟨A1, ?_, sc_refl A1⟩)
    · rw [r_X11_fell, q_X11_fell_0]
      by_cases c1 : x < 0
      · rw [if_pos c1]
      · rw [if_neg c1, if_pos (by omega)]
    · rw [r_X12_fell, q_X12_fell_0, s_isIn, cI_v, decide_eq_false c, bI_f, if_pos rfl]
