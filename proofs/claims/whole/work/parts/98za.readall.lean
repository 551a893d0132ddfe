/-! the text of a hall: the class reads it from its beginning -/
/-- the rows that the reference begins to tell a hall with -/
def h0 (A : AH) (a j : Nat) : Int := if a = 224 ∧ 6 ≤ j ∧ j < 12 then 0 else if a = 230 ∧ 16 ≤ j ∧ j < 32 then 0 else if a = 231 ∧ (j = 2 ∨ j = 3) then -1 else if a = 225 ∧ 24 ≤ j ∧ j < 48 then gi A 225 (j - 24) else if a = 226 ∧ 32 ≤ j ∧ j < 64 then gi A 226 (j - 32) else if a = 227 ∧ 12 ≤ j ∧ j < 24 then gi A 227 (j - 12) else if a = 228 ∧ 8 ≤ j ∧ j < 16 then gi A 228 (j - 8) else if a = 229 ∧ 18 ≤ j ∧ j < 36 then gi A 229 (j - 18) else if a = 232 ∧ (j = 2 ∨ j = 3) then gi A 232 (j - 2) else hv A a j
def h1 (A : AH) (v : Int) : Nat → Nat → Int := uH (h0 A) 224 11 v
theorem h1_c (A : AH) (v : Int) : nSe (h1 A v) = v ∧ nPe (h1 A v) = 0 ∧ nMu (h1 A v) = 0 ∧ nPo (h1 A v) = 0 ∧ nNo (h1 A v) = 0 ∧ nHa (h1 A v) = 0 := by
  unfold nSe nPe nMu nPo nNo nHa h1
  refine ⟨by rw [uH_at, if_pos ⟨rfl, rfl⟩], ?_, ?_, ?_, ?_, ?_⟩
  all_goals (rw [uH_at, if_neg (by omega)]; unfold h0; rw [if_pos (by omega)])
theorem h1_230 (A : AH) (v : Int) (j : Nat) (h : 16 ≤ j ∧ j < 32) : h1 A v 230 j = 0 := by
  unfold h1
  rw [uH_at, if_neg (by omega)]; unfold h0; rw [if_neg (by omega), if_pos (by omega)]
theorem h1_231 (A : AH) (v : Int) (j : Nat) (h : j = 2 ∨ j = 3) : h1 A v 231 j = -1 := by
  unfold h1
  rw [uH_at, if_neg (by omega)]; unfold h0; rw [if_neg (by omega), if_neg (by omega), if_pos (by omega)]
theorem PI_h1 {A : AH} (ph : PH A) {v : Int} (hv : 2 ≤ v ∧ v ≤ 9) : PI (h1 A v) 0 := by
  obtain ⟨c1, c2, c3, c4, c5, c6⟩ := h1_c A v
  obtain ⟨p1, p2, p3, p4, p5, p6⟩ := ph
  have o : ∀ a j, a ≠ 224 → h1 A v a j = h0 A a j := fun a j h => by unfold h1; rw [uH_at, if_neg (by omega)]
  refine ⟨?_, ⟨fun j q1 q2 => ?_, fun j q1 => ?_, fun j q1 q2 => ?_, fun j q1 q2 => ?_, fun j q1 q2 => ?_, fun j q1 q2 => ?_, fun j q1 q2 => ?_⟩, ⟨Or.inl (h1_231 A v 2 (by omega)), Or.inl (h1_231 A v 3 (by omega))⟩, ?_, ⟨fun k q1 q2 => by omega, fun k l q1 q2 => by omega⟩, by omega⟩
  · unfold cok; rw [c1, c2, c3, c4, c5, c6]; omega
  · rw [o 226 j (by omega)]; unfold h0
    rw [if_neg (by omega), if_neg (by omega), if_neg (by omega), if_neg (by omega), if_pos (by omega)]; exact p1 _ (by omega)
  · rw [o 226 _ (by omega)]; unfold h0
    rw [if_neg (by omega), if_neg (by omega), if_neg (by omega), if_neg (by omega), if_pos (by omega), show 34 + 4 * j - 32 = 2 + 4 * j by omega]; exact p2 _ (by omega)
  · rw [o 227 j (by omega)]; unfold h0
    rw [if_neg (by omega), if_neg (by omega), if_neg (by omega), if_neg (by omega), if_neg (by omega), if_pos (by omega)]; exact p3 _ (by omega)
  · rw [o 228 j (by omega)]; unfold h0
    rw [if_neg (by omega), if_neg (by omega), if_neg (by omega), if_neg (by omega), if_neg (by omega), if_neg (by omega), if_pos (by omega)]; exact p4 _ (by omega)
  · rw [o 229 j (by omega)]; unfold h0
    rw [if_neg (by omega), if_neg (by omega), if_neg (by omega), if_neg (by omega), if_neg (by omega), if_neg (by omega), if_neg (by omega), if_pos (by omega)]; exact p5 _ (by omega)
  · rw [h1_230 A v j (by omega)]; omega
  · rw [o 225 j (by omega)]; unfold h0
    rw [if_neg (by omega), if_neg (by omega), if_neg (by omega), if_pos (by omega)]; exact p6 _ (by omega)
  · intro w hw h
    exact absurd (h1_231 A v (2 + w) (by omega)) h
theorem HS_h1 {A B : AH} {h : Nat} {v : Int} (h271 : 271 ≤ h) (z : ∀ a j, h ≤ a → a < h + 10 → ¬ (a = h ∧ (j = 0 ∨ j = 1)) → gi B a j = 0) (e1 : gi B h 1 = v) (g16 : gr B h 16 = 0) (g17 : gr B h 17 = 0) (g46 : gr B 46 3 = h) : HS B h (h1 A v) := by
  obtain ⟨c1, c2, c3, c4, c5, c6⟩ := h1_c A v
  refine ⟨⟨by omega, ?_, ?_, ?_, ?_, ?_, ?_, ?_, ?_, ?_, ?_, ?_, ?_, ?_, ?_, ?_⟩, ⟨?_, ?_, ?_, ?_⟩, g46, h271, Or.inl g16, Or.inl g17⟩
  · rw [c1, c2, c3, c4, c5, c6, e1, z h 2 (by omega) (by omega) (by omega), z h 3 (by omega) (by omega) (by omega), z h 4 (by omega) (by omega) (by omega), z h 5 (by omega) (by omega) (by omega), z h 6 (by omega) (by omega) (by omega)]
    exact ⟨rfl, rfl, rfl, rfl, rfl, rfl⟩
  · intro x hx
    unfold exi at hx
    omega
  · intro x q1 q2 q3
    exact z (h + 3) _ (by omega) (by omega) (by omega)
  · intro k q1 q2; omega
  · intro k q1 q2; omega
  · intro k q1 q2; omega
  · intro k q1 q2; omega
  · intro k q1 q2
    rw [z (h + 9) _ (by omega) (by omega) (by omega), h1_230 A v _ (by omega)]
  · intro k q1 q2; omega
  · intro k q1 q2; omega
  · intro k q1 q2; omega
  · rw [g16]; exact Or.inl ⟨h1_231 A v _ (by omega), rfl⟩
  · rw [g17]; exact Or.inl ⟨h1_231 A v _ (by omega), rfl⟩
  · rw [z h 18 (by omega) (by omega) (by omega)]; exact Or.inl rfl
  · intro _ w w1 w2 w3
    exact absurd (h1_231 A v _ (by omega)) w3
  · intro k q1 q2; omega
  · intro k q1 q2; omega
  · intro k q1 q2; omega
  · intro j q1 q2 q3 q4 q5
    exact z (h + 1) _ (by omega) (by omega) (by omega)
noncomputable def hlG (T : Nat → Int) (L : Nat) (A : AH) : HG3 := match tellG T L 0 false 1 2 9 with
  | .error e => .error e
  | .ok (v, _, p1, t1) => match tkS T L p1 t1 59 with
    | .error e => .error e
    | .ok (p2, t2) => rdL T L 60 (h1 A v) 0 1 p2 t2
def frU3 (z : Nat) (A B : AH) : Prop := (∀ a j, a < z → ¬ (a = 42 ∧ 2 ≤ j ∧ j ≤ 12) → a ≠ 44 → a ≠ 45 → a ≠ 47 → gi B a j = gi A a j) ∧ (∀ a j, a < z → ¬ (a = 42 ∧ j = 7) → ¬ (a = 46 ∧ j = 3) → gr B a j = gr A a j) ∧ (∀ a, a < z → ln B a = ln A a)
set_option maxRecDepth 100000 in
theorem s_readC (d : Nat) {T : Nat → Int} {L : Nat} (tx : TX T L) (A A0 : AH) (ph : PH A0) (hz : 271 ≤ sz A) (r : RdS A T L 0 false) : (∀ k s, hlG T L A0 = .error (k, s) → ∃ B, runF (d + 54) 54 [vR 14 46 0] A = some (some (vR 13 0 0), B) ∧ gi B 42 11 = k ∧ gi B 42 12 = s ∧ frU3 (sz A) A B ∧ sz A ≤ sz B ∧ sz B ≤ sz A + 12 ∧ sl B ≤ sl A + 3335) ∧ (∀ H' cd' k', hlG T L A0 = .ok (H', cd', k') → ∃ B, runF (d + 54) 54 [vR 14 46 0] A = some (some (vR 13 (sz A) 0), B) ∧ HS2 B (sz A) H' ∧ PI H' cd' ∧ cd' < L ∧ gi B (sz A) 0 = (k' : Int) ∧ (gi B 42 11 = gi A 42 11 ∧ gi B 42 12 = gi A 42 12) ∧ frU3 (sz A) A B ∧ sz A ≤ sz B ∧ sz B ≤ sz A + 12 ∧ sl B ≤ sl A + 3335) := by
  obtain ⟨⟨z1, z2, z3, z4, z5⟩, z6, z7⟩ := hallNew_sp A
  have hn := hallNew (d + 52) (sz A) (nw A 3 19) (by omega)
  generalize hA1 : wr (hallInit (sz A) (nw A 3 19)) 46 3 (sz A) = A1
  have g1 : ∀ a j, a < sz A → gi A1 a j = gi A a j := fun a j ha => by rw [← hA1, gi_wr]; exact (z3 a j ha).1
  have gr1 : ∀ a j, a < sz A → ¬ (a = 46 ∧ j = 3) → gr A1 a j = gr A a j := fun a j ha h => by rw [← hA1, gr_wr, if_neg h]; exact (z3 a j ha).2
  have l1 : ∀ a, a < sz A → ln A1 a = ln A a := fun a ha => by rw [← hA1, ln_wr]; exact z4 a ha
  have s1 : sz A1 = sz A + 10 := by rw [← hA1, sz_wr]; exact z1
  have sl1 : sl A1 = sl A + 135 := by rw [← hA1, sl_wr]; exact z2
  have r1 : RdS A1 T L 0 false := by
    obtain ⟨⟨t1', t2', t3', t4', t5'⟩, t6', t7', t8', t9', t10', t11'⟩ := r
    unfold RdS
    rw [g1 42 1 (by omega), g1 42 5 (by omega), g1 42 2 (by omega), g1 42 6 (by omega), g1 42 3 (by omega), g1 42 4 (by omega), gr1 42 0 (by omega) (by omega), gr1 42 7 (by omega) (by omega), l1 41 (by omega)]
    exact ⟨⟨t1', t2', t3', fun j => (g1 41 j (by omega)).trans (t4' j), t5'⟩, t6', t7', t8', t9', t10', t11'⟩
  have u1 : ∀ B, frU (sz A) A1 B → frU3 (sz A) A B := fun B f => ⟨fun a j q1 q2 q3 q4 q5 => by rw [f.1 a j q1 q2 q3 q4 q5]; exact g1 a j q1, fun a j q1 q2 q3 => by rw [f.2.1 a j q1 q2]; exact gr1 a j q1 q3, fun a q1 => by rw [f.2.2 a q1]; exact l1 a q1⟩
  have A146 : gr A1 46 3 = sz A := by rw [← hA1, gr_wr, if_pos ⟨rfl, rfl⟩]
  obtain ⟨w1, w2⟩ := s_tells (d + 48) 1 (by decide) 2 9 0 (by decide) A1 r1
  rw [show ((0 : Nat) : Int) = 0 from rfl] at w1 w2
  have e0 : ∀ R, (cI (runF (d + 53) 55 [vR 14 46 0] A1) fun r3 A2 => if r3 = 0 then some (some (vR 13 0 0), A2) else cI (runF (d + 53) 90 [vR 18 42 0, vI 59] A2) fun r5 A4 => if r5 = 0 then some (some (vR 13 0 0), A4) else if gr A4 46 3 = 0 then none else go true 13 (runF (d + 53)) (runN (d + 53)) pb_X4_read (fu + 198) 42 [vR 14 46 0, vI 1] [] (wi A4 (gr A4 46 3) 0 1)) = R → runF (d + 54) 54 [vR 14 46 0] A = R := by
    intro R hR
    rw [r_X4_read, q_X4_read_0, hn, cV_v, hA1]
    exact hR
  unfold hlG
  cases hT : tellG T L 0 false 1 2 9 with
  | error y =>
    obtain ⟨k0, s0⟩ := y
    obtain ⟨D, d1, d2, d3, d4⟩ := w1 k0 s0 hT
    refine ⟨(fun k s q => ?_), (fun H' cd' k' q => by cases q)⟩
    injection q with q; injection q with q1 q2
    subst q1 q2
    have zD : sz D = sz A1 := by unfold sz; rw [d4.2.2]
    have lD : sl D = sl A1 := by unfold sl; rw [d4.2.2]
    refine ⟨D, e0 _ ?_, d2, d3, u1 D (frO_U d4), by omega, by omega, by omega⟩
    rw [r_X4_opening, q_X4_opening_0, d1, cI_v, if_pos rfl, cI_v, if_pos rfl]
  | ok y =>
    obtain ⟨v, pl, p1, t1⟩ := y
    obtain ⟨D, d1, d2, d3, d4, d5, d6, d7⟩ := w2 v pl p1 t1 hT
    have tb := tellG_ok tx (by omega) (by decide) hT
    have D46 : gr D 46 3 = sz A := by rw [d7.2.1 46 3 (by omega)]; exact A146
    have zD : sz D = sz A1 := by unfold sz; rw [d7.2.2]
    have lD : sl D = sl A1 := by unfold sl; rw [d7.2.2]
    have eo : runF (d + 53) 55 [vR 14 46 0] A1 = some (some (vI 1), wi D (sz A) 1 v) := by
      rw [r_X4_opening, q_X4_opening_0, d1, cI_v, if_neg (by omega), D46, if_neg (by omega), d3, q_X4_opening_29]
    have rE : RdS (wi D (sz A) 1 v) T L p1 t1 := RdS_fr (A := D) (fun j => by rw [gi_wi, if_neg (by omega)]) (fun j => by rw [gi_wi, if_neg (by omega)]) (fun _ => rfl) rfl d2
    have uE : frU (sz A) A1 (wi D (sz A) 1 v) := frU_wi _ _ _ (by omega) (frO_U d7)
    have k1 := s_takeSign (d + 50) 59 _ rE (by decide)
    simp only
    cases hS : tkS T L p1 t1 59 with
    | error y =>
      obtain ⟨k0, s0⟩ := y
      rw [hS] at k1
      obtain ⟨C, c1, c2⟩ := k1
      refine ⟨(fun k s q => ?_), (fun H' cd' k' q => by cases q)⟩
      injection q with q; injection q with q1 q2
      subst q1 q2
      have zC : sz C = sz D := by unfold sz; rw [c2.2.2.2.2]; rfl
      have lC : sl C = sl D := by unfold sl; rw [c2.2.2.2.2]; rfl
      refine ⟨C, e0 _ ?_, c2.1, c2.2.1, u1 C (frU_trans uE (frO_U (frF_O c2.2.2))), by omega, by omega, by omega⟩
      rw [eo, cI_v, if_neg (by omega), c1, cI_v, if_pos rfl]
    | ok y =>
      obtain ⟨p2, t2⟩ := y
      rw [hS] at k1
      obtain ⟨C, c1, c2, c3, _⟩ := k1
      have kk := tkS_ok hS
      have x1 := sgn_1 kk.1 (by decide) tx
      have x2 := stp_L (T := T) (L := L) (p := p1) tx tb.2.2.2
      have C46 : gr C 46 3 = sz A := by rw [c3.2.1 46 3 (by omega)]; exact D46
      have zC : sz C = sz D := by unfold sz; rw [c3.2.2]; rfl
      have lC : sl C = sl D := by unfold sl; rw [c3.2.2]; rfl
      have gC : ∀ a j, sz A ≤ a → a < sz A + 10 → ¬ (a = sz A ∧ (j = 0 ∨ j = 1)) → gi (wi C (sz A) 0 1) a j = 0 := fun a j q1 q2 q3 => by
        rw [gi_wi, if_neg (by omega), c3.1 a j (by omega), gi_wi, if_neg (by omega), d7.1 a j (by omega) (by omega), ← hA1, gi_wr]
        exact z5 a j q1 q2
      have hrC : ∀ j, gr (wi C (sz A) 0 1) (sz A) j = gr A1 (sz A) j := fun j => by
        rw [gr_wi, c3.2.1 _ j (by omega), gr_wi, d7.2.1 _ j (by omega)]
      have g16 : gr (wi C (sz A) 0 1) (sz A) 16 = 0 := by rw [hrC, ← hA1, gr_wr, if_neg (by omega)]; exact z6
      have g17 : gr (wi C (sz A) 0 1) (sz A) 17 = 0 := by rw [hrC, ← hA1, gr_wr, if_neg (by omega)]; exact z7
      have e1v : gi (wi C (sz A) 0 1) (sz A) 1 = v := by rw [gi_wi, if_neg (by omega), c3.1 _ _ (by omega), gi_wi, if_pos ⟨rfl, rfl⟩]
      have hs : HS2 (wi C (sz A) 0 1) (sz A) (h1 A0 v) := ⟨HS_h1 hz gC e1v g16 g17 C46, by show sz A + 9 < sz C; omega, by rw [g16]; show 0 < sz C; omega, by rw [g17]; show 0 < sz C; omega⟩
      have rF : RdS (wi C (sz A) 0 1) T L p2 t2 := RdS_fr (A := C) (fun j => by rw [gi_wi, if_neg (by omega)]) (fun j => by rw [gi_wi, if_neg (by omega)]) (fun _ => rfl) rfl c2
      obtain ⟨i1, i2⟩ := l_readC d tx 60 (fu + 198) 1 (h1 A0 v) 0 p2 t2 (wi C (sz A) 0 1) (by omega) (by omega) (by have := fu_ge; omega) ⟨PI_h1 ph ⟨tb.1, tb.2.1⟩, by omega, by omega⟩ hs rF (by rw [gi_wi, if_pos ⟨rfl, rfl⟩]; rfl)
      rw [show ((1 : Nat) : Int) = 1 from rfl] at i1 i2
      have uc2 : uc (h1 A0 v) = 2 := by unfold uc; rw [h1_231 A0 v 2 (by omega), h1_231 A0 v 3 (by omega)]; rfl
      have zW : sz (wi C (sz A) 0 1) = sz A + 10 := by show sz C = _; omega
      have lW : sl (wi C (sz A) 0 1) = sl A + 135 := by show sl C = _; omega
      have uW : frU (sz A) A1 (wi C (sz A) 0 1) := frU_wi _ _ _ (by omega) (frU_trans uE (frR_U c3))
      have e2 : ∀ R, go true 13 (runF (d + 53)) (runN (d + 53)) pb_X4_read (fu + 198) 42 [vR 14 46 0, vI 1] [] (wi C (sz A) 0 1) = R → runF (d + 54) 54 [vR 14 46 0] A = R := by
        intro R hR
        refine e0 _ ?_
        rw [eo, cI_v, if_neg (by omega), c1, cI_v, if_neg (by omega), C46, if_neg (by omega)]
        exact hR
      have f11 : gi (wi C (sz A) 0 1) 42 11 = gi A 42 11 := by rw [gi_wi, if_neg (by omega), c3.1 42 11 (by omega), gi_wi, if_neg (by omega), d6.1, g1 42 11 (by omega)]
      have f12 : gi (wi C (sz A) 0 1) 42 12 = gi A 42 12 := by rw [gi_wi, if_neg (by omega), c3.1 42 12 (by omega), gi_wi, if_neg (by omega), d6.2, g1 42 12 (by omega)]
      refine ⟨(fun k s q => ?_), (fun H' cd' k' q => ?_)⟩
      · obtain ⟨F, f1, f2, f3, f4, f5, f6, f7⟩ := i1 k s q
        exact ⟨F, e2 _ f1, f2, f3, u1 F (frU_trans uW f4), by omega, by omega, by omega⟩
      · obtain ⟨F, f1, f2, f3, f4, f5, f6, f7, f8, f9, f10⟩ := i2 H' cd' k' q
        exact ⟨F, e2 _ f1, f2, f3, f4, f5, ⟨f6.1.trans f11, f6.2.trans f12⟩, u1 F (frU_trans uW f7), by omega, by omega, by omega⟩
