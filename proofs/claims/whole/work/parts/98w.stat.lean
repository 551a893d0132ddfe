/-! the text of a hall: the class reads a statement -/
abbrev HG2 : Type := Except (Int × Int) ((Nat → Nat → Int) × Nat × Nat × Bool)
def worG (T : Nat → Int) (L : Nat) (H : Nat → Nat → Int) (cd w p : Nat) : HG2 := if H 231 (2 + w) ≠ -1 then .error (5, bl T L p) else match sumG T L (partG T L false 6) (stp T L p) true with
  | .error e => .error e
  | .ok (cs, p1, t1) => .ok (worH H cd w cs, cd + cs.length, p1, t1)
def lift2 (cd : Nat) (e : HG) : HG2 := match e with
  | .error e => .error e
  | .ok (H', p', t') => .ok (H', cd, p', t')
noncomputable def stG (T : Nat → Int) (L : Nat) (H : Nat → Nat → Int) (cd p : Nat) (t : Bool) : HG2 :=
  if wrd T L p t = 2 then (if nPe H < 8 then lift2 cd (persG T L H (stp T L p) true) else .error (5, bl T L p))
  else if wrd T L p t = 10 then (if nHa H < 12 then lift2 cd (hatG T L H (stp T L p) true) else .error (5, bl T L p))
  else if wrd T L p t = 11 then (if nPo H < 4 then lift2 cd (pntG T L H (stp T L p) true) else .error (5, bl T L p))
  else if wrd T L p t = 12 then (if nNo H < 6 then lift2 cd (noiG T L H (stp T L p) true) else .error (5, bl T L p))
  else if wrd T L p t = 15 then (if nMu H < 6 then lift2 cd (mutG T L H (stp T L p) true) else .error (5, bl T L p))
  else if wrd T L p t = 17 then worG T L H cd 0 p
  else if wrd T L p t = 18 then worG T L H cd 1 p
  else .error (1, bl T L p)
def uc (H : Nat → Nat → Int) : Nat := (if H 231 2 = -1 then 1 else 0) + (if H 231 3 = -1 then 1 else 0)
def HS2 (A : AH) (h : Nat) (H : Nat → Nat → Int) : Prop := HS A h H ∧ h + 9 < sz A ∧ gr A h 16 < sz A ∧ gr A h 17 < sz A
def SC2 (T : Nat → Int) (L h : Nat) (A : AH) (H : Nat → Nat → Int) (x : RS) (e : HG2) : Prop := (∀ k s, e = .error (k, s) → ∃ B, x = some (some (vI 0), B) ∧ gi B 42 11 = k ∧ gi B 42 12 = s ∧ frU h A B ∧ B.2.2 = A.2.2) ∧ (∀ H' cd' p' t', e = .ok (H', cd', p', t') → ∃ B, x = some (some (vI 1), B) ∧ RdS B T L p' t' ∧ HS2 B h H' ∧ (gi B 42 11 = gi A 42 11 ∧ gi B 42 12 = gi A 42 12) ∧ gi B h 0 = gi A h 0 ∧ frU h A B ∧ sz B + uc H' = sz A + uc H ∧ sl B + 1600 * uc H' ≤ sl A + 1600 * uc H ∧ sz A ≤ sz B)
set_option maxRecDepth 100000 in
theorem s_worthC (d : Nat) {T : Nat → Int} {L p : Nat} {t : Bool} {h : Nat} {H : Nat → Nat → Int} (tx : TX T L) (A : AH) (cd w : Nat) (hw : w ≤ 1) (s : HS2 A h H) (ck : CDK H cd) (hcd : cd < p) (r : RdS A T L p t) (h1 : wrd T L p t ≠ 0) : SC2 T L h A H (runF (d + 52) 66 [vR 14 46 0, vI (((1 - w : Nat)) : Int)] A) (worG T L H cd w p) := by
  obtain ⟨s0, s7, s8, s9⟩ := s
  have h271 := s0.2.2.2.1
  have h46 := s0.2.2.1
  have hp := r.1.2.2.2.2.2
  have tL := tx.1
  have kn := wrd_k h1
  have b' := wrd_1 h1 tx
  have sL := stp_L tx hp
  have hWR : WR A (gr A h (16 + w)) H w := by
    rcases (show w = 0 ∨ w = 1 by omega) with rfl | rfl
    · exact s0.1.2.2.2.2.2.2.2.2.2.2.2.2.1
    · exact s0.1.2.2.2.2.2.2.2.2.2.2.2.2.2.1
  unfold WR at hWR
  rw [show ((2 : Int) + (w : Int)).toNat = 2 + w by omega] at hWR
  have e21 : ∃ n, 100 ≤ n ∧ runF (d + 52) 66 [vR 14 46 0, vI (((1 - w : Nat)) : Int)] A = go true 2 (runF (d + 51)) (runN (d + 51)) pb_X4_worth n 21 [vR 14 46 0, vI (((1 - w : Nat)) : Int), vU] [vR 30 (gr A h (16 + w)) (ln A (gr A h (16 + w)))] A := by
    rw [r_X4_worth, q_X4_worth_0, h46]
    rcases (show w = 0 ∨ w = 1 by omega) with rfl | rfl
    · rw [if_neg (by decide), if_neg (by omega)]
      exact ⟨fu + 199, by have := fu_ge; omega, rfl⟩
    · rw [if_pos (by decide), if_neg (by omega)]
      exact ⟨fu + 198, by have := fu_ge; omega, rfl⟩
  obtain ⟨n, hn, e21⟩ := e21
  obtain ⟨n, rfl⟩ : ∃ e, n = e + 50 := ⟨n - 50, by omega⟩
  unfold worG
  by_cases c : H 231 (2 + w) ≠ -1
  · rw [if_pos c]
    have hne : gr A h (16 + w) ≠ 0 := by omega
    obtain ⟨B, b1, b2⟩ := (s_begins (d + 48) 1 1 A r).2 (by omega)
    refine ⟨(fun k l q => ?_), (fun H' cd' p' t' q => by cases q)⟩
    injection q with q; injection q with q1 q2
    subst q1 q2
    refine ⟨B, ?_, b2.1, b2.2.1, frO_U (frF_O b2.2.2), b2.2.2.2.2⟩
    rw [e21, q_X4_worth_21 (hsa0 := hne), if_neg hne, q_X4_worth_32 (ha2 := hne), b1, cI_v, if_pos rfl]
  · rw [if_neg c]
    have hz : gr A h (16 + w) = 0 := by omega
    rw [hz] at e21
    obtain ⟨B, b1, b2, b3⟩ := (s_begins (d + 48) 0 1 A r).1 (by omega)
    rw [show tk T L p t = true by unfold tk; rw [kn]; decide] at b2
    obtain ⟨g1, g2⟩ := s_readSum (d + 2) tx false B b2
    have eb : runF (d + 51) 33 [vR 12 44 0, vI 0] B = some (none, bgA false B) := s_begSum (d + 2) false B
    have e32 : ∀ R, (cI (runF (d + 51) 37 [vR 12 44 0, vI 3, vI 0] (bgA false B)) fun r4 A3 => if r4 = 0 then some (some (vI 0), A3) else if gr A3 46 3 = 0 then none else if gi A3 (gr A3 46 3) 18 = 0 then (if gi A3 44 2 = 0 then go true 2 (runF (d + 51)) (runN (d + 51)) pb_X4_worth (n + 45) 92 [vR 14 46 0, vI (((1 - w : Nat)) : Int), vR 30 0 (ln A 0)] [vI 0, vR 13 (gr A3 46 3) 0] A3 else go true 2 (runF (d + 51)) (runN (d + 51)) pb_X4_worth (n + 46) 87 [vR 14 46 0, vI (((1 - w : Nat)) : Int), vR 30 0 (ln A 0)] [vR 13 (gr A3 46 3) 0] A3) else go true 2 (runF (d + 51)) (runN (d + 51)) pb_X4_worth (n + 46) 87 [vR 14 46 0, vI (((1 - w : Nat)) : Int), vR 30 0 (ln A 0)] [vR 13 (gr A3 46 3) 0] A3) = R → runF (d + 52) 66 [vR 14 46 0, vI (((1 - w : Nat)) : Int)] A = R := by
      intro R hR
      rw [e21, qz_worth_21, qz_worth_32, b1, cI_v, if_neg (by omega), eb, cV_v]
      exact hR
    cases hS : sumG T L (partG T L false 6) (stp T L p) true with
    | error y =>
      obtain ⟨k0, s0'⟩ := y
      obtain ⟨D, d1, d2, d3, d4, d5, d6⟩ := g1 k0 s0' hS
      refine ⟨(fun k l q => ?_), (fun H' cd' p' t' q => by cases q)⟩
      injection q with q; injection q with q1 q2
      subst q1 q2
      refine ⟨D, e32 _ ?_, d2, d3, frU_trans (frR_U b3) ⟨fun a j _ x1 x2 x3 _ => d4 a j x1 x2 x3, fun a j _ x => d5 a j x, fun a _ => ln_eq d6 a⟩, d6.trans b3.2.2⟩
      have d1' : runF (d + 51) 37 [vR 12 44 0, vI 3, vI 0] (bgA false B) = some (some (vI 0), D) := d1
      rw [d1', cI_v, if_pos rfl]
    | ok y =>
      obtain ⟨cs, p1, t1⟩ := y
      obtain ⟨D, d1, d2, d3, d4, d5, d6, d7, d8⟩ := g2 cs p1 t1 hS
      have d1' : runF (d + 51) 37 [vR 12 44 0, vI 3, vI 0] (bgA false B) = some (some (vI 1), D) := d1
      have gp := GP_sum tx (GP_partG tx false 6) _ _ _ _ _ sL hS
      have D46 : gr D 46 3 = h := by rw [d7 46 3 (by omega), b3.2.1 46 3 (by omega)]; exact h46
      have D18 : gi D h 18 = gi A h 18 := by rw [d6 h 18 (by omega) (by omega) (by omega), b3.1 h 18 (by omega)]
      have lD : D.2.2 = A.2.2 := d8.trans b3.2.2
      have zD : sz D = sz A := by unfold sz; rw [lD]
      have o18 := s0.1.2.2.2.2.2.2.2.2.2.2.2.2.2.2.1
      have e81 : ∃ m fl, fl = mnU (gi A h 18) cs ∧ 10 ≤ m ∧ ∀ R, go true 2 (runF (d + 51)) (runN (d + 51)) pb_X4_worth m 92 [vR 14 46 0, vI (((1 - w : Nat)) : Int), vR 30 0 (ln A 0)] [vI fl, vR 13 h 0] D = R → runF (d + 52) 66 [vR 14 46 0, vI (((1 - w : Nat)) : Int)] A = R := by
        by_cases x1 : gi A h 18 = 0
        · by_cases x2 : 7 ∈ cs
          · refine ⟨n + 45, 1, ?_, by omega, fun R hR => e32 R ?_⟩
            · unfold mnU; rw [if_pos (Or.inr x2)]
            · have z : gi D 44 2 ≠ 0 := by rw [d4]; unfold mnU; rw [if_pos (Or.inr x2)]; decide
              rw [d1', cI_v, if_neg (by omega), D46, if_neg (by omega), D18, if_pos x1, if_neg z, qz_worth_87 (hsa0 := by omega)]
              exact hR
          · refine ⟨n + 45, 0, ?_, by omega, fun R hR => e32 R ?_⟩
            · unfold mnU; rw [if_neg (fun y => by rcases y with y | y; omega; exact x2 y)]
            · have z : gi D 44 2 = 0 := by rw [d4]; unfold mnU; rw [if_neg (fun y => by rcases y with y | y; omega; exact x2 y)]
              rw [d1', cI_v, if_neg (by omega), D46, if_neg (by omega), D18, if_pos x1, if_pos z]
              exact hR
        · refine ⟨n + 45, 1, ?_, by omega, fun R hR => e32 R ?_⟩
          · unfold mnU; rw [if_pos (Or.inl (by omega))]
          · rw [d1', cI_v, if_neg (by omega), D46, if_neg (by omega), D18, if_neg x1, qz_worth_87 (hsa0 := by omega)]
            exact hR
      obtain ⟨m, fl, hfl, hm, e81⟩ := e81
      obtain ⟨m, rfl⟩ : ∃ e, m = e + 4 := ⟨m - 4, by omega⟩
      have fl01 : fl = 0 ∨ fl = 1 := by rw [hfl]; exact mnU_01 _ _
      have c44 : gi (wi D h 18 fl) 44 4 = cs.length := by rw [gi_wi, if_neg (by omega), d3.2.2.1, List.length_map]
      have zW : sz (wi D h 18 fl) = sz A := zD
      have cp := s_copySteps (d + 48) cs.length (wi D h 18 fl) c44 (by omega) (by rw [zW]; omega)
      rw [zW] at cp
      have W46 : gr (wi D h 18 fl) 46 3 = h := D46
      have fin : runF (d + 52) 66 [vR 14 46 0, vI (((1 - w : Nat)) : Int)] A = some (some (vI 1), wr (cpa (nw (wi D h 18 fl) 20 cs.length) 45 0 (sz A) 0 cs.length) h (16 + w) (sz A)) := by
        refine e81 _ ?_
        rw [qz_worth_92 (hsa1 := by omega), if_pos fl01, W46]
        rcases (show w = 0 ∨ w = 1 by omega) with rfl | rfl
        · rw [if_neg (by decide), cp, cR_v, if_neg (by omega), qz_worth_113]
        · rw [if_pos (by decide), cp, cR_v, if_neg (by omega)]
      generalize hB : wr (cpa (nw (wi D h 18 fl) 20 cs.length) 45 0 (sz A) 0 cs.length) h (16 + w) (sz A) = F at fin
      have gF : ∀ a j, a < sz A → ¬ (a = h ∧ j = 18) → gi F a j = gi D a j := fun a j q1 q2 => by
        rw [← hB, gi_wr, gi_cpa, if_neg (by omega), gi_nw, if_neg (by rw [zW]; omega), gi_wi, if_neg q2]
      have rF : ∀ a j, a < sz A → ¬ (a = h ∧ j = 16 + w) → gr F a j = gr D a j := fun a j q1 q2 => by
        rw [← hB, gr_wr, if_neg q2, gr_cpa, gr_nw, if_neg (by rw [zW]; omega), gr_wi]
      have lF : ∀ a, ln F a = if a = sz A then cs.length else ln D a := fun a => by
        rw [← hB, ln_wr]
        show ln (nw (wi D h 18 fl) 20 cs.length) a = _
        rw [ln_nw, zW, ln_wi]
      refine ⟨(fun k l q => by cases q), (fun H' cd' p' t' q => ?_)⟩
      injection q with q; injection q with q1 q2; injection q2 with q2 q3; injection q3 with q3 q4
      subst q1 q2 q3 q4
      have zF : sz F = sz A + 1 := by
        rw [← hB, sz_wr]
        show sz (nw (wi D h 18 fl) 20 cs.length) = _
        rw [sz_nw, zW]
      have sF : sl F = sl A + cs.length := by
        rw [← hB, sl_wr]
        show sl (nw (wi D h 18 fl) 20 cs.length) = _
        rw [sl_nw]
        show sl D + _ = _
        unfold sl; rw [lD]
      have gAF : ∀ a j, 271 ≤ a → a < sz A → ¬ (a = h ∧ j = 18) → gi F a j = gi A a j := fun a j q1 q2 q3 => by
        rw [gF a j q2 q3, d6 a j (by omega) (by omega) (by omega), b3.1 a j (by omega)]
      have rAF : ∀ a j, a < sz A → ¬ (a = h ∧ j = 16 + w) → ¬ (a = 42 ∧ j = 7) → gr F a j = gr A a j := fun a j q1 q2 q3 => by
        rw [rF a j q1 q2, d7 a j q3, b3.2.1 a j q3]
      have hsF : HS F h (worH H cd w cs) := by
        refine HS_wor (z := sz A) s0 cd w hw cs (wfL_end (by decide) (GW_sum (GW_partG false 6) _ _ _ _ _ hS)) ck (by omega) s7 s8 s9 gAF (fun i hi => ?_) (by rw [lF, if_pos rfl]) (fun a ha => by rw [lF, if_neg (by omega), ln_eq lD]) (by rw [← hB, gr_wr, if_pos ⟨rfl, rfl⟩]) (rAF h _ (by omega) (by omega) (by omega)) (by rw [rAF 46 3 (by omega) (by omega) (by omega)]; exact h46) ?_
        · rw [← hB, gi_wr, gi_cpa, if_pos (by omega), gi_nw, if_neg (by rw [zW]; omega), gi_wi, if_neg (by omega), show 0 + (i - 0) = i by omega, d3.2.2.2 i (by rw [List.length_map]; exact hi)]
          rw [List.getD_eq_getElem?_getD, List.getElem?_map, List.getD_eq_getElem?_getD, List.getElem?_eq_getElem hi]
          rfl
        · rw [← hB, gi_wr, gi_cpa, if_neg (by omega), gi_nw, if_neg (by rw [zW]; omega), gi_wi, if_pos ⟨rfl, rfl⟩]; exact hfl
      have ucE : uc (worH H cd w cs) + 1 = uc H := by
        unfold uc
        have v1 := (worH_v H cd w cs).1
        have o := worH_o H cd w cs
        rcases (show w = 0 ∨ w = 1 by omega) with rfl | rfl
        · rw [o 231 3 (by omega) (by omega), show worH H cd 0 cs 231 2 = (cd : Int) from v1, if_neg (by omega), if_pos (c := H 231 2 = -1) (by simpa using c)]; omega
        · rw [o 231 2 (by omega) (by omega), show worH H cd 1 cs 231 3 = (cd : Int) from v1, if_neg (c := (cd : Int) = -1) (by omega), if_pos (c := H 231 3 = -1) (by simpa using c)]
      refine ⟨F, fin, ?_, ⟨hsF, by omega, ?_, ?_⟩, ⟨?_, ?_⟩, ?_, ?_, by omega, by omega, by omega⟩
      · obtain ⟨⟨t1', t2', t3', t4', t5'⟩, t6', t7', t8', t9', t10', t11'⟩ := d2
        have q41 : ∀ j, gi F 41 j = gi D 41 j := fun j => gF 41 j (by omega) (by omega)
        have q42 : ∀ j, gi F 42 j = gi D 42 j := fun j => gF 42 j (by omega) (by omega)
        unfold RdS
        rw [q42, q42, q42, q42, q42, q42, rF 42 0 (by omega) (by omega), rF 42 7 (by omega) (by omega), lF, if_neg (by omega)]
        exact ⟨⟨t1', t2', t3', fun j => (q41 j).trans (t4' j), t5'⟩, t6', t7', t8', t9', t10', t11'⟩
      · rcases (show w = 0 ∨ w = 1 by omega) with rfl | rfl
        · rw [← hB, gr_wr, if_pos ⟨rfl, rfl⟩]; rw [hB]; omega
        · rw [rAF h 16 (by omega) (by omega) (by omega)]; omega
      · rcases (show w = 0 ∨ w = 1 by omega) with rfl | rfl
        · rw [rAF h 17 (by omega) (by omega) (by omega)]; omega
        · rw [← hB, gr_wr, if_pos ⟨rfl, rfl⟩]; rw [hB]; omega
      · rw [gF 42 11 (by omega) (by omega), d5.1, b3.1 42 11 (by omega)]
      · rw [gF 42 12 (by omega) (by omega), d5.2, b3.1 42 12 (by omega)]
      · exact gAF h 0 (by omega) (by omega) (by omega)
      · refine ⟨fun a j q1 q2 q3 q4 q5 => ?_, fun a j q1 q2 => ?_, fun a q1 => ?_⟩
        · rw [gF a j (by omega) (by omega), d6 a j q2 q3 q4, b3.1 a j (by omega)]
        · exact rAF a j (by omega) (by omega) q2
        · rw [lF, if_neg (by omega), ln_eq lD]
