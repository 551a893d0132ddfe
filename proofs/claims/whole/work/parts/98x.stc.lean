/-! the text of a hall: the class reads a statement of any kind -/
theorem SC2_lift {T : Nat → Int} {L h cd : Nat} {A B : AH} {H : Nat → Nat → Int} {x : RS} {e : HG} (f : frR A B) (s : HS2 A h H) (sc : SCR T L h B x e) (hu : ∀ H' p' t', e = .ok (H', p', t') → H' 231 2 = H 231 2 ∧ H' 231 3 = H 231 3) : SC2 T L h A H x (lift2 cd e) := by
  have h271 := s.1.2.2.2.1
  have zB : sz B = sz A := by unfold sz; rw [f.2.2]
  unfold lift2
  cases he : e with
  | error y =>
    obtain ⟨k0, s0⟩ := y
    obtain ⟨C, c1, c2, c3, c4, c5⟩ := sc.1 k0 s0 he
    refine ⟨(fun k l q => ?_), (fun H' cd' p' t' q => by cases q)⟩
    injection q with q; injection q with q1 q2
    subst q1 q2
    exact ⟨C, c1, c2, c3, frU_trans (frR_U f) c4, c5.trans f.2.2⟩
  | ok y =>
    obtain ⟨H', p', t'⟩ := y
    obtain ⟨C, c1, c2, c3, c4, c5, c6, c7, c8⟩ := sc.2 H' p' t' he
    have u := hu H' p' t' he
    have zC : sz C = sz A := by rw [← zB]; unfold sz; rw [c7]
    have lC : sl C = sl A := by unfold sl; rw [c7, f.2.2]
    have ue : uc H' = uc H := by unfold uc; rw [u.1, u.2]
    refine ⟨(fun k l q => by cases q), (fun H2 cd' p2 t2 q => ?_)⟩
    injection q with q; injection q with q1 q2; injection q2 with q2 q3; injection q3 with q3 q4
    subst q1 q2 q3 q4
    refine ⟨C, c1, c2, ⟨c3, by rw [zC]; exact s.2.1, ?_, ?_⟩, ⟨by rw [c4.1, f.1 42 11 (by omega)], by rw [c4.2, f.1 42 12 (by omega)]⟩, by rw [c5, f.1 h 0 (by omega)], frU_trans (frR_U f) c6, by omega, by omega, by omega⟩
    · rw [zC, c8 h 16 (by omega), f.2.1 h 16 (by omega)]; exact s.2.2.1
    · rw [zC, c8 h 17 (by omega), f.2.1 h 17 (by omega)]; exact s.2.2.2
theorem SC2_bad {T : Nat → Int} {L h : Nat} {A B : AH} {H : Nat → Nat → Int} {x : RS} {k s : Int} (e : x = some (some (vI 0), B)) (f : FL A B k s) : SC2 T L h A H x (.error (k, s)) := by
  refine ⟨(fun k' l q => ?_), (fun H' cd' p' t' q => by cases q)⟩
  injection q with q; injection q with q1 q2
  subst q1 q2
  exact ⟨B, e, f.1, f.2.1, frO_U (frF_O f.2.2), f.2.2.2.2⟩
theorem u_pers {T : Nat → Int} {L : Nat} {H H' : Nat → Nat → Int} {p p' : Nat} {t t' : Bool} (h : persG T L H p t = .ok (H', p', t')) : ∃ v ke it pa se, H' = persH H (nPe H).toNat v ke it pa se := by
  unfold persG at h
  cases h1 : giveG T L H p t with
  | error y => rw [h1] at h; cases h
  | ok y =>
    obtain ⟨v, p1, t1⟩ := y
    rw [h1] at h; simp only at h
    cases h2 : tellG T L p1 t1 3 1 99 with
    | error y => rw [h2] at h; cases h
    | ok y =>
      obtain ⟨ke, _, p2, t2⟩ := y
      rw [h2] at h; simp only at h
      cases h3 : tellG T L p2 t2 4 0 100 with
      | error y => rw [h3] at h; cases h
      | ok y =>
        obtain ⟨it, _, p3, t3⟩ := y
        rw [h3] at h; simp only at h
        cases h4 : tkW T L p3 t3 5 with
        | error y => rw [h4] at h; cases h
        | ok y =>
          obtain ⟨p4, t4⟩ := y
          rw [h4] at h; simp only at h
          by_cases c : partyW (wrd T L p4 t4) = -1
          · rw [if_pos c] at h; cases h
          · rw [if_neg c] at h
            cases h5 : tellG T L (stp T L p4) true 9 0 (nSe H - 1) with
            | error y => rw [h5] at h; cases h
            | ok y =>
              obtain ⟨se, _, p5, t5⟩ := y
              rw [h5] at h; simp only at h
              by_cases c2 : ex (fun k => decide (H 226 (35 + 4 * k).toNat = se)) (nPe H).toNat 0 = true
              · rw [if_pos c2] at h; cases h
              · rw [if_neg c2] at h
                injection h with h; injection h with h _
                exact ⟨v, ke, it, _, se, h.symm⟩
theorem u_mut {T : Nat → Int} {L : Nat} {H H' : Nat → Nat → Int} {p p' : Nat} {t t' : Bool} (h : mutG T L H p t = .ok (H', p', t')) : ∃ v x y, H' = muteH H (nMu H).toNat v x y := by
  unfold mutG at h
  cases h1 : giveG T L H p t with
  | error y => rw [h1] at h; cases h
  | ok y =>
    obtain ⟨v, p1, t1⟩ := y
    rw [h1] at h; simp only at h
    cases h2 : tellG T L p1 t1 3 1 99 with
    | error y => rw [h2] at h; cases h
    | ok y =>
      obtain ⟨ke, _, p2, t2⟩ := y
      rw [h2] at h; simp only at h
      cases h3 : tellG T L p2 t2 16 0 99 with
      | error y => rw [h3] at h; cases h
      | ok y =>
        obtain ⟨it, _, p3, t3⟩ := y
        rw [h3] at h; simp only at h
        injection h with h; injection h with h _
        exact ⟨v, ke, it, h.symm⟩
theorem u_pnt {T : Nat → Int} {L : Nat} {H H' : Nat → Nat → Int} {p p' : Nat} {t t' : Bool} (h : pntG T L H p t = .ok (H', p', t')) : ∃ v x y, H' = pntH H (nPo H).toNat v x y := by
  unfold pntG at h
  cases h1 : giveG T L H p t with
  | error y => rw [h1] at h; cases h
  | ok y =>
    obtain ⟨v, p1, t1⟩ := y
    rw [h1] at h; simp only at h
    cases h2 : tellG T L p1 t1 6 0 99 with
    | error y => rw [h2] at h; cases h
    | ok y =>
      obtain ⟨ke, _, p2, t2⟩ := y
      rw [h2] at h; simp only at h
      cases h3 : tellG T L p2 t2 7 0 99 with
      | error y => rw [h3] at h; cases h
      | ok y =>
        obtain ⟨it, _, p3, t3⟩ := y
        rw [h3] at h; simp only at h
        injection h with h; injection h with h _
        exact ⟨v, ke, it, h.symm⟩
theorem u_noi {T : Nat → Int} {L : Nat} {H H' : Nat → Nat → Int} {p p' : Nat} {t t' : Bool} (h : noiG T L H p t = .ok (H', p', t')) : ∃ x y z, H' = noiH H (nNo H).toNat x y z := by
  unfold noiG at h
  cases h1 : tellG T L p t 9 0 99 with
  | error y => rw [h1] at h; cases h
  | ok y =>
    obtain ⟨v, _, p1, t1⟩ := y
    rw [h1] at h; simp only at h
    cases h2 : tellG T L p1 t1 13 0 (nSe H - 1) with
    | error y => rw [h2] at h; cases h
    | ok y =>
      obtain ⟨ke, _, p2, t2⟩ := y
      rw [h2] at h; simp only at h
      cases h3 : tellG T L p2 t2 14 1 9 with
      | error y => rw [h3] at h; cases h
      | ok y =>
        obtain ⟨it, _, p3, t3⟩ := y
        rw [h3] at h; simp only at h
        injection h with h; injection h with h _
        exact ⟨v, ke, it, h.symm⟩
theorem u_hat {T : Nat → Int} {L : Nat} {H H' : Nat → Nat → Int} {p p' : Nat} {t t' : Bool} (h : hatG T L H p t = .ok (H', p', t')) : ∃ K x, H' = hatH H K (nHa H).toNat x := by
  unfold hatG at h
  cases h1 : tkA T L p t with
  | error y => rw [h1] at h; cases h
  | ok y =>
    obtain ⟨p1, t1⟩ := y
    rw [h1] at h; simp only at h
    by_cases c : fnd H (nameV T L p) = -1 ∨ 16 ≤ fnd H (nameV T L p)
    · rw [if_pos c] at h; cases h
    · rw [if_neg c] at h
      cases h2 : tkA T L p1 t1 with
      | error y => rw [h2] at h; cases h
      | ok y =>
        obtain ⟨p2, t2⟩ := y
        rw [h2] at h; simp only at h
        by_cases c2 : fnd H (nameV T L p1) = -1 ∨ 16 ≤ fnd H (nameV T L p1) ∨ fnd H (nameV T L p1) = fnd H (nameV T L p) ∨ band (bshr (H 230 (16 + fnd H (nameV T L p)).toNat) (fnd H (nameV T L p1))) 1 ≠ 0
        · rw [if_pos c2] at h; cases h
        · rw [if_neg c2] at h
          injection h with h; injection h with h _
          exact ⟨_, _, h.symm⟩
set_option maxRecDepth 100000 in
theorem s_statementC (d : Nat) {T : Nat → Int} {L p : Nat} {t : Bool} {h : Nat} {H : Nat → Nat → Int} (tx : TX T L) (A : AH) (cd : Nat) (hc : cok H) (s : HS2 A h H) (ck : CDK H cd) (hcd : cd < p) (r : RdS A T L p t) : SC2 T L h A H (runF (d + 53) 56 [vR 14 46 0] A) (stG T L H cd p t) := by
  have h271 := s.1.2.2.2.1
  have h46 := s.1.2.2.1
  obtain ⟨k1, k2, k3, k4, k5, k6⟩ := s.1.1.2.1
  have w7 := r.2.2.2.2.1
  have stp1 : ∀ w, w ≠ 0 → wrd T L p t = w → tk T L p t = true := fun w h1 h2 => by
    have kn := wrd_k (T := T) (L := L) (p := p) (t := t) (by omega)
    unfold tk; rw [kn]; decide
  unfold stG
  by_cases c1 : wrd T L p t = 2
  · rw [if_pos c1]
    obtain ⟨g1, g2⟩ := s_begins (d + 49) (gi A h 2) 8 A r
    by_cases c : nPe H < 8
    · rw [if_pos c]
      obtain ⟨B, b1, b2, b3⟩ := g1 (by omega)
      rw [stp1 2 (by omega) c1] at b2
      have sc := s_personC (d + 47) B hc (HS_S (frR_O b3) s.1) b2 c
      have e : runF (d + 53) 56 [vR 14 46 0] A = runF (d + 52) 60 [vR 14 46 0] B := by
        rw [r_X4_statement, q_X4_statement_0, w7, if_pos c1, h46, if_neg (by omega), b1, cI_v, if_neg (by omega)]
        have := sc
        cases hG : persG T L H (stp T L p) true with
        | error y =>
          obtain ⟨C, q1, _⟩ := sc.1 y.1 y.2 hG
          rw [q1, cI_v, if_pos rfl, q_X4_statement_42]
        | ok y =>
          obtain ⟨C, q1, _⟩ := sc.2 y.1 y.2.1 y.2.2 hG
          rw [q1, cI_v, if_neg (by omega)]
      rw [e]
      refine SC2_lift b3 s sc (fun H' p' t' q => ?_)
      obtain ⟨v, ke, it, pa, se, rfl⟩ := u_pers q
      exact ⟨persH_o _ _ _ _ _ _ _ 231 2 (by omega) (by omega) (by omega), persH_o _ _ _ _ _ _ _ 231 3 (by omega) (by omega) (by omega)⟩
    · rw [if_neg c]
      obtain ⟨B, b1, b2⟩ := g2 (by omega)
      exact SC2_bad (by rw [r_X4_statement, q_X4_statement_0, w7, if_pos c1, h46, if_neg (by omega), b1, cI_v, if_pos rfl, q_X4_statement_42]) b2
  rw [if_neg c1]
  by_cases c2 : wrd T L p t = 10
  · rw [if_pos c2]
    obtain ⟨g1, g2⟩ := s_begins (d + 49) (gi A h 6) 12 A r
    by_cases c : nHa H < 12
    · rw [if_pos c]
      obtain ⟨B, b1, b2, b3⟩ := g1 (by omega)
      rw [stp1 10 (by omega) c2] at b2
      have sc := s_hatredC (d + 47) B hc (HS_S (frR_O b3) s.1) b2 c
      have e : runF (d + 53) 56 [vR 14 46 0] A = runF (d + 52) 62 [vR 14 46 0] B := by
        rw [r_X4_statement, q_X4_statement_0, w7, if_neg c1, if_pos c2, h46, if_neg (by omega), b1, cI_v, if_neg (by omega)]
        cases hG : hatG T L H (stp T L p) true with
        | error y =>
          obtain ⟨C, q1, _⟩ := sc.1 y.1 y.2 hG
          rw [q1, cI_v, if_pos rfl, q_X4_statement_78]
        | ok y =>
          obtain ⟨C, q1, _⟩ := sc.2 y.1 y.2.1 y.2.2 hG
          rw [q1, cI_v, if_neg (by omega)]
      rw [e]
      refine SC2_lift b3 s sc (fun H' p' t' q => ?_)
      obtain ⟨K, x, rfl⟩ := u_hat q
      exact ⟨hatH_o _ _ _ _ 231 2 (by omega) (by omega), hatH_o _ _ _ _ 231 3 (by omega) (by omega)⟩
    · rw [if_neg c]
      obtain ⟨B, b1, b2⟩ := g2 (by omega)
      exact SC2_bad (by rw [r_X4_statement, q_X4_statement_0, w7, if_neg c1, if_pos c2, h46, if_neg (by omega), b1, cI_v, if_pos rfl, q_X4_statement_78]) b2
  rw [if_neg c2]
  have e80 : ∀ R, go true 2 (runF (d + 52)) (runN (d + 52)) pb_X4_statement (fu + 195 + 3) 80 [vR 14 46 0, vR 22 (wrd T L p t) 0] [] A = R → runF (d + 53) 56 [vR 14 46 0] A = R := by
    intro R hR
    rw [r_X4_statement, q_X4_statement_0, w7, if_neg c1, if_neg c2]
    exact hR
  by_cases c3 : wrd T L p t = 11
  · rw [if_pos c3]
    obtain ⟨g1, g2⟩ := s_begins (d + 49) (gi A h 3) 4 A r
    by_cases c : nPo H < 4
    · rw [if_pos c]
      obtain ⟨B, b1, b2, b3⟩ := g1 (by omega)
      rw [stp1 11 (by omega) c3] at b2
      have sc := s_pointC (d + 47) B hc (HS_S (frR_O b3) s.1) b2 c
      have e : runF (d + 53) 56 [vR 14 46 0] A = runF (d + 52) 63 [vR 14 46 0] B := by
        refine e80 _ ?_
        rw [q_X4_statement_80, if_pos c3, h46, if_neg (by omega), b1, cI_v, if_neg (by omega)]
        cases hG : pntG T L H (stp T L p) true with
        | error y =>
          obtain ⟨C, q1, _⟩ := sc.1 y.1 y.2 hG
          rw [q1, cI_v, if_pos rfl, q_X4_statement_113]
        | ok y =>
          obtain ⟨C, q1, _⟩ := sc.2 y.1 y.2.1 y.2.2 hG
          rw [q1, cI_v, if_neg (by omega)]
      rw [e]
      refine SC2_lift b3 s sc (fun H' p' t' q => ?_)
      obtain ⟨v, x, y, rfl⟩ := u_pnt q
      exact ⟨pntH_o _ _ _ _ _ 231 2 (by omega) (by omega) (by omega) (by omega), pntH_o _ _ _ _ _ 231 3 (by omega) (by omega) (by omega) (by omega)⟩
    · rw [if_neg c]
      obtain ⟨B, b1, b2⟩ := g2 (by omega)
      exact SC2_bad (e80 _ (by rw [q_X4_statement_80, if_pos c3, h46, if_neg (by omega), b1, cI_v, if_pos rfl, q_X4_statement_113])) b2
  rw [if_neg c3]
  by_cases c4 : wrd T L p t = 12
  · rw [if_pos c4]
    obtain ⟨g1, g2⟩ := s_begins (d + 49) (gi A h 4) 6 A r
    by_cases c : nNo H < 6
    · rw [if_pos c]
      obtain ⟨B, b1, b2, b3⟩ := g1 (by omega)
      rw [stp1 12 (by omega) c4] at b2
      have sc := s_soundC (d + 47) B hc (HS_S (frR_O b3) s.1) b2 c
      have e : runF (d + 53) 56 [vR 14 46 0] A = runF (d + 52) 64 [vR 14 46 0] B := by
        refine e80 _ ?_
        rw [q_X4_statement_80, if_neg c3, if_pos c4, h46, if_neg (by omega), b1, cI_v, if_neg (by omega)]
        cases hG : noiG T L H (stp T L p) true with
        | error y =>
          obtain ⟨C, q1, _⟩ := sc.1 y.1 y.2 hG
          rw [q1, cI_v, if_pos rfl, q_X4_statement_149]
        | ok y =>
          obtain ⟨C, q1, _⟩ := sc.2 y.1 y.2.1 y.2.2 hG
          rw [q1, cI_v, if_neg (by omega)]
      rw [e]
      refine SC2_lift b3 s sc (fun H' p' t' q => ?_)
      obtain ⟨x, y, z, rfl⟩ := u_noi q
      exact ⟨noiH_o _ _ _ _ _ 231 2 (by omega) (by omega) (by omega) (by omega), noiH_o _ _ _ _ _ 231 3 (by omega) (by omega) (by omega) (by omega)⟩
    · rw [if_neg c]
      obtain ⟨B, b1, b2⟩ := g2 (by omega)
      exact SC2_bad (e80 _ (by rw [q_X4_statement_80, if_neg c3, if_pos c4, h46, if_neg (by omega), b1, cI_v, if_pos rfl, q_X4_statement_149])) b2
  rw [if_neg c4]
  have e151 : ∀ R, go true 2 (runF (d + 52)) (runN (d + 52)) pb_X4_statement (fu + 193 + 3) 151 [vR 14 46 0, vR 22 (wrd T L p t) 0] [] A = R → runF (d + 53) 56 [vR 14 46 0] A = R := by
    intro R hR
    refine e80 _ ?_
    rw [q_X4_statement_80, if_neg c3, if_neg c4]
    exact hR
  by_cases c5 : wrd T L p t = 15
  · rw [if_pos c5]
    obtain ⟨g1, g2⟩ := s_begins (d + 49) (gi A h 5) 6 A r
    by_cases c : nMu H < 6
    · rw [if_pos c]
      obtain ⟨B, b1, b2, b3⟩ := g1 (by omega)
      rw [stp1 15 (by omega) c5] at b2
      have sc := s_muteC (d + 47) B hc (HS_S (frR_O b3) s.1) b2 c
      have e : runF (d + 53) 56 [vR 14 46 0] A = runF (d + 52) 65 [vR 14 46 0] B := by
        refine e151 _ ?_
        rw [q_X4_statement_151, if_pos c5, h46, if_neg (by omega), b1, cI_v, if_neg (by omega)]
        cases hG : mutG T L H (stp T L p) true with
        | error y =>
          obtain ⟨C, q1, _⟩ := sc.1 y.1 y.2 hG
          rw [q1, cI_v, if_pos rfl, q_X4_statement_185]
        | ok y =>
          obtain ⟨C, q1, _⟩ := sc.2 y.1 y.2.1 y.2.2 hG
          rw [q1, cI_v, if_neg (by omega)]
      rw [e]
      refine SC2_lift b3 s sc (fun H' p' t' q => ?_)
      obtain ⟨v, x, y, rfl⟩ := u_mut q
      exact ⟨muteH_o _ _ _ _ _ 231 2 (by omega) (by omega) (by omega) (by omega), muteH_o _ _ _ _ _ 231 3 (by omega) (by omega) (by omega) (by omega)⟩
    · rw [if_neg c]
      obtain ⟨B, b1, b2⟩ := g2 (by omega)
      exact SC2_bad (e151 _ (by rw [q_X4_statement_151, if_pos c5, h46, if_neg (by omega), b1, cI_v, if_pos rfl, q_X4_statement_185])) b2
  rw [if_neg c5]
  have e214 : ∀ w : Nat, w ≤ 1 → wrd T L p t = 17 + w → SC2 T L h A H (runF (d + 53) 56 [vR 14 46 0] A) (worG T L H cd w p) := by
    intro w hw hww
    have sc := s_worthC d tx A cd w hw s ck hcd r (by omega)
    have e : runF (d + 53) 56 [vR 14 46 0] A = cI (runF (d + 52) 66 [vR 14 46 0, vI ((1 - w : Nat) : Int)] A) fun r2 A1 => if r2 = 0 ∨ r2 = 1 then some (some (vI r2), A1) else none := by
      refine e151 _ ?_
      rw [q_X4_statement_151, if_neg c5]
      rcases (show w = 0 ∨ w = 1 by omega) with rfl | rfl
      · rw [if_pos (by omega), q_X4_statement_201, if_pos (by omega), q_X4_statement_214]; rfl
      · rw [if_neg (by omega), if_pos (by omega), q_X4_statement_201, if_neg (by omega), show fu + 192 + 0 = fu + 191 + 1 from rfl, q_X4_statement_214]; rfl
    cases hG : worG T L H cd w p with
    | error y =>
      obtain ⟨k0, s0⟩ := y
      obtain ⟨C, q1, q2⟩ := sc.1 k0 s0 hG
      rw [q1, cI_v, if_pos (Or.inl rfl)] at e
      refine ⟨(fun k l q => ?_), (fun H' cd' p' t' q => by cases q)⟩
      injection q with q; injection q with u1 u2
      subst u1 u2
      exact ⟨C, e, q2⟩
    | ok y =>
      obtain ⟨H2, cd2, p2, t2⟩ := y
      obtain ⟨C, q1, q2⟩ := sc.2 H2 cd2 p2 t2 hG
      rw [q1, cI_v, if_pos (Or.inr rfl)] at e
      refine ⟨(fun k l q => by cases q), (fun H' cd' p' t' q => ?_)⟩
      injection q with q; injection q with u1 u2; injection u2 with u2 u3; injection u3 with u3 u4
      subst u1 u2 u3 u4
      exact ⟨C, e, q2⟩
  by_cases c6 : wrd T L p t = 17
  · rw [if_pos c6]
    exact e214 0 (by omega) c6
  rw [if_neg c6]
  by_cases c7 : wrd T L p t = 18
  · rw [if_pos c7]
    exact e214 1 (by omega) c7
  rw [if_neg c7]
  exact SC2_bad (e151 _ (by rw [q_X4_statement_151, if_neg c5, if_neg c6, if_neg c7, s_failC, cI_v, if_pos (Or.inl rfl), r.2.1])) (FL_f A 1 _)
