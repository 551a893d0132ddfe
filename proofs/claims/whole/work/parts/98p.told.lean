/-! the text of a hall: the class reads words with numbers, names, parties -/
def tellG (T : Nat → Int) (L p : Nat) (t : Bool) (w : Nat) (lo hi : Int) : Except (Int × Int) (Int × Nat × Nat × Bool) := match tkW T L p t w with
  | .error e => .error e
  | .ok (p1, t1) => match tkN T L p1 t1 lo hi with
    | .error e => .error e
    | .ok (p2, t2) => .ok (numV T L p1, bl T L p1, p2, t2)
def giveG (T : Nat → Int) (L : Nat) (H : Nat → Nat → Int) (p : Nat) (t : Bool) : Except (Int × Int) (Int × Nat × Bool) := match tkA T L p t with
  | .error e => .error e
  | .ok (p1, t1) => if fnd H (nameV T L p) = -1 then .ok (nameV T L p, p1, t1) else .error (3, bl T L p)
def frO (A B : AH) : Prop := (∀ a j, ¬ (a = 42 ∧ 2 ≤ j ∧ j ≤ 12) → a ≠ 47 → gi B a j = gi A a j) ∧ (∀ a j, ¬ (a = 42 ∧ j = 7) → gr B a j = gr A a j) ∧ B.2.2 = A.2.2
theorem frO_refl (A : AH) : frO A A := ⟨fun _ _ _ _ => rfl, fun _ _ _ => rfl, rfl⟩
theorem frO_trans {A B C : AH} (h1 : frO A B) (h2 : frO B C) : frO A C := ⟨fun a j r s => (h2.1 a j r s).trans (h1.1 a j r s), fun a j r => (h2.2.1 a j r).trans (h1.2.1 a j r), h2.2.2.trans h1.2.2⟩
theorem frF_O {A B : AH} (f : frF A B) : frO A B := ⟨fun a j h _ => f.1 a j h, f.2.1, f.2.2⟩
theorem frR_O {A B : AH} (f : frR A B) : frO A B := frF_O (frR_F f)
theorem tkA_ok {T : Nat → Int} {L p : Nat} {t : Bool} {q : Nat} {u : Bool} (h : tkA T L p t = .ok (q, u)) : knd T L p t = 1 ∧ ¬ 6 < stp T L p - bl T L p ∧ q = stp T L p ∧ u = true := by
  unfold tkA at h
  by_cases e : knd T L p t = 1 ∧ (wrd T L p t = 0 ∨ 31 < wrd T L p t)
  · rw [if_pos e] at h
    by_cases e2 : 6 < stp T L p - bl T L p
    · rw [if_pos e2] at h; cases h
    · rw [if_neg e2] at h
      injection h with h; injection h with h1 h2
      exact ⟨e.1, e2, h1.symm, h2.symm⟩
  · rw [if_neg e] at h; cases h
theorem tkW_ok {T : Nat → Int} {L p : Nat} {t : Bool} {w : Nat} {q : Nat} {u : Bool} (h : tkW T L p t w = .ok (q, u)) : wrd T L p t = w ∧ q = stp T L p ∧ u = true := by
  unfold tkW at h
  by_cases e : wrd T L p t = w
  · rw [if_pos e] at h
    injection h with h; injection h with h1 h2
    exact ⟨e, h1.symm, h2.symm⟩
  · rw [if_neg e] at h; cases h
theorem tkS_k {T : Nat → Int} {L p : Nat} {t : Bool} {c k s : Int} (h : tkS T L p t c = .error (k, s)) : k ≠ 0 := by have := tkS_er h; omega
theorem tkW_k {T : Nat → Int} {L p : Nat} {t : Bool} {w : Nat} {k s : Int} (h : tkW T L p t w = .error (k, s)) : k ≠ 0 := by
  unfold tkW at h
  by_cases e : wrd T L p t = w
  · rw [if_pos e] at h; cases h
  · rw [if_neg e] at h
    injection h with h; injection h with h1 h2
    omega
set_option maxRecDepth 100000 in
theorem s_tells (d : Nat) {T : Nat → Int} {L p : Nat} {t : Bool} (w : Nat) (hw : w ≠ 0) (lo hi : Int) (slot : Nat) (hs : slot < 3) (A : AH) (r : RdS A T L p t) : (∀ k s, tellG T L p t w lo hi = .error (k, s) → ∃ B, runF (d + 4) 58 [vR 14 46 0, vR 22 w 0, vI lo, vI hi, vI (slot : Int)] A = some (some (vI 0), B) ∧ gi B 42 11 = k ∧ gi B 42 12 = s ∧ frO A B) ∧ (∀ v pl p' t', tellG T L p t w lo hi = .ok (v, pl, p', t') → ∃ B, runF (d + 4) 58 [vR 14 46 0, vR 22 w 0, vI lo, vI hi, vI (slot : Int)] A = some (some (vI 1), B) ∧ RdS B T L p' t' ∧ gi B 47 slot = v ∧ (∀ j, j ≠ slot → gi B 47 j = gi A 47 j) ∧ gi B 42 8 = (pl : Int) ∧ (gi B 42 11 = gi A 42 11 ∧ gi B 42 12 = gi A 42 12) ∧ frO A B) := by
  have k1 := s_takeWord d w A r hw
  unfold tellG
  cases hT : tkW T L p t w with
  | error y =>
    obtain ⟨k0, s0⟩ := y
    rw [hT] at k1
    obtain ⟨B, b1, b2⟩ := k1
    refine ⟨(fun k s q => ?_), (fun v pl p' t' q => by cases q)⟩
    injection q with q; injection q with q1 q2
    subst q1 q2
    refine ⟨B, ?_, b2.1, b2.2.1, frF_O b2.2.2⟩
    rw [r_X4_tells, q_X4_tells_0, b1, cI_v, if_pos rfl]
  | ok y =>
    obtain ⟨p1, t1⟩ := y
    rw [hT] at k1
    obtain ⟨B, b1, b2, b3, _⟩ := k1
    have k2 := s_takeNumber d lo hi B b2
    simp only
    cases hN : tkN T L p1 t1 lo hi with
    | error y =>
      obtain ⟨k0, s0⟩ := y
      rw [hN] at k2
      obtain ⟨C, c1, c2⟩ := k2
      refine ⟨(fun k s q => ?_), (fun v pl p' t' q => by cases q)⟩
      injection q with q; injection q with q1 q2
      subst q1 q2
      refine ⟨C, ?_, c2.1, c2.2.1, frO_trans (frR_O b3) (frF_O c2.2.2)⟩
      rw [r_X4_tells, q_X4_tells_0, b1, cI_v, if_neg (by omega), c1, cI_v, if_pos rfl]
    | ok y =>
      obtain ⟨p2, t2⟩ := y
      rw [hN] at k2
      obtain ⟨C, c1, c2, c3, c4, c5⟩ := k2
      refine ⟨(fun k s q => by cases q), (fun v pl p' t' q => ?_)⟩
      injection q with q; injection q with q1 q2; injection q2 with q2 q3; injection q3 with q3 q4
      subst q1 q2 q3 q4
      refine ⟨wi C 47 slot (numV T L p1), ?_, RdS_fr (fun j => by rw [gi_wi, if_neg (by omega)]) (fun j => by rw [gi_wi, if_neg (by omega)]) (fun _ => rfl) rfl c2, by rw [gi_wi, if_pos ⟨rfl, rfl⟩], fun j hj => by rw [gi_wi, if_neg (by omega), c3.1 47 j (by omega), b3.1 47 j (by omega)], by rw [gi_wi, if_neg (by omega)]; exact c5, ⟨by rw [gi_wi, if_neg (by omega), c3.1 42 11 (by omega), b3.1 42 11 (by omega)], by rw [gi_wi, if_neg (by omega), c3.1 42 12 (by omega), b3.1 42 12 (by omega)]⟩, frO_trans (frR_O b3) (frO_trans (frR_O c3) ⟨fun a j h1 h2 => by rw [gi_wi, if_neg (by omega)], fun _ _ _ => rfl, rfl⟩)⟩
      rw [r_X4_tells, q_X4_tells_0, b1, cI_v, if_neg (by omega), c1, cI_v, if_neg (by omega), if_pos (by omega), Int.toNat_natCast, c4, q_X4_tells_39]
set_option maxRecDepth 100000 in
theorem s_begins (d : Nat) {T : Nat → Int} {L p : Nat} {t : Bool} (x y : Int) (A : AH) (r : RdS A T L p t) : (x < y → ∃ B, runF (d + 3) 57 [vR 14 46 0, vI x, vI y] A = some (some (vI 1), B) ∧ RdS B T L (stp T L p) (tk T L p t) ∧ frR A B) ∧ (¬ x < y → ∃ B, runF (d + 3) 57 [vR 14 46 0, vI x, vI y] A = some (some (vI 0), B) ∧ FL A B 5 (bl T L p)) := by
  constructor
  · intro h
    obtain ⟨B, b1, b2, b3, b4⟩ := s_stepR d A r
    rw [r_X4_begins, q_X4_begins_0, if_pos h, b1, cV_v]
    exact ⟨B, rfl, b2, b4⟩
  · intro h
    rw [r_X4_begins, q_X4_begins_0, if_neg h, s_failC, cI_v, if_pos (Or.inl rfl), r.2.1]
    exact ⟨_, rfl, FL_f A 5 _⟩
/-- the hall that is read -/
def HS (A : AH) (h : Nat) (H : Nat → Nat → Int) : Prop := HR A h H ∧ NM A h H ∧ gr A 46 3 = h ∧ 271 ≤ h ∧ (gr A h 16 = 0 ∨ h + 9 < gr A h 16) ∧ (gr A h 17 = 0 ∨ h + 9 < gr A h 17)
theorem NM_fr {A B : AH} {h : Nat} {H : Nat → Nat → Int} (g : ∀ j, gi B (h + 1) j = gi A (h + 1) j) (n : NM A h H) : NM B h H := ⟨n.1, n.2.1, n.2.2.1, fun j q1 q2 q3 q4 q5 => by rw [g]; exact n.2.2.2 j q1 q2 q3 q4 q5⟩
theorem HS_S {A B : AH} {h : Nat} {H : Nat → Nat → Int} (f : frO A B) (s : HS A h H) : HS B h H := by
  obtain ⟨s1, s2, s3, s4, s5, s6⟩ := s
  refine ⟨HR_fr (fun a j q => f.1 a j (by omega) (by omega)) (fun a j q => f.2.1 a j (by omega)) f.2.2 s1, NM_fr (fun j => f.1 _ j (by omega) (by omega)) s2, (f.2.1 46 3 (by omega)).trans s3, s4, ?_, ?_⟩
  · rw [f.2.1 h 16 (by omega)]; exact s5
  · rw [f.2.1 h 17 (by omega)]; exact s6
set_option maxRecDepth 100000 in
theorem s_gives (d : Nat) {T : Nat → Int} {L p : Nat} {t : Bool} {h : Nat} {H : Nat → Nat → Int} (x : Int) (hx : 0 ≤ x ∧ x < 20) (A : AH) (hc : cok H) (s : HS A h H) (r : RdS A T L p t) : (∀ k l, giveG T L H p t = .error (k, l) → ∃ B, runF (d + 4) 59 [vR 14 46 0, vI x] A = some (some (vI 0), B) ∧ gi B 42 11 = k ∧ gi B 42 12 = l ∧ frO A B) ∧ (∀ v p' t', giveG T L H p t = .ok (v, p', t') → ∃ B C, runF (d + 4) 59 [vR 14 46 0, vI x] A = some (some (vI 1), wi C (h + 1) x.toNat (padN v)) ∧ B = wi C (h + 1) x.toNat (padN v) ∧ RdS C T L p' t' ∧ vnm v ∧ 0 ≤ v ∧ v < 387420489 ∧ (gi C 42 11 = gi A 42 11 ∧ gi C 42 12 = gi A 42 12) ∧ frR A C) := by
  have h271 := s.2.2.2.1
  have k1 := s_takeName d A r
  unfold giveG
  cases hT : tkA T L p t with
  | error y =>
    obtain ⟨k0, s0⟩ := y
    rw [hT] at k1
    obtain ⟨B, b1, b2⟩ := k1
    refine ⟨(fun k l q => ?_), (fun v p' t' q => by cases q)⟩
    injection q with q; injection q with q1 q2
    subst q1 q2
    refine ⟨B, ?_, b2.1, b2.2.1, frF_O b2.2.2⟩
    rw [r_X4_gives, q_X4_gives_0, b1, cI_v, if_pos rfl]
  | ok y =>
    obtain ⟨p1, t1⟩ := y
    rw [hT] at k1
    obtain ⟨C, b1, b2, b3, b4, b5⟩ := k1
    obtain ⟨e1, e2, _, _⟩ := tkA_ok hT
    have kp := key_pad e1 e2
    have vn := vnm_name e1 e2
    have sC := HS_S (frR_O b3) s
    have hf := s_find (d + 2) h (nameV T L p) C hc sC.1 sC.2.1 vn
    simp only
    by_cases c : fnd H (nameV T L p) = -1
    · rw [if_pos c]
      refine ⟨(fun k l q => by cases q), (fun v p' t' q => ?_)⟩
      injection q with q; injection q with q1 q2; injection q2 with q2 q3
      subst q1 q2 q3
      refine ⟨_, C, ?_, rfl, b2, vn, by omega, by omega, ⟨b3.1 42 11 (by omega), b3.1 42 12 (by omega)⟩, b3⟩
      rw [r_X4_gives, q_X4_gives_0, b1, cI_v, if_neg (by omega), sC.2.2.1, if_neg (by omega), b4, kp.1, hf, cI_v, if_pos c, sC.2.2.1, if_neg (by omega), if_pos (by omega), b4, kp.1, q_X4_gives_62]
    · rw [if_neg c]
      refine ⟨(fun k l q => ?_), (fun v p' t' q => by cases q)⟩
      injection q with q; injection q with q1 q2
      subst q1 q2
      refine ⟨wi (wi C 42 11 3) 42 12 (bl T L p), ?_, by simp -implicitDefEqProofs (disch := omega) only [gi_wi, ↓reduceIte, Int.reduceEq, cI_v, cL_v, cV_v, cR_v, wid, wid64, if_pos, if_neg, Nat.add_zero, if_true, if_false, and_self, and_true, true_and, and_false, false_and, or_true, true_or, or_false, false_or], by simp -implicitDefEqProofs (disch := omega) only [gi_wi, ↓reduceIte, Int.reduceEq, cI_v, cL_v, cV_v, cR_v, wid, wid64, if_pos, if_neg, Nat.add_zero, if_true, if_false, and_self, and_true, true_and, and_false, false_and, or_true, true_or, or_false, false_or], frO_trans (frR_O b3) (frF_O (FL_f C 3 _).2.2)⟩
      rw [r_X4_gives, q_X4_gives_0, b1, cI_v, if_neg (by omega), sC.2.2.1, if_neg (by omega), b4, kp.1, hf, cI_v, if_neg c, s_failC, cI_v, if_pos (Or.inl rfl), b5]
def partyW (w : Nat) : Int := if w = 6 then 0 else if w = 7 then 1 else if w = 8 then 2 else -1
set_option maxRecDepth 100000 in
theorem s_partyC (d : Nat) {T : Nat → Int} {L p : Nat} {t : Bool} {h : Nat} (x : Int) (hx : 0 ≤ x ∧ x < 8) (A : AH) (h46 : gr A 46 3 = h) (h271 : 271 ≤ h) (r : RdS A T L p t) : (partyW (wrd T L p t) = -1 → ∃ B, runF (d + 3) 61 [vR 14 46 0, vI x] A = some (some (vI 0), B) ∧ FL A B 1 (bl T L p)) ∧ (partyW (wrd T L p t) ≠ -1 → ∃ B, runF (d + 3) 61 [vR 14 46 0, vI x] A = some (some (vI 1), B) ∧ RdS B T L (stp T L p) true ∧ frR (wi A (h + 4) x.toNat (partyW (wrd T L p t))) B) := by
  have e42 : ∃ n, runF (d + 3) 61 [vR 14 46 0, vI x] A = go true 2 (runF (d + 2)) (runN (d + 2)) pb_X4_partyOf (n + 3) 42 [vR 14 46 0, vI x, vR 22 (wrd T L p t) 0, vU] [vI (partyW (wrd T L p t))] A := by
    rw [r_X4_partyOf, q_X4_partyOf_0, r.2.2.2.2.1]
    unfold partyW
    by_cases c1 : wrd T L p t = 6
    · rw [if_pos c1, if_pos c1]; exact ⟨fu + 196, rfl⟩
    · rw [if_neg c1, if_neg c1]
      by_cases c2 : wrd T L p t = 7
      · rw [if_pos c2, if_pos c2]; exact ⟨fu + 195, rfl⟩
      · rw [if_neg c2, if_neg c2]
        by_cases c3 : wrd T L p t = 8
        · rw [if_pos c3, if_pos c3]; exact ⟨fu + 194, rfl⟩
        · rw [if_neg c3, if_neg c3]; exact ⟨fu + 193, rfl⟩
  obtain ⟨n, e42⟩ := e42
  constructor
  · intro c
    rw [e42, q_X4_partyOf_42, if_pos c, s_failC, cI_v, if_pos (Or.inl rfl), r.2.1]
    exact ⟨_, rfl, FL_f A 1 _⟩
  · intro c
    have w0 : wrd T L p t ≠ 0 := fun y => c (by rw [y]; rfl)
    have kn := wrd_k w0
    obtain ⟨B, b1, b2, b3, b4⟩ := s_stepR d (wi A (h + 4) x.toNat (partyW (wrd T L p t))) (RdS_fr (A := A) (fun j => by rw [gi_wi, if_neg (by omega)]) (fun j => by rw [gi_wi, if_neg (by omega)]) (fun _ => rfl) rfl r)
    rw [show tk T L p t = true by unfold tk; rw [kn]; decide] at b2
    rw [e42, q_X4_partyOf_42, if_neg c, h46, if_neg (by omega), if_pos (by omega), q_X4_partyOf_74, b1, cV_v]
    exact ⟨B, rfl, b2, b4⟩
