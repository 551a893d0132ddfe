/-! the class's reader: signs, words, numbers, names taken -/
def sgn (T : Nat → Int) (L p : Nat) (t : Bool) : Int := if knd T L p t = 3 then T (bl T L p) else -1
def tk (T : Nat → Int) (L p : Nat) (t : Bool) : Bool := decide (knd T L p t = 1 ∨ knd T L p t = 2)
def numV (T : Nat → Int) (L p : Nat) : Int := vz T (bl T L p) (stp T L p - bl T L p)
def tkS (T : Nat → Int) (L p : Nat) (t : Bool) (c : Int) : Except (Int × Int) (Nat × Bool) := if sgn T L p t = c then .ok (stp T L p, false) else .error (1, bl T L p)
def tkW (T : Nat → Int) (L p : Nat) (t : Bool) (w : Nat) : Except (Int × Int) (Nat × Bool) := if wrd T L p t = w then .ok (stp T L p, true) else .error (1, bl T L p)
def tkN (T : Nat → Int) (L p : Nat) (t : Bool) (lo hi : Int) : Except (Int × Int) (Nat × Bool) := if knd T L p t = 2 then (if 4 < stp T L p - bl T L p then .error (1, bl T L p + 4) else if numV T L p < lo ∨ hi < numV T L p then .error (2, bl T L p) else .ok (stp T L p, true)) else .error (1, bl T L p)
def tkA (T : Nat → Int) (L p : Nat) (t : Bool) : Except (Int × Int) (Nat × Bool) := if knd T L p t = 1 ∧ (wrd T L p t = 0 ∨ 31 < wrd T L p t) then (if 6 < stp T L p - bl T L p then .error (1, bl T L p + 6) else .ok (stp T L p, true)) else .error (1, bl T L p)
def frF (A B : AH) : Prop := (∀ a j, ¬ (a = 42 ∧ 2 ≤ j ∧ j ≤ 12) → gi B a j = gi A a j) ∧ (∀ a j, ¬ (a = 42 ∧ j = 7) → gr B a j = gr A a j) ∧ B.2.2 = A.2.2
theorem frR_F {A B : AH} (f : frR A B) : frF A B := ⟨fun a j h => f.1 a j (by omega), f.2.1, f.2.2⟩
theorem frF_trans {A B C : AH} (h1 : frF A B) (h2 : frF B C) : frF A C := ⟨fun a j r => (h2.1 a j r).trans (h1.1 a j r), fun a j r => (h2.2.1 a j r).trans (h1.2.1 a j r), h2.2.2.trans h1.2.2⟩
/-- a fault told -/
def FL (A B : AH) (k s : Int) : Prop := gi B 42 11 = k ∧ gi B 42 12 = s ∧ frF A B
/-- what a taking method answers -/
def CT (T : Nat → Int) (L : Nat) (A : AH) (x : RS) (e : Except (Int × Int) (Nat × Bool)) (Q : AH → Prop) : Prop := match e with
  | .ok (p, t) => ∃ B, x = some (some (vI 1), B) ∧ RdS B T L p t ∧ frR A B ∧ Q B
  | .error (k, s) => ∃ B, x = some (some (vI 0), B) ∧ FL A B k s
theorem RdS_T {A : AH} {T : Nat → Int} {L p : Nat} {t : Bool} (r : RdS A T L p t) : RdT A T L := ⟨r.1.1, r.1.2.1, r.1.2.2.1, r.1.2.2.2.1, r.1.2.2.2.2.1⟩
set_option maxRecDepth 100000 in
theorem s_failC (d : Nat) (k s : Int) (A : AH) : runF (d + 1) 85 [vR 18 42 0, vI k, vI s] A = some (some (vI 0), wi (wi A 42 11 k) 42 12 s) := by
  rw [r_X8_fail, q_X8_fail_0, q_X8_fail_10]
theorem FL_f (A : AH) (k s : Int) : FL A (wi (wi A 42 11 k) 42 12 s) k s := by
  refine ⟨by simp -implicitDefEqProofs (disch := omega) only [gi_wi, ↓reduceIte, Int.reduceEq, cI_v, cL_v, cV_v, cR_v, wid, wid64, if_pos, if_neg, Nat.add_zero, if_true, if_false, and_self, and_true, true_and, and_false, false_and, or_true, true_or, or_false, false_or], by simp -implicitDefEqProofs (disch := omega) only [gi_wi, ↓reduceIte, Int.reduceEq, cI_v, cL_v, cV_v, cR_v, wid, wid64, if_pos, if_neg, Nat.add_zero, if_true, if_false, and_self, and_true, true_and, and_false, false_and, or_true, true_or, or_false, false_or], fun a j h => ?_, fun _ _ _ => rfl, rfl⟩
  rw [gi_wi, if_neg (by omega), gi_wi, if_neg (by omega)]
set_option maxRecDepth 100000 in
theorem s_stepR (d : Nat) {T : Nat → Int} {L p : Nat} {t : Bool} (A : AH) (r : RdS A T L p t) : ∃ B, runF (d + 2) 86 [vR 18 42 0] A = some (none, B) ∧ RdS B T L (stp T L p) (tk T L p t) ∧ (gi B 42 8 = bl T L p ∧ gi B 42 9 = gi A 42 3 ∧ gi B 42 10 = gi A 42 4) ∧ frR A B := by
  have tx := r.1.2.2.2.2.1
  obtain ⟨B, h1, h2, h3, h4⟩ := s_step d T L (stp T L p) (knd T L p t) A (RdS_T r) (stp_L tx r.1.2.2.2.2.2) r.2.2.1 r.2.2.2.1
  exact ⟨B, h1, h2, ⟨by rw [h3.1, r.2.1], h3.2⟩, h4⟩
theorem knd3 {T : Nat → Int} {L p : Nat} {t : Bool} (tx : TX T L) (h : knd T L p t = 3) : bl T L p < L := by
  unfold knd at h
  by_cases c1 : lP (ch T L (bl T L p)) = true
  · rw [if_pos c1] at h
    by_cases c : stk T L p t = true
    · rw [if_pos c] at h; omega
    · rw [if_neg c] at h; omega
  · rw [if_neg c1] at h
    by_cases c2 : dP (ch T L (bl T L p)) = true
    · rw [if_pos c2] at h
      by_cases c : stk T L p t = true
      · rw [if_pos c] at h; omega
      · rw [if_neg c] at h; omega
    · rw [if_neg c2] at h
      by_cases c3 : ch T L (bl T L p) = -1
      · rw [if_pos c3] at h; omega
      · have := mt (ch_m1 (s := bl T L p) tx).mpr c3; omega
set_option maxRecDepth 100000 in
theorem s_isSign (d : Nat) {T : Nat → Int} {L p : Nat} {t : Bool} (c : Int) (A : AH) (r : RdS A T L p t) (hc : 0 ≤ c) : runF (d + 1) 89 [vR 18 42 0, vI c] A = some (some (vI (bI (decide (sgn T L p t = c)))), A) := by
  obtain ⟨⟨t1, t2, t3, t4, t5, t6⟩, h5, h2, h6, h7, _⟩ := r
  rw [r_X8_isSign, q_X8_isSign_0, h6, h5, t1]
  unfold sgn
  by_cases c1 : knd T L p t = 3
  · have hl := knd3 t5 c1
    have hL := t5.1
    rw [if_pos c1, if_pos c1, if_neg (by omega), if_pos (by rw [t2]; omega), Int.toNat_natCast, t4]
    by_cases c2 : T (bl T L p) = c
    · rw [if_pos c2, decide_eq_true c2]; rfl
    · rw [if_neg c2, decide_eq_false c2, q_X8_isSign_25]; rfl
  · rw [if_neg c1, if_neg c1, decide_eq_false (by omega), q_X8_isSign_25]; rfl
theorem tk3 {T : Nat → Int} {L p : Nat} {t : Bool} {c : Int} (h : sgn T L p t = c) (hc : 0 ≤ c) : tk T L p t = false := by
  unfold sgn at h
  unfold tk
  by_cases c1 : knd T L p t = 3
  · rw [c1]; decide
  · rw [if_neg c1] at h; omega
set_option maxRecDepth 100000 in
theorem s_takeSign (d : Nat) {T : Nat → Int} {L p : Nat} {t : Bool} (c : Int) (A : AH) (r : RdS A T L p t) (hc : 0 ≤ c) : CT T L A (runF (d + 3) 90 [vR 18 42 0, vI c] A) (tkS T L p t c) (fun _ => True) := by
  unfold CT tkS
  rw [r_X8_takeSign, q_X8_takeSign_0, s_isSign (d + 1) c A r hc, cI_v]
  by_cases h : sgn T L p t = c
  · rw [if_pos h, decide_eq_true h, bI_t, if_neg (by omega)]
    obtain ⟨B, b1, b2, b3, b4⟩ := s_stepR d A r
    rw [tk3 h hc] at b2
    exact ⟨B, by rw [b1, cV_v], b2, b4, trivial⟩
  · rw [if_neg h, decide_eq_false h, bI_f, if_pos rfl, s_failC, cI_v, if_pos (Or.inl rfl), r.2.1]
    exact ⟨_, rfl, FL_f A 1 _⟩
theorem wrd_k {T : Nat → Int} {L p : Nat} {t : Bool} (h : wrd T L p t ≠ 0) : knd T L p t = 1 := by
  unfold wrd at h
  by_cases c : knd T L p t = 1 ∧ stp T L p - bl T L p ≤ 6
  · exact c.1
  · rw [if_neg c] at h; omega
set_option maxRecDepth 100000 in
theorem s_takeWord (d : Nat) {T : Nat → Int} {L p : Nat} {t : Bool} (w : Nat) (A : AH) (r : RdS A T L p t) (hw : w ≠ 0) : CT T L A (runF (d + 3) 91 [vR 18 42 0, vR 22 w 0] A) (tkW T L p t w) (fun _ => True) := by
  unfold CT tkW
  rw [r_X8_takeWord, q_X8_takeWord_0, r.2.2.2.2.1]
  by_cases h : wrd T L p t = w
  · rw [if_pos h, if_pos h]
    obtain ⟨B, b1, b2, b3, b4⟩ := s_stepR d A r
    have e : tk T L p t = true := by unfold tk; rw [wrd_k (by omega)]; decide
    rw [e] at b2
    exact ⟨B, by rw [b1, cV_v], b2, b4, trivial⟩
  · rw [if_neg h, if_neg h, s_failC, cI_v, if_pos (Or.inl rfl), r.2.1]
    exact ⟨_, rfl, FL_f A 1 _⟩
theorem knd2 {T : Nat → Int} {L p : Nat} {t : Bool} (h : knd T L p t = 2) : dP (ch T L (bl T L p)) = true ∧ lP (ch T L (bl T L p)) = false ∧ stk T L p t = false := by
  unfold knd at h
  by_cases c1 : lP (ch T L (bl T L p)) = true
  · rw [if_pos c1] at h
    by_cases c : stk T L p t = true
    · rw [if_pos c] at h; omega
    · rw [if_neg c] at h; omega
  · rw [if_neg c1] at h
    by_cases c2 : dP (ch T L (bl T L p)) = true
    · rw [if_pos c2] at h
      by_cases c : stk T L p t = true
      · rw [if_pos c] at h; omega
      · exact ⟨c2, by simpa using c1, by simpa using c⟩
    · rw [if_neg c2] at h
      by_cases c3 : ch T L (bl T L p) = -1
      · rw [if_pos c3] at h; omega
      · rw [if_neg c3] at h; omega
theorem knd1 {T : Nat → Int} {L p : Nat} {t : Bool} (h : knd T L p t = 1) : lP (ch T L (bl T L p)) = true ∧ stk T L p t = false := by
  unfold knd at h
  by_cases c1 : lP (ch T L (bl T L p)) = true
  · rw [if_pos c1] at h
    by_cases c : stk T L p t = true
    · rw [if_pos c] at h; omega
    · exact ⟨c1, by simpa using c⟩
  · rw [if_neg c1] at h
    by_cases c2 : dP (ch T L (bl T L p)) = true
    · rw [if_pos c2] at h
      by_cases c : stk T L p t = true
      · rw [if_pos c] at h; omega
      · rw [if_neg c] at h; omega
    · rw [if_neg c2] at h
      by_cases c3 : ch T L (bl T L p) = -1
      · rw [if_pos c3] at h; omega
      · rw [if_neg c3] at h; omega
set_option maxRecDepth 100000 in
theorem s_takeNumber (d : Nat) {T : Nat → Int} {L p : Nat} {t : Bool} (lo hi : Int) (A : AH) (r : RdS A T L p t) : CT T L A (runF (d + 3) 92 [vR 18 42 0, vI lo, vI hi] A) (tkN T L p t lo hi) (fun B => gi B 42 10 = numV T L p ∧ gi B 42 8 = bl T L p) := by
  have tx := r.1.2.2.2.2.1
  have pL := r.1.2.2.2.2.2
  have tL := tx.1
  have s1 := bl_le T L p
  have s2 := stp_le T L p
  have s3 := stp_L tx pL
  have bl2 := bl_L (T := T) pL
  unfold CT tkN
  rw [r_X8_takeNumber, q_X8_takeNumber_0, r.2.2.2.1, r.2.2.1, r.2.1, wid (x := (stp T L p : Int) - bl T L p) (by omega) (by omega)]
  by_cases h : knd T L p t = 2
  · rw [if_pos h, if_pos h]
    by_cases h4 : 4 < stp T L p - bl T L p
    · rw [if_pos h4, if_pos (c := 4 < (stp T L p : Int) - bl T L p) (by omega), wid (by omega) (by omega), s_failC, cI_v, if_pos (Or.inl rfl)]
      exact ⟨_, rfl, FL_f A 1 _⟩
    · have ev : gi A 42 4 = numV T L p := r.2.2.2.2.2.2 (knd2 h).1 (by omega)
      rw [if_neg h4, if_neg (c := 4 < (stp T L p : Int) - bl T L p) (by omega), ev]
      by_cases h5 : numV T L p < lo
      · rw [if_pos h5, if_pos (Or.inl h5), q_X8_takeNumber_59, s_failC, cI_v, if_pos (Or.inl rfl), r.2.1]
        exact ⟨_, rfl, FL_f A 2 _⟩
      · rw [if_neg h5]
        by_cases h6 : hi < numV T L p
        · rw [if_pos h6, if_pos (Or.inr h6), q_X8_takeNumber_59, s_failC, cI_v, if_pos (Or.inl rfl), r.2.1]
          exact ⟨_, rfl, FL_f A 2 _⟩
        · rw [if_neg h6, if_neg (by omega)]
          obtain ⟨B, b1, b2, b3, b4⟩ := s_stepR d A r
          have e : tk T L p t = true := by unfold tk; rw [h]; decide
          rw [e] at b2
          exact ⟨B, by rw [b1, cV_v], b2, b4, by rw [b3.2.2, ev], b3.1⟩
  · rw [if_neg h, if_neg h, s_failC, cI_v, if_pos (Or.inl rfl)]
    exact ⟨_, rfl, FL_f A 1 _⟩
theorem own_31' : ∀ w, w < 38 → 0 < w → (wdf 2 w = 0 ↔ 31 < w) := by decide
theorem own_31 (w : Nat) (h1 : 0 < w) (h2 : w ≤ 37) : wdf 2 w = 0 ↔ 31 < w := own_31' w (by omega) h1
theorem wrd_le (T : Nat → Int) (L p : Nat) (t : Bool) : wrd T L p t ≤ 37 := by
  unfold wrd
  by_cases c : knd T L p t = 1 ∧ stp T L p - bl T L p ≤ 6
  · rw [if_pos c]; exact wordOf_le _
  · rw [if_neg c]; omega
def keyV (T : Nat → Int) (L p : Nat) : Int := hz (dg T (bl T L p) (stp T L p - bl T L p)) 6
set_option maxRecDepth 100000 in
theorem s_takeName (d : Nat) {T : Nat → Int} {L p : Nat} {t : Bool} (A : AH) (r : RdS A T L p t) : CT T L A (runF (d + 3) 93 [vR 18 42 0] A) (tkA T L p t) (fun B => gi B 42 9 = keyV T L p ∧ gi B 42 8 = bl T L p) := by
  have tx := r.1.2.2.2.2.1
  have pL := r.1.2.2.2.2.2
  have tL := tx.1
  have s1 := bl_le T L p
  have s2 := stp_le T L p
  have s3 := stp_L tx pL
  have bl2 := bl_L (T := T) pL
  have wl := wrd_le T L p t
  unfold CT tkA
  have bad : ∀ m, ∃ B, go true 2 (runF (d + 2)) (runN (d + 2)) pb_X8_takeName (m + 1) 25 [vR 18 42 0] [] A = some (some (vI 0), B) ∧ FL A B 1 (bl T L p) := fun m => by
    rw [q_X8_takeName_25, s_failC, cI_v, if_pos (Or.inl rfl), r.2.1]
    exact ⟨_, rfl, FL_f A 1 _⟩
  rw [r_X8_takeName, q_X8_takeName_0, r.2.2.2.1, r.2.2.2.2.1]
  by_cases h : knd T L p t = 1
  · rw [if_pos h]
    by_cases hw : wrd T L p t = 0 ∨ 31 < wrd T L p t
    · rw [if_pos (c := knd T L p t = 1 ∧ (wrd T L p t = 0 ∨ 31 < wrd T L p t)) ⟨h, hw⟩]
      have gd : ∀ m, go true 2 (runF (d + 2)) (runN (d + 2)) pb_X8_takeName (m + 2) 35 [vR 18 42 0] [] A = if 6 < stp T L p - bl T L p then some (some (vI 0), wi (wi A 42 11 1) 42 12 (bl T L p + 6)) else cV (runF (d + 2) 86 [vR 18 42 0] A) fun A3 => some (some (vI 1), A3) := fun m => by
        rw [q_X8_takeName_35, r.2.2.1, r.2.1, wid (x := (stp T L p : Int) - bl T L p) (by omega) (by omega)]
        by_cases h6 : 6 < stp T L p - bl T L p
        · rw [if_pos (by omega), if_pos h6, wid (by omega) (by omega), s_failC, cI_v, if_pos (Or.inl rfl)]
        · rw [if_neg (by omega), if_neg h6]
      have e35 : (if wrd T L p t = 0 then go true 2 (runF (d + 2)) (runN (d + 2)) pb_X8_takeName (fu + 199 + 0) 35 [vR 18 42 0] [] A else if wrd T L p t = 0 then none else if wdf 2 (wrd T L p t) = 0 then go true 2 (runF (d + 2)) (runN (d + 2)) pb_X8_takeName (fu + 199 + 0) 35 [vR 18 42 0] [] A else go true 2 (runF (d + 2)) (runN (d + 2)) pb_X8_takeName (fu + 199 + 0) 25 [vR 18 42 0] [] A) = go true 2 (runF (d + 2)) (runN (d + 2)) pb_X8_takeName (fu + 197 + 2) 35 [vR 18 42 0] [] A := by
        by_cases z : wrd T L p t = 0
        · rw [if_pos z]
        · rw [if_neg z, if_neg z, if_pos ((own_31 _ (by omega) wl).mpr (by omega))]
      rw [e35, gd]
      by_cases h6 : 6 < stp T L p - bl T L p
      · rw [if_pos h6, if_pos h6]
        exact ⟨_, rfl, FL_f A 1 _⟩
      · rw [if_neg h6, if_neg h6]
        obtain ⟨B, b1, b2, b3, b4⟩ := s_stepR d A r
        have e : tk T L p t = true := by unfold tk; rw [h]; decide
        rw [e] at b2
        exact ⟨B, by rw [b1, cV_v], b2, b4, by rw [b3.2.1]; exact r.2.2.2.2.2.1 (knd1 h).1 (by omega), b3.1⟩
    · rw [if_neg (c := knd T L p t = 1 ∧ (wrd T L p t = 0 ∨ 31 < wrd T L p t)) (fun z => hw z.2), if_neg (by omega), if_neg (by omega), if_neg (fun z => hw (Or.inr ((own_31 _ (by omega) wl).mp z)))]
      exact bad _
  · rw [if_neg h, if_neg (c := knd T L p t = 1 ∧ (wrd T L p t = 0 ∨ 31 < wrd T L p t)) (fun z => h z.1)]
    exact bad _
