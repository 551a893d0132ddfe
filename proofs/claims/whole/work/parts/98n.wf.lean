/-! what the grammar reads can be reckoned: one number is left, never more than 60 lie -/
def lfP (ask : Bool) (v : Int) : Prop := (100 ≤ v ∧ v ≤ 10099) ∨ (0 ≤ v ∧ v < if ask = true then 10 else 8)
def wfL (ask : Bool) : List Int → List Bool → Prop
  | [], ts => ∃ t, ts = [t]
  | v :: l, ts => (lfP ask v ∧ ts.length + 1 ≤ 60 ∧ wfL ask l (false :: ts)) ∨ (∃ r, ts = false :: false :: r ∧ (10 ≤ v ∧ v ≤ 15) ∧ wfL ask l (false :: r)) ∨ (ask = true ∧ ((v = 23 ∧ ts.length + 1 ≤ 60 ∧ wfL ask l (true :: ts)) ∨ (∃ r, ts = false :: false :: r ∧ (16 ≤ v ∧ v ≤ 18) ∧ wfL ask l (true :: r)) ∨ (∃ r, ts = true :: true :: r ∧ (19 ≤ v ∧ v ≤ 20) ∧ wfL ask l (true :: r)) ∨ (∃ r, ts = true :: r ∧ v = 21 ∧ wfL ask l (true :: r)) ∨ (∃ r, ts = false :: r ∧ v = 22 ∧ wfL ask l (false :: r))))
def WA (ask : Bool) (D : Nat) (cs : List Int) (b : Bool) : Prop := ∀ r ts, ts.length + D ≤ 60 → wfL ask r (b :: ts) → wfL ask (cs ++ r) ts
theorem WA_mono {ask : Bool} {D D' : Nat} {cs : List Int} {b : Bool} (h : D ≤ D') (w : WA ask D cs b) : WA ask D' cs b := fun r ts hl hr => w r ts (by omega) hr
theorem WA_leaf {ask : Bool} {v : Int} (h : lfP ask v) : WA ask 1 [v] false := fun r ts hl hr => Or.inl ⟨h, hl, hr⟩
theorem WA_bin {ask : Bool} {D1 D2 D : Nat} {c1 c2 : List Int} {v : Int} {b b' : Bool} (h1 : WA ask D1 c1 b) (h2 : WA ask D2 c2 b) (d1 : D1 ≤ D) (d2 : D2 + 1 ≤ D) (hv : ∀ l r, wfL ask l (b' :: r) → wfL ask (v :: l) (b :: b :: r)) : WA ask D (c1 ++ c2 ++ [v]) b' := by
  intro r ts hl hr
  rw [List.append_assoc, List.append_assoc]
  refine h1 _ ts (by omega) (h2 _ (b :: ts) (by simp; omega) ?_)
  exact hv r ts hr
theorem WA_un {ask : Bool} {D : Nat} {c1 : List Int} {v : Int} {b b' : Bool} (h1 : WA ask D c1 b) (hv : ∀ l r, wfL ask l (b' :: r) → wfL ask (v :: l) (b :: r)) : WA ask D (c1 ++ [v]) b' := by
  intro r ts hl hr
  rw [List.append_assoc]
  exact h1 _ ts hl (hv r ts hr)
def GW (ask : Bool) (D : Nat) (b : Bool) (e : Nat → Bool → GR) : Prop := ∀ p t cs p' t', e p t = .ok (cs, p', t') → WA ask D cs b
theorem GW_loop {T : Nat → Int} {L : Nat} {ask b : Bool} {D : Nat} {sub : Nat → Bool → GR} (hs : GW ask D b sub) (lev : Int) (hv : ∀ p t, jnF T L lev p t ≠ -1 → ∀ l r, wfL ask l (b :: r) → wfL ask (jnF T L lev p t :: l) (b :: b :: r)) : ∀ (m : Nat) (cs : List Int) (p : Nat) (t : Bool) (cs' : List Int) (p' : Nat) (t' : Bool), WA ask (D + 1) cs b → loopG T L sub lev m cs p t = .ok (cs', p', t') → WA ask (D + 1) cs' b
  | 0, cs, p, t, cs', p', t', h, e => by
    unfold loopG at e
    injection e with e; injection e with e1 e2
    subst e1; exact h
  | m + 1, cs, p, t, cs', p', t', h, e => by
    unfold loopG at e
    by_cases c : jnF T L lev p t = -1
    · rw [if_pos c] at e
      injection e with e; injection e with e1 e2
      subst e1; exact h
    · rw [if_neg c] at e
      cases hS : sub (stp T L p) (tk T L p t) with
      | error x => rw [hS] at e; cases e
      | ok x =>
        obtain ⟨c2, p2, t2⟩ := x
        rw [hS] at e
        exact GW_loop hs lev hv m _ p2 t2 cs' p' t' (WA_bin h (hs _ _ _ _ _ hS) (Nat.le_refl _) (Nat.le_refl _) (hv p t c)) e
theorem GW_chain {T : Nat → Int} {L : Nat} {ask b : Bool} {D : Nat} {sub : Nat → Bool → GR} (hs : GW ask D b sub) (lev : Int) (hv : ∀ p t, jnF T L lev p t ≠ -1 → ∀ l r, wfL ask l (b :: r) → wfL ask (jnF T L lev p t :: l) (b :: b :: r)) : GW ask (D + 1) b (chainG T L sub lev) := by
  intro p t cs p' t' e
  unfold chainG at e
  cases hS : sub p t with
  | error x => rw [hS] at e; cases e
  | ok x =>
    obtain ⟨c2, p2, t2⟩ := x
    rw [hS] at e
    exact GW_loop hs lev hv 1600 c2 p2 t2 cs p' t' (WA_mono (by omega) (hs _ _ _ _ _ hS)) e
theorem jn_val (T : Nat → Int) (L : Nat) (p : Nat) (t : Bool) : (jnF T L 4 p t ≠ -1 → 10 ≤ jnF T L 4 p t ∧ jnF T L 4 p t ≤ 15) ∧ (jnF T L 3 p t ≠ -1 → 10 ≤ jnF T L 3 p t ∧ jnF T L 3 p t ≤ 15) ∧ (jnF T L 1 p t ≠ -1 → jnF T L 1 p t = 19) ∧ (jnF T L 0 p t ≠ -1 → jnF T L 0 p t = 20) := by
  refine ⟨fun h => ?_, fun h => ?_, fun h => ?_, fun h => ?_⟩
  · unfold jnF at h ⊢
    rw [if_neg (by decide), if_neg (by decide), if_neg (by decide), if_pos rfl] at h ⊢
    by_cases c1 : sgn T L p t = 42
    · rw [if_pos c1]; decide
    · rw [if_neg c1] at h ⊢
      by_cases c2 : sgn T L p t = 47
      · rw [if_pos c2]; decide
      · rw [if_neg c2] at h; exact absurd rfl h
  · unfold jnF at h ⊢
    rw [if_neg (by decide), if_neg (by decide), if_pos rfl] at h ⊢
    by_cases c1 : sgn T L p t = 43
    · rw [if_pos c1]; decide
    · rw [if_neg c1] at h ⊢
      by_cases c2 : sgn T L p t = 45
      · rw [if_pos c2]; decide
      · rw [if_neg c2] at h; exact absurd rfl h
  · unfold jnF at h ⊢
    rw [if_neg (by decide), if_pos rfl] at h ⊢
    by_cases c1 : wrd T L p t = 26
    · rw [if_pos c1]
    · rw [if_neg c1] at h; exact absurd rfl h
  · unfold jnF at h ⊢
    rw [if_pos rfl] at h ⊢
    by_cases c1 : wrd T L p t = 25
    · rw [if_pos c1]
    · rw [if_neg c1] at h; exact absurd rfl h
theorem wf_bin {ask : Bool} {v : Int} (h : 10 ≤ v ∧ v ≤ 15) (l : List Int) (r : List Bool) (w : wfL ask l (false :: r)) : wfL ask (v :: l) (false :: false :: r) := Or.inr (Or.inl ⟨r, rfl, h, w⟩)
theorem GW_sum {T : Nat → Int} {L : Nat} {ask : Bool} {D : Nat} {sub : Nat → Bool → GR} (hs : GW ask D false sub) : GW ask (D + 2) false (sumG T L sub) := GW_chain (GW_chain hs 4 (fun p t h l r w => wf_bin ((jn_val T L p t).1 h) l r w)) 3 (fun p t h l r w => wf_bin ((jn_val T L p t).2.1 h) l r w)
theorem wdf_lt : ∀ w, w < 38 → wdf 1 w ≠ -1 → 0 ≤ wdf 1 w ∧ wdf 1 w < 10 := by decide
theorem GW_part {T : Nat → Int} {L : Nat} (ask : Bool) {D : Nat} {sub : Option (Nat → Bool → GR)} (hs : ∀ f, sub = some f → GW ask D false f) : GW ask (D + 3) false (partB T L ask sub) := by
  intro p t cs p' t' e
  unfold partB at e
  by_cases c1 : knd T L p t = 2
  · rw [if_pos c1] at e
    cases hS : tkN T L p t 0 9999 with
    | error x => rw [hS] at e; cases e
    | ok x =>
      obtain ⟨p1, t1⟩ := x
      rw [hS] at e
      injection e with e; injection e with e1 e2
      have := tkN_ok hS
      subst e1
      exact WA_mono (by omega) (WA_leaf (Or.inl (by omega)))
  · rw [if_neg c1] at e
    by_cases c2 : sgn T L p t = 40
    · rw [if_pos c2] at e
      cases hf : sub with
      | none => rw [hf] at e; cases e
      | some f =>
        rw [hf] at e
        simp only at e
        cases hS : sumG T L f (stp T L p) false with
        | error x => rw [hS] at e; cases e
        | ok x =>
          obtain ⟨c3, p3, t3⟩ := x
          rw [hS] at e
          simp only at e
          cases hT : tkS T L p3 t3 41 with
          | error x => rw [hT] at e; cases e
          | ok x =>
            obtain ⟨p4, t4⟩ := x
            rw [hT] at e
            injection e with e; injection e with e1 e2
            subst e1
            exact WA_mono (by omega) (GW_sum (hs f hf) _ _ _ _ _ hS)
    · rw [if_neg c2] at e
      by_cases c3 : wrd T L p t = 29 ∨ wrd T L p t = 30
      · rw [if_pos c3] at e
        cases hP : pairB T L sub (stp T L p) true with
        | error x => rw [hP] at e; cases e
        | ok x =>
          obtain ⟨c5, p5, t5⟩ := x
          rw [hP] at e
          injection e with e; injection e with e1 e2
          subst e1
          have vv : 10 ≤ (if wrd T L p t = 29 then (14 : Int) else 15) ∧ (if wrd T L p t = 29 then (14 : Int) else 15) ≤ 15 := by
            by_cases z : wrd T L p t = 29
            · rw [if_pos z]; decide
            · rw [if_neg z]; decide
          unfold pairB at hP
          by_cases c4 : sgn T L (stp T L p) true = 40
          · rw [if_pos c4] at hP
            cases hf : sub with
            | none => rw [hf] at hP; cases hP
            | some f =>
              rw [hf] at hP
              simp only at hP
              cases hS : sumG T L f (stp T L (stp T L p)) false with
              | error x => rw [hS] at hP; cases hP
              | ok x =>
                obtain ⟨c3', p3, t3⟩ := x
                rw [hS] at hP
                simp only at hP
                cases hT : tkS T L p3 t3 44 with
                | error x => rw [hT] at hP; cases hP
                | ok x =>
                  obtain ⟨p4, t4⟩ := x
                  rw [hT] at hP
                  simp only at hP
                  cases hS2 : sumG T L f p4 t4 with
                  | error x => rw [hS2] at hP; cases hP
                  | ok x =>
                    obtain ⟨c7, p7, t7⟩ := x
                    rw [hS2] at hP
                    simp only at hP
                    cases hT2 : tkS T L p7 t7 41 with
                    | error x => rw [hT2] at hP; cases hP
                    | ok x =>
                      obtain ⟨p6, t6⟩ := x
                      rw [hT2] at hP
                      injection hP with hP; injection hP with q1 q2
                      subst q1
                      exact WA_bin (GW_sum (hs f hf) _ _ _ _ _ hS) (GW_sum (hs f hf) _ _ _ _ _ hS2) (by omega) (by omega) (fun l r w => wf_bin vv l r w)
          · rw [if_neg c4] at hP; cases hP
      · rw [if_neg c3] at e
        by_cases c4 : ask = true ∧ wrd T L p t = 31
        · rw [if_pos c4] at e
          cases hf : sub with
          | none => rw [hf] at e; cases e
          | some f =>
            rw [hf] at e
            simp only at e
            cases hS : f (stp T L p) true with
            | error x => rw [hS] at e; cases e
            | ok x =>
              obtain ⟨c3', p3, t3⟩ := x
              rw [hS] at e
              injection e with e; injection e with e1 e2
              subst e1
              exact WA_mono (by omega) (WA_un (hs f hf _ _ _ _ _ hS) (fun l r w => Or.inr (Or.inr ⟨c4.1, Or.inr (Or.inr (Or.inr (Or.inr ⟨r, rfl, rfl, w⟩)))⟩)))
        · rw [if_neg c4] at e
          by_cases c5 : isF ask (wrd T L p t) = true
          · rw [if_pos c5] at e
            injection e with e; injection e with e1 e2
            obtain ⟨f0, f1, f2⟩ := of_decide_eq_true c5
            have w37 := wrd_le T L p t
            have g := wdf_lt (wrd T L p t) (by omega) f1
            subst e1
            refine WA_mono (by omega) (WA_leaf (Or.inr ⟨g.1, ?_⟩))
            cases ask with
            | true => rw [if_pos rfl]; omega
            | false =>
              rw [if_neg (by decide)]
              rcases f2 with y | y
              · cases y
              · exact y
          · rw [if_neg c5] at e; cases e
theorem GW_mono {ask b : Bool} {D D' : Nat} {e : Nat → Bool → GR} (h : D ≤ D') (w : GW ask D b e) : GW ask D' b e := fun p t cs p' t' q => WA_mono h (w p t cs p' t' q)
theorem GW_partG {T : Nat → Int} {L : Nat} (ask : Bool) : ∀ r, GW ask (3 * r + 3) false (partG T L ask r)
  | 0 => GW_part ask (D := 0) (fun f h => by cases h)
  | r + 1 => by
    have := GW_part (T := T) (L := L) ask (D := 3 * r + 3) (sub := some (partG T L ask r)) (fun f h => by injection h with h; rw [← h]; exact GW_partG ask r)
    rw [show 3 * (r + 1) + 3 = 3 * r + 3 + 3 by omega]
    exact this
theorem GW_test {T : Nat → Int} {L : Nat} {D : Nat} {sub : Nat → Bool → GR} (hs : GW true D true sub) : GW true (D + 2) true (testG T L sub) := GW_chain (GW_chain hs 1 (fun p t h l r w => by
  rw [(jn_val T L p t).2.2.1 h]
  exact Or.inr (Or.inr ⟨rfl, Or.inr (Or.inr (Or.inl ⟨r, rfl, by decide, w⟩))⟩))) 0 (fun p t h l r w => by
  rw [(jn_val T L p t).2.2.2 h]
  exact Or.inr (Or.inr ⟨rfl, Or.inr (Or.inr (Or.inl ⟨r, rfl, by decide, w⟩))⟩))
theorem opT_v {T : Nat → Int} {L p : Nat} {t : Bool} (h : opT T L p t ≠ -1) : 16 ≤ opT T L p t ∧ opT T L p t ≤ 18 := by
  unfold opT at h ⊢
  by_cases c1 : sgn T L p t = 60
  · rw [if_pos c1]; decide
  · rw [if_neg c1] at h ⊢
    by_cases c2 : sgn T L p t = 62
    · rw [if_pos c2]; decide
    · rw [if_neg c2] at h ⊢
      by_cases c3 : sgn T L p t = 61
      · rw [if_pos c3]; decide
      · rw [if_neg c3] at h; exact absurd rfl h
theorem GW_fact {T : Nat → Int} {L : Nat} {D : Nat} {part : Nat → Bool → GR} (hP : GW true D false part) {F : Nat} (hF : D + 3 ≤ F) {sub : Option (Nat → Bool → GR)} {Df : Nat} (hD : Df + 2 ≤ F) (hs : ∀ f, sub = some f → GW true Df true f) : GW true F true (factB T L part sub) := by
  intro p t cs p' t' e
  unfold factB at e
  by_cases c1 : wrd T L p t = 27
  · rw [if_pos c1] at e
    cases hf : sub with
    | none => rw [hf] at e; cases e
    | some f =>
      rw [hf] at e
      simp only at e
      cases hS : f (stp T L p) true with
      | error x => rw [hS] at e; cases e
      | ok x =>
        obtain ⟨c3', p3, t3⟩ := x
        rw [hS] at e
        injection e with e; injection e with e1 e2
        subst e1
        exact WA_mono (by omega) (WA_un (hs f hf _ _ _ _ _ hS) (fun l r w => Or.inr (Or.inr ⟨rfl, Or.inr (Or.inr (Or.inr (Or.inl ⟨r, rfl, rfl, w⟩)))⟩)))
  · rw [if_neg c1] at e
    by_cases c2 : sgn T L p t = 91
    · rw [if_pos c2] at e
      cases hf : sub with
      | none => rw [hf] at e; cases e
      | some f =>
        rw [hf] at e
        simp only at e
        cases hS : testG T L f (stp T L p) false with
        | error x => rw [hS] at e; cases e
        | ok x =>
          obtain ⟨c3, p3, t3⟩ := x
          rw [hS] at e
          simp only at e
          cases hT : tkS T L p3 t3 93 with
          | error x => rw [hT] at e; cases e
          | ok x =>
            obtain ⟨p4, t4⟩ := x
            rw [hT] at e
            injection e with e; injection e with e1 e2
            subst e1
            exact WA_mono (by omega) (GW_test (hs f hf) _ _ _ _ _ hS)
    · rw [if_neg c2] at e
      by_cases c3 : wrd T L p t = 28
      · rw [if_pos c3] at e
        injection e with e; injection e with e1 e2
        subst e1
        intro r ts hl hr
        exact Or.inr (Or.inr ⟨rfl, Or.inl ⟨rfl, by omega, hr⟩⟩)
      · rw [if_neg c3] at e
        cases hS : sumG T L part p t with
        | error x => rw [hS] at e; cases e
        | ok x =>
          obtain ⟨c5, p5, t5⟩ := x
          rw [hS] at e
          simp only at e
          by_cases c6 : opT T L p5 t5 = -1
          · rw [if_pos c6] at e; cases e
          · rw [if_neg c6] at e
            cases hS2 : sumG T L part (stp T L p5) false with
            | error x => rw [hS2] at e; cases e
            | ok x =>
              obtain ⟨c7, p7, t7⟩ := x
              rw [hS2] at e
              injection e with e; injection e with e1 e2
              subst e1
              exact WA_bin (GW_sum hP _ _ _ _ _ hS) (GW_sum hP _ _ _ _ _ hS2) (by omega) (by omega) (fun l r w => Or.inr (Or.inr ⟨rfl, Or.inr (Or.inl ⟨r, rfl, opT_v c6, w⟩)⟩))
theorem GW_factG {T : Nat → Int} {L : Nat} : ∀ r, GW true (3 * r + 6) true (factG T L r)
  | 0 => GW_fact (GW_partG true 0) (by omega) (Df := 0) (by omega) (fun f h => by cases h)
  | r + 1 => GW_fact (GW_partG true (r + 1)) (by omega) (Df := 3 * r + 6) (by omega) (fun f h => by injection h with h; rw [← h]; exact GW_factG r)
theorem wfL_s : ∀ (l : List Int) (c : Int → Int) (k : Int) (ts : List Bool), (∀ i : Nat, i < l.length → c (k + i) = clsC (l.getD i 0)) → wfL true l ts → wfs c l.length k ts
  | [], c, k, ts, hc, h => h
  | v :: l, c, k, ts, hc, h => by
    have e0 : c k = clsC v := by have := hc 0 (by simp); simpa using this
    have ih : ∀ ts, wfL true l ts → wfs c l.length (k + 1) ts := fun ts w => wfL_s l c (k + 1) ts (fun i hi => by
      have := hc (i + 1) (by simp; omega)
      rw [show k + 1 + (i : Int) = k + ((i + 1 : Nat) : Int) by omega, this]; simp) w
    show (((100 ≤ c k ∧ c k ≤ 10099) ∨ (0 ≤ c k ∧ c k < 10)) ∧ ts.length + 1 ≤ 60 ∧ wfs c l.length (k + 1) (false :: ts)) ∨ (c k = 101 ∧ ts.length + 1 ≤ 60 ∧ wfs c l.length (k + 1) (true :: ts)) ∨ (∃ r, ts = false :: false :: r ∧ (10 ≤ c k ∧ c k ≤ 15) ∧ wfs c l.length (k + 1) (false :: r)) ∨ (∃ r, ts = false :: false :: r ∧ (16 ≤ c k ∧ c k ≤ 18) ∧ wfs c l.length (k + 1) (true :: r)) ∨ (∃ r, ts = true :: true :: r ∧ (19 ≤ c k ∧ c k ≤ 20) ∧ wfs c l.length (k + 1) (true :: r)) ∨ (∃ r, ts = true :: r ∧ c k = 21 ∧ wfs c l.length (k + 1) (true :: r)) ∨ (∃ r, ts = false :: r ∧ c k = 22 ∧ wfs c l.length (k + 1) (false :: r))
    rw [e0]
    rcases h with ⟨h1, h2, h3⟩ | ⟨r, h1, h2, h3⟩ | ⟨_, ⟨h1, h2, h3⟩ | ⟨r, h1, h2, h3⟩ | ⟨r, h1, h2, h3⟩ | ⟨r, h1, h2, h3⟩ | ⟨r, h1, h2, h3⟩⟩
    · left
      unfold lfP at h1
      rw [if_pos rfl] at h1
      rw [show clsC v = v by unfold clsC; rw [if_neg (by omega)]]
      exact ⟨h1, h2, ih _ h3⟩
    · right; right; left
      rw [show clsC v = v by unfold clsC; rw [if_neg (by omega)]]
      exact ⟨r, h1, h2, ih _ h3⟩
    · right; left
      rw [h1]
      exact ⟨rfl, h2, ih _ h3⟩
    · right; right; right; left
      rw [show clsC v = v by unfold clsC; rw [if_neg (by omega)]]
      exact ⟨r, h1, h2, ih _ h3⟩
    · right; right; right; right; left
      rw [show clsC v = v by unfold clsC; rw [if_neg (by omega)]]
      exact ⟨r, h1, h2, ih _ h3⟩
    · right; right; right; right; right; left
      rw [show clsC v = v by unfold clsC; rw [if_neg (by omega)]]
      exact ⟨r, h1, h2, ih _ h3⟩
    · right; right; right; right; right; right
      rw [show clsC v = v by unfold clsC; rw [if_neg (by omega)]]
      exact ⟨r, h1, h2, ih _ h3⟩
theorem wfL_c : ∀ (l : List Int) (c : Int → Int) (k : Int) (ts : List Bool), (∀ i : Nat, i < l.length → c (k + i) = mcF false (l.getD i 0)) → wfL false l ts → wfc c l.length k ts.length
  | [], c, k, ts, hc, h => by
    obtain ⟨t, h⟩ := h
    rw [h]; rfl
  | v :: l, c, k, ts, hc, h => by
    have e0 : c k = mcF false v := by have := hc 0 (by simp); simpa using this
    have ih : ∀ ts : List Bool, wfL false l ts → wfc c l.length (k + 1) ts.length := fun ts w => wfL_c l c (k + 1) ts (fun i hi => by
      have := hc (i + 1) (by simp; omega)
      rw [show k + 1 + (i : Int) = k + ((i + 1 : Nat) : Int) by omega, this]; simp) w
    show (((1000 ≤ c k ∧ c k ≤ 10999) ∨ (7 ≤ c k ∧ c k ≤ 14)) ∧ ts.length + 1 ≤ 60 ∧ wfc c l.length (k + 1) (ts.length + 1)) ∨ ((1 ≤ c k ∧ c k ≤ 6) ∧ 2 ≤ ts.length ∧ wfc c l.length (k + 1) (ts.length - 1))
    rw [e0]
    rcases h with ⟨h1, h2, h3⟩ | ⟨r, h1, h2, h3⟩ | ⟨h1, _⟩
    · left
      unfold lfP at h1
      rw [if_neg (by decide)] at h1
      refine ⟨?_, h2, ih _ h3⟩
      unfold mcF
      rcases h1 with h1 | h1
      · rw [if_pos h1.1]; omega
      · rw [if_neg (by omega), if_pos (by omega), if_neg (by decide)]; omega
    · right
      have e1 : mcF false v = v - 9 := by unfold mcF; rw [if_neg (by omega), if_neg (by omega), if_neg (by omega), if_neg (by omega)]
      rw [e1, h1]
      refine ⟨by omega, by simp, ?_⟩
      have := ih _ h3
      simpa using this
    · cases h1
theorem wfL_end {ask b : Bool} {D : Nat} {cs : List Int} (hD : D ≤ 60) (w : WA ask D cs b) : wfL ask cs [] := by
  have := w [] [] (by simpa using hD) ⟨b, rfl⟩
  rw [List.append_nil] at this
  exact this
