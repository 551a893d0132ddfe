/-! sums and tests as steps: the grammar, and the class's walk of it -/
abbrev GR : Type := Except (Int × Int) (List Int × Nat × Bool)
def clsC (v : Int) : Int := if v = 23 then 101 else v
/-- what joins two parts of a level; -1: nothing -/
def jnF (T : Nat → Int) (L : Nat) (lev : Int) (p : Nat) (t : Bool) : Int := if lev = 0 then (if wrd T L p t = 25 then 20 else -1) else if lev = 1 then (if wrd T L p t = 26 then 19 else -1) else if lev = 3 then (if sgn T L p t = 43 then 10 else if sgn T L p t = 45 then 11 else -1) else if lev = 4 then (if sgn T L p t = 42 then 12 else if sgn T L p t = 47 then 13 else -1) else -1
def loopG (T : Nat → Int) (L : Nat) (sub : Nat → Bool → GR) (lev : Int) : Nat → List Int → Nat → Bool → GR
  | 0, cs, p, t => .ok (cs, p, t)
  | m + 1, cs, p, t => if jnF T L lev p t = -1 then .ok (cs, p, t) else match sub (stp T L p) (tk T L p t) with
    | .error e => .error e
    | .ok (c2, p2, t2) => loopG T L sub lev m (cs ++ c2 ++ [jnF T L lev p t]) p2 t2
def chainG (T : Nat → Int) (L : Nat) (sub : Nat → Bool → GR) (lev : Int) (p : Nat) (t : Bool) : GR := match sub p t with
  | .error e => .error e
  | .ok (cs, p1, t1) => loopG T L sub lev 1600 cs p1 t1
def sumG (T : Nat → Int) (L : Nat) (part : Nat → Bool → GR) : Nat → Bool → GR := chainG T L (chainG T L part 4) 3
def isF (ask : Bool) (w : Nat) : Bool := decide (w ≠ 0 ∧ wdf 1 w ≠ -1 ∧ (ask = true ∨ wdf 1 w < 8))
def pairB (T : Nat → Int) (L : Nat) (sub : Option (Nat → Bool → GR)) (p : Nat) (t : Bool) : GR :=
  if sgn T L p t = 40 then (match sub with
    | none => .error (4, bl T L p)
    | some f => match sumG T L f (stp T L p) false with
      | .error e => .error e
      | .ok (cs, p1, t1) => match tkS T L p1 t1 44 with
        | .error e => .error e
        | .ok (p2, t2) => match sumG T L f p2 t2 with
          | .error e => .error e
          | .ok (c2, p3, t3) => match tkS T L p3 t3 41 with
            | .error e => .error e
            | .ok (p4, t4) => .ok (cs ++ c2, p4, t4)) else .error (1, bl T L p)
/-- a part, where sub reads one with a bracket more (none: six are open) -/
def partB (T : Nat → Int) (L : Nat) (ask : Bool) (sub : Option (Nat → Bool → GR)) (p : Nat) (t : Bool) : GR :=
  if knd T L p t = 2 then (match tkN T L p t 0 9999 with
    | .error e => .error e
    | .ok (p1, t1) => .ok ([100 + numV T L p], p1, t1))
  else if sgn T L p t = 40 then (match sub with
    | none => .error (4, bl T L p)
    | some f => match sumG T L f (stp T L p) false with
      | .error e => .error e
      | .ok (cs, p1, t1) => match tkS T L p1 t1 41 with
        | .error e => .error e
        | .ok (p2, t2) => .ok (cs, p2, t2))
  else if wrd T L p t = 29 ∨ wrd T L p t = 30 then (match pairB T L sub (stp T L p) true with
    | .error e => .error e
    | .ok (cs, p1, t1) => .ok (cs ++ [if wrd T L p t = 29 then 14 else 15], p1, t1))
  else if ask = true ∧ wrd T L p t = 31 then (match sub with
    | none => .error (4, bl T L p)
    | some f => match f (stp T L p) true with
      | .error e => .error e
      | .ok (cs, p1, t1) => .ok (cs ++ [22], p1, t1))
  else if isF ask (wrd T L p t) = true then .ok ([wdf 1 (wrd T L p t)], stp T L p, true)
  else .error (1, bl T L p)
/-- r: how many more may be opened -/
def partG (T : Nat → Int) (L : Nat) (ask : Bool) : Nat → Nat → Bool → GR
  | 0 => partB T L ask none
  | r + 1 => partB T L ask (some (partG T L ask r))
/-- a reading keeps to the text, and no step comes from nothing -/
def GP (L : Nat) (e : Nat → Bool → GR) : Prop := ∀ p t cs p' t', p ≤ L → e p t = .ok (cs, p', t') → 1 ≤ cs.length ∧ p + cs.length ≤ p' ∧ p' ≤ L
theorem stp_1 {T : Nat → Int} {L p : Nat} {t : Bool} (h : knd T L p t = 1 ∨ knd T L p t = 2 ∨ knd T L p t = 3) (tx : TX T L) : p + 1 ≤ stp T L p := by
  have hb := bl_le T L p
  rcases h with h | h | h
  · have c1 := (knd1 h).1
    have es : stp T L p = rn lP T L (bl T L p) := by unfold stp; rw [if_pos c1]
    have := rn_pos (P := lP) (T := T) (lP_s c1).1 (by rw [← (lP_s c1).2]; exact c1)
    omega
  · have c1 := (knd2 h).1
    have c0 := (knd2 h).2.1
    have es : stp T L p = rn dP T L (bl T L p) := by unfold stp; rw [if_neg (by rw [c0]; decide), if_pos c1]
    have := rn_pos (P := dP) (T := T) (dP_s c1).1 (by rw [← (dP_s c1).2]; exact c1)
    omega
  · have lt := knd3 tx h
    have e : sgn T L p t = T (bl T L p) := by unfold sgn; rw [if_pos h]
    have := (sgn_stp e (by have := tx.2 (bl T L p) (by have := tx.1; omega); omega)).1
    omega
theorem sgn_1 {T : Nat → Int} {L p : Nat} {t : Bool} {c : Int} (h : sgn T L p t = c) (hc : 0 ≤ c) (tx : TX T L) : p + 1 ≤ stp T L p := stp_1 (t := t) (Or.inr (Or.inr (sgn_stp h hc).2.1)) tx
theorem wrd_1 {T : Nat → Int} {L p : Nat} {t : Bool} (h : wrd T L p t ≠ 0) (tx : TX T L) : p + 1 ≤ stp T L p := stp_1 (t := t) (Or.inl (wrd_k h)) tx
theorem tkS_ok {T : Nat → Int} {L p : Nat} {t : Bool} {c : Int} {q : Nat} {u : Bool} (h : tkS T L p t c = .ok (q, u)) : sgn T L p t = c ∧ q = stp T L p ∧ u = false := by
  unfold tkS at h
  by_cases e : sgn T L p t = c
  · rw [if_pos e] at h
    injection h with h; injection h with h1 h2
    exact ⟨e, h1.symm, h2.symm⟩
  · rw [if_neg e] at h; cases h
theorem tkS_er {T : Nat → Int} {L p : Nat} {t : Bool} {c : Int} {k s : Int} (h : tkS T L p t c = .error (k, s)) : sgn T L p t ≠ c ∧ k = 1 ∧ s = bl T L p := by
  unfold tkS at h
  by_cases e : sgn T L p t = c
  · rw [if_pos e] at h; cases h
  · rw [if_neg e] at h
    injection h with h; injection h with h1 h2
    exact ⟨e, h1.symm, h2.symm⟩
theorem tkN_ok {T : Nat → Int} {L p : Nat} {t : Bool} {x y : Int} {q : Nat} {u : Bool} (h : tkN T L p t x y = .ok (q, u)) : knd T L p t = 2 ∧ q = stp T L p ∧ u = true ∧ x ≤ numV T L p ∧ numV T L p ≤ y := by
  unfold tkN at h
  by_cases e : knd T L p t = 2
  · rw [if_pos e] at h
    by_cases e2 : 4 < stp T L p - bl T L p
    · rw [if_pos e2] at h; cases h
    · rw [if_neg e2] at h
      by_cases e3 : numV T L p < x ∨ y < numV T L p
      · rw [if_pos e3] at h; cases h
      · rw [if_neg e3] at h
        injection h with h; injection h with h1 h2
        exact ⟨e, h1.symm, h2.symm, by omega, by omega⟩
  · rw [if_neg e] at h; cases h
theorem jnF_k {T : Nat → Int} {L : Nat} {lev : Int} {p : Nat} {t : Bool} (h : jnF T L lev p t ≠ -1) : knd T L p t = 1 ∨ knd T L p t = 3 := by
  have w : ∀ k, k ≠ 0 → wrd T L p t = k → knd T L p t = 1 := fun k hk e => wrd_k (by omega)
  have s : ∀ c, 0 ≤ c → sgn T L p t = c → knd T L p t = 3 := fun c hc e => (sgn_stp e hc).2.1
  unfold jnF at h
  by_cases c0 : lev = 0
  · rw [if_pos c0] at h
    by_cases c : wrd T L p t = 25
    · exact Or.inl (w _ (by decide) c)
    · rw [if_neg c] at h; exact absurd rfl h
  · rw [if_neg c0] at h
    by_cases c1 : lev = 1
    · rw [if_pos c1] at h
      by_cases c : wrd T L p t = 26
      · exact Or.inl (w _ (by decide) c)
      · rw [if_neg c] at h; exact absurd rfl h
    · rw [if_neg c1] at h
      by_cases c3 : lev = 3
      · rw [if_pos c3] at h
        by_cases c : sgn T L p t = 43
        · exact Or.inr (s _ (by decide) c)
        · rw [if_neg c] at h
          by_cases c' : sgn T L p t = 45
          · exact Or.inr (s _ (by decide) c')
          · rw [if_neg c'] at h; exact absurd rfl h
      · rw [if_neg c3] at h
        by_cases c4 : lev = 4
        · rw [if_pos c4] at h
          by_cases c : sgn T L p t = 42
          · exact Or.inr (s _ (by decide) c)
          · rw [if_neg c] at h
            by_cases c' : sgn T L p t = 47
            · exact Or.inr (s _ (by decide) c')
            · rw [if_neg c'] at h; exact absurd rfl h
        · rw [if_neg c4] at h; exact absurd rfl h
theorem jnF_1 {T : Nat → Int} {L : Nat} {lev : Int} {p : Nat} {t : Bool} (h : jnF T L lev p t ≠ -1) (tx : TX T L) : p + 1 ≤ stp T L p := stp_1 (t := t) (by have := jnF_k h; omega) tx
theorem GP_loop {T : Nat → Int} {L : Nat} (tx : TX T L) {sub : Nat → Bool → GR} (hs : GP L sub) (lev : Int) : ∀ (m : Nat) (cs : List Int) (p : Nat) (t : Bool) (q : Nat) (cs' : List Int) (p' : Nat) (t' : Bool), 1 ≤ cs.length → q + cs.length ≤ p → p ≤ L → loopG T L sub lev m cs p t = .ok (cs', p', t') → 1 ≤ cs'.length ∧ q + cs'.length ≤ p' ∧ p' ≤ L
  | 0, cs, p, t, q, cs', p', t', h1, h2, h3, e => by
    unfold loopG at e
    injection e with e; injection e with e1 e2; injection e2 with e2 e3
    subst e1 e2; exact ⟨h1, h2, h3⟩
  | m + 1, cs, p, t, q, cs', p', t', h1, h2, h3, e => by
    unfold loopG at e
    by_cases c : jnF T L lev p t = -1
    · rw [if_pos c] at e
      injection e with e; injection e with e1 e2; injection e2 with e2 e3
      subst e1 e2; exact ⟨h1, h2, h3⟩
    · rw [if_neg c] at e
      cases hS : sub (stp T L p) (tk T L p t) with
      | error x => rw [hS] at e; cases e
      | ok x =>
        obtain ⟨c2, p2, t2⟩ := x
        rw [hS] at e
        have a := hs _ _ _ _ _ (stp_L tx h3) hS
        have b := jnF_1 c tx
        exact GP_loop tx hs lev m _ p2 t2 q cs' p' t' (by simp; omega) (by simp only [List.length_append, List.length_cons, List.length_nil]; omega) a.2.2 e
theorem GP_chain {T : Nat → Int} {L : Nat} (tx : TX T L) {sub : Nat → Bool → GR} (hs : GP L sub) (lev : Int) : GP L (chainG T L sub lev) := by
  intro p t cs p' t' hp e
  unfold chainG at e
  cases hS : sub p t with
  | error x => rw [hS] at e; cases e
  | ok x =>
    obtain ⟨c2, p2, t2⟩ := x
    rw [hS] at e
    have a := hs _ _ _ _ _ hp hS
    exact GP_loop tx hs lev 1600 c2 p2 t2 p cs p' t' a.1 a.2.1 a.2.2 e
theorem GP_pair {T : Nat → Int} {L : Nat} (tx : TX T L) {sub : Option (Nat → Bool → GR)} (hs : ∀ f, sub = some f → GP L f) {p : Nat} {t : Bool} {cs : List Int} {p' : Nat} {t' : Bool} (hp : p ≤ L) (e : pairB T L sub p t = .ok (cs, p', t')) : 1 ≤ cs.length ∧ p + cs.length + 1 ≤ p' ∧ p' ≤ L := by
  unfold pairB at e
  have sL := stp_L tx hp
  by_cases c4 : sgn T L p t = 40
  · rw [if_pos c4] at e
    cases hf : sub with
    | none => rw [hf] at e; cases e
    | some f =>
      rw [hf] at e
      simp only at e
      cases hS : sumG T L f (stp T L p) false with
      | error x => rw [hS] at e; cases e
      | ok x =>
        obtain ⟨c3', p3, t3⟩ := x
        rw [hS] at e
        simp only at e
        have a := GP_chain tx (GP_chain tx (hs f hf) 4) 3 _ _ _ _ _ sL hS
        cases hT : tkS T L p3 t3 44 with
        | error x => rw [hT] at e; cases e
        | ok x =>
          obtain ⟨p4, t4⟩ := x
          rw [hT] at e
          simp only at e
          have k := tkS_ok hT
          have z2 := stp_L tx a.2.2
          have z := sgn_1 k.1 (by decide) tx
          cases hS2 : sumG T L f p4 t4 with
          | error x => rw [hS2] at e; cases e
          | ok x =>
            obtain ⟨c5, p5, t5⟩ := x
            rw [hS2] at e
            simp only at e
            have a2 := GP_chain tx (GP_chain tx (hs f hf) 4) 3 _ _ _ _ _ (by omega) hS2
            cases hT2 : tkS T L p5 t5 41 with
            | error x => rw [hT2] at e; cases e
            | ok x =>
              obtain ⟨p6, t6⟩ := x
              rw [hT2] at e
              injection e with e; injection e with e1 e2; injection e2 with e2 e3
              have k2 := tkS_ok hT2
              have y2 := stp_L tx a2.2.2
              have y := sgn_1 k2.1 (by decide) tx
              have b2 := sgn_1 c4 (by decide) tx
              subst e1 e2
              refine ⟨by simp; omega, ?_, by omega⟩
              simp only [List.length_append]
              omega
  · rw [if_neg c4] at e; cases e
theorem GP_part {T : Nat → Int} {L : Nat} (tx : TX T L) (ask : Bool) {sub : Option (Nat → Bool → GR)} (hs : ∀ f, sub = some f → GP L f) : GP L (partB T L ask sub) := by
  intro p t cs p' t' hp e
  unfold partB at e
  have sL := stp_L tx hp
  by_cases c1 : knd T L p t = 2
  · rw [if_pos c1] at e
    cases hS : tkN T L p t 0 9999 with
    | error x => rw [hS] at e; cases e
    | ok x =>
      obtain ⟨p1, t1⟩ := x
      rw [hS] at e
      injection e with e; injection e with e1 e2; injection e2 with e2 e3
      have := (tkN_ok hS).2.1
      have := stp_1 (t := t) (Or.inr (Or.inl c1)) tx
      subst e1 e2
      exact ⟨by simp, by simp; omega, by omega⟩
  · rw [if_neg c1] at e
    by_cases c2 : sgn T L p t = 40
    · rw [if_pos c2] at e
      cases hf : sub with
      | none => rw [hf] at e; cases e
      | some f =>
        rw [hf] at e
        simp only at e
        cases hS : sumG T L f (stp T L p) false with
        | error x => rw [hS] at e; cases e
        | ok x =>
          obtain ⟨c3, p3, t3⟩ := x
          rw [hS] at e
          simp only at e
          cases hT : tkS T L p3 t3 41 with
          | error x => rw [hT] at e; cases e
          | ok x =>
            obtain ⟨p4, t4⟩ := x
            rw [hT] at e
            injection e with e; injection e with e1 e2; injection e2 with e2 e3
            have a := GP_chain tx (GP_chain tx (hs f hf) 4) 3 _ _ _ _ _ sL hS
            have b := sgn_1 c2 (by decide) tx
            have k := tkS_ok hT
            have z := sgn_1 k.1 (by decide) tx
            have z2 := stp_L tx a.2.2
            subst e1 e2
            exact ⟨a.1, by omega, by omega⟩
    · rw [if_neg c2] at e
      by_cases c3 : wrd T L p t = 29 ∨ wrd T L p t = 30
      · rw [if_pos c3] at e
        cases hS : pairB T L sub (stp T L p) true with
        | error x => rw [hS] at e; cases e
        | ok x =>
          obtain ⟨c5, p5, t5⟩ := x
          rw [hS] at e
          injection e with e; injection e with e1 e2; injection e2 with e2 e3
          have a := GP_pair tx hs sL hS
          have b := wrd_1 (T := T) (L := L) (p := p) (t := t) (by omega) tx
          subst e1 e2
          refine ⟨by simp, ?_, by omega⟩
          simp only [List.length_append, List.length_cons, List.length_nil]
          omega
      · rw [if_neg c3] at e
        by_cases c4 : ask = true ∧ wrd T L p t = 31
        · rw [if_pos c4] at e
          cases hf : sub with
          | none => rw [hf] at e; cases e
          | some f =>
            rw [hf] at e
            simp only at e
            cases hS : f (stp T L p) true with
            | error x => rw [hS] at e; cases e
            | ok x =>
              obtain ⟨c3', p3, t3⟩ := x
              rw [hS] at e
              injection e with e; injection e with e1 e2; injection e2 with e2 e3
              have a := hs f hf _ _ _ _ _ sL hS
              have b := wrd_1 (T := T) (L := L) (p := p) (t := t) (by omega) tx
              subst e1 e2
              refine ⟨by simp, ?_, by omega⟩
              simp only [List.length_append, List.length_cons, List.length_nil]
              omega
        · rw [if_neg c4] at e
          by_cases c5 : isF ask (wrd T L p t) = true
          · rw [if_pos c5] at e
            injection e with e; injection e with e1 e2; injection e2 with e2 e3
            have w0 : wrd T L p t ≠ 0 := (of_decide_eq_true c5).1
            have b := wrd_1 w0 tx
            subst e1 e2
            exact ⟨by simp, by simp; omega, by omega⟩
          · rw [if_neg c5] at e; cases e
theorem GP_partG {T : Nat → Int} {L : Nat} (tx : TX T L) (ask : Bool) : ∀ r, GP L (partG T L ask r)
  | 0 => GP_part tx ask (fun f h => by cases h)
  | r + 1 => GP_part tx ask (fun f h => by injection h with h; rw [← h]; exact GP_partG tx ask r)
theorem GP_sum {T : Nat → Int} {L : Nat} (tx : TX T L) {sub : Nat → Bool → GR} (hs : GP L sub) : GP L (sumG T L sub) := GP_chain tx (GP_chain tx hs 4) 3
