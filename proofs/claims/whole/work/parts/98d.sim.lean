/-! the reference's way of reading sums, as rules; it reads what the grammar reads -/
def mcF (ask : Bool) (v : Int) : Int := if 100 ≤ v then v + 900 else if v < 10 then (if ask = true then v + 40 else v + 7) else if v = 22 then 60 else if v = 23 then 13 else v - 9
def hdI (W : List Int) : Int := W.headD 0
abbrev SP : Type := List Int → List Int → Nat → Nat → Bool → Prop
def RlN (T : Nat → Int) (L : Nat) (ask : Bool) (N E : SP) (Bad : Int → Int → Prop) : Prop :=
  (∀ W C o p t p' t', p ≤ L → o ≤ 6 → tkN T L p t 0 9999 = .ok (p', t') → E W (C ++ [1000 + numV T L p]) o p' t' → N W C o p t)
  ∧ (∀ W C o p t k s, p ≤ L → o ≤ 6 → sgn T L p t ≠ 40 → ¬ (wrd T L p t = 29 ∨ wrd T L p t = 30) → ¬ (ask = true ∧ wrd T L p t = 31) → isF ask (wrd T L p t) = false → tkN T L p t 0 9999 = .error (k, s) → Bad k s → N W C o p t)
  ∧ (∀ W C o p t, p ≤ L → o < 6 → sgn T L p t = 40 → N (20 :: W) C (o + 1) (stp T L p) false → N W C o p t)
  ∧ (∀ W C p t, p ≤ L → sgn T L p t = 40 → Bad 4 (bl T L p) → N W C 6 p t)
  ∧ (∀ W C o p t, p ≤ L → o < 6 → wrd T L p t = 29 ∨ wrd T L p t = 30 → sgn T L (stp T L p) true = 40 → N ((if wrd T L p t = 29 then 21 else 22) :: W) C (o + 1) (stp T L (stp T L p)) false → N W C o p t)
  ∧ (∀ W C p t, p ≤ L → wrd T L p t = 29 ∨ wrd T L p t = 30 → sgn T L (stp T L p) true = 40 → Bad 4 (bl T L (stp T L p)) → N W C 6 p t)
  ∧ (∀ W C o p t, p ≤ L → o ≤ 6 → wrd T L p t = 29 ∨ wrd T L p t = 30 → sgn T L (stp T L p) true ≠ 40 → Bad 1 (bl T L (stp T L p)) → N W C o p t)
  ∧ (∀ W C o p t, p ≤ L → o < 6 → ask = true → wrd T L p t = 31 → N (60 :: W) C (o + 1) (stp T L p) true → N W C o p t)
  ∧ (∀ W C p t, p ≤ L → ask = true → wrd T L p t = 31 → Bad 4 (bl T L p) → N W C 6 p t)
  ∧ (∀ W C o p t, p ≤ L → o ≤ 6 → isF ask (wrd T L p t) = true → E W (C ++ [mcF ask (wdf 1 (wrd T L p t))]) o (stp T L p) true → N W C o p t)
def RlE (E Aa : SP) : Prop := (∀ W C o p t, E W (C ++ [60]) o p t → E (60 :: W) C (o + 1) p t) ∧ (∀ W C o p t, hdI W ≠ 60 → Aa W C o p t → E W C o p t)
def RlA (T : Nat → Int) (L : Nat) (N E Aa : SP) (Bad : Int → Int → Prop) : Prop :=
  (∀ W C o p t pend m, p ≤ L → sgn T L p t = 41 → (∀ x ∈ pend, 1 ≤ x ∧ x ≤ 4) → (m = 20 ∨ m = 23 ∨ m = 24) → E W (C ++ pend ++ (if m = 20 then [] else if m = 23 then [5] else [6])) o (stp T L p) false → Aa (pend ++ m :: W) C (o + 1) p t)
  ∧ (∀ W C o p t pend op, p ≤ L → (sgn T L p t = 42 ∧ op = 3) ∨ (sgn T L p t = 47 ∧ op = 4) → (∀ x ∈ pend, x = 3 ∨ x = 4) → ¬ (hdI W = 3 ∨ hdI W = 4) → N (op :: W) (C ++ pend) o (stp T L p) false → Aa (pend ++ W) C o p t)
  ∧ (∀ W C o p t pend op, p ≤ L → (sgn T L p t = 43 ∧ op = 1) ∨ (sgn T L p t = 45 ∧ op = 2) → (∀ x ∈ pend, 1 ≤ x ∧ x ≤ 4) → ¬ (1 ≤ hdI W ∧ hdI W ≤ 4) → N (op :: W) (C ++ pend) o (stp T L p) false → Aa (pend ++ W) C o p t)
  ∧ (∀ W C o p t pend m, p ≤ L → sgn T L p t = 44 → (∀ x ∈ pend, 1 ≤ x ∧ x ≤ 4) → (m = 21 ∨ m = 22) → N ((m + 2) :: W) (C ++ pend) o (stp T L p) false → Aa (pend ++ m :: W) C o p t)
  ∧ (∀ W C o p t pend m, p ≤ L → jnF T L 4 p t = -1 → jnF T L 3 p t = -1 → sgn T L p t ≠ 44 → (∀ x ∈ pend, 1 ≤ x ∧ x ≤ 4) → (m = 21 ∨ m = 22) → Bad 1 (bl T L p) → Aa (pend ++ m :: W) C o p t)
  ∧ (∀ W C o p t pend m, p ≤ L → jnF T L 4 p t = -1 → jnF T L 3 p t = -1 → sgn T L p t ≠ 41 → (∀ x ∈ pend, 1 ≤ x ∧ x ≤ 4) → (m = 20 ∨ m = 23 ∨ m = 24) → Bad 1 (bl T L p) → Aa (pend ++ m :: W) C o p t)
def SimP (L : Nat) (ask : Bool) (N E : SP) (Bad : Int → Int → Prop) (sub : Nat → Bool → GR) (o : Nat) : Prop := ∀ W C p t, p ≤ L → (∀ cs p' t', sub p t = .ok (cs, p', t') → E W (C ++ cs.map (mcF ask)) o p' t' → N W C o p t) ∧ (∀ k s, sub p t = .error (k, s) → Bad k s → N W C o p t)
def SimM (L : Nat) (ask : Bool) (N Aa : SP) (Bad : Int → Int → Prop) (sub : Nat → Bool → GR) (o : Nat) : Prop := ∀ W C p t, p ≤ L → ¬ (hdI W = 3 ∨ hdI W = 4 ∨ hdI W = 60) → (∀ cs p' t', sub p t = .ok (cs, p', t') → (∀ C' q, C ++ cs.map (mcF ask) = C' ++ q → (∀ x ∈ q, x = 3 ∨ x = 4) → Aa (q ++ W) C' o p' t') → N W C o p t) ∧ (∀ k s, sub p t = .error (k, s) → Bad k s → N W C o p t)
def SimS (L : Nat) (ask : Bool) (N Aa : SP) (Bad : Int → Int → Prop) (sub : Nat → Bool → GR) (o : Nat) : Prop := ∀ W C p t, p ≤ L → ¬ ((1 ≤ hdI W ∧ hdI W ≤ 4) ∨ hdI W = 60) → (∀ cs p' t', sub p t = .ok (cs, p', t') → (∀ C' q, C ++ cs.map (mcF ask) = C' ++ q → (∀ x ∈ q, 1 ≤ x ∧ x ≤ 4) → Aa (q ++ W) C' o p' t') → N W C o p t) ∧ (∀ k s, sub p t = .error (k, s) → Bad k s → N W C o p t)
theorem jnF_L {T : Nat → Int} {L : Nat} {lev : Int} {p : Nat} {t : Bool} (h : L ≤ p) (tx : TX T L) : jnF T L lev p t = -1 := by
  by_cases c : jnF T L lev p t = -1
  · exact c
  · have b := jnF_1 c tx
    have k := jnF_k c
    have hb := bl_le T L p
    have e : ch T L (bl T L p) = -1 := (ch_m1 tx).mpr (by omega)
    have kk : knd T L p t = 0 := by
      unfold knd
      rw [e, if_neg (by decide), if_neg (by decide), if_pos rfl]
    omega
/-- where a chain ends nothing joins -/
theorem loop_end {T : Nat → Int} {L : Nat} (tx : TX T L) {sub : Nat → Bool → GR} (hG : GP L sub) (lev : Int) (Q : Nat → Bool → Prop) (hQ : ∀ p t cs p' t', p ≤ L → sub p t = .ok (cs, p', t') → Q p' t') : ∀ (m : Nat) (cs : List Int) (p : Nat) (t : Bool) (cs' : List Int) (p' : Nat) (t' : Bool), p ≤ L → 1600 ≤ p + m → Q p t → loopG T L sub lev m cs p t = .ok (cs', p', t') → Q p' t' ∧ jnF T L lev p' t' = -1
  | 0, cs, p, t, cs', p', t', h1, h2, h3, e => by
    unfold loopG at e
    injection e with e; injection e with e1 e2; injection e2 with e2 e3
    subst e2 e3
    exact ⟨h3, jnF_L (by have := tx.1; omega) tx⟩
  | m + 1, cs, p, t, cs', p', t', h1, h2, h3, e => by
    unfold loopG at e
    by_cases c : jnF T L lev p t = -1
    · rw [if_pos c] at e
      injection e with e; injection e with e1 e2; injection e2 with e2 e3
      subst e2 e3; exact ⟨h3, c⟩
    · rw [if_neg c] at e
      cases hS : sub (stp T L p) (tk T L p t) with
      | error x => rw [hS] at e; cases e
      | ok x =>
        obtain ⟨c2, p2, t2⟩ := x
        rw [hS] at e
        have a := hG _ _ _ _ _ (stp_L tx h1) hS
        have b := jnF_1 c tx
        exact loop_end tx hG lev Q hQ m _ p2 t2 cs' p' t' a.2.2 (by omega) (hQ _ _ _ _ _ (stp_L tx h1) hS) e
theorem chain_end {T : Nat → Int} {L : Nat} (tx : TX T L) {sub : Nat → Bool → GR} (hG : GP L sub) (lev : Int) (Q : Nat → Bool → Prop) (hQ : ∀ p t cs p' t', p ≤ L → sub p t = .ok (cs, p', t') → Q p' t') (p : Nat) (t : Bool) (cs : List Int) (p' : Nat) (t' : Bool) (hp : p ≤ L) (e : chainG T L sub lev p t = .ok (cs, p', t')) : Q p' t' ∧ jnF T L lev p' t' = -1 := by
  unfold chainG at e
  cases hS : sub p t with
  | error x => rw [hS] at e; cases e
  | ok x =>
    obtain ⟨c2, p2, t2⟩ := x
    rw [hS] at e
    have a := hG _ _ _ _ _ hp hS
    exact loop_end tx hG lev Q hQ 1600 c2 p2 t2 cs p' t' a.2.2 (by omega) (hQ _ _ _ _ _ hp hS) e
theorem sum_end {T : Nat → Int} {L : Nat} (tx : TX T L) {sub : Nat → Bool → GR} (hG : GP L sub) {p : Nat} {t : Bool} {cs : List Int} {p' : Nat} {t' : Bool} (hp : p ≤ L) (e : sumG T L sub p t = .ok (cs, p', t')) : jnF T L 4 p' t' = -1 ∧ jnF T L 3 p' t' = -1 := chain_end tx (GP_chain tx hG 4) 3 (fun p' t' => jnF T L 4 p' t' = -1) (fun p t cs p' t' hp e => (chain_end tx hG 4 (fun _ _ => True) (fun _ _ _ _ _ _ _ => trivial) p t cs p' t' hp e).2) p t cs p' t' hp e
theorem jn4 {T : Nat → Int} {L p : Nat} {t : Bool} (h : jnF T L 4 p t ≠ -1) : ∃ op, ((sgn T L p t = 42 ∧ op = 3) ∨ (sgn T L p t = 47 ∧ op = 4)) ∧ (∀ ask, mcF ask (jnF T L 4 p t) = op) ∧ tk T L p t = false := by
  unfold jnF at h ⊢
  rw [if_neg (by decide), if_neg (by decide), if_neg (by decide), if_pos rfl] at h ⊢
  by_cases c1 : sgn T L p t = 42
  · rw [if_pos c1]; exact ⟨3, Or.inl ⟨c1, rfl⟩, fun ask => by cases ask <;> rfl, tk3 c1 (by decide)⟩
  · rw [if_neg c1] at h ⊢
    by_cases c2 : sgn T L p t = 47
    · rw [if_pos c2]; exact ⟨4, Or.inr ⟨c2, rfl⟩, fun ask => by cases ask <;> rfl, tk3 c2 (by decide)⟩
    · rw [if_neg c2] at h; exact absurd rfl h
theorem jn3 {T : Nat → Int} {L p : Nat} {t : Bool} (h : jnF T L 3 p t ≠ -1) : ∃ op, ((sgn T L p t = 43 ∧ op = 1) ∨ (sgn T L p t = 45 ∧ op = 2)) ∧ (∀ ask, mcF ask (jnF T L 3 p t) = op) ∧ tk T L p t = false := by
  unfold jnF at h ⊢
  rw [if_neg (by decide), if_neg (by decide), if_pos rfl] at h ⊢
  by_cases c1 : sgn T L p t = 43
  · rw [if_pos c1]; exact ⟨1, Or.inl ⟨c1, rfl⟩, fun ask => by cases ask <;> rfl, tk3 c1 (by decide)⟩
  · rw [if_neg c1] at h ⊢
    by_cases c2 : sgn T L p t = 45
    · rw [if_pos c2]; exact ⟨2, Or.inr ⟨c2, rfl⟩, fun ask => by cases ask <;> rfl, tk3 c2 (by decide)⟩
    · rw [if_neg c2] at h; exact absurd rfl h
theorem sim_loop4 {T : Nat → Int} {L : Nat} {ask : Bool} {N E Aa : SP} {Bad : Int → Int → Prop} (tx : TX T L) (rE : RlE E Aa) (rA : RlA T L N E Aa Bad) {sub : Nat → Bool → GR} {o : Nat} (hG : GP L sub) (hs : SimP L ask N E Bad sub o) (W C : List Int) (hW : ¬ (hdI W = 3 ∨ hdI W = 4 ∨ hdI W = 60)) : ∀ (m : Nat) (cs : List Int) (p : Nat) (t : Bool) (C' q : List Int), p ≤ L → C ++ cs.map (mcF ask) = C' ++ q → (∀ x ∈ q, x = 3 ∨ x = 4) →
    (∀ cs' p' t', loopG T L sub 4 m cs p t = .ok (cs', p', t') → (∀ C'' q', C ++ cs'.map (mcF ask) = C'' ++ q' → (∀ x ∈ q', x = 3 ∨ x = 4) → Aa (q' ++ W) C'' o p' t') → Aa (q ++ W) C' o p t) ∧ (∀ k s, loopG T L sub 4 m cs p t = .error (k, s) → Bad k s → Aa (q ++ W) C' o p t)
  | 0, cs, p, t, C', q, hp, h1, h2 => by
    unfold loopG
    refine ⟨fun cs' p' t' e K => ?_, (fun k s e => by cases e)⟩
    injection e with e; injection e with e1 e2; injection e2 with e2 e3
    subst e1 e2 e3
    exact K C' q h1 h2
  | m + 1, cs, p, t, C', q, hp, h1, h2 => by
    unfold loopG
    by_cases c : jnF T L 4 p t = -1
    · rw [if_pos c]
      refine ⟨fun cs' p' t' e K => ?_, (fun k s e => by cases e)⟩
      injection e with e; injection e with e1 e2; injection e2 with e2 e3
      subst e1 e2 e3
      exact K C' q h1 h2
    · rw [if_neg c]
      obtain ⟨op, g1, g2, g3⟩ := jn4 c
      have sL := stp_L tx hp
      obtain ⟨s1, s2⟩ := hs (op :: W) (C' ++ q) (stp T L p) (tk T L p t) sL
      have mul := rA.2.1 W C' o p t q op hp g1 h2 (by omega)
      rw [g3] at s1 s2 ⊢
      cases hS : sub (stp T L p) false with
      | error x =>
        obtain ⟨k0, s0⟩ := x
        refine ⟨(fun cs' p' t' e => by cases e), fun k s e hb => ?_⟩
        injection e with e; injection e with e1 e2
        subst e1 e2
        exact mul (s2 _ _ hS hb)
      | ok x =>
        obtain ⟨c2, p2, t2⟩ := x
        have a := hG _ _ _ _ _ sL hS
        have hop : hdI (op :: W) ≠ 60 := by show op ≠ 60; omega
        obtain ⟨i1, i2⟩ := sim_loop4 tx rE rA hG hs W C hW m (cs ++ c2 ++ [jnF T L 4 p t]) p2 t2 (C' ++ q ++ c2.map (mcF ask)) [op] a.2.2 (by
          rw [List.map_append, List.map_append, ← List.append_assoc, ← List.append_assoc, h1]
          show _ ++ [mcF ask (jnF T L 4 p t)] = _
          rw [g2]) (fun x hx => by rw [List.mem_singleton] at hx; omega)
        refine ⟨fun cs' p' t' e K => mul (s1 _ _ _ hS (rE.2 _ _ _ _ _ hop (i1 cs' p' t' e K))), fun k s e hb => mul (s1 _ _ _ hS (rE.2 _ _ _ _ _ hop (i2 k s e hb)))⟩
theorem sim_prod {T : Nat → Int} {L : Nat} {ask : Bool} {N E Aa : SP} {Bad : Int → Int → Prop} (tx : TX T L) (rE : RlE E Aa) (rA : RlA T L N E Aa Bad) {sub : Nat → Bool → GR} {o : Nat} (hG : GP L sub) (hs : SimP L ask N E Bad sub o) : SimM L ask N Aa Bad (chainG T L sub 4) o := by
  intro W C p t hp hW
  obtain ⟨s1, s2⟩ := hs W C p t hp
  unfold chainG
  cases hS : sub p t with
  | error x =>
    obtain ⟨k0, s0⟩ := x
    refine ⟨(fun cs' p' t' e => by cases e), fun k s e hb => ?_⟩
    injection e with e; injection e with e1 e2
    subst e1 e2
    exact s2 _ _ hS hb
  | ok x =>
    obtain ⟨c2, p2, t2⟩ := x
    have a := hG _ _ _ _ _ hp hS
    obtain ⟨i1, i2⟩ := sim_loop4 tx rE rA hG hs W C hW 1600 c2 p2 t2 (C ++ c2.map (mcF ask)) [] a.2.2 (by simp) (fun x hx => by simp at hx)
    have h60 : hdI W ≠ 60 := by omega
    exact ⟨fun cs' p' t' e K => s1 _ _ _ hS (rE.2 _ _ _ _ _ h60 (i1 cs' p' t' e K)), fun k s e hb => s1 _ _ _ hS (rE.2 _ _ _ _ _ h60 (i2 k s e hb))⟩
theorem sim_loop3 {T : Nat → Int} {L : Nat} {ask : Bool} {N E Aa : SP} {Bad : Int → Int → Prop} (tx : TX T L) (rA : RlA T L N E Aa Bad) {sub : Nat → Bool → GR} {o : Nat} (hG : GP L sub) (hs : SimM L ask N Aa Bad sub o) (W C : List Int) (hW : ¬ ((1 ≤ hdI W ∧ hdI W ≤ 4) ∨ hdI W = 60)) : ∀ (m : Nat) (cs : List Int) (p : Nat) (t : Bool) (C' q : List Int), p ≤ L → C ++ cs.map (mcF ask) = C' ++ q → (∀ x ∈ q, 1 ≤ x ∧ x ≤ 4) →
    (∀ cs' p' t', loopG T L sub 3 m cs p t = .ok (cs', p', t') → (∀ C'' q', C ++ cs'.map (mcF ask) = C'' ++ q' → (∀ x ∈ q', 1 ≤ x ∧ x ≤ 4) → Aa (q' ++ W) C'' o p' t') → Aa (q ++ W) C' o p t) ∧ (∀ k s, loopG T L sub 3 m cs p t = .error (k, s) → Bad k s → Aa (q ++ W) C' o p t)
  | 0, cs, p, t, C', q, hp, h1, h2 => by
    unfold loopG
    refine ⟨fun cs' p' t' e K => ?_, (fun k s e => by cases e)⟩
    injection e with e; injection e with e1 e2; injection e2 with e2 e3
    subst e1 e2 e3
    exact K C' q h1 h2
  | m + 1, cs, p, t, C', q, hp, h1, h2 => by
    unfold loopG
    by_cases c : jnF T L 3 p t = -1
    · rw [if_pos c]
      refine ⟨fun cs' p' t' e K => ?_, (fun k s e => by cases e)⟩
      injection e with e; injection e with e1 e2; injection e2 with e2 e3
      subst e1 e2 e3
      exact K C' q h1 h2
    · rw [if_neg c]
      obtain ⟨op, g1, g2, g3⟩ := jn3 c
      have sL := stp_L tx hp
      have hop : ¬ (hdI (op :: W) = 3 ∨ hdI (op :: W) = 4 ∨ hdI (op :: W) = 60) := by
        show ¬ (op = 3 ∨ op = 4 ∨ op = 60); omega
      obtain ⟨s1, s2⟩ := hs (op :: W) (C' ++ q) (stp T L p) (tk T L p t) sL hop
      have add := rA.2.2.1 W C' o p t q op hp g1 h2 (by omega)
      rw [g3] at s1 s2 ⊢
      cases hS : sub (stp T L p) false with
      | error x =>
        obtain ⟨k0, s0⟩ := x
        refine ⟨(fun cs' p' t' e => by cases e), fun k s e hb => ?_⟩
        injection e with e; injection e with e1 e2
        subst e1 e2
        exact add (s2 _ _ hS hb)
      | ok x =>
        obtain ⟨c2, p2, t2⟩ := x
        have a := hG _ _ _ _ _ sL hS
        have ih : ∀ C'' q', C' ++ q ++ c2.map (mcF ask) = C'' ++ q' → (∀ x ∈ q', x = 3 ∨ x = 4) → _ := fun C'' q' e1 e2 => sim_loop3 tx rA hG hs W C hW m (cs ++ c2 ++ [jnF T L 3 p t]) p2 t2 C'' (q' ++ [op]) a.2.2 (by
          rw [List.map_append, List.map_append, ← List.append_assoc, ← List.append_assoc, h1]
          show _ ++ [mcF ask (jnF T L 3 p t)] = _
          rw [g2, e1, List.append_assoc]) (fun x hx => by
            rcases List.mem_append.mp hx with y | y
            · have := e2 x y; omega
            · rw [List.mem_singleton] at y; omega)
        refine ⟨fun cs' p' t' e K => add (s1 _ _ _ hS (fun C'' q' e1 e2 => ?_)), fun k s e hb => add (s1 _ _ _ hS (fun C'' q' e1 e2 => ?_))⟩
        · have := (ih C'' q' e1 e2).1 cs' p' t' e K
          rw [List.append_assoc] at this
          exact this
        · have := (ih C'' q' e1 e2).2 k s e hb
          rw [List.append_assoc] at this
          exact this
theorem sim_sum {T : Nat → Int} {L : Nat} {ask : Bool} {N E Aa : SP} {Bad : Int → Int → Prop} (tx : TX T L) (rE : RlE E Aa) (rA : RlA T L N E Aa Bad) {sub : Nat → Bool → GR} {o : Nat} (hG : GP L sub) (hs : SimP L ask N E Bad sub o) : SimS L ask N Aa Bad (sumG T L sub) o := by
  intro W C p t hp hW
  have hs4 := sim_prod tx rE rA hG hs
  have hG4 := GP_chain tx hG 4
  obtain ⟨s1, s2⟩ := hs4 W C p t hp (by omega)
  unfold sumG
  show (∀ cs p' t', chainG T L (chainG T L sub 4) 3 p t = .ok (cs, p', t') → _) ∧ (∀ k s, chainG T L (chainG T L sub 4) 3 p t = .error (k, s) → _)
  have eC : chainG T L (chainG T L sub 4) 3 p t = (match chainG T L sub 4 p t with
    | .error e => .error e
    | .ok (cs, p1, t1) => loopG T L (chainG T L sub 4) 3 1600 cs p1 t1) := rfl
  rw [eC]
  cases hS : chainG T L sub 4 p t with
  | error x =>
    obtain ⟨k0, s0⟩ := x
    refine ⟨(fun cs' p' t' e => by cases e), fun k s e hb => ?_⟩
    injection e with e; injection e with e1 e2
    subst e1 e2
    exact s2 _ _ hS hb
  | ok x =>
    obtain ⟨c2, p2, t2⟩ := x
    have a := hG4 _ _ _ _ _ hp hS
    have ih : ∀ C' q, C ++ c2.map (mcF ask) = C' ++ q → (∀ x ∈ q, x = 3 ∨ x = 4) → _ := fun C' q e1 e2 => sim_loop3 tx rA hG4 hs4 W C hW 1600 c2 p2 t2 C' q a.2.2 e1 (fun x hx => by have := e2 x hx; omega)
    exact ⟨fun cs' p' t' e K => s1 _ _ _ hS (fun C' q e1 e2 => (ih C' q e1 e2).1 cs' p' t' e K), fun k s e hb => s1 _ _ _ hS (fun C' q e1 e2 => (ih C' q e1 e2).2 k s e hb)⟩
theorem sim_partB {T : Nat → Int} {L : Nat} {ask : Bool} {N E Aa : SP} {Bad : Int → Int → Prop} (tx : TX T L) (rN : RlN T L ask N E Bad) (rE : RlE E Aa) (rA : RlA T L N E Aa Bad) {sub : Option (Nat → Bool → GR)} {o : Nat} (ho : o ≤ 6) (h0 : sub = none → o = 6) (h1 : ∀ f, sub = some f → o < 6 ∧ GP L f ∧ SimP L ask N E Bad f (o + 1)) : SimP L ask N E Bad (partB T L ask sub) o := by
  intro W C p t hp
  obtain ⟨n1, n2, n3, n4, n5, n6, n7, n8, n9, n10⟩ := rN
  have sL := stp_L tx hp
  unfold partB
  by_cases c1 : knd T L p t = 2
  · rw [if_pos c1]
    have g1 : sgn T L p t ≠ 40 := fun y => by have := (sgn_stp y (by decide)).2.1; omega
    have g2 : wrd T L p t = 0 := by
      by_cases z : wrd T L p t = 0
      · exact z
      · have := wrd_k z; omega
    cases hT : tkN T L p t 0 9999 with
    | error y =>
      obtain ⟨k0, s0⟩ := y
      refine ⟨(fun cs' p' t' e => by cases e), fun k s e hb => ?_⟩
      injection e with e; injection e with e1 e2
      subst e1 e2
      exact n2 W C o p t _ _ hp ho g1 (by omega) (by omega) (by unfold isF; rw [g2]; exact decide_eq_false (fun y => y.1 rfl)) hT hb
    | ok y =>
      obtain ⟨p4, t4⟩ := y
      refine ⟨(fun cs' p' t' e K => ?_), (fun k s e => by cases e)⟩
      injection e with e; injection e with e1 e2; injection e2 with e2 e3
      subst e1 e2 e3
      refine n1 W C o p t _ _ hp ho hT ?_
      have ev : mcF ask (100 + numV T L p) = 1000 + numV T L p := by
        unfold mcF; rw [if_pos (by have := (tkN_ok hT).2.2.2.1; omega)]; omega
      rw [← ev]; exact K
  · rw [if_neg c1]
    by_cases c2 : sgn T L p t = 40
    · rw [if_pos c2]
      cases hf : sub with
      | none =>
        refine ⟨(fun cs' p' t' e => by cases e), fun k s e hb => ?_⟩
        injection e with e; injection e with e1 e2
        subst e1 e2
        rw [h0 hf]
        exact n4 W C p t hp c2 hb
      | some f =>
        obtain ⟨o6, hG, hS1⟩ := h1 f hf
        obtain ⟨s1, s2⟩ := sim_sum tx rE rA hG hS1 (20 :: W) C (stp T L p) false sL (by show ¬ ((1 ≤ (20 : Int) ∧ (20 : Int) ≤ 4) ∨ (20 : Int) = 60); omega)
        have opn := n3 W C o p t hp o6 c2
        simp only
        cases hS : sumG T L f (stp T L p) false with
        | error y =>
          obtain ⟨k0, s0⟩ := y
          refine ⟨(fun cs' p' t' e => by cases e), fun k s e hb => ?_⟩
          injection e with e; injection e with e1 e2
          subst e1 e2
          exact opn (s2 _ _ hS hb)
        | ok y =>
          obtain ⟨c3, p3, t3⟩ := y
          have a := GP_sum tx hG _ _ _ _ _ sL hS
          have en := sum_end tx hG sL hS
          simp only
          cases hT : tkS T L p3 t3 41 with
          | error y =>
            obtain ⟨k0, s0⟩ := y
            have kk := tkS_er hT
            refine ⟨(fun cs' p' t' e => by cases e), fun k s e hb => ?_⟩
            injection e with e; injection e with e1 e2
            subst e1 e2
            refine opn (s1 _ _ _ hS (fun C' q e1 e2 => rA.2.2.2.2.2 W C' (o + 1) p3 t3 q 20 a.2.2 en.1 en.2 kk.1 e2 (Or.inl rfl) ?_))
            rw [← kk.2.1, ← kk.2.2]; exact hb
          | ok y =>
            obtain ⟨p4, t4⟩ := y
            have kk := tkS_ok hT
            refine ⟨(fun cs' p' t' e K => ?_), (fun k s e => by cases e)⟩
            injection e with e; injection e with e1 e2; injection e2 with e2 e3
            subst e1 e2 e3
            refine opn (s1 _ _ _ hS (fun C' q e1 e2 => rA.1 W C' o p3 t3 q 20 a.2.2 kk.1 e2 (Or.inl rfl) ?_))
            rw [if_pos rfl, List.append_nil, ← e1, ← kk.2.1, ← kk.2.2]; exact K
    · rw [if_neg c2]
      by_cases c3 : wrd T L p t = 29 ∨ wrd T L p t = 30
      · rw [if_pos c3]
        unfold pairB
        by_cases c4 : sgn T L (stp T L p) true = 40
        · rw [if_pos c4]
          have s2L := stp_L tx sL
          cases hf : sub with
          | none =>
            refine ⟨(fun cs' p' t' e => by cases e), fun k s e hb => ?_⟩
            injection e with e; injection e with e1 e2
            subst e1 e2
            rw [h0 hf]
            exact n6 W C p t hp c3 c4 hb
          | some f =>
            obtain ⟨o6, hG, hS1⟩ := h1 f hf
            have mm : ((if wrd T L p t = 29 then (21 : Int) else 22) = 21 ∧ wrd T L p t = 29) ∨ ((if wrd T L p t = 29 then (21 : Int) else 22) = 22 ∧ wrd T L p t ≠ 29) := by
              by_cases z : wrd T L p t = 29
              · rw [if_pos z]; exact Or.inl ⟨rfl, z⟩
              · rw [if_neg z]; exact Or.inr ⟨rfl, z⟩
            have opn := n5 W C o p t hp o6 c3 c4
            generalize hmk : (if wrd T L p t = 29 then (21 : Int) else 22) = mk at mm opn
            obtain ⟨s1, s2⟩ := sim_sum tx rE rA hG hS1 (mk :: W) C (stp T L (stp T L p)) false s2L (by show ¬ ((1 ≤ mk ∧ mk ≤ 4) ∨ mk = 60); omega)
            simp only
            cases hS : sumG T L f (stp T L (stp T L p)) false with
            | error y =>
              obtain ⟨k0, s0⟩ := y
              refine ⟨(fun cs' p' t' e => by cases e), fun k s e hb => ?_⟩
              injection e with e; injection e with e1 e2
              subst e1 e2
              exact opn (s2 _ _ hS hb)
            | ok y =>
              obtain ⟨c5, p3, t3⟩ := y
              have a := GP_sum tx hG _ _ _ _ _ s2L hS
              have en := sum_end tx hG s2L hS
              simp only
              cases hT : tkS T L p3 t3 44 with
              | error y =>
                obtain ⟨k0, s0⟩ := y
                have kk := tkS_er hT
                refine ⟨(fun cs' p' t' e => by cases e), fun k s e hb => ?_⟩
                injection e with e; injection e with e1 e2
                subst e1 e2
                refine opn (s1 _ _ _ hS (fun C' q e1 e2 => rA.2.2.2.2.1 W C' (o + 1) p3 t3 q mk a.2.2 en.1 en.2 kk.1 e2 (by omega) ?_))
                rw [← kk.2.1, ← kk.2.2]; exact hb
              | ok y =>
                obtain ⟨p4, t4⟩ := y
                have kk := tkS_ok hT
                have z2 := stp_L tx a.2.2
                have p4L : p4 ≤ L := by omega
                have opn2 : N ((mk + 2) :: W) (C ++ c5.map (mcF ask)) (o + 1) p4 t4 → N W C o p t := fun K => opn (s1 _ _ _ hS (fun C' q e1 e2 => rA.2.2.2.1 W C' (o + 1) p3 t3 q mk a.2.2 kk.1 e2 (by omega) (by rw [← e1, ← kk.2.1, ← kk.2.2]; exact K)))
                obtain ⟨u1, u2⟩ := sim_sum tx rE rA hG hS1 ((mk + 2) :: W) (C ++ c5.map (mcF ask)) p4 t4 p4L (by show ¬ ((1 ≤ mk + 2 ∧ mk + 2 ≤ 4) ∨ mk + 2 = 60); omega)
                simp only
                cases hS2 : sumG T L f p4 t4 with
                | error y =>
                  obtain ⟨k0, s0⟩ := y
                  refine ⟨(fun cs' p' t' e => by cases e), fun k s e hb => ?_⟩
                  injection e with e; injection e with e1 e2
                  subst e1 e2
                  exact opn2 (u2 _ _ hS2 hb)
                | ok y =>
                  obtain ⟨c6, p5, t5⟩ := y
                  have a2 := GP_sum tx hG _ _ _ _ _ p4L hS2
                  have en2 := sum_end tx hG p4L hS2
                  simp only
                  cases hT2 : tkS T L p5 t5 41 with
                  | error y =>
                    obtain ⟨k0, s0⟩ := y
                    have k2 := tkS_er hT2
                    refine ⟨(fun cs' p' t' e => by cases e), fun k s e hb => ?_⟩
                    injection e with e; injection e with e1 e2
                    subst e1 e2
                    refine opn2 (u1 _ _ _ hS2 (fun C' q e1 e2 => rA.2.2.2.2.2 W C' (o + 1) p5 t5 q (mk + 2) a2.2.2 en2.1 en2.2 k2.1 e2 (by omega) ?_))
                    rw [← k2.2.1, ← k2.2.2]; exact hb
                  | ok y =>
                    obtain ⟨p6, t6⟩ := y
                    have k2 := tkS_ok hT2
                    refine ⟨(fun cs' p' t' e K => ?_), (fun k s e => by cases e)⟩
                    injection e with e; injection e with e1 e2; injection e2 with e2 e3
                    subst e1 e2 e3
                    refine opn2 (u1 _ _ _ hS2 (fun C' q e1 e2 => rA.1 W C' o p5 t5 q (mk + 2) a2.2.2 k2.1 e2 (by omega) ?_))
                    rw [← e1, ← k2.2.1, ← k2.2.2]
                    have ek : (C ++ c5.map (mcF ask) ++ c6.map (mcF ask) ++ (if mk + 2 = 20 then [] else if mk + 2 = 23 then [5] else [6])) = C ++ (c5 ++ c6 ++ [if wrd T L p t = 29 then 14 else 15]).map (mcF ask) := by
                      rw [List.map_append, List.map_append, List.append_assoc, List.append_assoc, List.append_assoc]
                      congr 3
                      rcases mm with ⟨m1, m2⟩ | ⟨m1, m2⟩
                      · rw [m1, if_neg (by omega), if_pos (by omega), if_pos m2]; cases ask <;> rfl
                      · rw [m1, if_neg (by omega), if_neg (by omega), if_neg m2]; cases ask <;> rfl
                    rw [ek]; exact K
        · rw [if_neg c4]
          refine ⟨(fun cs' p' t' e => by cases e), fun k s e hb => ?_⟩
          injection e with e; injection e with e1 e2
          subst e1 e2
          exact n7 W C o p t hp ho c3 c4 hb
      · rw [if_neg c3]
        by_cases c4 : ask = true ∧ wrd T L p t = 31
        · rw [if_pos c4]
          cases hf : sub with
          | none =>
            refine ⟨(fun cs' p' t' e => by cases e), fun k s e hb => ?_⟩
            injection e with e; injection e with e1 e2
            subst e1 e2
            rw [h0 hf]
            exact n9 W C p t hp c4.1 c4.2 hb
          | some f =>
            obtain ⟨o6, hG, hS1⟩ := h1 f hf
            obtain ⟨s1, s2⟩ := hS1 (60 :: W) C (stp T L p) true sL
            have opn := n8 W C o p t hp o6 c4.1 c4.2
            simp only
            cases hS : f (stp T L p) true with
            | error y =>
              obtain ⟨k0, s0⟩ := y
              refine ⟨(fun cs' p' t' e => by cases e), fun k s e hb => ?_⟩
              injection e with e; injection e with e1 e2
              subst e1 e2
              exact opn (s2 _ _ hS hb)
            | ok y =>
              obtain ⟨c5, p3, t3⟩ := y
              refine ⟨(fun cs' p' t' e K => ?_), (fun k s e => by cases e)⟩
              injection e with e; injection e with e1 e2; injection e2 with e2 e3
              subst e1 e2 e3
              refine opn (s1 _ _ _ hS (rE.1 _ _ _ _ _ ?_))
              rw [List.map_append, ← List.append_assoc] at K
              have : mcF ask 22 = 60 := by cases ask <;> rfl
              rw [← this]; exact K
        · rw [if_neg c4]
          by_cases c5 : isF ask (wrd T L p t) = true
          · rw [if_pos c5]
            refine ⟨(fun cs' p' t' e K => ?_), (fun k s e => by cases e)⟩
            injection e with e; injection e with e1 e2; injection e2 with e2 e3
            subst e1 e2 e3
            exact n10 W C o p t hp ho c5 K
          · rw [if_neg c5]
            refine ⟨(fun cs' p' t' e => by cases e), fun k s e hb => ?_⟩
            injection e with e; injection e with e1 e2
            subst e1 e2
            refine n2 W C o p t 1 _ hp ho c2 c3 c4 (by simpa using c5) ?_ hb
            unfold tkN; rw [if_neg c1]
theorem sim_part {T : Nat → Int} {L : Nat} {ask : Bool} {N E Aa : SP} {Bad : Int → Int → Prop} (tx : TX T L) (rN : RlN T L ask N E Bad) (rE : RlE E Aa) (rA : RlA T L N E Aa Bad) : ∀ r, r ≤ 6 → SimP L ask N E Bad (partG T L ask r) (6 - r)
  | 0, _ => sim_partB tx rN rE rA (by omega) (fun _ => rfl) (fun f h => by cases h)
  | r + 1, hr => sim_partB tx rN rE rA (by omega) (fun h => by cases h) (fun f h => by
    injection h with h
    subst h
    refine ⟨by omega, GP_partG tx ask r, ?_⟩
    rw [show 6 - (r + 1) + 1 = 6 - r by omega]
    exact sim_part tx rN rE rA r (by omega))
