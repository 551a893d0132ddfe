/-! the reference's way of reading tests, as rules; it reads what the grammar reads -/
/-- two sums and what stands between them -/
def cmpG (T : Nat → Int) (L : Nat) (part : Nat → Bool → GR) (p : Nat) (t : Bool) : GR := match sumG T L part p t with
    | .error e => .error e
    | .ok (c1, p1, t1) => if opT T L p1 t1 = -1 then .error (1, bl T L p1) else match sumG T L part (stp T L p1) false with
      | .error e => .error e
      | .ok (c2, p2, t2) => .ok (c1 ++ c2 ++ [opT T L p1 t1], p2, t2)
def RtN (T : Nat → Int) (L : Nat) (N E : SP) (Bad : Int → Int → Prop) : Prop :=
  (∀ W C o p t, p ≤ L → o < 6 → wrd T L p t = 27 → N (12 :: W) C (o + 1) (stp T L p) true → N W C o p t)
  ∧ (∀ W C p t, p ≤ L → wrd T L p t = 27 → Bad 4 (bl T L p) → N W C 6 p t)
  ∧ (∀ W C o p t, p ≤ L → o < 6 → sgn T L p t = 91 → N (25 :: W) C (o + 1) (stp T L p) false → N W C o p t)
  ∧ (∀ W C p t, p ≤ L → sgn T L p t = 91 → Bad 4 (bl T L p) → N W C 6 p t)
  ∧ (∀ W C o p t, p ≤ L → o ≤ 6 → wrd T L p t = 28 → E W (C ++ [13]) o (stp T L p) true → N W C o p t)
  ∧ (∀ W C o p t cs p' t', p ≤ L → o ≤ 6 → wrd T L p t ≠ 27 → sgn T L p t ≠ 91 → wrd T L p t ≠ 28 → cmpG T L (partG T L true (6 - o)) p t = .ok (cs, p', t') → E W (C ++ cs.map (mcF true)) o p' t' → N W C o p t)
  ∧ (∀ W C o p t k s, p ≤ L → o ≤ 6 → wrd T L p t ≠ 27 → sgn T L p t ≠ 91 → wrd T L p t ≠ 28 → cmpG T L (partG T L true (6 - o)) p t = .error (k, s) → Bad k s → N W C o p t)
def RtE (E Aa : SP) : Prop := (∀ W C o p t, E W (C ++ [12]) o p t → E (12 :: W) C (o + 1) p t) ∧ (∀ W C o p t, hdI W ≠ 12 → Aa W C o p t → E W C o p t)
def RtA (T : Nat → Int) (L : Nat) (N E Aa : SP) (Bad : Int → Int → Prop) : Prop :=
  (∀ W C o p t pend, p ≤ L → sgn T L p t = 93 → (∀ x ∈ pend, x = 10 ∨ x = 11) → E W (C ++ pend) o (stp T L p) false → Aa (pend ++ 25 :: W) C (o + 1) p t)
  ∧ (∀ W C o p t pend op, p ≤ L → wrd T L p t = 26 ∧ op = 10 → (∀ x ∈ pend, x = 10) → ¬ (hdI W = 10) → N (op :: W) (C ++ pend) o (stp T L p) true → Aa (pend ++ W) C o p t)
  ∧ (∀ W C o p t pend op, p ≤ L → wrd T L p t = 25 ∧ op = 11 → (∀ x ∈ pend, x = 10 ∨ x = 11) → ¬ (hdI W = 10 ∨ hdI W = 11) → N (op :: W) (C ++ pend) o (stp T L p) true → Aa (pend ++ W) C o p t)
  ∧ (∀ W C o p t pend, p ≤ L → jnF T L 1 p t = -1 → jnF T L 0 p t = -1 → sgn T L p t ≠ 93 → (∀ x ∈ pend, x = 10 ∨ x = 11) → Bad 1 (bl T L p) → Aa (pend ++ 25 :: W) C o p t)
def SimMt (L : Nat) (ask : Bool) (N Aa : SP) (Bad : Int → Int → Prop) (sub : Nat → Bool → GR) (o : Nat) : Prop := ∀ W C p t, p ≤ L → ¬ (hdI W = 10 ∨ hdI W = 12) → (∀ cs p' t', sub p t = .ok (cs, p', t') → (∀ C' q, C ++ cs.map (mcF ask) = C' ++ q → (∀ x ∈ q, x = 10) → Aa (q ++ W) C' o p' t') → N W C o p t) ∧ (∀ k s, sub p t = .error (k, s) → Bad k s → N W C o p t)
def SimSt (L : Nat) (ask : Bool) (N Aa : SP) (Bad : Int → Int → Prop) (sub : Nat → Bool → GR) (o : Nat) : Prop := ∀ W C p t, p ≤ L → ¬ ((hdI W = 10 ∨ hdI W = 11) ∨ hdI W = 12) → (∀ cs p' t', sub p t = .ok (cs, p', t') → (∀ C' q, C ++ cs.map (mcF ask) = C' ++ q → (∀ x ∈ q, x = 10 ∨ x = 11) → Aa (q ++ W) C' o p' t') → N W C o p t) ∧ (∀ k s, sub p t = .error (k, s) → Bad k s → N W C o p t)
theorem test_end {T : Nat → Int} {L : Nat} (tx : TX T L) {sub : Nat → Bool → GR} (hG : GP L sub) {p : Nat} {t : Bool} {cs : List Int} {p' : Nat} {t' : Bool} (hp : p ≤ L) (e : testG T L sub p t = .ok (cs, p', t')) : jnF T L 1 p' t' = -1 ∧ jnF T L 0 p' t' = -1 := chain_end tx (GP_chain tx hG 1) 0 (fun p' t' => jnF T L 1 p' t' = -1) (fun p t cs p' t' hp e => (chain_end tx hG 1 (fun _ _ => True) (fun _ _ _ _ _ _ _ => trivial) p t cs p' t' hp e).2) p t cs p' t' hp e
theorem jn1 {T : Nat → Int} {L p : Nat} {t : Bool} (h : jnF T L 1 p t ≠ -1) : ∃ op, (wrd T L p t = 26 ∧ op = 10) ∧ (∀ ask, mcF ask (jnF T L 1 p t) = op) ∧ tk T L p t = true := by
  unfold jnF at *
  rw [if_neg (by omega), if_pos rfl] at *
  by_cases c : wrd T L p t = 26
  · rw [if_pos c]; exact ⟨10, ⟨c, rfl⟩, fun ask => by cases ask <;> rfl, decide_eq_true (Or.inl (wrd_k (by omega)))⟩
  · rw [if_neg c] at h; exact absurd rfl h
theorem jn0 {T : Nat → Int} {L p : Nat} {t : Bool} (h : jnF T L 0 p t ≠ -1) : ∃ op, (wrd T L p t = 25 ∧ op = 11) ∧ (∀ ask, mcF ask (jnF T L 0 p t) = op) ∧ tk T L p t = true := by
  unfold jnF at *
  rw [if_pos rfl] at *
  by_cases c : wrd T L p t = 25
  · rw [if_pos c]; exact ⟨11, ⟨c, rfl⟩, fun ask => by cases ask <;> rfl, decide_eq_true (Or.inl (wrd_k (by omega)))⟩
  · rw [if_neg c] at h; exact absurd rfl h
theorem simt_loop1 {T : Nat → Int} {L : Nat} {ask : Bool} {N E Aa : SP} {Bad : Int → Int → Prop} (tx : TX T L) (rE : RtE E Aa) (rA : RtA T L N E Aa Bad) {sub : Nat → Bool → GR} {o : Nat} (hG : GP L sub) (hs : SimP L ask N E Bad sub o) (W C : List Int) (hW : ¬ (hdI W = 10 ∨ hdI W = 12)) : ∀ (m : Nat) (cs : List Int) (p : Nat) (t : Bool) (C' q : List Int), p ≤ L → C ++ cs.map (mcF ask) = C' ++ q → (∀ x ∈ q, x = 10) →
    (∀ cs' p' t', loopG T L sub 1 m cs p t = .ok (cs', p', t') → (∀ C'' q', C ++ cs'.map (mcF ask) = C'' ++ q' → (∀ x ∈ q', x = 10) → Aa (q' ++ W) C'' o p' t') → Aa (q ++ W) C' o p t) ∧ (∀ k s, loopG T L sub 1 m cs p t = .error (k, s) → Bad k s → Aa (q ++ W) C' o p t)
  | 0, cs, p, t, C', q, hp, h1, h2 => by
    unfold loopG
    refine ⟨fun cs' p' t' e K => ?_, (fun k s e => by cases e)⟩
    injection e with e; injection e with e1 e2; injection e2 with e2 e3
    subst e1 e2 e3
    exact K C' q h1 h2
  | m + 1, cs, p, t, C', q, hp, h1, h2 => by
    unfold loopG
    by_cases c : jnF T L 1 p t = -1
    · rw [if_pos c]
      refine ⟨fun cs' p' t' e K => ?_, (fun k s e => by cases e)⟩
      injection e with e; injection e with e1 e2; injection e2 with e2 e3
      subst e1 e2 e3
      exact K C' q h1 h2
    · rw [if_neg c]
      obtain ⟨op, g1, g2, g3⟩ := jn1 c
      have sL := stp_L tx hp
      obtain ⟨s1, s2⟩ := hs (op :: W) (C' ++ q) (stp T L p) (tk T L p t) sL
      have mul := rA.2.1 W C' o p t q op hp g1 h2 (by omega)
      rw [g3] at s1 s2 ⊢
      cases hS : sub (stp T L p) true with
      | error x =>
        obtain ⟨k0, s0⟩ := x
        refine ⟨(fun cs' p' t' e => by cases e), fun k s e hb => ?_⟩
        injection e with e; injection e with e1 e2
        subst e1 e2
        exact mul (s2 _ _ hS hb)
      | ok x =>
        obtain ⟨c2, p2, t2⟩ := x
        have a := hG _ _ _ _ _ sL hS
        have hop : hdI (op :: W) ≠ 12 := by show op ≠ 12; omega
        obtain ⟨i1, i2⟩ := simt_loop1 tx rE rA hG hs W C hW m (cs ++ c2 ++ [jnF T L 1 p t]) p2 t2 (C' ++ q ++ c2.map (mcF ask)) [op] a.2.2 (by
          rw [List.map_append, List.map_append, ← List.append_assoc, ← List.append_assoc, h1]
          show _ ++ [mcF ask (jnF T L 1 p t)] = _
          rw [g2]) (fun x hx => by rw [List.mem_singleton] at hx; omega)
        refine ⟨fun cs' p' t' e K => mul (s1 _ _ _ hS (rE.2 _ _ _ _ _ hop (i1 cs' p' t' e K))), fun k s e hb => mul (s1 _ _ _ hS (rE.2 _ _ _ _ _ hop (i2 k s e hb)))⟩
theorem simt_and {T : Nat → Int} {L : Nat} {ask : Bool} {N E Aa : SP} {Bad : Int → Int → Prop} (tx : TX T L) (rE : RtE E Aa) (rA : RtA T L N E Aa Bad) {sub : Nat → Bool → GR} {o : Nat} (hG : GP L sub) (hs : SimP L ask N E Bad sub o) : SimMt L ask N Aa Bad (chainG T L sub 1) o := by
  intro W C p t hp hW
  obtain ⟨s1, s2⟩ := hs W C p t hp
  unfold chainG
  cases hS : sub p t with
  | error x =>
    obtain ⟨k0, s0⟩ := x
    refine ⟨(fun cs' p' t' e => by cases e), fun k s e hb => ?_⟩
    injection e with e; injection e with e1 e2
    subst e1 e2
    exact s2 _ _ hS hb
  | ok x =>
    obtain ⟨c2, p2, t2⟩ := x
    have a := hG _ _ _ _ _ hp hS
    obtain ⟨i1, i2⟩ := simt_loop1 tx rE rA hG hs W C hW 1600 c2 p2 t2 (C ++ c2.map (mcF ask)) [] a.2.2 (by simp) (fun x hx => by simp at hx)
    have h12 : hdI W ≠ 12 := by omega
    exact ⟨fun cs' p' t' e K => s1 _ _ _ hS (rE.2 _ _ _ _ _ h12 (i1 cs' p' t' e K)), fun k s e hb => s1 _ _ _ hS (rE.2 _ _ _ _ _ h12 (i2 k s e hb))⟩
theorem simt_loop0 {T : Nat → Int} {L : Nat} {ask : Bool} {N E Aa : SP} {Bad : Int → Int → Prop} (tx : TX T L) (rA : RtA T L N E Aa Bad) {sub : Nat → Bool → GR} {o : Nat} (hG : GP L sub) (hs : SimMt L ask N Aa Bad sub o) (W C : List Int) (hW : ¬ ((hdI W = 10 ∨ hdI W = 11) ∨ hdI W = 12)) : ∀ (m : Nat) (cs : List Int) (p : Nat) (t : Bool) (C' q : List Int), p ≤ L → C ++ cs.map (mcF ask) = C' ++ q → (∀ x ∈ q, x = 10 ∨ x = 11) →
    (∀ cs' p' t', loopG T L sub 0 m cs p t = .ok (cs', p', t') → (∀ C'' q', C ++ cs'.map (mcF ask) = C'' ++ q' → (∀ x ∈ q', x = 10 ∨ x = 11) → Aa (q' ++ W) C'' o p' t') → Aa (q ++ W) C' o p t) ∧ (∀ k s, loopG T L sub 0 m cs p t = .error (k, s) → Bad k s → Aa (q ++ W) C' o p t)
  | 0, cs, p, t, C', q, hp, h1, h2 => by
    unfold loopG
    refine ⟨fun cs' p' t' e K => ?_, (fun k s e => by cases e)⟩
    injection e with e; injection e with e1 e2; injection e2 with e2 e3
    subst e1 e2 e3
    exact K C' q h1 h2
  | m + 1, cs, p, t, C', q, hp, h1, h2 => by
    unfold loopG
    by_cases c : jnF T L 0 p t = -1
    · rw [if_pos c]
      refine ⟨fun cs' p' t' e K => ?_, (fun k s e => by cases e)⟩
      injection e with e; injection e with e1 e2; injection e2 with e2 e3
      subst e1 e2 e3
      exact K C' q h1 h2
    · rw [if_neg c]
      obtain ⟨op, g1, g2, g3⟩ := jn0 c
      have sL := stp_L tx hp
      have hop : ¬ (hdI (op :: W) = 10 ∨ hdI (op :: W) = 12) := by
        show ¬ (op = 10 ∨ op = 12); omega
      obtain ⟨s1, s2⟩ := hs (op :: W) (C' ++ q) (stp T L p) (tk T L p t) sL hop
      have add := rA.2.2.1 W C' o p t q op hp g1 h2 (by omega)
      rw [g3] at s1 s2 ⊢
      cases hS : sub (stp T L p) true with
      | error x =>
        obtain ⟨k0, s0⟩ := x
        refine ⟨(fun cs' p' t' e => by cases e), fun k s e hb => ?_⟩
        injection e with e; injection e with e1 e2
        subst e1 e2
        exact add (s2 _ _ hS hb)
      | ok x =>
        obtain ⟨c2, p2, t2⟩ := x
        have a := hG _ _ _ _ _ sL hS
        have ih : ∀ C'' q', C' ++ q ++ c2.map (mcF ask) = C'' ++ q' → (∀ x ∈ q', x = 10) → _ := fun C'' q' e1 e2 => simt_loop0 tx rA hG hs W C hW m (cs ++ c2 ++ [jnF T L 0 p t]) p2 t2 C'' (q' ++ [op]) a.2.2 (by
          rw [List.map_append, List.map_append, ← List.append_assoc, ← List.append_assoc, h1]
          show _ ++ [mcF ask (jnF T L 0 p t)] = _
          rw [g2, e1, List.append_assoc]) (fun x hx => by
            rcases List.mem_append.mp hx with y | y
            · have := e2 x y; omega
            · rw [List.mem_singleton] at y; omega)
        refine ⟨fun cs' p' t' e K => add (s1 _ _ _ hS (fun C'' q' e1 e2 => ?_)), fun k s e hb => add (s1 _ _ _ hS (fun C'' q' e1 e2 => ?_))⟩
        · have := (ih C'' q' e1 e2).1 cs' p' t' e K
          rw [List.append_assoc] at this
          exact this
        · have := (ih C'' q' e1 e2).2 k s e hb
          rw [List.append_assoc] at this
          exact this
theorem simt_test {T : Nat → Int} {L : Nat} {ask : Bool} {N E Aa : SP} {Bad : Int → Int → Prop} (tx : TX T L) (rE : RtE E Aa) (rA : RtA T L N E Aa Bad) {sub : Nat → Bool → GR} {o : Nat} (hG : GP L sub) (hs : SimP L ask N E Bad sub o) : SimSt L ask N Aa Bad (testG T L sub) o := by
  intro W C p t hp hW
  have hs4 := simt_and tx rE rA hG hs
  have hG4 := GP_chain tx hG 1
  obtain ⟨s1, s2⟩ := hs4 W C p t hp (by omega)
  unfold testG
  show (∀ cs p' t', chainG T L (chainG T L sub 1) 0 p t = .ok (cs, p', t') → _) ∧ (∀ k s, chainG T L (chainG T L sub 1) 0 p t = .error (k, s) → _)
  have eC : chainG T L (chainG T L sub 1) 0 p t = (match chainG T L sub 1 p t with
    | .error e => .error e
    | .ok (cs, p1, t1) => loopG T L (chainG T L sub 1) 0 1600 cs p1 t1) := rfl
  rw [eC]
  cases hS : chainG T L sub 1 p t with
  | error x =>
    obtain ⟨k0, s0⟩ := x
    refine ⟨(fun cs' p' t' e => by cases e), fun k s e hb => ?_⟩
    injection e with e; injection e with e1 e2
    subst e1 e2
    exact s2 _ _ hS hb
  | ok x =>
    obtain ⟨c2, p2, t2⟩ := x
    have a := hG4 _ _ _ _ _ hp hS
    have ih : ∀ C' q, C ++ c2.map (mcF ask) = C' ++ q → (∀ x ∈ q, x = 10) → _ := fun C' q e1 e2 => simt_loop0 tx rA hG4 hs4 W C hW 1600 c2 p2 t2 C' q a.2.2 e1 (fun x hx => by have := e2 x hx; omega)
    exact ⟨fun cs' p' t' e K => s1 _ _ _ hS (fun C' q e1 e2 => (ih C' q e1 e2).1 cs' p' t' e K), fun k s e hb => s1 _ _ _ hS (fun C' q e1 e2 => (ih C' q e1 e2).2 k s e hb)⟩
theorem simt_factB {T : Nat → Int} {L : Nat} {N E Aa : SP} {Bad : Int → Int → Prop} (tx : TX T L) (rN : RtN T L N E Bad) (rE : RtE E Aa) (rA : RtA T L N E Aa Bad) {sub : Option (Nat → Bool → GR)} {o : Nat} (ho : o ≤ 6) (h0 : sub = none → o = 6) (h1 : ∀ f, sub = some f → o < 6 ∧ GP L f ∧ SimP L true N E Bad f (o + 1)) : SimP L true N E Bad (factB T L (partG T L true (6 - o)) sub) o := by
  intro W C p t hp
  obtain ⟨n1, n2, n3, n4, n5, n6, n7⟩ := rN
  have sL := stp_L tx hp
  unfold factB
  by_cases c1 : wrd T L p t = 27
  · rw [if_pos c1]
    cases hf : sub with
    | none =>
      refine ⟨(fun cs' p' t' e => by cases e), fun k s e hb => ?_⟩
      injection e with e; injection e with e1 e2
      subst e1 e2
      rw [h0 hf]
      exact n2 W C p t hp c1 hb
    | some f =>
      obtain ⟨o6, hG, hS1⟩ := h1 f hf
      obtain ⟨s1, s2⟩ := hS1 (12 :: W) C (stp T L p) true sL
      have opn := n1 W C o p t hp o6 c1
      simp only
      cases hS : f (stp T L p) true with
      | error y =>
        obtain ⟨k0, s0⟩ := y
        refine ⟨(fun cs' p' t' e => by cases e), fun k s e hb => ?_⟩
        injection e with e; injection e with e1 e2
        subst e1 e2
        exact opn (s2 _ _ hS hb)
      | ok y =>
        obtain ⟨c3, p3, t3⟩ := y
        refine ⟨(fun cs' p' t' e K => ?_), (fun k s e => by cases e)⟩
        injection e with e; injection e with e1 e2; injection e2 with e2 e3
        subst e1 e2 e3
        refine opn (s1 _ _ _ hS (rE.1 W _ o _ _ ?_))
        rw [List.map_append, ← List.append_assoc] at K
        exact K
  · rw [if_neg c1]
    by_cases c2 : sgn T L p t = 91
    · rw [if_pos c2]
      cases hf : sub with
      | none =>
        refine ⟨(fun cs' p' t' e => by cases e), fun k s e hb => ?_⟩
        injection e with e; injection e with e1 e2
        subst e1 e2
        rw [h0 hf]
        exact n4 W C p t hp c2 hb
      | some f =>
        obtain ⟨o6, hG, hS1⟩ := h1 f hf
        obtain ⟨s1, s2⟩ := simt_test tx rE rA hG hS1 (25 :: W) C (stp T L p) false sL (by show ¬ (((25 : Int) = 10 ∨ (25 : Int) = 11) ∨ (25 : Int) = 12); omega)
        have opn := n3 W C o p t hp o6 c2
        simp only
        cases hS : testG T L f (stp T L p) false with
        | error y =>
          obtain ⟨k0, s0⟩ := y
          refine ⟨(fun cs' p' t' e => by cases e), fun k s e hb => ?_⟩
          injection e with e; injection e with e1 e2
          subst e1 e2
          exact opn (s2 _ _ hS hb)
        | ok y =>
          obtain ⟨c3, p3, t3⟩ := y
          have a := GP_test tx hG _ _ _ _ _ sL hS
          have en := test_end tx hG sL hS
          simp only
          cases hT : tkS T L p3 t3 93 with
          | error y =>
            obtain ⟨k0, s0⟩ := y
            have kk := tkS_er hT
            refine ⟨(fun cs' p' t' e => by cases e), fun k s e hb => ?_⟩
            injection e with e; injection e with e1 e2
            subst e1 e2
            refine opn (s1 _ _ _ hS (fun C' q e1 e2 => rA.2.2.2 W C' (o + 1) p3 t3 q a.2.2 en.1 en.2 kk.1 e2 ?_))
            rw [← kk.2.1, ← kk.2.2]; exact hb
          | ok y =>
            obtain ⟨p4, t4⟩ := y
            have kk := tkS_ok hT
            refine ⟨(fun cs' p' t' e K => ?_), (fun k s e => by cases e)⟩
            injection e with e; injection e with e1 e2; injection e2 with e2 e3
            subst e1 e2 e3
            refine opn (s1 _ _ _ hS (fun C' q e1 e2 => rA.1 W C' o p3 t3 q a.2.2 kk.1 e2 ?_))
            rw [← e1, ← kk.2.1, ← kk.2.2]; exact K
    · rw [if_neg c2]
      by_cases c3 : wrd T L p t = 28
      · rw [if_pos c3]
        refine ⟨(fun cs' p' t' e K => ?_), (fun k s e => by cases e)⟩
        injection e with e; injection e with e1 e2; injection e2 with e2 e3
        subst e1 e2 e3
        exact n5 W C o p t hp ho c3 K
      · rw [if_neg c3]
        exact ⟨fun cs' p' t' e K => n6 W C o p t cs' p' t' hp ho c1 c2 c3 e K, fun k s e hb => n7 W C o p t k s hp ho c1 c2 c3 e hb⟩
theorem simt_fact {T : Nat → Int} {L : Nat} {N E Aa : SP} {Bad : Int → Int → Prop} (tx : TX T L) (rN : RtN T L N E Bad) (rE : RtE E Aa) (rA : RtA T L N E Aa Bad) : ∀ r, r ≤ 6 → SimP L true N E Bad (factG T L r) (6 - r)
  | 0, _ => simt_factB tx rN rE rA (by omega) (fun _ => rfl) (fun f h => by cases h)
  | r + 1, hr => by
    have := simt_factB tx rN rE rA (sub := some (factG T L r)) (o := 6 - (r + 1)) (by omega) (fun h => by cases h) (fun f h => by
      injection h with h
      subst h
      refine ⟨by omega, GP_factG tx r, ?_⟩
      rw [show 6 - (r + 1) + 1 = 6 - r by omega]
      exact simt_fact tx rN rE rA r (by omega))
    rw [show 6 - (6 - (r + 1)) = r + 1 by omega] at this
    exact this
