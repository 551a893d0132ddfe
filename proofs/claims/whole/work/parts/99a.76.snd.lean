/-! the law's start: the world is empty, the constants stand -/
theorem arr_k {args : Array Value} {s : State} {ty : FieldType} (h : (Cond.arrayClass ty).before args s = true) : ∃ cA, ArrOfT s cA ty ∧ s.vm.findClass ("[" ++ ty.toString) = some cA := by
  obtain ⟨cA, kA, comp, h1, h2, h3⟩ := Cond.arrayClass_spec (args := args) (first := s) (o := none) (s := s) (idx := []) h
  exact ⟨cA, fun n z => ⟨fun k h => (by cases h), kA, h2, comp, h3⟩, h1⟩
theorem arr_o {args : Array Value} {s : State} {C : String} (h : (Cond.arrayOver (.object C)).before args s = true) : ∃ cA, ArrOfT s cA (.object C) ∧ va_RA s cA (.object C) := by
  obtain ⟨comp, cA, kA, h1, h2, h3, h4, h5⟩ := Cond.arrayOver_spec (args := args) (first := s) (o := none) (s := s) (idx := []) h
  exact ⟨cA, fun n z => ⟨fun k h => (by cases h), kA, h3, comp, h4⟩, kA, comp, h3, h4, h1, h5⟩
theorem k_all {args : Array Value} {s : State} (hts : ∀ w ∈ lw_tbl, w.before args s = true) : ∃ (D : va_G) (Z : CI4), va_K D vwCl (tys4 Z) s := by
  have hk : ∀ k : Nat, ∃ q : ClassId × (Nat → Nat), k < 12 → u_Kn s (vwc k).1 (vwc k).2.1 (vwc k).2.2 q.1 q.2 := by
    intro k
    by_cases h : k < 12
    · have hin : ∀ w ∈ u_ws (vwc k).1 (vwc k).2.1 (vwc k).2.2, w ∈ lw_tbl := fun w hw => (List.mem_filter.mp (vw_in h w hw)).1
      have hq : (k, nf k) ∈ isT := by
        have : ∀ k, k < 12 → (k, nf k) ∈ isT := by decide +kernel
        exact this k h
      have hi := hts _ (List.mem_filter.mp (is_in hq)).1
      rw [show cnm (k, nf k).1 = (vwc k).1 from (vw_nm0 k h).symm] at hi
      obtain ⟨cC, iS, hK⟩ := u_known hts hin hi
      exact ⟨(cC, iS), fun _ => hK⟩
    · exact ⟨(0, fun _ => 0), fun q => absurd q h⟩
  obtain ⟨f, hf⟩ := Classical.axiomOfChoice hk
  obtain ⟨c1, a1, b1⟩ := arr_k (hts _ (List.mem_filter.mp ac_in.1).1)
  obtain ⟨c2, a2, b2⟩ := arr_k (hts _ (List.mem_filter.mp ac_in.2.1).1)
  obtain ⟨c3, a3, b3⟩ := arr_k (hts _ (List.mem_filter.mp ac_in.2.2).1)
  obtain ⟨c4, a4, b4⟩ := arr_o (C := "SilentCourt$Sitting") (hts _ (tb_in (by decide +kernel)))
  refine ⟨(fun k => (f k).1, fun k => (f k).2), (c1, c2, c3, c4), fun k q hq => ?_, fun k q hq => ?_⟩
  · have hlt : k < 12 := (List.getElem?_eq_some_iff.mp hq).1
    rw [vw_at hlt] at hq
    cases hq
    exact hf k hlt
  · match k, hq with
    | 0, hq => cases hq; exact ⟨a1, b1⟩
    | 1, hq => cases hq; exact ⟨a2, b2⟩
    | 2, hq => cases hq; exact ⟨a3, b3⟩
    | 3, hq => cases hq; exact ⟨a4, b4⟩
theorem n_ex : ∀ i, i < 37 → Cond.exactly (.static "SilentCourt$Word" (wN.getD i "") "LSilentCourt$Word;") "SilentCourt$Word" ∈ flatC (Jvm.Cond.and given_1 narrow_1) := by decide +kernel
theorem n_f : ∀ q ∈ wFl, ∀ i, i < 37 → Cond.eq (.field (.static "SilentCourt$Word" (wN.getD i "") "LSilentCourt$Word;") q.1 q.2.1 q.2.2.1) (.int (q.2.2.2.getD i 0)) ∈ flatC (Jvm.Cond.and given_1 narrow_1) := by decide +kernel
theorem n_el : ∀ i, i < 37 → Cond.eq (.elem (.static "SilentCourt$Reader" "WORDS" "[LSilentCourt$Word;") (.int (Int32.ofNat i))) (.static "SilentCourt$Word" (wN.getD i "") "LSilentCourt$Word;") ∈ flatC (Jvm.Cond.and given_1 narrow_1) := by decide +kernel
theorem n_len : Cond.eq (.length (.static "SilentCourt$Reader" "WORDS" "[LSilentCourt$Word;")) (.int 37) ∈ flatC (Jvm.Cond.and given_1 narrow_1) := by decide +kernel
theorem n_arr : Cond.arrayOf (.static "SilentCourt$Reader" "WORDS" "[LSilentCourt$Word;") (.object "SilentCourt$Word") ∈ flatC (Jvm.Cond.and given_1 narrow_1) := by decide +kernel
theorem n_ls : ∀ i, i < 37 → (12, i + 3) ∈ lsT := by decide +kernel
theorem n_key : ∀ i, i < 37 → ∀ j, j < 37 → (wK.map c32).getD i 0 = (wK.map c32).getD j 0 → i = j := by decide +kernel
theorem eq_ref {args : Array Value} {s : State} {t u : Term} {a : Nat} (h : (Cond.eq t u).before args s = true) (hu : u.eval args s none [] s = some (.ref a)) : t.eval args s none [] s = some (.ref a) := by
  cases ht : t.eval args s none [] s with
  | none => simp [Cond.before, Cond.holds, Cond.value, ht, hu] at h
  | some v =>
    simp only [Cond.before, Cond.holds, Cond.value, ht, hu] at h
    cases v <;> simp_all
theorem ne_ref {args : Array Value} {s : State} {t u : Term} {a b : Nat} (ht : t.eval args s none [] s = some (.ref a)) (hu : u.eval args s none [] s = some (.ref b)) (h : a ≠ b) : (Cond.not (.eq t u)).before args s = true := by
  simp [Cond.before, Cond.holds, Cond.value, ht, hu, h]
theorem sta_all {args : Array Value} {s : State} {b L : Nat} {xs : Nat → Int32} (hts : ∀ w ∈ lw_tbl, w.before args s = true) (hgv : (Jvm.Cond.and given_1 narrow_1).before args s = true) (hX : va_X b L xs s s.heap) (hb : b < s.heap.size) (hL : L ≤ 3072) : ∃ adS : Nat → Nat, STA s.heap.size adS L xs s ∧ adS 39 = b := by
  have hs := flat_of_before _ hgv
  have hA : ∀ a : Nat, a < s.heap.size → ¬ (fun q => s.heap.size ≤ q) a := fun a h => by show ¬ s.heap.size ≤ a; omega
  have hini : (Cond.initialized "SilentCourt$Word").before args s = true := hts _ (List.mem_filter.mp (ini_in (k := 12) (by decide +kernel))).1
  have hini2 : (Cond.initialized "SilentCourt$Reader").before args s = true := hts _ (List.mem_filter.mp (ini_in (k := 8) (by decide +kernel))).1
  have hl : ∀ i, i < wN.length → (Cond.laysStatic "SilentCourt$Word" (wN.getD i "") "LSilentCourt$Word;").before args s = true := fun i hi => hts _ (tb_in (lsT_in (n_ls i hi)))
  have hlW : (Cond.laysStatic "SilentCourt$Reader" "WORDS" "[LSilentCourt$Word;").before args s = true := hts _ (tb_in (lsT_in (q := (13, 0)) (by decide +kernel)))
  have hst : ∀ i, i < wN.length → ∃ a, (Term.static "SilentCourt$Word" (wN.getD i "") "LSilentCourt$Word;").eval args s none [] s = some (.ref a) := by
    intro i hi
    obtain ⟨a, c, cell, k, q1, -⟩ := Cond.exactly_spec (hs _ (n_ex i hi))
    exact ⟨a, q1⟩
  have hd : ∀ i j, i < wN.length → j < wN.length → i ≠ j → (Cond.not (.eq (.static "SilentCourt$Word" (wN.getD i "") "LSilentCourt$Word;") (.static "SilentCourt$Word" (wN.getD j "") "LSilentCourt$Word;"))).before args s = true ∨ (Cond.not (.eq (.static "SilentCourt$Word" (wN.getD j "") "LSilentCourt$Word;") (.static "SilentCourt$Word" (wN.getD i "") "LSilentCourt$Word;"))).before args s = true := by
    intro i j hi hj hij
    obtain ⟨a, ha⟩ := hst i hi
    obtain ⟨a', ha'⟩ := hst j hj
    refine Or.inl (ne_ref ha ha' (fun e => ?_))
    subst e
    have hq : ("SilentCourt$Word", "key", "I", wK.map c32) ∈ wFl := List.mem_cons_self
    have v1 := va_eqt (hs _ (n_f _ hq i hi))
    have v2 := va_eqt (hs _ (n_f _ hq j hj))
    rw [va_fe ha] at v1
    rw [va_fe ha'] at v2
    rw [v1] at v2
    exact hij (n_key i hi j hj (by injection v2 with v2; injection v2))
  obtain ⟨ad, hE, hEv⟩ := va_Enof2 (F := wFl) (A := fun q => s.heap.size ≤ q) hl hini (fun i hi => hs _ (n_ex i hi)) (fun q hq i hi => hs _ (n_f q hq i hi)) hd hA
  obtain ⟨tW, htW, hTW⟩ := va_Tof (tm := .static "SilentCourt$Reader" "WORDS" "[LSilentCourt$Word;") (ty := .object "SilentCourt$Word") (N := 37) (f := fun j => .ref (ad j)) (A := fun q => s.heap.size ≤ q) (by decide) (hs _ n_arr) (va_eqt (hs _ n_len)) (fun j hj => eq_ref (hs _ (n_el j hj)) (hEv j hj)) hA
  have hZ := va_Zref hlW hini2 htW hA
  refine ⟨fun i => if i = 39 then b else if i = 38 then tW else ad (i - 1), ⟨?_, ?_, ?_, ?_, ?_, hL, Nat.le_refl _, ?_, ?_⟩, rfl⟩
  · have e : ∀ i, i < wN.length → (if i + 1 = 39 then b else if i + 1 = 38 then tW else ad (i + 1 - 1)) = ad i := by
      intro i hi
      have : i < 37 := hi
      rw [if_neg (by omega), if_neg (by omega)]
      rfl
    refine ⟨fun i hi => ?_, fun i j hi hj h => ?_⟩
    · show va_Z _ _ _ (.ref (if i + 1 = 39 then b else if i + 1 = 38 then tW else ad (i + 1 - 1))) _ _ _ ∧ va_O _ (if i + 1 = 39 then b else if i + 1 = 38 then tW else ad (i + 1 - 1)) _ _ _ ∧ ∀ q ∈ wFl, va_OF q.1 q.2.1 q.2.2.1 (.int (q.2.2.2.getD i 0)) (if i + 1 = 39 then b else if i + 1 = 38 then tW else ad (i + 1 - 1)) _ _ _
      rw [e i hi]
      exact hE.1 i hi
    · have h : (if i + 1 = 39 then b else if i + 1 = 38 then tW else ad (i + 1 - 1)) = (if j + 1 = 39 then b else if j + 1 = 38 then tW else ad (j + 1 - 1)) := h
      rw [e i hi, e j hj] at h
      exact hE.2 i j hi hj h
  · exact hZ
  · obtain ⟨cell, t1, t2, t3, t4, t5, t6, t7⟩ := hTW
    refine ⟨cell, t1, t2, t3, t4, t5, fun j hj => ?_, t7⟩
    rw [t6 j hj]
    show some (Value.ref (ad j)) = some (.ref (if j + 1 = 39 then b else if j + 1 = 38 then tW else ad (j + 1 - 1)))
    rw [if_neg (by omega), if_neg (by omega)]
    rfl
  · exact hX
  · exact hb
  · intro q hq
    exact va_Nw.of rfl (hts _ (tb_in (nestT_in hq)))
  · exact va_AO.of (hts _ (tb_in (by decide +kernel)))
