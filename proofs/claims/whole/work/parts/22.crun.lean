/-! the class: sums and tests reckoned -/
noncomputable def rkF (v a b : Int) : Int := if v = 10 then a + b else if v = 11 then a - b else if v = 12 then a * b else if v = 13 then a.fdiv b else if v = 14 then min a b else if v = 15 then max a b else if v = 16 then bI (decide (a < b)) else if v = 17 then bI (decide (b < a)) else if v = 18 then bI (decide (a = b)) else if v = 19 then band a b else bor a b
noncomputable def stepC (F : Int → Int) (B : Int → Bool) (v : Int) (st : List Int) : List Int := if 100 ≤ v then (v - 100) :: st else if v < 10 then F v :: st else match st with
  | [] => st
  | b :: r => if v = 21 then (1 - b) :: r else if v = 22 then bI (B b) :: r else match r with
    | [] => st
    | a :: r => clipF (rkF v a b) :: r
noncomputable def evC (F : Int → Int) (B : Int → Bool) (c : Int → Int) : Nat → Int → List Int → List Int
  | 0, _, st => st
  | n + 1, k, st => evC F B c n (k + 1) (stepC F B (c k) st)
/-- steps that leave one number; ts: which are tests (0 or 1) -/
def wfs (c : Int → Int) : Nat → Int → List Bool → Prop
  | 0, _, ts => ∃ t, ts = [t]
  | n + 1, k, ts => (((100 ≤ c k ∧ c k ≤ 10099) ∨ (0 ≤ c k ∧ c k < 10)) ∧ ts.length + 1 ≤ 60 ∧ wfs c n (k + 1) (false :: ts)) ∨ (c k = 101 ∧ ts.length + 1 ≤ 60 ∧ wfs c n (k + 1) (true :: ts)) ∨ (∃ r, ts = false :: false :: r ∧ (10 ≤ c k ∧ c k ≤ 15) ∧ wfs c n (k + 1) (false :: r)) ∨ (∃ r, ts = false :: false :: r ∧ (16 ≤ c k ∧ c k ≤ 18) ∧ wfs c n (k + 1) (true :: r)) ∨ (∃ r, ts = true :: true :: r ∧ (19 ≤ c k ∧ c k ≤ 20) ∧ wfs c n (k + 1) (true :: r)) ∨ (∃ r, ts = true :: r ∧ c k = 21 ∧ wfs c n (k + 1) (true :: r)) ∨ (∃ r, ts = false :: r ∧ c k = 22 ∧ wfs c n (k + 1) (false :: r))
def okst : List Bool → List Int → Prop
  | [], [] => True
  | t :: ts, x :: st => (-1000000 ≤ x ∧ x ≤ 1000000) ∧ (t = true → x = 0 ∨ x = 1) ∧ okst ts st
  | _, _ => False
theorem okst_len : ∀ {ts : List Bool} {st : List Int}, okst ts st → st.length = ts.length
  | [], [], _ => rfl
  | _ :: _, _ :: _, h => by simp [okst_len h.2.2]
  | [], _ :: _, h => absurd h (by simp [okst])
  | _ :: _, [], h => absurd h (by simp [okst])
def plC (A : AH) : List Int → Prop
  | [] => True
  | x :: r => gi A 184 r.length = x ∧ plC A r
theorem plC_fr {A B : AH} : ∀ {st : List Int}, (∀ j, j < st.length → gi B 184 j = gi A 184 j) → plC A st → plC B st
  | [], _, _ => trivial
  | x :: r, h, p => ⟨(h r.length (by simp)).trans p.1, plC_fr (fun j hj => h j (by simp; omega)) p.2⟩
def frC (A B : AH) : Prop := (∀ a j, a ≠ 184 → ¬ (a = 180 ∧ j = 11) → gi B a j = gi A a j) ∧ (∀ a j, gr B a j = gr A a j) ∧ B.2.2 = A.2.2
theorem frC_refl (A : AH) : frC A A := ⟨fun _ _ _ _ => rfl, fun _ _ => rfl, rfl⟩
theorem frC_trans {A B C : AH} (h1 : frC A B) (h2 : frC B C) : frC A C := ⟨fun a j r t => (h2.1 a j r t).trans (h1.1 a j r t), fun a j => (h2.2.1 a j).trans (h1.2.1 a j), h2.2.2.trans h1.2.2⟩
theorem frC_wi {A B : AH} {a k : Nat} (v : Int) (h : a = 184 ∨ (a = 180 ∧ k = 11)) (h2 : frC A B) : frC A (wi B a k v) := frC_trans h2 ⟨fun b j r t => by
  rw [gi_wi, if_neg (by omega)], fun _ _ => rfl, rfl⟩
theorem frC_frB {A B : AH} (h : frC A B) : frB A B := ⟨fun a j _ r t => h.1 a j r t, h.2.1, h.2.2⟩
set_option maxRecDepth 100000 in
theorem s_push (d : Nat) (y : Int) (A : AH) (h1 : 0 ≤ gi A 180 11) (h2 : gi A 180 11 < 64) : runF (d + 1) 12 [vR 10 180 0, vI y] A = some (none, wi (wi A 184 (gi A 180 11).toNat y) 180 11 (gi A 180 11 + 1)) := by
  rw [r_X0_push, q_X0_push_0]
  simp -implicitDefEqProofs (disch := omega) only [q_X0_push_19, gi_wi, ↓reduceIte, Int.reduceEq, cI_v, cL_v, cV_v, cR_v, wid, wid64, if_pos, if_neg, Nat.add_zero, if_true, if_false, and_self, and_true, true_and, and_false, false_and, or_true, true_or, or_false, false_or]
set_option maxRecDepth 100000 in
theorem s_popP (d : Nat) (A : AH) (h1 : 0 < gi A 180 11) (h2 : gi A 180 11 < 64) : runF (d + 1) 13 [vR 10 180 0] A = some (some (vI (gi A 184 (gi A 180 11 - 1).toNat)), wi A 180 11 (gi A 180 11 - 1)) := by
  rw [r_X0_pop, q_X0_pop_0]
  simp -implicitDefEqProofs (disch := omega) only [q_X0_pop_19, gi_wi, ↓reduceIte, Int.reduceEq, cI_v, cL_v, cV_v, cR_v, wid, wid64, if_pos, if_neg, Nat.add_zero, if_true, if_false, and_self, and_true, true_and, and_false, false_and, or_true, true_or, or_false, false_or]
set_option maxRecDepth 100000 in
theorem s_popL (d : Nat) (A : AH) (b : Int) (r : List Int) (hp : gi A 180 11 = (b :: r).length) (hl : (b :: r).length ≤ 60) (h : plC A (b :: r)) : runF (d + 1) 13 [vR 10 180 0] A = some (some (vI b), wi A 180 11 r.length) := by
  simp only [List.length_cons] at hp hl
  rw [s_popP d A (by omega) (by omega)]
  rw [show gi A 180 11 - 1 = (r.length : Int) by omega, Int.toNat_natCast, h.1]
set_option maxRecDepth 100000 in
theorem s_pushLP (d : Nat) (y : Int) (A : AH) (st : List Int) (hp : gi A 180 11 = st.length) (hl : st.length ≤ 60) : runF (d + 1) 12 [vR 10 180 0, vI y] A = some (none, wi (wi A 184 st.length y) 180 11 (st.length + 1)) := by
  rw [s_push d y A (by omega) (by omega), hp, Int.toNat_natCast]
theorem push_pl {A : AH} {y : Int} {st : List Int} (h : plC A st) : plC (wi (wi A 184 st.length y) 180 11 (st.length + 1)) (y :: st) ∧ gi (wi (wi A 184 st.length y) 180 11 (st.length + 1)) 180 11 = (y :: st).length := by
  refine ⟨⟨by simp -implicitDefEqProofs (disch := omega) only [gi_wi, ↓reduceIte, Int.reduceEq, cI_v, cL_v, cV_v, cR_v, wid, wid64, if_pos, if_neg, Nat.add_zero, if_true, if_false, and_self, and_true, true_and, and_false, false_and, or_true, true_or, or_false, false_or], plC_fr (fun j hj => by simp -implicitDefEqProofs (disch := omega) only [gi_wi, ↓reduceIte, Int.reduceEq, cI_v, cL_v, cV_v, cR_v, wid, wid64, if_pos, if_neg, Nat.add_zero, if_true, if_false, and_self, and_true, true_and, and_false, false_and, or_true, true_or, or_false, false_or]) h⟩, ?_⟩
  simp -implicitDefEqProofs (disch := omega) only [gi_wi, List.length_cons, ↓reduceIte, Int.reduceEq, cI_v, cL_v, cV_v, cR_v, wid, wid64, if_pos, if_neg, Nat.add_zero, if_true, if_false, and_self, and_true, true_and, and_false, false_and, or_true, true_or, or_false, false_or]; omega
theorem pop_pl {A : AH} {x : Int} {st : List Int} (h : plC A (x :: st)) : plC (wi A 180 11 st.length) st ∧ gi (wi A 180 11 st.length) 180 11 = st.length := by
  refine ⟨plC_fr (fun j hj => by simp -implicitDefEqProofs (disch := omega) only [gi_wi, ↓reduceIte, Int.reduceEq, cI_v, cL_v, cV_v, cR_v, wid, wid64, if_pos, if_neg, Nat.add_zero, if_true, if_false, and_self, and_true, true_and, and_false, false_and, or_true, true_or, or_false, false_or]) h.2, ?_⟩
  simp -implicitDefEqProofs (disch := omega) only [gi_wi, ↓reduceIte, Int.reduceEq, cI_v, cL_v, cV_v, cR_v, wid, wid64, if_pos, if_neg, Nat.add_zero, if_true, if_false, and_self, and_true, true_and, and_false, false_and, or_true, true_or, or_false, false_or]
theorem bI01 (b : Bool) : bI b = 0 ∨ bI b = 1 := by cases b <;> simp [bI]
theorem band01 {a b : Int} (ha : a = 0 ∨ a = 1) (hb : b = 0 ∨ b = 1) : band a b = 0 ∨ band a b = 1 := by
  rcases ha with rfl | rfl <;> rcases hb with rfl | rfl <;> rw [band_n (by omega) (by omega) (by omega) (by omega)] <;> decide
theorem bor01 {a b : Int} (ha : a = 0 ∨ a = 1) (hb : b = 0 ∨ b = 1) : bor a b = 0 ∨ bor a b = 1 := by
  rcases ha with rfl | rfl <;> rcases hb with rfl | rfl <;> rw [bor_n (by omega) (by omega) (by omega) (by omega)] <;> decide
set_option maxRecDepth 100000 in
theorem s_reckon (d : Nat) (v a b : Int) (A : AH) (h1 : -1000000 ≤ a ∧ a ≤ 1000000) (h2 : -1000000 ≤ b ∧ b ≤ 1000000) (hv1 : 10 ≤ v) (hv2 : v ≤ 20) : runF (d + 2) 15 [vI v, vI a, vI b] A = some (some (vL (rkF v a b)), A) := by
  have m := mul_bd h1 h2
  rw [r_X0_reckon, q_X0_reckon_0]
  unfold rkF
  have : v = 10 ∨ v = 11 ∨ v = 12 ∨ v = 13 ∨ v = 14 ∨ v = 15 ∨ v = 16 ∨ v = 17 ∨ v = 18 ∨ v = 19 ∨ v = 20 := by omega
  rcases this with rfl | rfl | rfl | rfl | rfl | rfl | rfl | rfl | rfl | rfl | rfl
  · simp -implicitDefEqProofs (disch := omega) only [↓reduceIte, Int.reduceEq, cI_v, cL_v, cV_v, cR_v, wid, wid64, if_pos, if_neg, Nat.add_zero, if_true, if_false, and_self, and_true, true_and, and_false, false_and, or_true, true_or, or_false, false_or]
  · simp -implicitDefEqProofs (disch := omega) only [↓reduceIte, Int.reduceEq, cI_v, cL_v, cV_v, cR_v, wid, wid64, if_pos, if_neg, Nat.add_zero, if_true, if_false, and_self, and_true, true_and, and_false, false_and, or_true, true_or, or_false, false_or]
  · simp -implicitDefEqProofs (disch := omega) only [↓reduceIte, Int.reduceEq, cI_v, cL_v, cV_v, cR_v, wid, wid64, if_pos, if_neg, Nat.add_zero, if_true, if_false, and_self, and_true, true_and, and_false, false_and, or_true, true_or, or_false, false_or]
  · simp -implicitDefEqProofs (disch := omega) only [↓reduceIte, Int.reduceEq, cI_v, cL_v, cV_v, cR_v, wid, wid64, if_pos, if_neg, Nat.add_zero, if_true, if_false, and_self, and_true, true_and, and_false, false_and, or_true, true_or, or_false, false_or]
    by_cases c : b = 0
    · simp -implicitDefEqProofs (disch := omega) only [↓reduceIte, Int.reduceEq, cI_v, cL_v, cV_v, cR_v, wid, wid64, if_pos, if_neg, Nat.add_zero, if_true, if_false, and_self, and_true, true_and, and_false, false_and, or_true, true_or, or_false, false_or]; subst c; rw [Int.fdiv_zero]
    · rw [if_neg c, s_floorDiv d a b A h1 h2 c]
      simp -implicitDefEqProofs (disch := omega) only [↓reduceIte, Int.reduceEq, cI_v, cL_v, cV_v, cR_v, wid, wid64, if_pos, if_neg, Nat.add_zero, if_true, if_false, and_self, and_true, true_and, and_false, false_and, or_true, true_or, or_false, false_or]
  · simp -implicitDefEqProofs (disch := omega) only [s_minI, ↓reduceIte, Int.reduceEq, cI_v, cL_v, cV_v, cR_v, wid, wid64, if_pos, if_neg, Nat.add_zero, if_true, if_false, and_self, and_true, true_and, and_false, false_and, or_true, true_or, or_false, false_or]
  · simp -implicitDefEqProofs (disch := omega) only [s_maxI, ↓reduceIte, Int.reduceEq, cI_v, cL_v, cV_v, cR_v, wid, wid64, if_pos, if_neg, Nat.add_zero, if_true, if_false, and_self, and_true, true_and, and_false, false_and, or_true, true_or, or_false, false_or]
  · simp -implicitDefEqProofs (disch := omega) only [bI_dec, ↓reduceIte, Int.reduceEq, cI_v, cL_v, cV_v, cR_v, wid, wid64, if_pos, if_neg, Nat.add_zero, if_true, if_false, and_self, and_true, true_and, and_false, false_and, or_true, true_or, or_false, false_or]
    by_cases c : a < b <;> simp -implicitDefEqProofs (disch := omega) only [↓reduceIte, Int.reduceEq, cI_v, cL_v, cV_v, cR_v, wid, wid64, if_pos, if_neg, Nat.add_zero, if_true, if_false, and_self, and_true, true_and, and_false, false_and, or_true, true_or, or_false, false_or]
  · simp -implicitDefEqProofs (disch := omega) only [bI_dec, ↓reduceIte, Int.reduceEq, cI_v, cL_v, cV_v, cR_v, wid, wid64, if_pos, if_neg, Nat.add_zero, if_true, if_false, and_self, and_true, true_and, and_false, false_and, or_true, true_or, or_false, false_or]
    by_cases c : b < a <;> simp -implicitDefEqProofs (disch := omega) only [↓reduceIte, Int.reduceEq, cI_v, cL_v, cV_v, cR_v, wid, wid64, if_pos, if_neg, Nat.add_zero, if_true, if_false, and_self, and_true, true_and, and_false, false_and, or_true, true_or, or_false, false_or]
  · simp -implicitDefEqProofs (disch := omega) only [bI_dec, ↓reduceIte, Int.reduceEq, cI_v, cL_v, cV_v, cR_v, wid, wid64, if_pos, if_neg, Nat.add_zero, if_true, if_false, and_self, and_true, true_and, and_false, false_and, or_true, true_or, or_false, false_or]
    by_cases c : a = b <;> simp -implicitDefEqProofs (disch := omega) only [↓reduceIte, Int.reduceEq, cI_v, cL_v, cV_v, cR_v, wid, wid64, if_pos, if_neg, Nat.add_zero, if_true, if_false, and_self, and_true, true_and, and_false, false_and, or_true, true_or, or_false, false_or]
  · simp -implicitDefEqProofs (disch := omega) only [↓reduceIte, Int.reduceEq, cI_v, cL_v, cV_v, cR_v, wid, wid64, if_pos, if_neg, Nat.add_zero, if_true, if_false, and_self, and_true, true_and, and_false, false_and, or_true, true_or, or_false, false_or]
  · simp -implicitDefEqProofs (disch := omega) only [↓reduceIte, Int.reduceEq, cI_v, cL_v, cV_v, cR_v, wid, wid64, if_pos, if_neg, Nat.add_zero, if_true, if_false, and_self, and_true, true_and, and_false, false_and, or_true, true_or, or_false, false_or]
theorem cut_clip (x : Int) : cutF x (-1000000) 1000000 = clipF x := by
  unfold cutF clipF
  by_cases c : x < -1000000
  · simp -implicitDefEqProofs (disch := omega) only [↓reduceIte, Int.reduceEq, cI_v, cL_v, cV_v, cR_v, wid, wid64, if_pos, if_neg, Nat.add_zero, if_true, if_false, and_self, and_true, true_and, and_false, false_and, or_true, true_or, or_false, false_or]
  · by_cases c2 : 1000000 < x <;> simp -implicitDefEqProofs (disch := omega) only [↓reduceIte, Int.reduceEq, cI_v, cL_v, cV_v, cR_v, wid, wid64, if_pos, if_neg, Nat.add_zero, if_true, if_false, and_self, and_true, true_and, and_false, false_and, or_true, true_or, or_false, false_or]
theorem clip01 {x : Int} (h : x = 0 ∨ x = 1) : clipF x = 0 ∨ clipF x = 1 := by
  rcases h with rfl | rfl <;> simp [clipF]
set_option maxRecDepth 100000 in
theorem l_run (d : Nat) (p : Nat) (N : Nat) (hp0 : 271 ≤ p ∨ p = 45) (F : Int → Int) (B : Int → Bool) (hF : ∀ i, 0 ≤ i → i < 10 → -1000000 ≤ F i ∧ F i ≤ 1000000) (c : Int → Int) (L : Int) (A0 : AH) (hN : L ≤ N) (hN2 : L ≤ 1600) (hA : ∀ k : Int, 0 ≤ k → k < L → gi A0 p k.toNat = c k) (hFa : ∀ i : Int, 0 ≤ i → i < 10 → gi A0 181 i.toNat = F i) (hB : ∀ (A : AH) (x : Int), frC A0 A → runF (d + 2) 14 [vR 10 180 0, vI x] A = some (some (vI (bI (B x))), A)) : ∀ (m n : Nat) (k : Int) (ts : List Bool) (st : List Int) (A : AH) (u4 u5 : AV), 0 ≤ k → k + m = L → wfs c m k ts → okst ts st → plC A st → gi A 180 11 = st.length → st.length ≤ 60 → frC A0 A → 10 * m + 10 ≤ n → ∃ A', go true 0 (runF (d + 2)) (runN (d + 2)) pb_X0_run n 7 [vR 10 180 0, vR 30 p N, vI L, vI k, u4, u5] [] A = some (some (vI (headF (evC F B c m k st))), A') ∧ frC A0 A' := by
  have hp : p ≠ 0 := by omega
  intro m
  induction m with
  | zero =>
    intro n k ts st A u4 u5 h1 h2 hw ho hpl hl hl6 hf hn
    obtain ⟨n, rfl⟩ : ∃ e, n = e + 10 := ⟨n - 10, by omega⟩
    obtain ⟨t, rfl⟩ := hw
    obtain ⟨y, rfl⟩ : ∃ y, st = [y] := by
      match st, okst_len ho with
      | [y], _ => exact ⟨y, rfl⟩
    refine ⟨wi A 180 11 (([] : List Int).length), ?_, frC_wi _ (by omega) hf⟩
    rw [q_X0_run_7 _ _ _ _ _ _ _ _ _ _ hp]
    simp -implicitDefEqProofs (disch := omega) only [q_X0_run_152, ↓reduceIte, Int.reduceEq, cI_v, cL_v, cV_v, cR_v, wid, wid64, if_pos, if_neg, Nat.add_zero, if_true, if_false, and_self, and_true, true_and, and_false, false_and, or_true, true_or, or_false, false_or]
    rw [s_popL (d + 1) A y [] hl hl6 hpl]
    rfl
  | succ m ih =>
    intro n k ts st A u4 u5 h1 h2 hw ho hpl hl hl6 hf hn
    obtain ⟨n, rfl⟩ : ∃ e, n = e + 10 := ⟨n - 10, by omega⟩
    have ec : gi A p k.toNat = c k := by rw [hf.1 p _ (by omega) (by omega)]; exact hA k h1 (by omega)
    have hlen := okst_len ho
    unfold wfs at hw
    have key : ∀ y t r', okst (t :: r') (y :: st) → st.length + 1 ≤ 60 → stepC F B (c k) st = y :: st → wfs c m (k + 1) (t :: r') → ∀ u n', 10 * m + 10 ≤ n' → ∃ A', go true 0 (runF (d + 2)) (runN (d + 2)) pb_X0_run n' 7 [vR 10 180 0, vR 30 p N, vI L, vI (k + 1), vI (c k), u] [] (wi (wi A 184 st.length y) 180 11 (st.length + 1)) = some (some (vI (headF (evC F B c (m + 1) k st))), A') ∧ frC A0 A' := by
      intro y t r' hok hl7 hst hw' u n' hn'
      have pp := push_pl (y := y) hpl
      have := ih n' (k + 1) (t :: r') (y :: st) _ (vI (c k)) u (by omega) (by omega) hw' hok pp.1 pp.2 (by simp only [List.length_cons]; omega) (frC_wi _ (by omega) (frC_wi _ (by omega) hf)) hn'
      rw [show evC F B c (m + 1) k st = evC F B c m (k + 1) (stepC F B (c k) st) from rfl, hst]
      exact this
    have key2 : ∀ (y x : Int) (st' : List Int) (t : Bool) (r' : List Bool) (A1 : AH), plC A1 st' → gi A1 180 11 = st'.length → frC A0 A1 → okst (t :: r') (y :: st') → st'.length + 1 ≤ 60 → stepC F B (c k) st = y :: st' → wfs c m (k + 1) (t :: r') → ∀ u n', 10 * m + 10 ≤ n' → ∃ A', go true 0 (runF (d + 2)) (runN (d + 2)) pb_X0_run n' 7 [vR 10 180 0, vR 30 p N, vI L, vI (k + 1), vI (c k), u] [] (wi (wi A1 184 st'.length y) 180 11 (st'.length + 1)) = some (some (vI (headF (evC F B c (m + 1) k st))), A') ∧ frC A0 A' := by
      intro y x st' t r' A1 hp1 hl1 hf1 hok hl7 hst hw' u n' hn'
      have pp := push_pl (y := y) hp1
      have := ih n' (k + 1) (t :: r') (y :: st') _ (vI (c k)) u (by omega) (by omega) hw' hok pp.1 pp.2 (by simp only [List.length_cons]; omega) (frC_wi _ (by omega) (frC_wi _ (by omega) hf1)) hn'
      rw [show evC F B c (m + 1) k st = evC F B c m (k + 1) (stepC F B (c k) st) from rfl, hst]
      exact this
    have bin : ∀ (t1 t2 t : Bool) (r : List Bool), ts = t1 :: t2 :: r → 10 ≤ c k → c k ≤ 20 → (∀ a b, (t1 = true → b = 0 ∨ b = 1) → (t2 = true → a = 0 ∨ a = 1) → t = true → clipF (rkF (c k) a b) = 0 ∨ clipF (rkF (c k) a b) = 1) → wfs c m (k + 1) (t :: r) → ∃ A', go true 0 (runF (d + 2)) (runN (d + 2)) pb_X0_run (n + 10) 7 [vR 10 180 0, vR 30 p N, vI L, vI k, u4, u5] [] A = some (some (vI (headF (evC F B c (m + 1) k st))), A') ∧ frC A0 A' := by
      intro t1 t2 t r hts hv1 hv2 htt hw'
      subst hts
      obtain ⟨b, a, r0, rfl⟩ : ∃ b a r0, st = b :: a :: r0 := by
        match st, hlen with
        | b :: a :: r0, _ => exact ⟨b, a, r0, rfl⟩
      obtain ⟨o1, o2, o3, o4, o5⟩ := ho
      have hst : stepC F B (c k) (b :: a :: r0) = clipF (rkF (c k) a b) :: r0 := by
        unfold stepC; rw [if_neg (by omega), if_neg (by omega)]; simp only []; rw [if_neg (by omega), if_neg (by omega)]
      have p1 := pop_pl hpl
      have p2 := pop_pl p1.1
      have f1 := frC_wi (a := 180) (k := 11) ((a :: r0).length) (by omega) hf
      have f2 := frC_wi (a := 180) (k := 11) (r0.length) (by omega) f1
      simp only [List.length_cons] at hl6
      obtain ⟨A', e1, e2⟩ := key2 (clipF (rkF (c k) a b)) 0 r0 t r _ p2.1 p2.2 f2 ⟨clip_bd _, fun q => htt a b o2 o4 q, o5⟩ (by omega) hst hw' (vI b) (n + 4) (by omega)
      refine ⟨A', ?_, e2⟩
      rw [q_X0_run_7 _ _ _ _ _ _ _ _ _ _ hp]
      simp -implicitDefEqProofs (disch := omega) only [ec, q_X0_run_68, ↓reduceIte, Int.reduceEq, cI_v, cL_v, cV_v, cR_v, wid, wid64, if_pos, if_neg, Nat.add_zero, if_true, if_false, and_self, and_true, true_and, and_false, false_and, or_true, true_or, or_false, false_or]
      rw [s_popL (d + 1) A b (a :: r0) hl (by simp only [List.length_cons]; omega) hpl]
      simp -implicitDefEqProofs (disch := omega) only [↓reduceIte, Int.reduceEq, cI_v, cL_v, cV_v, cR_v, wid, wid64, if_pos, if_neg, Nat.add_zero, if_true, if_false, and_self, and_true, true_and, and_false, false_and, or_true, true_or, or_false, false_or]
      rw [s_popL (d + 1) _ a r0 p1.2 (by simp only [List.length_cons]; omega) p1.1]
      simp -implicitDefEqProofs (disch := omega) only [↓reduceIte, Int.reduceEq, cI_v, cL_v, cV_v, cR_v, wid, wid64, if_pos, if_neg, Nat.add_zero, if_true, if_false, and_self, and_true, true_and, and_false, false_and, or_true, true_or, or_false, false_or]
      rw [s_reckon d (c k) a b _ o3 o1 hv1 hv2]
      simp -implicitDefEqProofs (disch := omega) only [s_cut, cut_clip, ↓reduceIte, Int.reduceEq, cI_v, cL_v, cV_v, cR_v, wid, wid64, if_pos, if_neg, Nat.add_zero, if_true, if_false, and_self, and_true, true_and, and_false, false_and, or_true, true_or, or_false, false_or]
      rw [s_pushLP (d + 1) _ _ r0 p2.2 (by omega)]
      simp -implicitDefEqProofs (disch := omega) only [q_X0_run_146, ↓reduceIte, Int.reduceEq, cI_v, cL_v, cV_v, cR_v, wid, wid64, if_pos, if_neg, Nat.add_zero, if_true, if_false, and_self, and_true, true_and, and_false, false_and, or_true, true_or, or_false, false_or]
      exact e1
    rcases hw with ⟨hv1, hv2, hv3⟩ | ⟨hv1, hv2, hv3⟩ | ⟨r, ht, hv1, hv3⟩ | ⟨r, ht, hv1, hv3⟩ | ⟨r, ht, hv1, hv3⟩ | ⟨r, ht, hv1, hv3⟩ | ⟨r, ht, hv1, hv3⟩
    · rcases hv1 with hv1 | hv1
      · obtain ⟨A', e1, e2⟩ := key (c k - 100) false ts ⟨by omega, by simp, ho⟩ (by omega) (by unfold stepC; rw [if_pos (by omega)]) hv3 u5 (n + 8) (by omega)
        refine ⟨A', ?_, e2⟩
        rw [q_X0_run_7 _ _ _ _ _ _ _ _ _ _ hp]
        simp -implicitDefEqProofs (disch := omega) only [ec, ↓reduceIte, Int.reduceEq, cI_v, cL_v, cV_v, cR_v, wid, wid64, if_pos, if_neg, Nat.add_zero, if_true, if_false, and_self, and_true, true_and, and_false, false_and, or_true, true_or, or_false, false_or]
        rw [s_pushLP (d + 1) _ A st hl hl6]
        simp -implicitDefEqProofs (disch := omega) only [q_X0_run_146, ↓reduceIte, Int.reduceEq, cI_v, cL_v, cV_v, cR_v, wid, wid64, if_pos, if_neg, Nat.add_zero, if_true, if_false, and_self, and_true, true_and, and_false, false_and, or_true, true_or, or_false, false_or]
        exact e1
      · obtain ⟨A', e1, e2⟩ := key (F (c k)) false ts ⟨hF _ hv1.1 hv1.2, by simp, ho⟩ (by omega) (by unfold stepC; rw [if_neg (by omega), if_pos (by omega)]) hv3 u5 (n + 7) (by omega)
        have eF : gi A 181 (c k).toNat = F (c k) := by rw [hf.1 181 _ (by omega) (by omega)]; exact hFa _ hv1.1 hv1.2
        refine ⟨A', ?_, e2⟩
        rw [q_X0_run_7 _ _ _ _ _ _ _ _ _ _ hp]
        simp -implicitDefEqProofs (disch := omega) only [ec, eF, ↓reduceIte, Int.reduceEq, cI_v, cL_v, cV_v, cR_v, wid, wid64, if_pos, if_neg, Nat.add_zero, if_true, if_false, and_self, and_true, true_and, and_false, false_and, or_true, true_or, or_false, false_or]
        rw [s_pushLP (d + 1) _ A st hl hl6]
        simp -implicitDefEqProofs (disch := omega) only [q_X0_run_146, ↓reduceIte, Int.reduceEq, cI_v, cL_v, cV_v, cR_v, wid, wid64, if_pos, if_neg, Nat.add_zero, if_true, if_false, and_self, and_true, true_and, and_false, false_and, or_true, true_or, or_false, false_or]
        exact e1
    · obtain ⟨A', e1, e2⟩ := key (c k - 100) true ts ⟨by omega, by intro _; omega, ho⟩ (by omega) (by unfold stepC; rw [if_pos (by omega)]) hv3 u5 (n + 8) (by omega)
      refine ⟨A', ?_, e2⟩
      rw [q_X0_run_7 _ _ _ _ _ _ _ _ _ _ hp]
      simp -implicitDefEqProofs (disch := omega) only [ec, ↓reduceIte, Int.reduceEq, cI_v, cL_v, cV_v, cR_v, wid, wid64, if_pos, if_neg, Nat.add_zero, if_true, if_false, and_self, and_true, true_and, and_false, false_and, or_true, true_or, or_false, false_or]
      rw [s_pushLP (d + 1) _ A st hl hl6]
      simp -implicitDefEqProofs (disch := omega) only [q_X0_run_146, ↓reduceIte, Int.reduceEq, cI_v, cL_v, cV_v, cR_v, wid, wid64, if_pos, if_neg, Nat.add_zero, if_true, if_false, and_self, and_true, true_and, and_false, false_and, or_true, true_or, or_false, false_or]
      exact e1
    · exact bin false false false r ht (by omega) (by omega) (by simp) hv3
    · refine bin false false true r ht (by omega) (by omega) (fun a b _ _ _ => ?_) hv3
      apply clip01
      unfold rkF
      have : c k = 16 ∨ c k = 17 ∨ c k = 18 := by omega
      rcases this with e | e | e <;> simp only [e] <;> simp only [reduceIte, Int.reduceEq] <;> exact bI01 _
    · refine bin true true true r ht (by omega) (by omega) (fun a b hb ha _ => ?_) hv3
      apply clip01
      have h3 := band01 (ha rfl) (hb rfl)
      have h4 := bor01 (ha rfl) (hb rfl)
      unfold rkF
      have : c k = 19 ∨ c k = 20 := by omega
      rcases this with e | e <;> simp only [e] <;> simp only [reduceIte, Int.reduceEq] <;> assumption
    · subst ht
      obtain ⟨b, r0, rfl⟩ : ∃ b r0, st = b :: r0 := by
        match st, hlen with
        | b :: r0, _ => exact ⟨b, r0, rfl⟩
      obtain ⟨o1, o2, o3⟩ := ho
      have hst : stepC F B (c k) (b :: r0) = (1 - b) :: r0 := by
        unfold stepC; rw [if_neg (by omega), if_neg (by omega)]; simp only []; rw [if_pos (by omega)]
      have p1 := pop_pl hpl
      simp only [List.length_cons] at hl6
      obtain ⟨A', e1, e2⟩ := key2 (1 - b) 0 r0 true r _ p1.1 p1.2 (frC_wi _ (by omega) hf) ⟨by have := o2 rfl; omega, fun _ => by have := o2 rfl; omega, o3⟩ (by omega) hst hv3 u5 (n + 6) (by omega)
      refine ⟨A', ?_, e2⟩
      rw [q_X0_run_7 _ _ _ _ _ _ _ _ _ _ hp]
      simp -implicitDefEqProofs (disch := omega) only [ec, q_X0_run_68, ↓reduceIte, Int.reduceEq, cI_v, cL_v, cV_v, cR_v, wid, wid64, if_pos, if_neg, Nat.add_zero, if_true, if_false, and_self, and_true, true_and, and_false, false_and, or_true, true_or, or_false, false_or]
      rw [s_popL (d + 1) A b r0 hl (by simp only [List.length_cons]; omega) hpl]
      simp -implicitDefEqProofs (disch := omega) only [↓reduceIte, Int.reduceEq, cI_v, cL_v, cV_v, cR_v, wid, wid64, if_pos, if_neg, Nat.add_zero, if_true, if_false, and_self, and_true, true_and, and_false, false_and, or_true, true_or, or_false, false_or]
      rw [s_pushLP (d + 1) _ _ r0 p1.2 (by omega)]
      simp -implicitDefEqProofs (disch := omega) only [q_X0_run_146, ↓reduceIte, Int.reduceEq, cI_v, cL_v, cV_v, cR_v, wid, wid64, if_pos, if_neg, Nat.add_zero, if_true, if_false, and_self, and_true, true_and, and_false, false_and, or_true, true_or, or_false, false_or]
      exact e1
    · subst ht
      obtain ⟨b, r0, rfl⟩ : ∃ b r0, st = b :: r0 := by
        match st, hlen with
        | b :: r0, _ => exact ⟨b, r0, rfl⟩
      obtain ⟨o1, o2, o3⟩ := ho
      have hst : stepC F B (c k) (b :: r0) = bI (B b) :: r0 := by
        unfold stepC; rw [if_neg (by omega), if_neg (by omega)]; simp only []; rw [if_neg (by omega), if_pos (by omega)]
      have p1 := pop_pl hpl
      have f1 := frC_wi (a := 180) (k := 11) (r0.length) (by omega) hf
      have bb := bI_bd (B b)
      simp only [List.length_cons] at hl6
      obtain ⟨A', e1, e2⟩ := key2 (bI (B b)) 0 r0 false r _ p1.1 p1.2 f1 ⟨by omega, by simp, o3⟩ (by omega) hst hv3 u5 (n + 3) (by omega)
      obtain ⟨A'', e1', e2'⟩ := key2 (bI (B b)) 0 r0 false r _ p1.1 p1.2 f1 ⟨by omega, by simp, o3⟩ (by omega) hst hv3 u5 (n + 4) (by omega)
      by_cases cb : B b = true
      · refine ⟨A'', ?_, e2'⟩
        rw [q_X0_run_7 _ _ _ _ _ _ _ _ _ _ hp]
        simp -implicitDefEqProofs (disch := omega) only [ec, q_X0_run_68, ↓reduceIte, Int.reduceEq, cI_v, cL_v, cV_v, cR_v, wid, wid64, if_pos, if_neg, Nat.add_zero, if_true, if_false, and_self, and_true, true_and, and_false, false_and, or_true, true_or, or_false, false_or]
        rw [s_popL (d + 1) A b r0 hl (by simp only [List.length_cons]; omega) hpl]
        simp -implicitDefEqProofs (disch := omega) only [hB _ b f1, bI_0, ite_f, cb, q_X0_run_112, ↓reduceIte, Int.reduceEq, cI_v, cL_v, cV_v, cR_v, wid, wid64, if_pos, if_neg, Nat.add_zero, if_true, if_false, and_self, and_true, true_and, and_false, false_and, or_true, true_or, or_false, false_or]
        rw [cb] at e1'
        rw [s_pushLP (d + 1) _ _ r0 p1.2 (by omega)]
        simp -implicitDefEqProofs (disch := omega) only [q_X0_run_146, ↓reduceIte, Int.reduceEq, cI_v, cL_v, cV_v, cR_v, wid, wid64, if_pos, if_neg, Nat.add_zero, if_true, if_false, and_self, and_true, true_and, and_false, false_and, or_true, true_or, or_false, false_or]
        exact e1'
      · have cb' : B b = false := by simpa using cb
        refine ⟨A', ?_, e2⟩
        rw [q_X0_run_7 _ _ _ _ _ _ _ _ _ _ hp]
        simp -implicitDefEqProofs (disch := omega) only [ec, q_X0_run_68, ↓reduceIte, Int.reduceEq, cI_v, cL_v, cV_v, cR_v, wid, wid64, if_pos, if_neg, Nat.add_zero, if_true, if_false, and_self, and_true, true_and, and_false, false_and, or_true, true_or, or_false, false_or]
        rw [s_popL (d + 1) A b r0 hl (by simp only [List.length_cons]; omega) hpl]
        simp -implicitDefEqProofs (disch := omega) only [hB _ b f1, bI_0, ite_f, cb', Bool.false_eq_true, q_X0_run_112, ↓reduceIte, Int.reduceEq, cI_v, cL_v, cV_v, cR_v, wid, wid64, if_pos, if_neg, Nat.add_zero, if_true, if_false, and_self, and_true, true_and, and_false, false_and, or_true, true_or, or_false, false_or]
        rw [cb'] at e1
        rw [s_pushLP (d + 1) _ _ r0 p1.2 (by omega)]
        simp -implicitDefEqProofs (disch := omega) only [q_X0_run_146, ↓reduceIte, Int.reduceEq, cI_v, cL_v, cV_v, cR_v, wid, wid64, if_pos, if_neg, Nat.add_zero, if_true, if_false, and_self, and_true, true_and, and_false, false_and, or_true, true_or, or_false, false_or]
        exact e1
/-- the class's steps of a hall's sum, and the reference's codes of it, come to the same -/
theorem ev_tr {F : Int → Int} {B : Int → Bool} {c : Int → Int} (o : Int) : ∀ (m : Nat) (k : Int) (st : List Int), bd6 st → (∀ i, 0 ≤ i → i < 8 → -1000000 ≤ F i ∧ F i ≤ 1000000) → wfc c m (o + k) st.length → evC F B (fun k => trC (c (o + k))) m k st = evF F c m (o + k) st
  | 0, _, _, _, _, _ => rfl
  | m + 1, k, st, hb, hF, hw => by
    unfold evC evF
    have e : stepC F B (trC (c (o + k))) st = stepF F (c (o + k)) st ∧ bd6 (stepF F (c (o + k)) st) ∧ wfc c m (o + k + 1) (stepF F (c (o + k)) st).length := by
      unfold wfc at hw
      unfold stepC stepF trC
      rcases hw with ⟨hv1, hv2, hv3⟩ | ⟨hv1, hv2, hv3⟩
      · rcases hv1 with hv1 | hv1
        · simp -implicitDefEqProofs (disch := omega) only [↓reduceIte, Int.reduceEq, cI_v, cL_v, cV_v, cR_v, wid, wid64, if_pos, if_neg, Nat.add_zero, if_true, if_false, and_self, and_true, true_and, and_false, false_and, or_true, true_or, or_false, false_or]
          refine ⟨by congr 1; omega, ⟨by omega, hb⟩, ?_⟩
          simpa using hv3
        · simp -implicitDefEqProofs (disch := omega) only [↓reduceIte, Int.reduceEq, cI_v, cL_v, cV_v, cR_v, wid, wid64, if_pos, if_neg, Nat.add_zero, if_true, if_false, and_self, and_true, true_and, and_false, false_and, or_true, true_or, or_false, false_or]
          exact ⟨⟨hF _ (by omega) (by omega), hb⟩, by simpa using hv3⟩
      · obtain ⟨b, a, r, rfl⟩ : ∃ b a r, st = b :: a :: r := by
          match st, hv2 with
          | b :: a :: r, _ => exact ⟨b, a, r, rfl⟩
        simp -implicitDefEqProofs (disch := omega) only [↓reduceIte, Int.reduceEq, cI_v, cL_v, cV_v, cR_v, wid, wid64, if_pos, if_neg, Nat.add_zero, if_true, if_false, and_self, and_true, true_and, and_false, false_and, or_true, true_or, or_false, false_or]
        refine ⟨?_, ⟨join_bd hb.2.1 hb.1, hb.2.2⟩, by simpa using hv3⟩
        congr 1
        have fd := fdiv_bd (b := b) hb.2.1.1 hb.2.1.2
        have h1 := hb.1
        have h2 := hb.2.1
        have cl : ∀ z : Int, -1000000 ≤ z → z ≤ 1000000 → clipF z = z := by
          intro z z1 z2; unfold clipF; simp -implicitDefEqProofs (disch := omega) only [↓reduceIte, Int.reduceEq, cI_v, cL_v, cV_v, cR_v, wid, wid64, if_pos, if_neg, Nat.add_zero, if_true, if_false, and_self, and_true, true_and, and_false, false_and, or_true, true_or, or_false, false_or]
        unfold rkF joinF
        have : c (o + k) = 1 ∨ c (o + k) = 2 ∨ c (o + k) = 3 ∨ c (o + k) = 4 ∨ c (o + k) = 5 ∨ c (o + k) = 6 := by omega
        rcases this with e | e | e | e | e | e <;> simp only [e] <;> simp only [reduceIte, Int.reduceEq, Int.reduceAdd]
        · exact cl _ (by omega) (by omega)
        · exact cl _ (by omega) (by omega)
        · exact cl _ (by omega) (by omega)
    show evC F B (fun k => trC (c (o + k))) m (k + 1) (stepC F B (trC (c (o + k))) st) = _
    have e3 := e.2.2
    rw [Int.add_assoc] at e3
    rw [e.1, Int.add_assoc]
    exact ev_tr o m (k + 1) _ e.2.1 hF e3
theorem wfs_tr {c : Int → Int} (o : Int) : ∀ (m : Nat) (k : Int) (ts : List Bool), (∀ t ∈ ts, t = false) → wfc c m (o + k) ts.length → wfs (fun k => trC (c (o + k))) m k ts
  | 0, _, ts, ht, hw => by
    unfold wfc at hw
    match ts, hw with
    | [t], _ => exact ⟨t, rfl⟩
  | m + 1, k, ts, ht, hw => by
    unfold wfc at hw
    unfold wfs
    rcases hw with ⟨hv1, hv2, hv3⟩ | ⟨hv1, hv2, hv3⟩
    · refine Or.inl ⟨?_, hv2, wfs_tr o m (k + 1) (false :: ts) ?_ (by rw [← Int.add_assoc]; simpa using hv3)⟩
      · unfold trC
        rcases hv1 with hv1 | hv1
        · simp -implicitDefEqProofs (disch := omega) only [↓reduceIte, Int.reduceEq, cI_v, cL_v, cV_v, cR_v, wid, wid64, if_pos, if_neg, Nat.add_zero, if_true, if_false, and_self, and_true, true_and, and_false, false_and, or_true, true_or, or_false, false_or]; omega
        · simp -implicitDefEqProofs (disch := omega) only [↓reduceIte, Int.reduceEq, cI_v, cL_v, cV_v, cR_v, wid, wid64, if_pos, if_neg, Nat.add_zero, if_true, if_false, and_self, and_true, true_and, and_false, false_and, or_true, true_or, or_false, false_or]; omega
      · intro t h
        simp only [List.mem_cons] at h
        rcases h with h | h
        · exact h
        · exact ht t h
    · obtain ⟨b, a, r, rfl⟩ : ∃ b a r, ts = b :: a :: r := by
        match ts, hv2 with
        | b :: a :: r, _ => exact ⟨b, a, r, rfl⟩
      have e1 := ht b (by simp)
      have e2 := ht a (by simp)
      refine Or.inr (Or.inr (Or.inl ⟨r, by rw [e1, e2], ?_, wfs_tr o m (k + 1) (false :: r) ?_ (by rw [← Int.add_assoc]; simpa using hv3)⟩))
      · unfold trC; simp -implicitDefEqProofs (disch := omega) only [↓reduceIte, Int.reduceEq, cI_v, cL_v, cV_v, cR_v, wid, wid64, if_pos, if_neg, Nat.add_zero, if_true, if_false, and_self, and_true, true_and, and_false, false_and, or_true, true_or, or_false, false_or]; omega
      · intro t h
        simp only [List.mem_cons] at h
        rcases h with h | h
        · exact h
        · exact ht t (by simp [h])
theorem isBeside_C (d : Nat) (y : Int) (A : AH) {h s : Nat} {H : Nat → Nat → Int} {row : Nat → Int} {m a q : Int} (b : BS A h s H row m a q) (g : gok H row) {x : Int} (hx : sit H row x = true) (hf : gi A 181 6 = seatR row x) : runF (d + 2) 14 [vR 10 180 0, vI y] A = some (some (vI (bI (sit H row y && besideF row x y))), A) := by
  obtain ⟨hc, hh, hs, hr, hd⟩ := g
  have hs0 : s ≠ 0 := b.2.2.2.1.1
  have b6 := hd.1 x hx
  unfold cok at hc
  rw [r_X0_isBeside, q_X0_isBeside_0, b.1.2]
  simp -implicitDefEqProofs (disch := omega) only [↓reduceIte, Int.reduceEq, cI_v, cL_v, cV_v, cR_v, wid, wid64, if_pos, if_neg, Nat.add_zero, if_true, if_false, and_self, and_true, true_and, and_false, false_and, or_true, true_or, or_false, false_or]
  rw [s_isThere d s y A H row hc hd b.2.2.2.1]
  simp -implicitDefEqProofs (disch := omega) only [bI_0, ite_f, q_X0_isBeside_39, b.1.2, hf, ↓reduceIte, Int.reduceEq, cI_v, cL_v, cV_v, cR_v, wid, wid64, if_pos, if_neg, Nat.add_zero, if_true, if_false, and_self, and_true, true_and, and_false, false_and, or_true, true_or, or_false, false_or]
  by_cases c : sit H row y = true
  · have hn := sit_num hc c
    unfold num at hn
    have e := b.2.2.2.1.2.2.1 y (by omega) (by omega)
    rw [if_pos c] at e
    have b7 := hd.1 y c
    simp -implicitDefEqProofs (disch := omega) only [c, e, Bool.true_and, s_abs, ↓reduceIte, Int.reduceEq, cI_v, cL_v, cV_v, cR_v, wid, wid64, if_pos, if_neg, Nat.add_zero, if_true, if_false, and_self, and_true, true_and, and_false, false_and, or_true, true_or, or_false, false_or]
    unfold besideF
    by_cases c1 : seatR row y - seatR row x < 0
    · by_cases c2 : seatR row x - seatR row y = 1
      · simp -implicitDefEqProofs (disch := omega) only [↓reduceIte, Int.reduceEq, cI_v, cL_v, cV_v, cR_v, wid, wid64, if_pos, if_neg, Nat.add_zero, if_true, if_false, and_self, and_true, true_and, and_false, false_and, or_true, true_or, or_false, false_or]; simp [c2, bI]
      · have c3 : ¬ seatR row y - seatR row x = 1 := by omega
        simp -implicitDefEqProofs (disch := omega) only [↓reduceIte, Int.reduceEq, cI_v, cL_v, cV_v, cR_v, wid, wid64, if_pos, if_neg, Nat.add_zero, if_true, if_false, and_self, and_true, true_and, and_false, false_and, or_true, true_or, or_false, false_or]; simp [c2, c3, bI]
    · by_cases c2 : seatR row y - seatR row x = 1
      · simp -implicitDefEqProofs (disch := omega) only [↓reduceIte, Int.reduceEq, cI_v, cL_v, cV_v, cR_v, wid, wid64, if_pos, if_neg, Nat.add_zero, if_true, if_false, and_self, and_true, true_and, and_false, false_and, or_true, true_or, or_false, false_or]; simp [c2, bI]
      · have c3 : ¬ seatR row x - seatR row y = 1 := by omega
        simp -implicitDefEqProofs (disch := omega) only [↓reduceIte, Int.reduceEq, cI_v, cL_v, cV_v, cR_v, wid, wid64, if_pos, if_neg, Nat.add_zero, if_true, if_false, and_self, and_true, true_and, and_false, false_and, or_true, true_or, or_false, false_or]; simp [c2, c3, bI]
  · have c' : sit H row y = false := by simpa using c
    simp -implicitDefEqProofs (disch := omega) only [c', Bool.false_eq_true, Bool.false_and, bI_f, ↓reduceIte, Int.reduceEq, cI_v, cL_v, cV_v, cR_v, wid, wid64, if_pos, if_neg, Nat.add_zero, if_true, if_false, and_self, and_true, true_and, and_false, false_and, or_true, true_or, or_false, false_or]
set_option maxRecDepth 100000 in
theorem s_runW (d : Nat) (w x : Int) (p : Nat) (A : AH) {h s : Nat} {H : Nat → Nat → Int} {row : Nat → Int} {m a q : Int} (b : BS A h s H row m a q) (g : gok H row) (hx : sit H row x = true) (ha1 : -1 ≤ a) (ha2 : a < nPo H) (hm1 : 0 ≤ m) (hm2 : m ≤ 2000) (hf : ∀ i : Int, 0 ≤ i → i < 10 → gi A 181 i.toNat = fctF H row m a q x i) (w2 : 271 ≤ p) (w3 : (ln A p : Int) = H 232 (2 + w).toNat - H 231 (2 + w).toNat) (w4 : ∀ k : Int, 0 ≤ k → k < (ln A p : Int) → gi A p k.toNat = trC (codF H (H 231 (2 + w).toNat + k))) (hk : sok1 H w) : ∃ A' v, runF (d + 4) 11 [vR 10 180 0, vR 30 p (ln A p), vI (ln A p : Int)] A = some (some (vI v), A') ∧ wcut v = toldF H row m a q w x ∧ frC A A' := by
  have g' := g
  obtain ⟨hc, hh, hs, hr, hd⟩ := g'
  have hn := sit_num hc hx
  obtain ⟨q1, q2, q3, q4⟩ := hk
  have fb : ∀ i, 0 ≤ i → i < 10 → -1000000 ≤ fctF H row m a q x i ∧ fctF H row m a q x i ≤ 1000000 := fun i _ _ => fct_bd hc hh hr hm1 hm2 ha1 ha2 hn i
  have el : ln A p = (H 232 (2 + w).toNat - H 231 (2 + w).toNat).toNat := by omega
  obtain ⟨A', e1, e2⟩ := l_run (d + 1) p (ln A p) (Or.inl w2) (fctF H row m a q x) (fun y => sit H row y && besideF row x y) fb (fun k => trC (codF H (H 231 (2 + w).toNat + k))) (ln A p) (wi A 180 11 0) (by omega) (by omega) (fun k k1 k2 => by simp -implicitDefEqProofs (disch := omega) only [gi_wi, ↓reduceIte, Int.reduceEq, cI_v, cL_v, cV_v, cR_v, wid, wid64, if_pos, if_neg, Nat.add_zero, if_true, if_false, and_self, and_true, true_and, and_false, false_and, or_true, true_or, or_false, false_or]; exact w4 k k1 k2) (fun i i1 i2 => by simp -implicitDefEqProofs (disch := omega) only [gi_wi, ↓reduceIte, Int.reduceEq, cI_v, cL_v, cV_v, cR_v, wid, wid64, if_pos, if_neg, Nat.add_zero, if_true, if_false, and_self, and_true, true_and, and_false, false_and, or_true, true_or, or_false, false_or]; exact hf i i1 i2) (fun C y f => isBeside_C (d + 1) y C (BS_fr (frC_frB (frC_trans (frC_wi (a := 180) (k := 11) 0 (by omega) (frC_refl A)) f)) b) g hx (by rw [f.1 181 6 (by omega) (by omega)]; simp -implicitDefEqProofs (disch := omega) only [gi_wi, ↓reduceIte, Int.reduceEq, cI_v, cL_v, cV_v, cR_v, wid, wid64, if_pos, if_neg, Nat.add_zero, if_true, if_false, and_self, and_true, true_and, and_false, false_and, or_true, true_or, or_false, false_or]; exact hf 6 (by omega) (by omega))) (ln A p) (fu + 199) 0 [] [] (wi A 180 11 0) vU vU (by omega) (by omega) (wfs_tr (c := codF H) (H 231 (2 + w).toNat) _ 0 [] (by simp) (by rw [Int.add_zero, el]; exact q4)) trivial trivial (by simp -implicitDefEqProofs (disch := omega) only [gi_wi, ↓reduceIte, Int.reduceEq, cI_v, cL_v, cV_v, cR_v, wid, wid64, if_pos, if_neg, Nat.add_zero, if_true, if_false, and_self, and_true, true_and, and_false, false_and, or_true, true_or, or_false, false_or]; rfl) (by simp) (frC_refl _) (by have := fu_ge; omega)
  refine ⟨A', headF (evC (fctF H row m a q x) (fun y => sit H row y && besideF row x y) (fun k => trC (codF H (H 231 (2 + w).toNat + k))) (ln A p) 0 []), ?_, ?_, frC_trans (frC_wi (a := 180) (k := 11) 0 (by omega) (frC_refl A)) e2⟩
  · rw [r_X0_run, q_X0_run_0 _ _ _ _ _ _ _ (by omega)]
    exact e1
  · have := ev_tr (F := fctF H row m a q x) (B := fun y => sit H row y && besideF row x y) (c := codF H) (H 231 (2 + w).toNat) (ln A p) 0 [] trivial (fun i i1 i2 => fb i i1 (by omega)) (by rw [Int.add_zero, el]; exact q4)
    rw [this, Int.add_zero, el]; rfl
theorem cut_w (x : Int) : cutF x 0 999 = wcut x := rfl
set_option maxRecDepth 100000 in
theorem s_weightNow (d : Nat) (x : Int) (A : AH) {h s : Nat} {H : Nat → Nat → Int} {row : Nat → Int} {m a q : Int} (b : BS A h s H row m a q) (g : gok H row) (hx : sit H row x = true) (ha1 : -1 ≤ a) (ha2 : a < nPo H) (hm1 : 0 ≤ m) (hm2 : m ≤ 2000) (hf : ∀ i : Int, 0 ≤ i → i < 10 → gi A 181 i.toNat = fctF H row m a q x i) : ∃ A', runF (d + 5) 5 [vR 10 180 0] A = some (some (vI (weightF H row m a q x)), A') ∧ frC A A' := by
  have hh0 : h ≠ 0 := by have := b.2.2.1.1; omega
  have hw := b.2.2.1.2.2.2.2.2.2.2.2.2.2.2.2.1
  unfold weightF
  rcases hw with ⟨w1, w2⟩ | ⟨w1, w2, w3, w4⟩
  · refine ⟨A, ?_, frC_refl A⟩
    have w1' : H 231 2 = -1 := w1
    rw [r_X0_weightNow, q_X0_weightNow_0, b.1.1, w2, if_pos w1']
    have e := hf 0 (by omega) (by omega)
    simp -implicitDefEqProofs (disch := omega) only [↓reduceIte, Int.reduceEq, cI_v, cL_v, cV_v, cR_v, wid, wid64, if_pos, if_neg, Nat.add_zero, if_true, if_false, and_self, and_true, true_and, and_false, false_and, or_true, true_or, or_false, false_or]
    rw [show gi A 181 0 = gi A 181 (0 : Int).toNat from rfl, e]; rfl
  · have w1' : H 231 2 ≠ -1 := w1
    rw [if_neg w1']
    obtain ⟨A', v, e1, e2, e3⟩ := s_runW d 0 x (gr A h 16) A b g hx ha1 ha2 hm1 hm2 hf w2 w3 w4 (g.2.2.1.1.resolve_left w1')
    refine ⟨A', ?_, e3⟩
    rw [r_X0_weightNow, q_X0_weightNow_0, b.1.1]
    simp -implicitDefEqProofs (disch := omega) only [e1, s_cut, cut_w, e2, ↓reduceIte, Int.reduceEq, cI_v, cL_v, cV_v, cR_v, wid, wid64, if_pos, if_neg, Nat.add_zero, if_true, if_false, and_self, and_true, true_and, and_false, false_and, or_true, true_or, or_false, false_or]
set_option maxRecDepth 100000 in
theorem s_coughNow (d : Nat) (x : Int) (A : AH) {h s : Nat} {H : Nat → Nat → Int} {row : Nat → Int} {m a q : Int} (b : BS A h s H row m a q) (g : gok H row) (hx : sit H row x = true) (ha1 : -1 ≤ a) (ha2 : a < nPo H) (hm1 : 0 ≤ m) (hm2 : m ≤ 2000) (hf : ∀ i : Int, 0 ≤ i → i < 10 → gi A 181 i.toNat = fctF H row m a q x i) : ∃ A', runF (d + 5) 6 [vR 10 180 0] A = some (some (vI (coughF H row m a q x)), A') ∧ frC A A' := by
  have hh0 : h ≠ 0 := by have := b.2.2.1.1; omega
  have hw := b.2.2.1.2.2.2.2.2.2.2.2.2.2.2.2.2.1
  unfold coughF
  rcases hw with ⟨w1, w2⟩ | ⟨w1, w2, w3, w4⟩
  · refine ⟨A, ?_, frC_refl A⟩
    have w1' : H 231 3 = -1 := w1
    rw [r_X0_coughNow, q_X0_coughNow_0, b.1.1, w2, if_pos w1']
    simp -implicitDefEqProofs (disch := omega) only [↓reduceIte, Int.reduceEq, cI_v, cL_v, cV_v, cR_v, wid, wid64, if_pos, if_neg, Nat.add_zero, if_true, if_false, and_self, and_true, true_and, and_false, false_and, or_true, true_or, or_false, false_or]
  · have w1' : H 231 3 ≠ -1 := w1
    rw [if_neg w1']
    obtain ⟨A', v, e1, e2, e3⟩ := s_runW d 1 x (gr A h 17) A b g hx ha1 ha2 hm1 hm2 hf w2 w3 w4 (g.2.2.1.2.resolve_left w1')
    refine ⟨A', ?_, e3⟩
    rw [r_X0_coughNow, q_X0_coughNow_0, b.1.1]
    simp -implicitDefEqProofs (disch := omega) only [e1, s_cut, cut_w, e2, ↓reduceIte, Int.reduceEq, cI_v, cL_v, cV_v, cR_v, wid, wid64, if_pos, if_neg, Nat.add_zero, if_true, if_false, and_self, and_true, true_and, and_false, false_and, or_true, true_or, or_false, false_or]
