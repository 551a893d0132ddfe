/-! the reference's reading of tests: its pieces -/
set_option maxRecDepth 100000 in
theorem s_isOn0 (d : Nat) {c0 : Nat} (x : Int) (A : AH) (W C : List Int) (o : Nat) (s : STQ 0 c0 A W C o) (hx : x ≠ 0) (hW : W.length < 1600) : runF (d + 1) 264 [vR 21 190 0, vI x] A = some (some (vI (bI (decide (hdI W = x)))), A) := by
  obtain ⟨⟨s1, s2⟩, ⟨s3, s4⟩, s5, s6, s7⟩ := s
  rw [r_X12_qIsOn, q_X12_qIsOn_0, s3]
  cases W with
  | nil =>
    have e : decide (hdI [] = x) = false := decide_eq_false (by show (0 : Int) ≠ x; omega)
    rw [e, bI_f, if_neg (by simp), q_X12_qIsOn_26]
  | cons y r =>
    simp only [List.length_cons] at s3 hW ⊢
    have ew : w32 (((0 + (r.length + 1) : Nat) : Int) - 1) = ((0 + (r.length + 1) : Nat) : Int) - 1 := wid (by omega) (by omega)
    simp only [ew]
    rw [if_pos (by omega), if_pos (by omega), show (((0 + (r.length + 1) : Nat) : Int) - 1).toNat = 0 + r.length by omega, s4.1]
    show _ = some (some (vI (bI (decide (y = x)))), A)
    by_cases z : y = x
    · rw [if_pos z, decide_eq_true z]; rfl
    · rw [if_neg z, decide_eq_false z, q_X12_qIsOn_26]; rfl
theorem stk_in {A : AH} {x : Int} : ∀ {W : List Int}, stkR A 268 0 W → ((∃ j, j < W.length ∧ gi A 268 j = x) ↔ x ∈ W)
  | [], _ => by simp
  | y :: r, h => by
    obtain ⟨h1, h2⟩ := h
    have ih := stk_in (x := x) h2
    rw [Nat.zero_add] at h1
    constructor
    · rintro ⟨j, j1, j2⟩
      by_cases z : j = r.length
      · rw [z, h1] at j2; rw [j2]; exact List.mem_cons_self
      · exact List.mem_cons_of_mem _ (ih.mp ⟨j, by simp only [List.length_cons] at j1; omega, j2⟩)
    · intro hx
      rcases List.mem_cons.mp hx with z | z
      · exact ⟨r.length, by simp, by rw [h1, z]⟩
      · obtain ⟨j, j1, j2⟩ := ih.mpr z
        exact ⟨j, by simp only [List.length_cons]; omega, j2⟩
set_option maxRecDepth 100000 in
theorem l_hasSq (d : Nat) {c0 : Nat} (A : AH) (W C : List Int) (o : Nat) (s : STQ 0 c0 A W C o) (hW : W.length < 1600) : ∀ (m n k : Nat), k + m = W.length → (∀ j, j < k → gi A 268 j ≠ 25) → 3 * m + 10 ≤ n → go true 2 (runF d) (runN d) pb_X12_qHasSquare n 2 [vR 21 190 0, vI (k : Int)] [] A = some (some (vI (bI (decide ((25 : Int) ∈ W)))), A) := by
  intro m
  have s3 := s.2.1.1
  have s4 := stk_in (x := 25) s.2.1.2
  rw [Nat.zero_add] at s3
  induction m with
  | zero =>
    intro n k h1 h2 hn
    obtain ⟨n, rfl⟩ : ∃ e, n = e + 10 := ⟨n - 10, by omega⟩
    have e : decide ((25 : Int) ∈ W) = false := decide_eq_false (fun y => by
      obtain ⟨j, j1, j2⟩ := s4.mpr y
      exact h2 j (by omega) j2)
    rw [q_X12_qHasSquare_2, s3, if_neg (by omega), e, bI_f]
  | succ m ih =>
    intro n k h1 h2 hn
    obtain ⟨n, rfl⟩ : ∃ e, n = e + 10 := ⟨n - 10, by omega⟩
    rw [q_X12_qHasSquare_2, s3, if_pos (by omega), if_pos (by omega), Int.toNat_natCast]
    by_cases z : gi A 268 k = 25
    · rw [if_pos z, decide_eq_true (s4.mp ⟨k, by omega, z⟩), bI_t]
    · rw [if_neg z, wid (by omega) (by omega), show (k : Int) + 1 = ((k + 1 : Nat) : Int) by omega]
      exact ih (n + 8) (k + 1) (by omega) (fun j hj => by
        by_cases y : j = k
        · rw [y]; exact z
        · exact h2 j (by omega)) (by omega)
set_option maxRecDepth 100000 in
theorem s_hasSq (d : Nat) {c0 : Nat} (A : AH) (W C : List Int) (o : Nat) (s : STQ 0 c0 A W C o) (hW : W.length < 1600) : runF (d + 1) 277 [vR 21 190 0] A = some (some (vI (bI (decide ((25 : Int) ∈ W)))), A) := by
  rw [r_X12_qHasSquare, q_X12_qHasSquare_0]
  exact l_hasSq d A W C o s hW W.length _ 0 (by omega) (fun j hj => by omega) (by have := fu_ge; omega)
noncomputable def kT (d n : Nat) (x2 r4 : Int) (A : AH) : RS := if r4 = 0 then go true 3 (runF (d + 8)) (runN (d + 8)) pb_X12_qTest n 105 [vR 21 190 0, vI 1, vI x2] [] A else go true 3 (runF (d + 8)) (runN (d + 8)) pb_X12_qTest n 106 [vR 21 190 0, vI 1, vI x2] [vI 1] A
def NpT (d : Nat) (T : Nat → Int) (L : Nat) (Ast : AH) (Φ : RS → Prop) (W C : List Int) (o p : Nat) (t : Bool) : Prop := ∀ (A : AH) (n : Nat) (u2 : AV), RpQ T L 0 0 Ast A W C o p t → 10 * (L - p) + 6000 ≤ n → Φ (go true 3 (runF (d + 8)) (runN (d + 8)) pb_X12_qTest n 2 [vR 21 190 0, vI 1, u2] [] A)
def ApT (d : Nat) (T : Nat → Int) (L : Nat) (Ast : AH) (Φ : RS → Prop) (W C : List Int) (o p : Nat) (t : Bool) : Prop := ∀ (A : AH) (n1 n : Nat) (x2 : Int), RpQ T L 0 0 Ast A W C o p t → 20 * o + 3 * W.length + 6000 ≤ n1 → 10 * (L - p) + 6000 ≤ n → Φ (cI (go true 2 (runF (d + 7)) (runN (d + 7)) pb_X12_qGoesOnTest n1 0 [vR 21 190 0] [] A) (kT d n x2))
def frJq (A B : AH) : Prop := (∀ a j, ¬ (a = 190 ∧ (j = 2 ∨ j = 4 ∨ j = 5 ∨ j = 6 ∨ j = 10 ∨ j = 42 ∨ j = 100 ∨ j = 102 ∨ j = 103)) → a ≠ 267 → a ≠ 268 → gi B a j = gi A a j) ∧ (∀ a j, gr B a j = gr A a j) ∧ B.2.2 = A.2.2
theorem frV_Jq {b c0 : Nat} {A B : AH} (f : fVQ b c0 A B) : frJq A B := ⟨fun a j h1 h2 h3 => f.1 a j h1 (fun y => h2 y.1) (fun y => h3 y.1), f.2.1, f.2.2⟩
theorem frJq_trans {A B C : AH} (f : frJq A B) (g : frJq B C) : frJq A C := ⟨fun a j h1 h2 h3 => (g.1 a j h1 h2 h3).trans (f.1 a j h1 h2 h3), fun a j => (g.2.1 a j).trans (f.2.1 a j), g.2.2.trans f.2.2⟩
def BdT (Ast : AH) (Φ : RS → Prop) (k s : Int) : Prop := ∀ B, gi B 190 5 = k → gi B 190 6 = s → k ≠ 0 → frJq Ast B → Φ (some (none, B))
set_option maxRecDepth 100000 in
theorem s_codeR (d : Nat) (v : Int) (A : AH) (h : 0 ≤ gi A 190 100 ∧ gi A 190 100 < 1700) : ∃ B, runF (d + 1) 262 [vR 21 190 0, vI v] A = some (none, B) ∧ frJq A B ∧ gi B 190 5 = gi A 190 5 ∧ gi B 190 6 = gi A 190 6 := by
  refine ⟨wi (wi A 267 (gi A 190 100).toNat v) 190 100 (gi A 190 100 + 1), ?_, ⟨fun a j h1 h2 h3 => by rw [gi_wi, if_neg (by omega), gi_wi, if_neg (by omega)], fun a j => rfl, rfl⟩, by simp -implicitDefEqProofs (disch := omega) only [gi_wi, ↓reduceIte, Int.reduceEq, cI_v, cL_v, cV_v, cR_v, wid, wid64, if_pos, if_neg, Nat.add_zero, if_true, if_false, and_self, and_true, true_and, and_false, false_and, or_true, true_or, or_false, false_or], by simp -implicitDefEqProofs (disch := omega) only [gi_wi, ↓reduceIte, Int.reduceEq, cI_v, cL_v, cV_v, cR_v, wid, wid64, if_pos, if_neg, Nat.add_zero, if_true, if_false, and_self, and_true, true_and, and_false, false_and, or_true, true_or, or_false, false_or]⟩
  rw [r_X12_qCode, q_X12_qCode_0, if_pos (by omega), q_X12_qCode_10, gi_wi, if_neg (by omega), wid (by omega) (by omega), q_X12_qCode_20]
def EpT (d : Nat) (T : Nat → Int) (L : Nat) (Ast : AH) (Φ : RS → Prop) (W C : List Int) (o p : Nat) (t : Bool) : Prop := ∀ (A : AH) (e : Nat), RpQ T L 0 0 Ast A W C o p t → ∃ B, (∀ n, 3 * o + 10 ≤ n → go true 3 (runF (e + 4)) (runN (e + 4)) pb_X12_qDropsNots n 0 [vR 21 190 0] [] A = some (none, B)) ∧ gi B 190 5 = 0 ∧ ∀ (n1 n : Nat) (x2 : Int), 20 * o + 3 * W.length + 6000 ≤ n1 → 10 * (L - p) + 6000 ≤ n → Φ (cI (go true 2 (runF (d + 7)) (runN (d + 7)) pb_X12_qGoesOnTest n1 0 [vR 21 190 0] [] B) (kT d n x2))
theorem tst_bad (d : Nat) (A : AH) (hb : gi A 190 5 ≠ 0) (n : Nat) (x1 : Int) (u2 : AV) : go true 3 (runF (d + 8)) (runN (d + 8)) pb_X12_qTest (n + 10) 2 [vR 21 190 0, vI x1, u2] [] A = some (none, A) := by
  have e : go true 3 (runF (d + 8)) (runN (d + 8)) pb_X12_qTest (n + 9) 110 [vR 21 190 0, vI x1, u2] [] A = some (none, A) := by rw [q_X12_qTest_110, if_neg hb]
  rw [q_X12_qTest_2]
  by_cases z : x1 = 0
  · rw [if_pos z]; exact e
  · rw [if_neg z, if_neg hb]; exact e
theorem kT_0 (d n : Nat) (x2 : Int) (A : AH) : kT d (n + 10) x2 0 A = go true 3 (runF (d + 8)) (runN (d + 8)) pb_X12_qTest (n + 7) 110 [vR 21 190 0, vI 0, vI x2] [] A := by
  unfold kT
  rw [if_pos rfl, q_X12_qTest_105, q_X12_qTest_106, q_X12_qTest_2, if_pos rfl]
theorem kT_1 (d n : Nat) (x2 : Int) (A : AH) : kT d (n + 1) x2 1 A = go true 3 (runF (d + 8)) (runN (d + 8)) pb_X12_qTest n 2 [vR 21 190 0, vI 1, vI x2] [] A := by
  unfold kT
  rw [if_neg (by omega), q_X12_qTest_106]
  all_goals rfl
theorem kT_bad (d n : Nat) (x2 : Int) (A : AH) (hb : gi A 190 5 ≠ 0) : kT d (n + 10) x2 0 A = some (none, A) := by
  rw [kT_0, q_X12_qTest_110, if_neg hb]
theorem RtE_T (d : Nat) {T : Nat → Int} {L : Nat} {Ast : AH} {Φ : RS → Prop} (tx : TX T L) : RtE (EpT d T L Ast Φ) (ApT d T L Ast Φ) := by
  have tL := tx.1
  refine ⟨fun W C o p t h A e r => ?_, fun W C o p t hW h A e r => ?_⟩
  · have hp := r.1.2.1
    have hl := r.2.2.2.1
    have ho := r.2.2.2.2
    simp only [List.length_cons] at hl
    have s := r.2.1
    have s5 := s.2.2.1
    have fo : fVQ 0 0 A (wi A 190 103 ((o : Nat) : Int)) := frV_i _ _ (by omega) (frV_refl _ _ _ _ _ _ _ A)
    have mo : MdS (wi A 190 103 ((o : Nat) : Int)) T L p t := MdS_fr (by simp -implicitDefEqProofs (disch := omega) only [gi_wi, ↓reduceIte, Int.reduceEq, cI_v, cL_v, cV_v, cR_v, wid, wid64, if_pos, if_neg, Nat.add_zero, if_true, if_false, and_self, and_true, true_and, and_false, false_and, or_true, true_or, or_false, false_or]) (by simp -implicitDefEqProofs (disch := omega) only [gi_wi, ↓reduceIte, Int.reduceEq, cI_v, cL_v, cV_v, cR_v, wid, wid64, if_pos, if_neg, Nat.add_zero, if_true, if_false, and_self, and_true, true_and, and_false, false_and, or_true, true_or, or_false, false_or]) (by simp -implicitDefEqProofs (disch := omega) only [gi_wi, ↓reduceIte, Int.reduceEq, cI_v, cL_v, cV_v, cR_v, wid, wid64, if_pos, if_neg, Nat.add_zero, if_true, if_false, and_self, and_true, true_and, and_false, false_and, or_true, true_or, or_false, false_or]) (by simp -implicitDefEqProofs (disch := omega) only [gi_wi, ↓reduceIte, Int.reduceEq, cI_v, cL_v, cV_v, cR_v, wid, wid64, if_pos, if_neg, Nat.add_zero, if_true, if_false, and_self, and_true, true_and, and_false, false_and, or_true, true_or, or_false, false_or]) (by simp -implicitDefEqProofs (disch := omega) only [gi_wi, ↓reduceIte, Int.reduceEq, cI_v, cL_v, cV_v, cR_v, wid, wid64, if_pos, if_neg, Nat.add_zero, if_true, if_false, and_self, and_true, true_and, and_false, false_and, or_true, true_or, or_false, false_or]) (fun a j q1 q2 => by simp -implicitDefEqProofs (disch := omega) only [gi_wi, ↓reduceIte, Int.reduceEq, cI_v, cL_v, cV_v, cR_v, wid, wid64, if_pos, if_neg, Nat.add_zero, if_true, if_false, and_self, and_true, true_and, and_false, false_and, or_true, true_or, or_false, false_or]) r.1
    obtain ⟨D, d1, d2, d3, d4, d5⟩ := s_dropsQ (e + 2) 12 (wi A 190 103 ((o : Nat) : Int)) W C o (ST_oQ o s) mo (by omega) (by omega)
    obtain ⟨B, b1, b2, b3⟩ := h D e (Rp_oQ r (frV_trans fo d4) d3 d2 (by simp; omega) (by omega))
    refine ⟨B, fun n hn => ?_, b2, fun n1 n x2 q1 q2 => b3 n1 n x2 (by simp only [List.length_cons] at q1; omega) q2⟩
    obtain ⟨n, rfl⟩ : ∃ e, n = e + 10 := ⟨n - 10, by omega⟩
    have eo : w32 (gi A 190 103 - 1) = ((o : Nat) : Int) := by rw [s5, wid (by omega) (by omega)]; omega
    have i1 := s_isOn0 (e + 3) 12 A (12 :: W) C (o + 1) s (by omega) (by simp only [List.length_cons]; omega)
    rw [show decide (hdI ((12 : Int) :: W) = 12) = true from decide_eq_true rfl, bI_t] at i1
    rw [q_X12_qDropsNots_0, if_pos r.1.2.2.1, i1, cI_v, if_neg (by omega)]
    simp only [eo]
    rw [q_X12_qDropsNots_26, d1, cV_v]
    exact b1 (n + 8) (by omega)
  · have hp := r.1.2.1
    have hl := r.2.2.2.1
    refine ⟨A, fun n hn => ?_, r.1.2.2.1, fun n1 n x2 q1 q2 => h A n1 n x2 r q1 q2⟩
    obtain ⟨n, rfl⟩ : ∃ e, n = e + 10 := ⟨n - 10, by omega⟩
    have i1 := s_isOn0 (e + 3) 12 A W C o r.2.1 (by omega) (by omega)
    rw [decide_eq_false hW, bI_f] at i1
    rw [q_X12_qDropsNots_0, if_pos r.1.2.2.1, i1, cI_v, if_pos rfl]
/-- where the reference falls, within a test -/
theorem T_bad {d : Nat} {Ast : AH} {Φ : RS → Prop} {k s : Int} (hB : BdT Ast Φ k s) (B : AH) (f : frJq Ast B) (h5 : gi B 190 5 = k) (h6 : gi B 190 6 = s) (hk : k ≠ 0) (n : Nat) (hn : 100 ≤ n) : (∀ x1 u2, Φ (go true 3 (runF (d + 8)) (runN (d + 8)) pb_X12_qTest n 2 [vR 21 190 0, vI x1, u2] [] B)) ∧ ∀ x2, Φ (kT d n x2 0 B) := by
  obtain ⟨n, rfl⟩ : ∃ e, n = e + 10 := ⟨n - 10, by omega⟩
  have hb : gi B 190 5 ≠ 0 := by rw [h5]; exact hk
  refine ⟨fun x1 u2 => ?_, fun x2 => ?_⟩
  · rw [tst_bad d B hb]; exact hB B h5 h6 hk f
  · rw [kT_bad d n x2 B hb]; exact hB B h5 h6 hk f
/-- two sums, then a sign -/
theorem frV_m {kc kw ko rc rw b c0 : Nat} {A B : AH} (f : frV kc kw ko rc rw b c0 A B) : frV kc kw ko rc rw 0 0 A B := ⟨fun a j h1 h2 h3 => f.1 a j h1 (by omega) (by omega), f.2.1, f.2.2⟩
theorem getD_l {a b : List Int} {i : Nat} (h : i < a.length) : (a ++ b).getD i 0 = a.getD i 0 := by
  rw [List.getD_eq_getElem?_getD, List.getD_eq_getElem?_getD, List.getElem?_append_left h]
theorem getD_r {a b : List Int} {i : Nat} (h : a.length ≤ i) : (a ++ b).getD i 0 = b.getD (i - a.length) 0 := by
  rw [List.getD_eq_getElem?_getD, List.getD_eq_getElem?_getD, List.getElem?_append_right h]
theorem Rp_sum {T : Nat → Int} {L : Nat} {Ast A B : AH} {W C cs : List Int} {o p p' : Nat} {t t' : Bool} (r : RpQ T L 0 0 Ast A W C o p t) (m : MdS B T L p' t') (h1 : gi B 190 100 = ((C.length + cs.length : Nat) : Int)) (h2 : ∀ i, i < cs.length → gi B 267 (C.length + i) = cs.getD i 0) (h3 : gi B 190 102 = ((W.length : Nat) : Int)) (h4 : gi B 190 103 = o) (f : fVQ W.length C.length A B) (hl : C.length + cs.length + W.length < p') : RpQ T L 0 0 Ast B W (C ++ cs) o p' t' := by
  obtain ⟨r1, ⟨⟨s1, s2⟩, ⟨s3, s4⟩, s5, s6, s7⟩, r3, r4, r5⟩ := r
  refine ⟨m, ⟨⟨by rw [h1]; simp, fun i hi => ?_⟩, ⟨by rw [h3]; simp, stkR_fr (A := A) (fun j q1 q2 => f.1 268 j (by omega) (by omega) (by omega)) s4⟩, h4, by rw [f.1 190 104 (by omega) (by omega) (by omega)]; exact s6, fun h => by omega⟩, frV_trans r3 (frV_m f), by simp; omega, r5⟩
  rw [Nat.zero_add]
  by_cases z : i < C.length
  · have e := s2 i z
    rw [Nat.zero_add] at e
    rw [f.1 267 i (by omega) (by omega) (by omega), e, getD_l z]
  · rw [List.length_append] at hi
    have e := h2 (i - C.length) (by omega)
    rw [show C.length + (i - C.length) = i by omega] at e
    rw [e, getD_r (by omega)]
