/-! the reference: sums reckoned; what is scratch -/
def scr (a j : Nat) : Prop := (a = 190 ∧ (j = 61 ∨ j = 69 ∨ j = 70 ∨ j = 106 ∨ j = 107 ∨ j = 108)) ∨ a = 235 ∨ a = 236 ∨ (238 ≤ a ∧ a ≤ 242) ∨ a = 269 ∨ (73 ≤ a ∧ a ≤ 77) ∨ (180 ≤ a ∧ a ≤ 184)
def sc (A A' : AH) : Prop := (∀ a j, ¬ scr a j → gi A' a j = gi A a j) ∧ (∀ a j, a ≠ 180 → gr A' a j = gr A a j) ∧ A'.2.2 = A.2.2
theorem sc_refl (A : AH) : sc A A := ⟨fun _ _ _ => rfl, fun _ _ _ => rfl, rfl⟩
theorem sc_trans {A B C : AH} (h1 : sc A B) (h2 : sc B C) : sc A C := ⟨fun a j h => (h2.1 a j h).trans (h1.1 a j h), fun a j h => (h2.2.1 a j h).trans (h1.2.1 a j h), h2.2.2.trans h1.2.2⟩
theorem sc_wi (A : AH) {a k : Nat} (v : Int) (h : scr a k) : sc A (wi A a k v) := ⟨fun b j hb => by
  rw [gi_wi]
  by_cases e : b = a ∧ j = k
  · rw [e.1, e.2] at hb; exact absurd h hb
  · rw [if_neg e], fun _ _ _ => rfl, rfl⟩
theorem sc_wi' {A B : AH} {a k : Nat} (v : Int) (h : scr a k) (h2 : sc A B) : sc A (wi B a k v) := sc_trans h2 (sc_wi B v h)
theorem sc_hv {A A' : AH} (h : sc A A') : hv A' = hv A := by
  funext a j
  unfold hv
  by_cases e : (a = 224 ∧ 6 ≤ j) ∨ (a = 225 ∧ 24 ≤ j) ∨ (a = 226 ∧ 32 ≤ j) ∨ (a = 227 ∧ 12 ≤ j) ∨ (a = 228 ∧ 8 ≤ j) ∨ (a = 229 ∧ 18 ≤ j) ∨ (a = 230 ∧ 16 ≤ j) ∨ (a = 231 ∧ 2 ≤ j) ∨ (a = 232 ∧ 2 ≤ j) ∨ (a = 233 ∧ 1600 ≤ j)
  · rw [if_pos e, if_pos e]; exact h.1 a j (by unfold scr; omega)
  · rw [if_neg e, if_neg e]
theorem sc_nv {A A' : AH} (h : sc A A') : nv A' = nv A := by
  funext j
  exact h.1 237 j (by unfold scr; omega)
theorem sc_q {A A' : AH} (h : sc A A') : gi A' 190 65 = gi A 190 65 := h.1 190 65 (by unfold scr; omega)
/-- what the sums' reckoning alone uses -/
def scrM (a j : Nat) : Prop := (a = 190 ∧ j = 61) ∨ a = 235 ∨ a = 236
def scm (A A' : AH) : Prop := (∀ a j, ¬ scrM a j → gi A' a j = gi A a j) ∧ (∀ a j, a ≠ 180 → gr A' a j = gr A a j) ∧ A'.2.2 = A.2.2
theorem scm_sc {A B : AH} (h : scm A B) : sc A B := ⟨fun a j q => h.1 a j (by unfold scr at q; unfold scrM; omega), h.2.1, h.2.2⟩
theorem scm_refl (A : AH) : scm A A := ⟨fun _ _ _ => rfl, fun _ _ _ => rfl, rfl⟩
theorem scm_trans {A B C : AH} (h1 : scm A B) (h2 : scm B C) : scm A C := ⟨fun a j h => (h2.1 a j h).trans (h1.1 a j h), fun a j h => (h2.2.1 a j h).trans (h1.2.1 a j h), h2.2.2.trans h1.2.2⟩
theorem scm_wi (A : AH) {a k : Nat} (v : Int) (h : scrM a k) : scm A (wi A a k v) := ⟨fun b j hb => by
  rw [gi_wi]
  by_cases e : b = a ∧ j = k
  · rw [e.1, e.2] at hb; exact absurd h hb
  · rw [if_neg e], fun _ _ _ => rfl, rfl⟩
theorem scm_wi' {A B : AH} {a k : Nat} (v : Int) (h : scrM a k) (h2 : scm A B) : scm A (wi B a k v) := scm_trans h2 (scm_wi B v h)
theorem scm_hv {A A' : AH} (h : scm A A') : hv A' = hv A := by
  funext a j
  unfold hv
  by_cases e : (a = 224 ∧ 6 ≤ j) ∨ (a = 225 ∧ 24 ≤ j) ∨ (a = 226 ∧ 32 ≤ j) ∨ (a = 227 ∧ 12 ≤ j) ∨ (a = 228 ∧ 8 ≤ j) ∨ (a = 229 ∧ 18 ≤ j) ∨ (a = 230 ∧ 16 ≤ j) ∨ (a = 231 ∧ 2 ≤ j) ∨ (a = 232 ∧ 2 ≤ j) ∨ (a = 233 ∧ 1600 ≤ j)
  · rw [if_pos e, if_pos e]; exact h.1 a j (by unfold scrM; omega)
  · rw [if_neg e, if_neg e]
theorem scm_nv {A A' : AH} (h : scm A A') : nv A' = nv A := by
  funext j
  exact h.1 237 j (by unfold scrM; omega)
theorem scm_q {A A' : AH} (h : scm A A') : gi A' 190 65 = gi A 190 65 := h.1 190 65 (by unfold scrM; omega)
def clipF (x : Int) : Int := if 1000000 < x then 1000000 else if x < -1000000 then -1000000 else x
def joinF (v a b : Int) : Int := if v = 1 then clipF (a + b) else if v = 2 then clipF (a - b) else if v = 3 then clipF (a * b) else if v = 4 then a.fdiv b else if v = 5 then min a b else max a b
def stepF (F : Int → Int) (v : Int) (st : List Int) : List Int := if 1000 ≤ v then (v - 1000) :: st else if 7 ≤ v ∧ v ≤ 14 then F (v - 7) :: st else match st with
  | b :: a :: r => joinF v a b :: r
  | _ => st
def evF (F c : Int → Int) : Nat → Int → List Int → List Int
  | 0, _, st => st
  | n + 1, k, st => evF F c n (k + 1) (stepF F (c k) st)
/-- a row of codes that leaves one number, at most 60 deep -/
def wfc (c : Int → Int) : Nat → Int → Nat → Prop
  | 0, _, dp => dp = 1
  | n + 1, k, dp => ((((1000 ≤ c k ∧ c k ≤ 10999) ∨ (7 ≤ c k ∧ c k ≤ 14)) ∧ dp + 1 ≤ 60 ∧ wfc c n (k + 1) (dp + 1)) ∨ ((1 ≤ c k ∧ c k ≤ 6) ∧ 2 ≤ dp ∧ wfc c n (k + 1) (dp - 1)))
def plR (A : AH) : List Int → Prop
  | [] => True
  | x :: r => gi A 235 r.length = x ∧ plR A r
def bd6 : List Int → Prop
  | [] => True
  | x :: r => (-1000000 ≤ x ∧ x ≤ 1000000) ∧ bd6 r
theorem plR_fr {A B : AH} : ∀ {st : List Int}, (∀ j, j < st.length → gi B 235 j = gi A 235 j) → plR A st → plR B st
  | [], _, _ => trivial
  | x :: r, h, p => ⟨(h r.length (by simp)).trans p.1, plR_fr (fun j hj => h j (by simp; omega)) p.2⟩
set_option maxRecDepth 100000 in
theorem s_clip (d : Nat) (x : Int) (A : AH) : runF (d + 1) 190 [vL x] A = some (some (vL (clipF x)), A) := by
  rw [r_X12_clip, q_X12_clip_0]
  simp -implicitDefEqProofs (disch := omega) only [lcp_gt, lcp_lt, ↓reduceIte, Int.reduceEq, cI_v, cL_v, cV_v, cR_v, wid, wid64, if_pos, if_neg, Nat.add_zero, if_true, if_false, and_self, and_true, true_and, and_false, false_and, or_true, true_or, or_false, false_or]
  unfold clipF
  by_cases h : 1000000 < x
  · simp -implicitDefEqProofs (disch := omega) only [↓reduceIte, Int.reduceEq, cI_v, cL_v, cV_v, cR_v, wid, wid64, if_pos, if_neg, Nat.add_zero, if_true, if_false, and_self, and_true, true_and, and_false, false_and, or_true, true_or, or_false, false_or]
  · by_cases h2 : x < -1000000 <;> simp -implicitDefEqProofs (disch := omega) only [↓reduceIte, Int.reduceEq, cI_v, cL_v, cV_v, cR_v, wid, wid64, if_pos, if_neg, Nat.add_zero, if_true, if_false, and_self, and_true, true_and, and_false, false_and, or_true, true_or, or_false, false_or]
theorem clip_bd (x : Int) : -1000000 ≤ clipF x ∧ clipF x ≤ 1000000 := by
  unfold clipF
  by_cases h : 1000000 < x
  · rw [if_pos h]; omega
  · rw [if_neg h]
    by_cases h2 : x < -1000000
    · rw [if_pos h2]; omega
    · rw [if_neg h2]; omega
theorem fdiv_bd {a b : Int} (h1 : -1000000 ≤ a) (h2 : a ≤ 1000000) : -1000000 ≤ a.fdiv b ∧ a.fdiv b ≤ 1000000 := by
  have h : (a.fdiv b).natAbs ≤ a.natAbs := Int.natAbs_fdiv_le_natAbs a b
  omega
set_option maxRecDepth 100000 in
theorem s_floor (d : Nat) (a b : Int) (A : AH) (h1 : -1000000 ≤ a) (h2 : a ≤ 1000000) : runF (d + 1) 191 [vL a, vL b] A = some (some (vL (a.fdiv b)), A) := by
  have hf := fdiv_bd (b := b) h1 h2
  rw [r_X12_floor, q_X12_floor_0]
  simp -implicitDefEqProofs (disch := omega) only [lcp_eq, lcp_lt, q_X12_floor_53, q_X12_floor_32, q_X12_floor_43, ↓reduceIte, Int.reduceEq, cI_v, cL_v, cV_v, cR_v, wid, wid64, if_pos, if_neg, Nat.add_zero, if_true, if_false, and_self, and_true, true_and, and_false, false_and, or_true, true_or, or_false, false_or]
  by_cases hb : b = 0
  · subst hb; simp
  · have ht : -1000000 ≤ a.tdiv b ∧ a.tdiv b ≤ 1000000 := by
      have h : (a.tdiv b).natAbs ≤ a.natAbs := by rw [Int.natAbs_tdiv]; exact Nat.div_le_self _ _
      omega
    simp -implicitDefEqProofs (disch := omega) only [↓reduceIte, Int.reduceEq, cI_v, cL_v, cV_v, cR_v, wid, wid64, if_pos, if_neg, Nat.add_zero, if_true, if_false, and_self, and_true, true_and, and_false, false_and, or_true, true_or, or_false, false_or]
    rw [Int.fdiv_eq_tdiv]
    by_cases hm : a.tmod b = 0
    · rw [if_pos hm, if_pos (Int.dvd_of_tmod_eq_zero hm), Int.sub_zero]
    · rw [if_neg hm, if_neg (fun q => hm (Int.tmod_eq_zero_of_dvd q))]
      by_cases ha : a < 0
      · by_cases hb2 : b < 0
        · simp -implicitDefEqProofs (disch := omega) only [q_X12_floor_53, Int.sub_zero, ↓reduceIte, Int.reduceEq, cI_v, cL_v, cV_v, cR_v, wid, wid64, if_pos, if_neg, Nat.add_zero, if_true, if_false, and_self, and_true, true_and, and_false, false_and, or_true, true_or, or_false, false_or]; rw [Int.sign_eq_neg_one_of_neg hb2]; simp
        · simp -implicitDefEqProofs (disch := omega) only [q_X12_floor_53, Int.sub_zero, ↓reduceIte, Int.reduceEq, cI_v, cL_v, cV_v, cR_v, wid, wid64, if_pos, if_neg, Nat.add_zero, if_true, if_false, and_self, and_true, true_and, and_false, false_and, or_true, true_or, or_false, false_or]; rw [Int.sign_eq_one_of_pos (by omega)]
      · by_cases hb2 : b < 0
        · simp -implicitDefEqProofs (disch := omega) only [q_X12_floor_53, Int.sub_zero, ↓reduceIte, Int.reduceEq, cI_v, cL_v, cV_v, cR_v, wid, wid64, if_pos, if_neg, Nat.add_zero, if_true, if_false, and_self, and_true, true_and, and_false, false_and, or_true, true_or, or_false, false_or]
        · simp -implicitDefEqProofs (disch := omega) only [q_X12_floor_53, Int.sub_zero, ↓reduceIte, Int.reduceEq, cI_v, cL_v, cV_v, cR_v, wid, wid64, if_pos, if_neg, Nat.add_zero, if_true, if_false, and_self, and_true, true_and, and_false, false_and, or_true, true_or, or_false, false_or]
set_option maxRecDepth 100000 in
theorem s_puts (d : Nat) (y : Int) (A : AH) (h1 : 0 ≤ gi A 190 61) (h2 : gi A 190 61 < 1000) : runF (d + 1) 192 [vR 21 190 0, vL y] A = some (none, wi (wi A 235 (gi A 190 61).toNat y) 190 61 (gi A 190 61 + 1)) := by
  rw [r_X12_puts, q_X12_puts_0]
  simp -implicitDefEqProofs (disch := omega) only [q_X12_puts_10, q_X12_puts_20, gi_wi, ↓reduceIte, Int.reduceEq, cI_v, cL_v, cV_v, cR_v, wid, wid64, if_pos, if_neg, Nat.add_zero, if_true, if_false, and_self, and_true, true_and, and_false, false_and, or_true, true_or, or_false, false_or]
theorem mul_bd {a b : Int} (h1 : -1000000 ≤ a ∧ a ≤ 1000000) (h2 : -1000000 ≤ b ∧ b ≤ 1000000) : -1000000000000 ≤ a * b ∧ a * b ≤ 1000000000000 := by
  have h : (a * b).natAbs ≤ 1000000 * 1000000 := by
    rw [Int.natAbs_mul]
    exact Nat.mul_le_mul (by omega) (by omega)
  omega
theorem join_bd {v a b : Int} (h1 : -1000000 ≤ a ∧ a ≤ 1000000) (h2 : -1000000 ≤ b ∧ b ≤ 1000000) : -1000000 ≤ joinF v a b ∧ joinF v a b ≤ 1000000 := by
  unfold joinF
  have f := fdiv_bd (b := b) h1.1 h1.2
  have c1 := clip_bd (a + b)
  have c2 := clip_bd (a - b)
  have c3 := clip_bd (a * b)
  split
  · assumption
  · split
    · assumption
    · split
      · assumption
      · split
        · assumption
        · split <;> omega
set_option maxRecDepth 100000 in
theorem s_joins (d : Nat) (v a b : Int) (r : List Int) (A : AH) (hp : gi A 190 61 = (b :: a :: r).length) (hl : (b :: a :: r).length ≤ 60) (h : plR A (b :: a :: r)) (h1 : -1000000 ≤ a ∧ a ≤ 1000000) (h2 : -1000000 ≤ b ∧ b ≤ 1000000) (hv1 : 1 ≤ v) (hv2 : v ≤ 6) : ∃ A', runF (d + 2) 193 [vR 21 190 0, vI v] A = some (none, A') ∧ gi A' 190 61 = (joinF v a b :: r).length ∧ plR A' (joinF v a b :: r) ∧ (∀ p j, p ≠ 235 → ¬ (p = 190 ∧ j = 61) → gi A' p j = gi A p j) ∧ scm A A' := by
  simp only [List.length_cons] at hp hl
  have hA : gi A 235 ((gi A 190 61 - 1).toNat) = b := by
    rw [hp]; have := h.1; simp only [List.length_cons] at this
    rw [show ((((r.length + 1 + 1 : Nat) : Int)) - 1).toNat = r.length + 1 by omega]; exact this
  have hB : gi A 235 ((gi A 190 61 - 2).toNat) = a := by
    rw [hp, show ((((r.length + 1 + 1 : Nat) : Int)) - 2).toNat = r.length by omega]; exact h.2.1
  have m := mul_bd h1 h2
  refine ⟨wi (wi (wi A 190 61 (gi A 190 61 - 2)) 235 r.length (joinF v a b)) 190 61 ((r.length : Int) + 1), ?_, ?_, ?_, ?_, ?_⟩
  · rw [r_X12_joins, q_X12_joins_0]
    simp -implicitDefEqProofs (disch := omega) only [q_X12_joins_35, hA, hB, ↓reduceIte, Int.reduceEq, cI_v, cL_v, cV_v, cR_v, wid, wid64, if_pos, if_neg, Nat.add_zero, if_true, if_false, and_self, and_true, true_and, and_false, false_and, or_true, true_or, or_false, false_or]
    have pu : ∀ y, runF (d + 1) 192 [vR 21 190 0, vL y] (wi A 190 61 (gi A 190 61 - 2)) = some (none, wi (wi (wi A 190 61 (gi A 190 61 - 2)) 235 r.length y) 190 61 ((r.length : Int) + 1)) := by
      intro y
      have e : gi (wi A 190 61 (gi A 190 61 - 2)) 190 61 = (r.length : Int) := by
        simp -implicitDefEqProofs (disch := omega) only [gi_wi, ↓reduceIte, Int.reduceEq, cI_v, cL_v, cV_v, cR_v, wid, wid64, if_pos, if_neg, Nat.add_zero, if_true, if_false, and_self, and_true, true_and, and_false, false_and, or_true, true_or, or_false, false_or]; omega
      rw [s_puts d y _ (by omega) (by omega), e]; rfl
    unfold joinF
    by_cases v1 : v = 1
    · simp -implicitDefEqProofs (disch := omega) only [s_clip, pu, ↓reduceIte, Int.reduceEq, cI_v, cL_v, cV_v, cR_v, wid, wid64, if_pos, if_neg, Nat.add_zero, if_true, if_false, and_self, and_true, true_and, and_false, false_and, or_true, true_or, or_false, false_or]
    · by_cases v2 : v = 2
      · simp -implicitDefEqProofs (disch := omega) only [s_clip, pu, ↓reduceIte, Int.reduceEq, cI_v, cL_v, cV_v, cR_v, wid, wid64, if_pos, if_neg, Nat.add_zero, if_true, if_false, and_self, and_true, true_and, and_false, false_and, or_true, true_or, or_false, false_or]
      · by_cases v3 : v = 3
        · simp -implicitDefEqProofs (disch := omega) only [s_clip, pu, ↓reduceIte, Int.reduceEq, cI_v, cL_v, cV_v, cR_v, wid, wid64, if_pos, if_neg, Nat.add_zero, if_true, if_false, and_self, and_true, true_and, and_false, false_and, or_true, true_or, or_false, false_or]
        · by_cases v4 : v = 4
          · simp -implicitDefEqProofs (disch := omega) only [s_floor, pu, ↓reduceIte, Int.reduceEq, cI_v, cL_v, cV_v, cR_v, wid, wid64, if_pos, if_neg, Nat.add_zero, if_true, if_false, and_self, and_true, true_and, and_false, false_and, or_true, true_or, or_false, false_or]
          · by_cases v5 : v = 5
            · simp -implicitDefEqProofs (disch := omega) only [lcp_lt, q_X12_joins_141, pu, ↓reduceIte, Int.reduceEq, cI_v, cL_v, cV_v, cR_v, wid, wid64, if_pos, if_neg, Nat.add_zero, if_true, if_false, and_self, and_true, true_and, and_false, false_and, or_true, true_or, or_false, false_or]
              by_cases c : a < b
              · simp -implicitDefEqProofs (disch := omega) only [pu, ↓reduceIte, Int.reduceEq, cI_v, cL_v, cV_v, cR_v, wid, wid64, if_pos, if_neg, Nat.add_zero, if_true, if_false, and_self, and_true, true_and, and_false, false_and, or_true, true_or, or_false, false_or]; rw [Int.min_eq_left (by omega)]
              · simp -implicitDefEqProofs (disch := omega) only [pu, ↓reduceIte, Int.reduceEq, cI_v, cL_v, cV_v, cR_v, wid, wid64, if_pos, if_neg, Nat.add_zero, if_true, if_false, and_self, and_true, true_and, and_false, false_and, or_true, true_or, or_false, false_or]; rw [Int.min_eq_right (by omega)]
            · simp -implicitDefEqProofs (disch := omega) only [lcp_gt, q_X12_joins_161, pu, ↓reduceIte, Int.reduceEq, cI_v, cL_v, cV_v, cR_v, wid, wid64, if_pos, if_neg, Nat.add_zero, if_true, if_false, and_self, and_true, true_and, and_false, false_and, or_true, true_or, or_false, false_or]
              by_cases c : b < a
              · simp -implicitDefEqProofs (disch := omega) only [pu, ↓reduceIte, Int.reduceEq, cI_v, cL_v, cV_v, cR_v, wid, wid64, if_pos, if_neg, Nat.add_zero, if_true, if_false, and_self, and_true, true_and, and_false, false_and, or_true, true_or, or_false, false_or]; rw [Int.max_eq_left (by omega)]
              · simp -implicitDefEqProofs (disch := omega) only [pu, ↓reduceIte, Int.reduceEq, cI_v, cL_v, cV_v, cR_v, wid, wid64, if_pos, if_neg, Nat.add_zero, if_true, if_false, and_self, and_true, true_and, and_false, false_and, or_true, true_or, or_false, false_or]; rw [Int.max_eq_right (by omega)]
  · simp -implicitDefEqProofs (disch := omega) only [gi_wi, List.length_cons, ↓reduceIte, Int.reduceEq, cI_v, cL_v, cV_v, cR_v, wid, wid64, if_pos, if_neg, Nat.add_zero, if_true, if_false, and_self, and_true, true_and, and_false, false_and, or_true, true_or, or_false, false_or]; omega
  · refine ⟨?_, plR_fr (fun j hj => ?_) h.2.2⟩
    · simp -implicitDefEqProofs (disch := omega) only [gi_wi, ↓reduceIte, Int.reduceEq, cI_v, cL_v, cV_v, cR_v, wid, wid64, if_pos, if_neg, Nat.add_zero, if_true, if_false, and_self, and_true, true_and, and_false, false_and, or_true, true_or, or_false, false_or]
    · simp -implicitDefEqProofs (disch := omega) only [gi_wi, ↓reduceIte, Int.reduceEq, cI_v, cL_v, cV_v, cR_v, wid, wid64, if_pos, if_neg, Nat.add_zero, if_true, if_false, and_self, and_true, true_and, and_false, false_and, or_true, true_or, or_false, false_or]
  · intro p j hp1 hp2
    simp -implicitDefEqProofs (disch := omega) only [gi_wi, ↓reduceIte, Int.reduceEq, cI_v, cL_v, cV_v, cR_v, wid, wid64, if_pos, if_neg, Nat.add_zero, if_true, if_false, and_self, and_true, true_and, and_false, false_and, or_true, true_or, or_false, false_or]
  · exact scm_wi' _ (by unfold scrM; omega) (scm_wi' _ (by unfold scrM; omega) (scm_wi _ _ (by unfold scrM; omega)))
