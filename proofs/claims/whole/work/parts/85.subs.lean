/-! sets of itchers: packed (reference) and spread over the people (class) -/
def cn (it : Nat → Bool) : Nat → Nat
  | 0 => 0
  | b + 1 => cn it b + (if it b = true then 1 else 0)
def prs (it : Nat → Bool) : Nat → List (Nat × Nat)
  | 0 => [(0, 0)]
  | b + 1 => if it b = true then prs it b ++ (prs it b).map (fun p => (2 ^ cn it b + p.1, 2 ^ b + p.2)) else prs it b
def okS (it : Nat → Bool) : Nat → Nat → Bool
  | 0, _ => true
  | b + 1, s => okS it b s && (!s.testBit b || it b)
theorem okS_cg (it : Nat → Bool) : ∀ (b s t : Nat), (∀ i, i < b → s.testBit i = t.testBit i) → okS it b s = okS it b t
  | 0, _, _, _ => rfl
  | b + 1, s, t, h => by
    rw [okS, okS, okS_cg it b s t (fun i hi => h i (by omega)), h b (by omega)]
theorem okS_sp (it : Nat → Bool) : ∀ (b s : Nat), okS it b s = true ↔ ∀ i, i < b → s.testBit i = true → it i = true
  | 0, _ => ⟨fun _ i hi => by omega, fun _ => rfl⟩
  | b + 1, s => by
    rw [okS, Bool.and_eq_true, okS_sp it b s]
    refine ⟨fun h i hi ht => ?_, fun h => ⟨fun i hi => h i (by omega), ?_⟩⟩
    · by_cases e : i = b
      · rw [e] at ht ⊢
        have := h.2
        rw [ht] at this
        simpa using this
      · exact h.1 i (by omega) ht
    · have := h b (by omega)
      cases hb : s.testBit b
      · rfl
      · rw [this hb]; rfl
theorem prs_1 (it : Nat → Bool) : ∀ b, (prs it b).map Prod.fst = List.range (2 ^ cn it b)
  | 0 => rfl
  | b + 1 => by
    have ih := prs_1 it b
    rw [prs, cn]
    by_cases c : it b = true
    · rw [if_pos c, if_pos c, Nat.pow_succ, Nat.mul_two, List.range_add, List.map_append, ih, ← ih, List.map_map, List.map_map]
      rfl
    · rw [if_neg c, if_neg c]; exact ih
theorem filt_map {f g : Nat → Bool} {h : Nat → Nat} : ∀ l : List Nat, (∀ x, x ∈ l → g (h x) = f x) → (l.map h).filter g = (l.filter f).map h
  | [], _ => rfl
  | a :: l, e => by
    have ea := e a (by simp)
    have ih := filt_map (f := f) (g := g) (h := h) l (fun x hx => e x (by simp [hx]))
    rw [List.map_cons, List.filter_cons, List.filter_cons, ea]
    by_cases c : f a = true
    · rw [if_pos c, if_pos c, List.map_cons, ih]
    · rw [if_neg c, if_neg c, ih]
theorem prs_2 (it : Nat → Bool) : ∀ b, (prs it b).map Prod.snd = (List.range (2 ^ b)).filter (okS it b)
  | 0 => rfl
  | b + 1 => by
    have ih := prs_2 it b
    have low : ∀ x, x ∈ List.range (2 ^ b) → okS it (b + 1) x = okS it b x := by
      intro x hx
      have hx' : x < 2 ^ b := List.mem_range.mp hx
      rw [okS, Nat.testBit_lt_two_pow hx']; simp
    have high : ∀ x, x ∈ List.range (2 ^ b) → okS it (b + 1) (2 ^ b + x) = (okS it b x && it b) := by
      intro x hx
      have hx' : x < 2 ^ b := List.mem_range.mp hx
      rw [okS, Nat.testBit_two_pow_add_eq, Nat.testBit_lt_two_pow hx', okS_cg it b (2 ^ b + x) x (fun i hi => Nat.testBit_two_pow_add_gt hi x)]; simp
    rw [prs, Nat.pow_succ, Nat.mul_two, List.range_add, List.filter_append, List.filter_congr low]
    by_cases c : it b = true
    · have e := filt_map (f := okS it b) (g := okS it (b + 1)) (h := fun x => 2 ^ b + x) (List.range (2 ^ b)) (fun x hx => by rw [high x hx, c, Bool.and_true])
      rw [if_pos c, List.map_append, ih, e, ← ih, List.map_map, List.map_map]
      rfl
    · have e := filt_map (f := fun _ => false) (g := okS it (b + 1)) (h := fun x => 2 ^ b + x) (List.range (2 ^ b)) (fun x hx => by rw [high x hx]; simp [c])
      rw [if_neg c, ih, e]
      simp
theorem cn_le (it : Nat → Bool) : ∀ {i b : Nat}, i ≤ b → cn it i ≤ cn it b
  | i, 0, h => by have : i = 0 := by omega
                  rw [this]; exact Nat.le_refl _
  | i, b + 1, h => by
    by_cases e : i = b + 1
    · rw [e]; exact Nat.le_refl _
    · have := cn_le it (i := i) (b := b) (by omega)
      rw [cn]; omega
theorem cn_id (it : Nat → Bool) : ∀ b, cn it b ≤ b
  | 0 => Nat.le_refl _
  | b + 1 => by have := cn_id it b; rw [cn]; split <;> omega
theorem prs_3 (it : Nat → Bool) : ∀ (b : Nat) (p : Nat × Nat), p ∈ prs it b → p.1 < 2 ^ cn it b ∧ p.2 < 2 ^ b ∧ ∀ i, i < b → p.2.testBit i = (it i && p.1.testBit (cn it i))
  | 0, p, h => by
    have : p = (0, 0) := by simpa [prs] using h
    rw [this]; exact ⟨by simp [cn], by simp, fun i hi => by omega⟩
  | b + 1, p, h => by
    rw [prs] at h
    have base : p ∈ prs it b → it b = false ∨ it b = true → p.1 < 2 ^ cn it (b + 1) ∧ p.2 < 2 ^ (b + 1) ∧ ∀ i, i < b + 1 → p.2.testBit i = (it i && p.1.testBit (cn it i)) := by
      intro hp _
      obtain ⟨h1, h2, h3⟩ := prs_3 it b p hp
      have q1 : 2 ^ cn it b ≤ 2 ^ cn it (b + 1) := Nat.pow_le_pow_right (by omega) (cn_le it (by omega))
      have q2 : 2 ^ b ≤ 2 ^ (b + 1) := Nat.pow_le_pow_right (by omega) (by omega)
      refine ⟨by omega, by omega, fun i hi => ?_⟩
      by_cases e : i = b
      · rw [e, Nat.testBit_lt_two_pow h2, Nat.testBit_lt_two_pow h1, Bool.and_false]
      · exact h3 i (by omega)
    by_cases c : it b = true
    · rw [if_pos c, List.mem_append] at h
      rcases h with h | h
      · exact base h (Or.inr c)
      · obtain ⟨q, hq, e⟩ := List.mem_map.mp h
        obtain ⟨h1, h2, h3⟩ := prs_3 it b q hq
        have ec : cn it (b + 1) = cn it b + 1 := by rw [cn, if_pos c]
        have e1 : p.1 = 2 ^ cn it b + q.1 := by rw [← e]
        have e2 : p.2 = 2 ^ b + q.2 := by rw [← e]
        rw [ec, e1, e2, Nat.pow_succ, Nat.pow_succ]
        refine ⟨by omega, by omega, fun i hi => ?_⟩
        by_cases ei : i = b
        · rw [ei, Nat.testBit_two_pow_add_eq, Nat.testBit_two_pow_add_eq, Nat.testBit_lt_two_pow h2, Nat.testBit_lt_two_pow h1, c]; rfl
        · rw [Nat.testBit_two_pow_add_gt (by omega), h3 i (by omega)]
          by_cases ci : it i = true
          · have := cn_le it (i := i + 1) (b := b) (by omega)
            rw [cn, if_pos ci] at this
            rw [Nat.testBit_two_pow_add_gt (by omega)]
          · simp [ci]
    · rw [if_neg c] at h
      exact base h (Or.inl (by simpa using c))
theorem fold_rel {α β γ : Type} (R : β → γ → Prop) (f : β → α → β) (g : γ → α → γ) : ∀ (l : List α) (x : β) (y : γ), (∀ a, a ∈ l → ∀ x y, R x y → R (f x a) (g y a)) → R x y → R (l.foldl f x) (l.foldl g y)
  | [], _, _, _, h => h
  | a :: l, x, y, e, h => by
    rw [List.foldl_cons, List.foldl_cons]
    exact fold_rel R f g l _ _ (fun b hb => e b (by simp [hb])) (e a (by simp) x y h)
theorem fold_2 {β : Type} (it : Nat → Bool) (b : Nat) (f : β → Nat → β) (x : β) : ((List.range' 0 (2 ^ b)).filter (okS it b)).foldl f x = (prs it b).foldl (fun y p => f y p.2) x := by
  rw [← List.range_eq_range', ← prs_2, List.foldl_map]
theorem fold_1 {β : Type} (it : Nat → Bool) (b : Nat) (f : β → Nat → β) (x : β) : (List.range' 0 (2 ^ cn it b)).foldl f x = (prs it b).foldl (fun y p => f y p.1) x := by
  rw [← List.range_eq_range', ← prs_1, List.foldl_map]
/-- a sum over the packed is one over the people -/
theorem sm_last (f : Int → Int) : ∀ (n : Nat) (k : Int), sm f (n + 1) k = sm f n k + f (k + n)
  | 0, k => by simp [sm]
  | n + 1, k => by
    rw [sm, sm_last f n (k + 1), sm, ← Int.add_assoc, show k + 1 + (n : Int) = k + ((n + 1 : Nat) : Int) by omega]
theorem sm_pack (it : Nat → Bool) (g f : Int → Int) (o : Int → Int) (h : ∀ i : Nat, it i = true → f i = g (cn it i)) (h2 : ∀ i : Nat, it i = false → f i = o i) (h3 : ∀ i : Nat, it i = true → o i = 0) : ∀ b : Nat, sm f b 0 = sm o b 0 + sm g (cn it b) 0
  | 0 => rfl
  | b + 1 => by
    rw [sm_last, sm_last, sm_pack it g f o h h2 h3 b, cn, Int.zero_add]
    by_cases c : it b = true
    · rw [if_pos c, sm_last, h b c, h3 b c, Int.zero_add]; omega
    · rw [if_neg c, h2 b (by simpa using c), Nat.add_zero]; omega
def pm (f : Int → Int) : Nat → Int → Int
  | 0, _ => 1
  | n + 1, k => f k * pm f n (k + 1)
theorem pm_last (f : Int → Int) : ∀ (n : Nat) (k : Int), pm f (n + 1) k = pm f n k * f (k + n)
  | 0, k => by simp [pm]
  | n + 1, k => by
    rw [pm, pm_last f n (k + 1), pm, ← Int.mul_assoc, show k + 1 + (n : Int) = k + ((n + 1 : Nat) : Int) by omega]
theorem pm_pack (it : Nat → Bool) (g f : Int → Int) (h : ∀ i : Nat, it i = true → f i = g (cn it i)) (h2 : ∀ i : Nat, it i = false → f i = 100) : ∀ b : Nat, pm f b 0 = pm g (cn it b) 0 * 100 ^ (b - cn it b)
  | 0 => rfl
  | b + 1 => by
    have := cn_id it b
    rw [pm_last, pm_pack it g f h h2 b, cn, Int.zero_add]
    by_cases c : it b = true
    · rw [if_pos c, pm_last, h b c, Int.zero_add, show b + 1 - (cn it b + 1) = b - cn it b by omega, Int.mul_assoc, Int.mul_assoc, Int.mul_comm (100 ^ _)]
    · rw [if_neg c, h2 b (by simpa using c), Nat.add_zero, show b + 1 - cn it b = (b - cn it b) + 1 by omega, Int.pow_succ, Int.mul_assoc]
theorem pm_bd (f : Int → Int) : ∀ (n : Nat) (k : Int), (∀ i, 0 ≤ f i ∧ f i ≤ 100) → 0 ≤ pm f n k ∧ pm f n k ≤ 100 ^ n
  | 0, _, _ => by simp [pm]
  | n + 1, k, h => by
    have ih := pm_bd f n (k + 1) h
    have := h k
    rw [pm, Int.pow_succ, Int.mul_comm]
    exact ⟨Int.mul_nonneg ih.1 this.1, Int.mul_le_mul ih.2 this.2 this.1 (by have := ih.1; omega)⟩
