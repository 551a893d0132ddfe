/-! the pure part: words, continuations, counting -/
theorem wid {x : Int} (h1 : -2147483648 ≤ x) (h2 : x < 2147483648) : w32 x = x := w32_id ⟨h1, h2⟩
theorem wid64 {x : Int} (h1 : -9223372036854775808 ≤ x) (h2 : x < 9223372036854775808) : w64 x = x := w64_id ⟨h1, h2⟩
theorem cI_v (x : Int) (A : AH) (k : Int → AH → RS) : cI (some (some (vI x), A)) k = k x A := rfl
theorem cL_v (x : Int) (A : AH) (k : Int → AH → RS) : cL (some (some (vL x), A)) k = k x A := rfl
theorem cV_v (A : AH) (k : AH → RS) : cV (some (none, A)) k = k A := rfl
theorem cR_v (t a n : Nat) (A : AH) (k : Nat → Nat → AH → RS) : cR t (some (some (vR t a n), A)) k = k a n A := by
  unfold cR vR
  simp only [beq_self_eq_true]
theorem lcp_lt (x y : Int) : (lcp x y < 0) = (x < y) := by
  unfold lcp
  apply propext
  by_cases h : x < y
  · simp [h]
  · by_cases h2 : x = y <;> simp [h, h2]
theorem lcp_gt (x y : Int) : (0 < lcp x y) = (y < x) := by
  unfold lcp
  apply propext
  by_cases h : x < y
  · simp [h]; omega
  · by_cases h2 : x = y
    · simp [h2]
    · simp [h, h2]; omega
theorem lcp_eq (x y : Int) : (lcp x y = 0) = (x = y) := by
  unfold lcp
  apply propext
  by_cases h : x < y
  · simp [h]; omega
  · by_cases h2 : x = y <;> simp [h, h2]
/-- a truth as a number -/
def bI (b : Bool) : Int := if b = true then 1 else 0
theorem bI_t : bI true = 1 := rfl
theorem bI_f : bI false = 0 := rfl
theorem bI_0 (b : Bool) : (bI b = 0) = (b = false) := by cases b <;> simp [bI]
theorem bI_1 (b : Bool) : (bI b = 1) = (b = true) := by cases b <;> simp [bI]
theorem bI_01 (b : Bool) : (bI b = 0 ∨ bI b = 1) = True := by cases b <;> simp [bI]
theorem ite_f {α : Type} (b : Bool) (x y : α) : (if b = false then x else y) = if b = true then y else x := by cases b <;> rfl
theorem bI_dec (p : Prop) [Decidable p] : bI (decide p) = if p then 1 else 0 := by
  unfold bI; by_cases h : p <;> simp [h]
/-- the sum of f over k, k + 1 .. (n of them) -/
def sm (f : Int → Int) : Nat → Int → Int
  | 0, _ => 0
  | n + 1, k => f k + sm f n (k + 1)
/-- the first of k, k + 1 .. (n of them) that does; else -1 -/
def ff (p : Int → Bool) : Nat → Int → Int
  | 0, _ => -1
  | n + 1, k => if p k = true then k else ff p n (k + 1)
/-- is there one -/
def ex (p : Int → Bool) : Nat → Int → Bool
  | 0, _ => false
  | n + 1, k => p k || ex p n (k + 1)
theorem sm_congr {f g : Int → Int} : ∀ (n : Nat) (k : Int), (∀ j, k ≤ j → j < k + n → f j = g j) → sm f n k = sm g n k
  | 0, _, _ => rfl
  | n + 1, k, h => by
    unfold sm
    rw [h k (by omega) (by omega), sm_congr n (k + 1) (fun j h1 h2 => h j (by omega) (by omega))]
theorem ff_congr {p q : Int → Bool} : ∀ (n : Nat) (k : Int), (∀ j, k ≤ j → j < k + n → p j = q j) → ff p n k = ff q n k
  | 0, _, _ => rfl
  | n + 1, k, h => by
    unfold ff
    rw [h k (by omega) (by omega), ff_congr n (k + 1) (fun j h1 h2 => h j (by omega) (by omega))]
theorem ex_congr {p q : Int → Bool} : ∀ (n : Nat) (k : Int), (∀ j, k ≤ j → j < k + n → p j = q j) → ex p n k = ex q n k
  | 0, _, _ => rfl
  | n + 1, k, h => by
    unfold ex
    rw [h k (by omega) (by omega), ex_congr n (k + 1) (fun j h1 h2 => h j (by omega) (by omega))]
theorem sm_bd {f : Int → Int} {lo hi : Int} : ∀ (n : Nat) (k : Int), (∀ j, k ≤ j → j < k + n → lo ≤ f j ∧ f j ≤ hi) → n * lo ≤ sm f n k ∧ sm f n k ≤ n * hi
  | 0, _, _ => by simp [sm]
  | n + 1, k, h => by
    have h1 := h k (by omega) (by omega)
    have h2 := sm_bd n (k + 1) (fun j h1 h2 => h j (by omega) (by omega))
    unfold sm
    have e1 : ((n + 1 : Nat) : Int) * lo = n * lo + lo := by rw [Int.natCast_add, Int.add_mul]; simp
    have e2 : ((n + 1 : Nat) : Int) * hi = n * hi + hi := by rw [Int.natCast_add, Int.add_mul]; simp
    rw [e1, e2]
    omega
theorem ff_rng {p : Int → Bool} : ∀ (n : Nat) (k : Int), ff p n k = -1 ∨ (k ≤ ff p n k ∧ ff p n k < k + n ∧ p (ff p n k) = true)
  | 0, _ => Or.inl rfl
  | n + 1, k => by
    unfold ff
    by_cases h : p k = true
    · rw [if_pos h]; exact Or.inr ⟨by omega, by omega, h⟩
    · rw [if_neg h]
      rcases ff_rng n (k + 1) with e | ⟨e1, e2, e3⟩
      · exact Or.inl e
      · exact Or.inr ⟨by omega, by omega, e3⟩
theorem ff_none {p : Int → Bool} : ∀ (n : Nat) (k : Int), 0 ≤ k → (ff p n k = -1 ↔ ∀ j, k ≤ j → j < k + n → p j = false)
  | 0, _, _ => ⟨fun _ j h1 h2 => by omega, fun _ => rfl⟩
  | n + 1, k, hk => by
    unfold ff
    by_cases h : p k = true
    · rw [if_pos h]
      exact ⟨fun e => by omega, fun e => by rw [e k (by omega) (by omega)] at h; cases h⟩
    · rw [if_neg h, ff_none n (k + 1) (by omega)]
      constructor
      · intro e j h1 h2
        by_cases hj : j = k
        · rw [hj]; simpa using h
        · exact e j (by omega) (by omega)
      · exact fun e j h1 h2 => e j (by omega) (by omega)
theorem ff_uniq {p : Int → Bool} {i : Int} : ∀ (n : Nat) (k : Int), k ≤ i → i < k + n → p i = true → (∀ j, k ≤ j → j < k + n → p j = true → j = i) → ff p n k = i
  | 0, _, h1, h2, _, _ => by omega
  | n + 1, k, h1, h2, hi, hu => by
    unfold ff
    by_cases h : p k = true
    · rw [if_pos h]; exact hu k (by omega) (by omega) h
    · rw [if_neg h]
      have : k ≠ i := fun e => h (by rw [e]; exact hi)
      exact ff_uniq n (k + 1) (by omega) (by omega) hi (fun j h1 h2 => hu j (by omega) (by omega))
