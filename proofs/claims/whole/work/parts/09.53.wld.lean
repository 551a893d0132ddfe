/-! worlds: the cells that an abstract heap stands for -/
theorem fty_all {P : Nat → Prop} (h0 : P 0) (h : ∀ l ∈ ftyT, ∀ t ∈ l, P t) (k j : Nat) : P (fty k j) := by
  unfold fty
  by_cases hk : k < ftyT.length
  · have e1 : ftyT.getD k [] = ftyT[k] := by simp [List.getD, hk]
    rw [e1]
    by_cases hj : j < ftyT[k].length
    · have e2 : ftyT[k].getD j 0 = ftyT[k][j] := by simp [List.getD, hj]
      rw [e2]
      exact h _ (List.getElem_mem hk) _ (List.getElem_mem hj)
    · have e2 : ftyT[k].getD j 0 = 0 := by simp [List.getD, List.getElem?_eq_none (Nat.le_of_not_lt hj)]
      rw [e2]; exact h0
  · have e1 : ftyT.getD k [] = [] := by simp [List.getD, List.getElem?_eq_none (Nat.le_of_not_lt hk)]
    rw [e1]; exact h0
theorem fty_no7 (k j : Nat) : fty k j ≠ 7 := fty_all (P := fun t => t ≠ 7) (by decide) (by decide +kernel) k j
theorem fty_cs (k j : Nat) : fty k j = 0 ∨ fty k j = 1 ∨ fty k j = 2 ∨ 10 ≤ fty k j := fty_all (P := fun t => t = 0 ∨ t = 1 ∨ t = 2 ∨ 10 ≤ t) (by decide) (by decide +kernel) k j
theorem fty_lt (k j : Nat) : fty k j < 34 := fty_all (P := fun t => t < 34) (by decide) (by decide +kernel) k j
def rfo (ad : Nat → Nat) (a : Nat) : Option Nat := if a = 0 then none else some (ad a)
def rfv (ad : Nat → Nat) (a : Nat) : Value := va_rf (rfo ad a)
theorem rfv_0 (ad : Nat → Nat) : rfv ad 0 = .null := rfl
theorem rfv_n {ad : Nat → Nat} {a : Nat} (h : a ≠ 0) : rfv ad a = .ref (ad a) := by simp [rfv, rfo, h, va_rf]
/-- a value, as the machine has it -/
def cv (ad : Nat → Nat) (v : AV) : Value := match v.1 with
  | 0 => .int (c32 v.2.1)
  | 1 => .long (c64 v.2.1)
  | _ => rfv ad v.2.2.1
def fld (A : AH) (ad : Nat → Nat) (t a j : Nat) : Value := match t with
  | 0 => .int (c32 (gi A a j))
  | 1 => .long (c64 (gi A a j))
  | 2 => .int (c32 (gi A a j))
  | _ => rfv ad (gr A a j)
abbrev CI4 : Type := ClassId × ClassId × ClassId × ClassId
def flds (A : AH) (ad : Nat → Nat) (k a : Nat) : List Value := (List.range (nf k)).map (fun j => fld A ad (fty k j) a j)
def wce (Z : CI4) (A : AH) (ad : Nat → Nat) (a : Nat) : va_E := match kd A a with
  | 20 => .inl (Z.1, ln A a, .inl (fun j => c32 (gi A a j)))
  | 21 => .inl (Z.2.1, ln A a, .inr (.inl (fun j => c64 (gi A a j))))
  | 22 => .inl (Z.2.2.1, ln A a, .inl (fun j => c32 (gi A a j)))
  | 23 => .inl (Z.2.2.2, ln A a, .inr (.inr (.inr (.inr (fun j => rfo ad (gr A a j))))))
  | k => .inr (k, flds A ad k a)
def wd (Z : CI4) (A : AH) (ad : Nat → Nat) : va_W := (List.range (sz A - 40)).map (fun i => (ad (i + 40), wce Z A ad (i + 40)))
theorem wd_at {Z : CI4} {A : AH} {ad : Nat → Nat} {a : Nat} (h : 40 ≤ a) (h2 : a < sz A) : (wd Z A ad)[a - 40]? = some (ad a, wce Z A ad a) := by
  unfold wd
  rw [List.getElem?_map, List.getElem?_range (by omega)]
  simp only [Option.map_some]
  rw [show a - 40 + 40 = a by omega]
theorem wd_len (Z : CI4) (A : AH) (ad : Nat → Nat) : (wd Z A ad).length = sz A - 40 := by simp [wd]
theorem wd_set {Z : CI4} {A A' : AH} {ad : Nat → Nat} {a : Nat} (hs : A'.2.2 = A.2.2) (hb : ∀ b, b ≠ a → wce Z A' ad b = wce Z A ad b) (h : 40 ≤ a) : (wd Z A ad).set (a - 40) (ad a, wce Z A' ad a) = wd Z A' ad := by
  have hz : sz A' = sz A := by unfold sz; rw [hs]
  apply List.ext_getElem?
  intro i
  rw [List.getElem?_set]
  by_cases hi : i < sz A - 40
  · have e1 : (wd Z A' ad)[i]? = some (ad (i + 40), wce Z A' ad (i + 40)) := by
      have := wd_at (Z := Z) (A := A') (ad := ad) (a := i + 40) (by omega) (by omega)
      rwa [show i + 40 - 40 = i by omega] at this
    have e2 : (wd Z A ad)[i]? = some (ad (i + 40), wce Z A ad (i + 40)) := by
      have := wd_at (Z := Z) (A := A) (ad := ad) (a := i + 40) (by omega) (by omega)
      rwa [show i + 40 - 40 = i by omega] at this
    by_cases hia : a - 40 = i
    · rw [if_pos hia, if_pos (by rw [wd_len]; omega), e1]
      rw [show i + 40 = a by omega]
    · rw [if_neg hia, e1, e2, hb _ (by omega)]
  · have e1 : (wd Z A' ad)[i]? = none := List.getElem?_eq_none (by rw [wd_len]; omega)
    have e2 : (wd Z A ad)[i]? = none := List.getElem?_eq_none (by rw [wd_len]; omega)
    by_cases hia : a - 40 = i
    · rw [if_pos hia, if_neg (by rw [wd_len]; omega), e1]
    · rw [if_neg hia, e1, e2]
/-- what must hold of a heap: its cells' shapes, what stands in them; the script -/
def okref (A : AH) (t a : Nat) : Prop := a = 0 ∨ (match t with
  | 22 => 1 ≤ a ∧ a ≤ 37
  | 34 => a = 38
  | 35 => a = 39
  | _ => 40 ≤ a ∧ a < sz A ∧ 10 + kd A a = t)
def lenf (L : Nat) (A : AH) (t a : Nat) : Nat := match t with
  | 34 => 37
  | 35 => L
  | _ => ln A a
def okv (L : Nat) (A : AH) (v : AV) : Prop := match v.1 with
  | 0 => in32 v.2.1
  | 1 => in64 v.2.1
  | 8 => v.2.2.1 = 0
  | 9 => v.2.2.1 = 0
  | t => 10 ≤ t ∧ okref A t v.2.2.1 ∧ (30 ≤ t → v.2.2.1 ≠ 0 → v.2.2.2 = lenf L A t v.2.2.1)
def ftg (A : AH) (a j : Nat) : Nat := match kd A a with
  | 20 => 0
  | 21 => 1
  | 22 => 7
  | 23 => 19
  | k => fty k j
def oks (A : AH) (t a j : Nat) : Prop := match t with
  | 0 => in32 (gi A a j)
  | 1 => in64 (gi A a j)
  | 2 => gi A a j = 0 ∨ gi A a j = 1
  | 7 => 0 ≤ gi A a j ∧ gi A a j < 65536
  | t => 10 ≤ t ∧ okref A t (gr A a j)
def shp (A : AH) (a : Nat) : Prop := (kd A a < 12 ∧ ln A a = nf (kd A a)) ∨ (20 ≤ kd A a ∧ kd A a ≤ 23 ∧ ln A a ≤ 1000000)
def WF (L : Nat) (xs : Nat → Int32) (A : AH) : Prop := 40 ≤ sz A ∧ (∀ a, 40 ≤ a → a < sz A → shp A a) ∧ (∀ a j, 40 ≤ a → a < sz A → oks A (ftg A a j) a j) ∧ ∀ j, j < L → gi A 39 j = (xs j).toInt
theorem wce_obj {Z : CI4} {A : AH} {ad : Nat → Nat} {a k : Nat} (hk : kd A a = k) (h : k < 12) : wce Z A ad a = .inr (k, flds A ad k a) := by
  unfold wce
  rw [hk]
  split <;> first | omega | rfl
theorem wce_congr {Z : CI4} {A A' : AH} {ad ad' : Nat → Nat} {b : Nat} (hk : kd A' b = kd A b) (hl : ln A' b = ln A b) (hi : ∀ j, gi A' b j = gi A b j) (hr : ∀ j, rfo ad' (gr A' b j) = rfo ad (gr A b j)) : wce Z A' ad' b = wce Z A ad b := by
  have hf : ∀ t j, fld A' ad' t b j = fld A ad t b j := by
    intro t j
    unfold fld
    split <;> first | rw [hi] | (unfold rfv; rw [hr])
  unfold wce
  rw [hk, hl]
  split
  · simp only [hi]
  · simp only [hi]
  · simp only [hi]
  · simp only [hr]
  · unfold flds; simp only [hf]
theorem flds_set {A A' : AH} {ad : Nat → Nat} {k a j : Nat} {v : Value} (hv : j < nf k → fld A' ad (fty k j) a j = v) (ho : ∀ i, i ≠ j → fld A' ad (fty k i) a i = fld A ad (fty k i) a i) : (flds A ad k a).set j v = flds A' ad k a := by
  unfold flds
  apply List.ext_getElem?
  intro i
  rw [List.getElem?_set]
  by_cases hi : i < nf k
  · simp only [List.length_map, List.length_range]
    by_cases hij : j = i
    · subst hij
      simp [hi, hv hi]
    · rw [if_neg hij]
      simp [hi, ho i (fun h => hij h.symm)]
  · by_cases hij : j = i
    · subst hij
      simp [hi]
    · rw [if_neg hij]
      simp [hi]
theorem flds_at {A : AH} {ad : Nat → Nat} {k a j : Nat} (hj : j < nf k) : (flds A ad k a)[j]? = some (fld A ad (fty k j) a j) := by
  unfold flds; simp [hj]
