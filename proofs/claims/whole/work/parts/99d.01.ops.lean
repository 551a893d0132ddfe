/-! heaps made by lists of deeds: (0, kind, length, _) makes, (1, a, j, v) writes a number, (2, a, j, v) writes a reference -/
def hop (A : AH) (o : Nat × Nat × Nat × Int) : AH := match o with
  | (0, k, n, _) => nw A k n
  | (1, a, j, v) => wi A a j v
  | (_, a, j, v) => wr A a j v.toNat
def hap : AH → List (Nat × Nat × Nat × Int) → AH
  | A, [] => A
  | A, o :: r => hap (hop A o) r
def nwc : List (Nat × Nat × Nat × Int) → Nat
  | [] => 0
  | (0, _, _, _) :: r => nwc r + 1
  | (_ + 1, _, _, _) :: r => nwc r
theorem hap_app : ∀ (x y : List (Nat × Nat × Nat × Int)) (A : AH), hap A (x ++ y) = hap (hap A x) y
  | [], _, _ => rfl
  | o :: x, y, A => hap_app x y (hop A o)
theorem sz_hap : ∀ (l : List (Nat × Nat × Nat × Int)) (A : AH), sz (hap A l) = sz A + nwc l
  | [], A => rfl
  | (0, k, n, v) :: r, A => by
    show sz (hap (nw A k n) r) = sz A + (nwc r + 1)
    rw [sz_hap r, sz_nw]; omega
  | (1, a, j, v) :: r, A => by
    show sz (hap (wi A a j v) r) = sz A + nwc r
    rw [sz_hap r]; rfl
  | (t + 2, a, j, v) :: r, A => by
    show sz (hap (wr A a j v.toNat) r) = sz A + nwc r
    rw [sz_hap r]; rfl
def gOp : Nat → List (Nat × Nat × Nat × Int) → Nat → Nat → Option Int → Option Int
  | _, [], _, _, x => x
  | s, (0, _, _, _) :: r, a, j, x => gOp (s + 1) r a j (if a = s then some 0 else x)
  | s, (1, b, i, v) :: r, a, j, x => gOp s r a j (if a = b ∧ j = i then some v else x)
  | s, (_ + 2, _, _, _) :: r, a, j, x => gOp s r a j x
theorem gi_hap : ∀ (l : List (Nat × Nat × Nat × Int)) (A : AH) (a j : Nat) (o : Option Int) (y : Int), gi A a j = o.getD y → gi (hap A l) a j = (gOp (sz A) l a j o).getD y
  | [], A, a, j, o, y, h => h
  | (0, k, n, v) :: r, A, a, j, o, y, h => by
    show gi (hap (nw A k n) r) a j = (gOp (sz A + 1) r a j (if a = sz A then some 0 else o)).getD y
    have := gi_hap r (nw A k n) a j (if a = sz A then some 0 else o) y (by
      rw [gi_nw]
      by_cases c : a = sz A
      · rw [if_pos c, if_pos c]; rfl
      · rw [if_neg c, if_neg c]; exact h)
    rw [sz_nw] at this
    exact this
  | (1, b, i, v) :: r, A, a, j, o, y, h => by
    show gi (hap (wi A b i v) r) a j = (gOp (sz A) r a j (if a = b ∧ j = i then some v else o)).getD y
    exact gi_hap r (wi A b i v) a j (if a = b ∧ j = i then some v else o) y (by
      rw [gi_wi]
      by_cases c : a = b ∧ j = i
      · rw [if_pos c, if_pos c]; rfl
      · rw [if_neg c, if_neg c]; exact h)
  | (t + 2, b, i, v) :: r, A, a, j, o, y, h => gi_hap r (wr A b i v.toNat) a j o y h
def rOp : Nat → List (Nat × Nat × Nat × Int) → Nat → Nat → Option Nat → Option Nat
  | _, [], _, _, x => x
  | s, (0, _, _, _) :: r, a, j, x => rOp (s + 1) r a j (if a = s then some 0 else x)
  | s, (1, _, _, _) :: r, a, j, x => rOp s r a j x
  | s, (_ + 2, b, i, v) :: r, a, j, x => rOp s r a j (if a = b ∧ j = i then some v.toNat else x)
theorem gr_hap : ∀ (l : List (Nat × Nat × Nat × Int)) (A : AH) (a j : Nat) (o : Option Nat) (y : Nat), gr A a j = o.getD y → gr (hap A l) a j = (rOp (sz A) l a j o).getD y
  | [], A, a, j, o, y, h => h
  | (0, k, n, v) :: r, A, a, j, o, y, h => by
    show gr (hap (nw A k n) r) a j = (rOp (sz A + 1) r a j (if a = sz A then some 0 else o)).getD y
    have := gr_hap r (nw A k n) a j (if a = sz A then some 0 else o) y (by
      rw [gr_nw]
      by_cases c : a = sz A
      · rw [if_pos c, if_pos c]; rfl
      · rw [if_neg c, if_neg c]; exact h)
    rw [sz_nw] at this
    exact this
  | (1, b, i, v) :: r, A, a, j, o, y, h => gr_hap r (wi A b i v) a j o y h
  | (t + 2, b, i, v) :: r, A, a, j, o, y, h => by
    show gr (hap (wr A b i v.toNat) r) a j = (rOp (sz A) r a j (if a = b ∧ j = i then some v.toNat else o)).getD y
    exact gr_hap r (wr A b i v.toNat) a j (if a = b ∧ j = i then some v.toNat else o) y (by
      rw [gr_wr]
      by_cases c : a = b ∧ j = i
      · rw [if_pos c, if_pos c]; rfl
      · rw [if_neg c, if_neg c]; exact h)
/-- a row in which nothing is written -/
theorem gOp_no : ∀ (l : List (Nat × Nat × Nat × Int)) (s a j : Nat) (o : Option Int), l.all (fun q => q.1 != 1 || q.2.1 != a) = true → gOp s l a j o = if s ≤ a ∧ a < s + nwc l then some 0 else o
  | [], s, a, j, o, _ => by
    show o = if s ≤ a ∧ a < s + 0 then some 0 else o
    rw [if_neg (by omega)]
  | (0, k, n, v) :: r, s, a, j, o, h => by
    rw [List.all_cons, Bool.and_eq_true] at h
    show gOp (s + 1) r a j (if a = s then some 0 else o) = if s ≤ a ∧ a < s + (nwc r + 1) then some 0 else o
    rw [gOp_no r (s + 1) a j _ h.2]
    by_cases c : a = s
    · rw [if_pos c, if_neg (by omega), if_pos (by omega)]
    · rw [if_neg c]
      by_cases c2 : s + 1 ≤ a ∧ a < s + 1 + nwc r
      · rw [if_pos c2, if_pos (by omega)]
      · rw [if_neg c2, if_neg (by omega)]
  | (1, b, i, v) :: r, s, a, j, o, h => by
    rw [List.all_cons, Bool.and_eq_true] at h
    have hb : b ≠ a := by
      have := h.1
      simp at this
      exact this
    show gOp s r a j (if a = b ∧ j = i then some v else o) = if s ≤ a ∧ a < s + nwc r then some 0 else o
    rw [if_neg (fun y => hb y.1.symm)]
    exact gOp_no r s a j o h.2
  | (t + 2, b, i, v) :: r, s, a, j, o, h => by
    rw [List.all_cons, Bool.and_eq_true] at h
    exact gOp_no r s a j o h.2
def sT : List (Nat × Nat × Nat × Int) → List (Nat × Nat)
  | [] => []
  | (0, k, n, _) :: r => (k, n) :: sT r
  | (_ + 1, _, _, _) :: r => sT r
theorem sh_hap : ∀ (l : List (Nat × Nat × Nat × Int)) (A : AH), (hap A l).2.2 = A.2.2 ++ sT l
  | [], A => by show A.2.2 = A.2.2 ++ []; rw [List.append_nil]
  | (0, k, n, v) :: r, A => by
    show (hap (nw A k n) r).2.2 = A.2.2 ++ ((k, n) :: sT r)
    rw [sh_hap r]
    show (A.2.2 ++ [(k, n)]) ++ sT r = _
    rw [List.append_assoc]; rfl
  | (1, a, j, v) :: r, A => by
    show (hap (wi A a j v) r).2.2 = A.2.2 ++ sT r
    rw [sh_hap r]; rfl
  | (t + 2, a, j, v) :: r, A => by
    show (hap (wr A a j v.toNat) r).2.2 = A.2.2 ++ sT r
    rw [sh_hap r]; rfl
/-- a field's new row of numbers -/
def naq (A : AH) (k a j n : Nat) : AH := wr (nw A k n) a j (sz A)
