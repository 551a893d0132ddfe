/-! heaps made by lists of deeds: (0, kind, length, _) makes, (1, a, j, v) writes a number, (2, a, j, v) writes a reference -/
def hop (A : AH) (o : Nat × Nat × Nat × Int) : AH := match o with
  | (0, k, n, _) => nw A k n
  | (1, a, j, v) => wi A a j v
  | (_, a, j, v) => wr A a j v.toNat
def hap : AH → List (Nat × Nat × Nat × Int) → AH
  | A, [] => A
  | A, o :: r => hap (hop A o) r
def nwc : List (Nat × Nat × Nat × Int) → Nat
  | [] => 0
  | (0, _, _, _) :: r => nwc r + 1
  | (_ + 1, _, _, _) :: r => nwc r
theorem hap_app : ∀ (x y : List (Nat × Nat × Nat × Int)) (A : AH), hap A (x ++ y) = hap (hap A x) y
  | [], _, _ => rfl
  | o :: x, y, A => hap_app x y (hop A o)
theorem sz_hap : ∀ (l : List (Nat × Nat × Nat × Int)) (A : AH), sz (hap A l) = sz A + nwc l
  | [], A => rfl
  | (0, k, n, v) :: r, A => by
    show sz (hap (nw A k n) r) = sz A + (nwc r + 1)
    rw [sz_hap r, sz_nw]; omega
  | (1, a, j, v) :: r, A => by
    show sz (hap (wi A a j v) r) = sz A + nwc r
    rw [sz_hap r]; rfl
  | (t + 2, a, j, v) :: r, A => by
    show sz (hap (wr A a j v.toNat) r) = sz A + nwc r
    rw [sz_hap r]; rfl
def gT : Nat → List (Nat × Nat × Nat × Int) → Nat → Nat → Int → Int
  | _, [], _, _, x => x
  | s, (0, _, _, _) :: r, a, j, x => gT (s + 1) r a j (if a = s then 0 else x)
  | s, (1, b, i, v) :: r, a, j, x => gT s r a j (if a = b ∧ j = i then v else x)
  | s, (_ + 2, _, _, _) :: r, a, j, x => gT s r a j x
theorem gi_hap : ∀ (l : List (Nat × Nat × Nat × Int)) (A : AH) (a j : Nat), gi (hap A l) a j = gT (sz A) l a j (gi A a j)
  | [], A, a, j => rfl
  | (0, k, n, v) :: r, A, a, j => by
    show gi (hap (nw A k n) r) a j = gT (sz A + 1) r a j (if a = sz A then 0 else gi A a j)
    rw [gi_hap r, sz_nw, gi_nw]
  | (1, b, i, v) :: r, A, a, j => by
    show gi (hap (wi A b i v) r) a j = gT (sz A) r a j (if a = b ∧ j = i then v else gi A a j)
    rw [gi_hap r, sz_wi, gi_wi]
  | (t + 2, b, i, v) :: r, A, a, j => by
    show gi (hap (wr A b i v.toNat) r) a j = gT (sz A) r a j (gi A a j)
    rw [gi_hap r, sz_wr, gi_wr]
def rT : Nat → List (Nat × Nat × Nat × Int) → Nat → Nat → Nat → Nat
  | _, [], _, _, x => x
  | s, (0, _, _, _) :: r, a, j, x => rT (s + 1) r a j (if a = s then 0 else x)
  | s, (1, _, _, _) :: r, a, j, x => rT s r a j x
  | s, (_ + 2, b, i, v) :: r, a, j, x => rT s r a j (if a = b ∧ j = i then v.toNat else x)
theorem gr_hap : ∀ (l : List (Nat × Nat × Nat × Int)) (A : AH) (a j : Nat), gr (hap A l) a j = rT (sz A) l a j (gr A a j)
  | [], A, a, j => rfl
  | (0, k, n, v) :: r, A, a, j => by
    show gr (hap (nw A k n) r) a j = rT (sz A + 1) r a j (if a = sz A then 0 else gr A a j)
    rw [gr_hap r, sz_nw, gr_nw]
  | (1, b, i, v) :: r, A, a, j => by
    show gr (hap (wi A b i v) r) a j = rT (sz A) r a j (gr A a j)
    rw [gr_hap r, sz_wi, gr_wi]
  | (t + 2, b, i, v) :: r, A, a, j => by
    show gr (hap (wr A b i v.toNat) r) a j = rT (sz A) r a j (if a = b ∧ j = i then v.toNat else gr A a j)
    rw [gr_hap r, sz_wr, gr_wr]
def sT : List (Nat × Nat × Nat × Int) → List (Nat × Nat)
  | [] => []
  | (0, k, n, _) :: r => (k, n) :: sT r
  | (_ + 1, _, _, _) :: r => sT r
theorem sh_hap : ∀ (l : List (Nat × Nat × Nat × Int)) (A : AH), (hap A l).2.2 = A.2.2 ++ sT l
  | [], A => by show A.2.2 = A.2.2 ++ []; rw [List.append_nil]
  | (0, k, n, v) :: r, A => by
    show (hap (nw A k n) r).2.2 = A.2.2 ++ ((k, n) :: sT r)
    rw [sh_hap r]
    show (A.2.2 ++ [(k, n)]) ++ sT r = _
    rw [List.append_assoc]; rfl
  | (1, a, j, v) :: r, A => by
    show (hap (wi A a j v) r).2.2 = A.2.2 ++ sT r
    rw [sh_hap r]; rfl
  | (t + 2, a, j, v) :: r, A => by
    show (hap (wr A a j v.toNat) r).2.2 = A.2.2 ++ sT r
    rw [sh_hap r]; rfl
/-- a field's new row of numbers -/
def naq (A : AH) (k a j n : Nat) : AH := wr (nw A k n) a j (sz A)
