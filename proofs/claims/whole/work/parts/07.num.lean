/-! numbers: what the machine's words are of an Int -/
def c32 (x : Int) : Int32 := Int32.ofInt x
def c64 (x : Int) : Int64 := Int64.ofInt x
def in32 (x : Int) : Prop := -2147483648 ≤ x ∧ x < 2147483648
def in64 (x : Int) : Prop := -9223372036854775808 ≤ x ∧ x < 9223372036854775808
theorem bm32 {x : Int} (h : in32 x) : Int.bmod x 4294967296 = x := by
  unfold in32 at h
  exact Int.bmod_eq_of_le (by omega) (by omega)
theorem bm64 {x : Int} (h : in64 x) : Int.bmod x 18446744073709551616 = x := by
  unfold in64 at h
  exact Int.bmod_eq_of_le (by omega) (by omega)
theorem c32_toInt {x : Int} (h : in32 x) : (c32 x).toInt = x := by
  unfold c32; rw [Int32.toInt_ofInt]; exact bm32 h
theorem c64_toInt {x : Int} (h : in64 x) : (c64 x).toInt = x := by
  unfold c64; rw [Int64.toInt_ofInt]; exact bm64 h
theorem in32_w32 (x : Int) : in32 (w32 x) := by
  unfold in32
  rw [w32_eq]
  have h1 := Int.le_bmod (x := x) (m := 4294967296) (by omega)
  have h2 := Int.bmod_lt (x := x) (m := 4294967296) (by omega)
  omega
theorem in64_w64 (x : Int) : in64 (w64 x) := by
  unfold in64
  rw [w64_eq]
  have h1 := Int.le_bmod (x := x) (m := 18446744073709551616) (by omega)
  have h2 := Int.bmod_lt (x := x) (m := 18446744073709551616) (by omega)
  omega
theorem w32_id {x : Int} (h : in32 x) : w32 x = x := by rw [w32_eq]; exact bm32 h
theorem w64_id {x : Int} (h : in64 x) : w64 x = x := by rw [w64_eq]; exact bm64 h
theorem in32_of (x : Int32) : in32 x.toInt := by
  unfold in32
  have h1 := Int32.le_toInt x
  have h2 := Int32.toInt_lt x
  omega
theorem in64_of (x : Int64) : in64 x.toInt := by
  unfold in64
  have h1 := Int64.le_toInt x
  have h2 := Int64.toInt_lt x
  omega
theorem c32_of (x : Int32) : c32 x.toInt = x := by unfold c32; exact Int32.ofInt_toInt x
theorem c64_of (x : Int64) : c64 x.toInt = x := by unfold c64; exact Int64.ofInt_toInt x
theorem e32 {a b : Int32} (h : a.toInt = b.toInt) : a = b := Int32.toInt_inj.mp h
theorem e64 {a b : Int64} (h : a.toInt = b.toInt) : a = b := Int64.toInt_inj.mp h
theorem c32_w (x : Int) : c32 (w32 x) = c32 x := e32 (by
  rw [c32_toInt (in32_w32 x), w32_eq]; unfold c32; rw [Int32.toInt_ofInt])
theorem c64_w (x : Int) : c64 (w64 x) = c64 x := e64 (by
  rw [c64_toInt (in64_w64 x), w64_eq]; unfold c64; rw [Int64.toInt_ofInt])
theorem c32_add (x y : Int) : c32 (w32 (x + y)) = c32 x + c32 y := by rw [c32_w]; unfold c32; exact Int32.ofInt_add ..
theorem c32_sub (x y : Int) : c32 (w32 (x - y)) = c32 x - c32 y := by rw [c32_w]; unfold c32; exact Int32.ofInt_sub ..
theorem c32_mul (x y : Int) : c32 (w32 (x * y)) = c32 x * c32 y := by rw [c32_w]; unfold c32; exact Int32.ofInt_mul ..
theorem c32_neg (x : Int) : c32 (w32 (-x)) = -c32 x := by rw [c32_w]; unfold c32; exact Int32.ofInt_neg ..
theorem c64_add (x y : Int) : c64 (w64 (x + y)) = c64 x + c64 y := by rw [c64_w]; unfold c64; exact Int64.ofInt_add ..
theorem c64_sub (x y : Int) : c64 (w64 (x - y)) = c64 x - c64 y := by rw [c64_w]; unfold c64; exact Int64.ofInt_sub ..
theorem c64_mul (x y : Int) : c64 (w64 (x * y)) = c64 x * c64 y := by rw [c64_w]; unfold c64; exact Int64.ofInt_mul ..
theorem c64_neg (x : Int) : c64 (w64 (-x)) = -c64 x := by rw [c64_w]; unfold c64; exact Int64.ofInt_neg ..
theorem c32_div {x y : Int} (hx : in32 x) (hy : in32 y) : c32 (w32 (x.tdiv y)) = c32 x / c32 y := e32 (by
  rw [c32_toInt (in32_w32 _), w32_eq, Int32.toInt_div, c32_toInt hx, c32_toInt hy])
theorem c64_div {x y : Int} (hx : in64 x) (hy : in64 y) : c64 (w64 (x.tdiv y)) = c64 x / c64 y := e64 (by
  rw [c64_toInt (in64_w64 _), w64_eq, Int64.toInt_div, c64_toInt hx, c64_toInt hy])
theorem c32_rem {x y : Int} (hx : in32 x) (hy : in32 y) : c32 (x.tmod y) = c32 x - c32 x / c32 y * c32 y := by
  rw [← c32_div hx hy, c32_w]
  have h : x.tmod y = x - x.tdiv y * y := by rw [Int.tmod_def, Int.mul_comm]
  rw [h]
  unfold c32
  rw [Int32.ofInt_sub, Int32.ofInt_mul]
theorem c64_rem {x y : Int} (hx : in64 x) (hy : in64 y) : c64 (x.tmod y) = c64 x - c64 x / c64 y * c64 y := by
  rw [← c64_div hx hy, c64_w]
  have h : x.tmod y = x - x.tdiv y * y := by rw [Int.tmod_def, Int.mul_comm]
  rw [h]
  unfold c64
  rw [Int64.ofInt_sub, Int64.ofInt_mul]
theorem tmod_abs (x y : Int) : (x.tmod y).natAbs ≤ x.natAbs := by
  rw [Int.natAbs_tmod]; exact Nat.mod_le _ _
theorem in32_tmod {x y : Int} (hx : in32 x) (hy : y ≠ 0) : in32 (x.tmod y) := by
  have h := tmod_abs x y
  unfold in32 at *
  rcases Int.le_total 0 x with h0 | h0
  · have := Int.tmod_nonneg y h0
    omega
  · have : (-x).tmod y = -(x.tmod y) := Int.neg_tmod ..
    have h2 := Int.tmod_nonneg y (show 0 ≤ -x by omega)
    omega
theorem in64_tmod {x y : Int} (hx : in64 x) (hy : y ≠ 0) : in64 (x.tmod y) := by
  have h := tmod_abs x y
  unfold in64 at *
  rcases Int.le_total 0 x with h0 | h0
  · have := Int.tmod_nonneg y h0
    omega
  · have : (-x).tmod y = -(x.tmod y) := Int.neg_tmod ..
    have h2 := Int.tmod_nonneg y (show 0 ≤ -x by omega)
    omega
theorem c32_lt {x y : Int} (hx : in32 x) (hy : in32 y) : c32 x < c32 y ↔ x < y := by
  rw [Int32.lt_iff_toInt_lt, c32_toInt hx, c32_toInt hy]
theorem c32_le {x y : Int} (hx : in32 x) (hy : in32 y) : c32 x ≤ c32 y ↔ x ≤ y := by
  rw [Int32.le_iff_toInt_le, c32_toInt hx, c32_toInt hy]
theorem c32_eq {x y : Int} (hx : in32 x) (hy : in32 y) : c32 x = c32 y ↔ x = y :=
  ⟨fun h => by rw [← c32_toInt hx, ← c32_toInt hy, h], fun h => by rw [h]⟩
theorem c64_lt {x y : Int} (hx : in64 x) (hy : in64 y) : c64 x < c64 y ↔ x < y := by
  rw [Int64.lt_iff_toInt_lt, c64_toInt hx, c64_toInt hy]
theorem c64_eq {x y : Int} (hx : in64 x) (hy : in64 y) : c64 x = c64 y ↔ x = y :=
  ⟨fun h => by rw [← c64_toInt hx, ← c64_toInt hy, h], fun h => by rw [h]⟩
theorem in32_0 : in32 0 := by unfold in32; omega
theorem in64_0 : in64 0 := by unfold in64; omega
theorem c32_0 : c32 0 = 0 := rfl
theorem c64_0 : c64 0 = 0 := rfl
theorem c32_band (x y : Int) : c32 (band x y) = c32 x &&& c32 y := by rw [band_eq]; exact c32_of _
theorem c32_bor (x y : Int) : c32 (bor x y) = c32 x ||| c32 y := by rw [bor_eq]; exact c32_of _
theorem c32_bxor (x y : Int) : c32 (bxor x y) = c32 x ^^^ c32 y := by rw [bxor_eq]; exact c32_of _
theorem c32_bshl (x y : Int) : c32 (bshl x y) = c32 x <<< (c32 y &&& 31) := by rw [bshl_eq]; exact c32_of _
theorem c32_bshr (x y : Int) : c32 (bshr x y) = c32 x >>> (c32 y &&& 31) := by rw [bshr_eq]; exact c32_of _
theorem c32_bushr (x y : Int) : c32 (bushr x y) = ((c32 x).toUInt32 >>> ((c32 y).toUInt32 &&& Int32.toUInt32 31)).toInt32 := by rw [bushr_eq]; exact c32_of _
theorem c32_ix {x : Int} {n : Nat} (h0 : 0 ≤ x) (h1 : x < (n : Int)) (hn : n < 2147483648) : vp_in (c32 x) n ∧ (c32 x).toNatClampNeg = x.toNat := by
  have hx : in32 x := by unfold in32; omega
  refine ⟨vp_in_iff.mpr (by rw [c32_toInt hx]; exact ⟨h0, h1⟩), ?_⟩
  rw [show (c32 x).toNatClampNeg = (c32 x).toInt.toNat from rfl, c32_toInt hx]
theorem c32_l {x : Int} (hx : in32 x) : (c32 x).toInt64 = c64 x := e64 (by
  rw [c64_toInt (by unfold in32 at hx; unfold in64; omega)]
  rw [Int32.toInt_toInt64, c32_toInt hx])
theorem c64_i (x : Int) : (c64 x).toInt32 = c32 (w32 x) := by
  rw [c32_w]; unfold c64 c32; exact Int64.toInt32_ofInt ..
