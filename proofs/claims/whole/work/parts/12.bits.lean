/-! bits of numbers that are not negative (bt .. nx_and began as rows of the kit's BITS) -/
def bt (x : Int32) (i : Nat) : Bool := x.toBitVec.getLsbD i
theorem b_ext {x y : Int32} (h : ∀ i, i < 32 → bt x i = bt y i) : x = y := Int32.toBitVec_inj.mp (BitVec.eq_of_getLsbD_eq (fun i hi => h i hi))
set_option maxRecDepth 100000 in
theorem s_l : ∀ n, n < 32 → ((nI n &&& 31).toBitVec.smod 32).toNat = n := by decide +kernel
theorem b_shl (n : Nat) (hn : n < 32) (x : Int32) {i : Nat} (hi : i < 32) : bt (x <<< (nI n &&& 31)) i = (decide (n ≤ i) && bt x (i - n)) := by
  unfold bt
  rw [Int32.toBitVec_shiftLeft]
  show (x.toBitVec <<< ((nI n &&& 31).toBitVec.smod 32).toNat).getLsbD i = _
  rw [s_l n hn, BitVec.getLsbD_shiftLeft]
  rcases Nat.lt_or_ge i n with h | h
  · simp [h, Nat.not_le.mpr h]
  · simp [hi, h, Nat.not_lt.mpr h]
theorem b_sshr (n : Nat) (hn : n < 32) (x : Int32) {i : Nat} (hi : i < 32) : bt (x >>> (nI n &&& 31)) i = if n + i < 32 then bt x (n + i) else bt x 31 := by
  unfold bt
  rw [Int32.toBitVec_shiftRight]
  show (x.toBitVec.sshiftRight ((nI n &&& 31).toBitVec.smod 32).toNat).getLsbD i = _
  rw [s_l n hn, BitVec.getLsbD_sshiftRight, BitVec.msb_eq_getLsbD_last]
  simp [hi]
theorem nx_and (a b : Nat) : nI a &&& nI b = nI (a &&& b) := by
  apply Int32.toBitVec_inj.1
  show BitVec.ofNat 32 a &&& BitVec.ofNat 32 b = BitVec.ofNat 32 (a &&& b)
  apply BitVec.eq_of_getLsbD_eq
  intro i hi
  simp [hi]
theorem nx_or (a b : Nat) : nI a ||| nI b = nI (a ||| b) := by
  apply Int32.toBitVec_inj.1
  show BitVec.ofNat 32 a ||| BitVec.ofNat 32 b = BitVec.ofNat 32 (a ||| b)
  apply BitVec.eq_of_getLsbD_eq
  intro i hi
  simp [hi]
theorem bt_nI (k i : Nat) (hi : i < 32) : bt (nI k) i = k.testBit i := by
  unfold bt
  show (BitVec.ofNat 32 k).getLsbD i = _
  rw [BitVec.getLsbD_ofNat, decide_eq_true hi, Bool.true_and]
theorem of_nI (n : Nat) : Int32.ofInt (n : Int) = nI n := by
  apply Int32.toBitVec_inj.1
  show BitVec.ofInt 32 (n : Int) = BitVec.ofNat 32 n
  simp
theorem nx_shr {k j : Nat} (hk : k < 2 ^ 31) (hj : j < 32) : nI k >>> (nI j &&& 31) = nI (k >>> j) := by
  apply b_ext
  intro i hi
  rw [b_sshr j hj _ hi, bt_nI _ _ hi, Nat.testBit_shiftRight]
  have big : ∀ m, 31 ≤ m → k.testBit m = false := fun m hm => Nat.testBit_lt_two_pow (Nat.lt_of_lt_of_le hk (Nat.pow_le_pow_right (by omega) hm))
  by_cases h : j + i < 32
  · rw [if_pos h, bt_nI _ _ h]
  · rw [if_neg h, bt_nI _ _ (by omega), big 31 (by omega), big (j + i) (by omega)]
theorem nx_shl {j : Nat} (hj : j < 32) : nI 1 <<< (nI j &&& 31) = nI (2 ^ j) := by
  apply b_ext
  intro i hi
  rw [b_shl j hj _ hi, bt_nI _ _ (by omega), bt_nI _ _ hi, Nat.testBit_two_pow]
  by_cases h : j = i
  · subst h; simp
  · by_cases h2 : j ≤ i
    · have e : (1 : Nat).testBit (i - j) = false := by
        rw [show (1 : Nat) = 2 ^ 0 from rfl, Nat.testBit_two_pow]; simp; omega
      simp [h, h2, e]
    · simp [h, h2]
theorem band_n {a b : Int} (h1 : 0 ≤ a) (h2 : a < 2147483648) (h3 : 0 ≤ b) (h4 : b < 2147483648) : band a b = ((a.toNat &&& b.toNat : Nat) : Int) := by
  obtain ⟨m, rfl⟩ := Int.eq_ofNat_of_zero_le h1
  obtain ⟨n, rfl⟩ := Int.eq_ofNat_of_zero_le h3
  rw [band_eq, of_nI, of_nI, nx_and]
  have := Nat.and_le_left (n := m) (m := n)
  rw [nI_toInt (by omega)]; rfl
theorem bor_n {a b : Int} (h1 : 0 ≤ a) (h2 : a < 2147483648) (h3 : 0 ≤ b) (h4 : b < 2147483648) : bor a b = ((a.toNat ||| b.toNat : Nat) : Int) := by
  obtain ⟨m, rfl⟩ := Int.eq_ofNat_of_zero_le h1
  obtain ⟨n, rfl⟩ := Int.eq_ofNat_of_zero_le h3
  rw [bor_eq, of_nI, of_nI, nx_or]
  have := Nat.or_lt_two_pow (x := m) (y := n) (n := 31) (by omega) (by omega)
  rw [nI_toInt (by omega)]; rfl
theorem bshr_n {a k : Int} (h1 : 0 ≤ a) (h2 : a < 2147483648) (h3 : 0 ≤ k) (h4 : k < 32) : bshr a k = ((a.toNat >>> k.toNat : Nat) : Int) := by
  obtain ⟨m, rfl⟩ := Int.eq_ofNat_of_zero_le h1
  obtain ⟨n, rfl⟩ := Int.eq_ofNat_of_zero_le h3
  rw [bshr_eq, of_nI, of_nI, nx_shr (by omega) (by omega)]
  have : m >>> n ≤ m := by rw [Nat.shiftRight_eq_div_pow]; exact Nat.div_le_self _ _
  rw [nI_toInt (by omega)]; rfl
theorem bshl_1 {k : Int} (h3 : 0 ≤ k) (h4 : k < 31) : bshl 1 k = ((2 ^ k.toNat : Nat) : Int) := by
  obtain ⟨n, rfl⟩ := Int.eq_ofNat_of_zero_le h3
  rw [bshl_eq, of_nI, show Int32.ofInt 1 = nI 1 from rfl, nx_shl (by omega)]
  have : 2 ^ n < 2 ^ 31 := Nat.pow_lt_pow_right (by omega) (by omega)
  rw [nI_toInt this]; rfl
/-- the bit k of a -/
def tb (a k : Int) : Bool := a.toNat.testBit k.toNat
theorem and_1 (m : Nat) : ((m &&& 1 : Nat) : Int) = bI (m.testBit 0) := by
  rw [Nat.and_one_is_mod, Nat.testBit_zero]
  rcases Nat.mod_two_eq_zero_or_one m with h | h <;> simp [h, bI]
theorem shr_le (m n : Nat) : m >>> n ≤ m := by rw [Nat.shiftRight_eq_div_pow]; exact Nat.div_le_self _ _
theorem band_tb {a k : Int} (h1 : 0 ≤ a) (h2 : a < 2147483648) (h3 : 0 ≤ k) (h4 : k < 32) : band (bshr a k) 1 = bI (tb a k) := by
  rw [bshr_n h1 h2 h3 h4]
  have := shr_le a.toNat k.toNat
  rw [band_n (Int.natCast_nonneg _) (by omega) (by omega) (by omega)]
  show (((a.toNat >>> k.toNat) &&& 1 : Nat) : Int) = _
  rw [and_1, Nat.testBit_shiftRight, Nat.add_zero]; rfl
theorem band_tb2 {a b k j : Int} (h1 : 0 ≤ a) (h2 : a < 2147483648) (h3 : 0 ≤ k) (h4 : k < 32) (g1 : 0 ≤ b) (g2 : b < 2147483648) (g3 : 0 ≤ j) (g4 : j < 32) : band (bor (bshr a k) (bshr b j)) 1 = bI (tb a k || tb b j) := by
  rw [bshr_n h1 h2 h3 h4, bshr_n g1 g2 g3 g4]
  have e1 := shr_le a.toNat k.toNat
  have e2 := shr_le b.toNat j.toNat
  rw [bor_n (Int.natCast_nonneg _) (by omega) (Int.natCast_nonneg _) (by omega)]
  have := Nat.or_lt_two_pow (x := a.toNat >>> k.toNat) (y := b.toNat >>> j.toNat) (n := 31) (by omega) (by omega)
  rw [band_n (Int.natCast_nonneg _) (by simp only [Int.toNat_natCast]; omega) (by omega) (by omega)]
  show ((((a.toNat >>> k.toNat) ||| (b.toNat >>> j.toNat)) &&& 1 : Nat) : Int) = _
  rw [and_1, Nat.testBit_or, Nat.testBit_shiftRight, Nat.testBit_shiftRight, Nat.add_zero, Nat.add_zero]; rfl
