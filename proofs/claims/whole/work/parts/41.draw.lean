/-! draws, bits counted, coughs kept -/
theorem c32_nI (x : Int) : Int32.ofInt x = nI ((x % 4294967296).toNat) := by
  apply Int32.toBitVec_inj.1
  show BitVec.ofInt 32 x = BitVec.ofNat 32 ((x % 4294967296).toNat)
  apply BitVec.eq_of_toNat_eq
  rw [BitVec.toNat_ofInt, BitVec.toNat_ofNat]
  have h1 := Int.emod_nonneg x (show (4294967296 : Int) ≠ 0 by omega)
  have h2 := Int.emod_lt_of_pos x (show (0 : Int) < 4294967296 by omega)
  show (x % 4294967296).toNat = (x % 4294967296).toNat % 4294967296
  omega
theorem band31 (x : Int) : band x 2147483647 = x % 2147483648 := by
  rw [band_eq, c32_nI, show Int32.ofInt 2147483647 = nI 2147483647 from rfl, nx_and]
  have e : (x % 4294967296).toNat &&& 2147483647 = (x % 4294967296).toNat % 2147483648 := Nat.and_two_pow_sub_one_eq_mod _ 31
  rw [e, nI_toInt (by omega)]
  omega
theorem w32_mod (y : Int) : w32 y % 2147483648 = y % 2147483648 := by
  rw [w32_eq, Int.bmod_def]
  split <;> omega
theorem w32_w (x y : Int) : (w32 x + y) % 2147483648 = (x + y) % 2147483648 := by
  have := w32_mod x
  omega
def dr (s : Int) : Int := (1103515245 * s + 12345) % 2147483648
theorem draw_eq (s : Int) : band (w32 (w32 (1103515245 * s) + 12345)) 2147483647 = dr s := by
  rw [band31, w32_mod, w32_w]; rfl
theorem dr_bd (s : Int) : 0 ≤ dr s ∧ dr s < 2147483648 := by unfold dr; omega
set_option maxRecDepth 100000 in
theorem s_drawC (d : Nat) (A : AH) : runF (d + 1) 145 [vR 20 40 0] A = some (some (vI (dr (gi A 40 14) / 64 % 100)), wi A 40 14 (dr (gi A 40 14))) := by
  have b := dr_bd (gi A 40 14)
  have e1 : (dr (gi A 40 14)).tdiv 64 = dr (gi A 40 14) / 64 := Int.tdiv_eq_ediv_of_nonneg b.1
  have e2 : (dr (gi A 40 14) / 64).tmod 100 = dr (gi A 40 14) / 64 % 100 := Int.tmod_eq_emod_of_nonneg (by omega)
  rw [r_X11_drawOfHundred, q_X11_drawOfHundred_0, draw_eq, q_X11_drawOfHundred_20]
  simp -implicitDefEqProofs (disch := omega) only [gi_wi, e1, e2, ↓reduceIte, Int.reduceEq, cI_v, cL_v, cV_v, cR_v, wid, wid64, if_pos, if_neg, Nat.add_zero, if_true, if_false, and_self, and_true, true_and, and_false, false_and, or_true, true_or, or_false, false_or]
set_option maxRecDepth 100000 in
theorem s_drawM (d : Nat) (A : AH) (h1 : 0 ≤ gi A 190 75) (h2 : gi A 190 75 < 2147483648) : runF (d + 1) 253 [vR 21 190 0, vI 100] A = some (some (vI (dr (gi A 190 75) / 64 % 100)), wi A 190 75 (dr (gi A 190 75))) := by
  have b := dr_bd (gi A 190 75)
  have e0 : (1103515245 * gi A 190 75 + 12345).tmod 2147483648 = dr (gi A 190 75) := Int.tmod_eq_emod_of_nonneg (by omega)
  have e1 : (dr (gi A 190 75)).tdiv 64 = dr (gi A 190 75) / 64 := Int.tdiv_eq_ediv_of_nonneg b.1
  have e2 : (dr (gi A 190 75) / 64).tmod 100 = dr (gi A 190 75) / 64 % 100 := Int.tmod_eq_emod_of_nonneg (by omega)
  rw [r_X12_drawOf, q_X12_drawOf_0, wid64 (x := 1103515245 * gi A 190 75) (by omega) (by omega), wid64 (x := 1103515245 * gi A 190 75 + 12345) (by omega) (by omega), e0, q_X12_drawOf_20]
  simp -implicitDefEqProofs (disch := omega) only [gi_wi, e1, e2, ↓reduceIte, Int.reduceEq, cI_v, cL_v, cV_v, cR_v, wid, wid64, if_pos, if_neg, Nat.add_zero, if_true, if_false, and_self, and_true, true_and, and_false, false_and, or_true, true_or, or_false, false_or]
def bcI (v : Int32) : Int32 :=
  let a := v - ((v.toUInt32 >>> ((1 : Int32).toUInt32 &&& Int32.toUInt32 31)).toInt32 &&& 1431655765)
  let b := (a &&& 858993459) + ((a.toUInt32 >>> ((2 : Int32).toUInt32 &&& Int32.toUInt32 31)).toInt32 &&& 858993459)
  let c := (b + (b.toUInt32 >>> ((4 : Int32).toUInt32 &&& Int32.toUInt32 31)).toInt32) &&& 252645135
  let e := c + (c.toUInt32 >>> ((8 : Int32).toUInt32 &&& Int32.toUInt32 31)).toInt32
  (e + (e.toUInt32 >>> ((16 : Int32).toUInt32 &&& Int32.toUInt32 31)).toInt32) &&& 63
def bcF (x : Int) : Int := sm (fun k => bI (tb x k)) 8 0
theorem bc_all : ∀ k : Fin 256, (bcI (nI k.val)).toInt = bcF (k.val : Int) := by decide +kernel
theorem c32_lit (x : Int) : c32 x = Int32.ofInt x := rfl
set_option maxRecDepth 100000 in
theorem s_bitCount (d : Nat) (x : Int) (A : AH) (h1 : 0 ≤ x) (h2 : x < 256) : runF (d + 1) 301 [vI x] A = some (some (vI (bcF x)), A) := by
  have key : bcF x = (bcI (c32 x)).toInt := by
    have := bc_all ⟨x.toNat, by omega⟩
    simp only at this
    rw [show ((x.toNat : Nat) : Int) = x by omega] at this
    rw [← this, c32_lit, c32_nI, show x % 4294967296 = x by omega]
  rw [r_J6_bitCount_0f7a4, q_J6_bitCount_0f7a4_0, q_J6_bitCount_0f7a4_34, key]
  congr 4
  have back : ∀ z, in32 z → (c32 z).toInt = z := fun z hz => c32_toInt hz
  rw [← back (band _ 63) (by rw [band_eq]; exact in32_of _)]
  congr 1
  unfold bcI
  simp only [c32_band, c32_add, c32_sub, c32_bushr]
  rfl
