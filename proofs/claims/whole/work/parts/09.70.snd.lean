/-! what of the tables each instruction wants -/
def ilen (i : Instr) : Nat := match i with
  | .aload _ | .iload _ | .lload _ | .astore _ | .istore _ | .lstore _ | .bipush _ | .ldc _ | .newarray _ => 2
  | .checkcast _ | .iinc _ _ | .sipush _ | .ldc_w _ | .ldc2_w _ | .if_icmp _ _ | .ifCond _ _ | .if_acmp _ _ | .ifnull _ | .ifnonnull _ | .goto _ | .getfield _ | .putfield _ | .getstatic _ | .new _ | .anewarray _ | .invokevirtual _ | .invokespecial _ | .invokestatic _ => 3
  | _ => 1
def rq (z : Nat) : Nat := match z with
  | 2 => 0
  | z => z
def dcd (cc : ByteArray) (pc : Nat) (i : Instr) (n : Nat) : Bool := decide (decode cc pc = .ok (i, n))
theorem dcd_of {cc : ByteArray} {pc n : Nat} {i : Instr} (h : dcd cc pc i n = true) : decode cc pc = .ok (i, n) := of_decide_eq_true h
/-- own: the class's number; ini: it is a constructor -/
def okI (own : Nat) (ini : Bool) (cc : ByteArray) (pc : Nat) (e : EI) : Bool := match e with
  | (.bipush z, n, _) => dcd cc pc (.bipush z) n && n == 2 && decide (-128 ≤ z) && decide (z ≤ 127)
  | (.sipush z, n, _) => dcd cc pc (.sipush z) n && n == 3 && decide (-32768 ≤ z) && decide (z ≤ 32767)
  | (.iconst z, n, _) => dcd cc pc (.iconst z) n && n == 1 && decide (-128 ≤ z) && decide (z ≤ 127)
  | (.ldc i, n, _, _, _, _, _, z) => dcd cc pc (.ldc i) n && n == 2 && ktT.contains (own, i, z) && decide (-2147483648 ≤ z) && decide (z < 2147483648)
  | (.ldc_w i, n, _, _, _, _, _, z) => dcd cc pc (.ldc_w i) n && n == 3 && ktT.contains (own, i, z) && decide (-2147483648 ≤ z) && decide (z < 2147483648)
  | (.ldc2_w i, n, _, _, _, _, _, z) => dcd cc pc (.ldc2_w i) n && n == 3 && k2T.contains (own, i, z) && decide (-9223372036854775808 ≤ z) && decide (z < 9223372036854775808)
  | (.if_icmp c o, n, t, _) => dcd cc pc (.if_icmp c o) n && n == 3 && decide ((pc : Int) + o = (t : Int))
  | (.ifCond c o, n, t, _) => dcd cc pc (.ifCond c o) n && n == 3 && decide ((pc : Int) + o = (t : Int))
  | (.if_acmp c o, n, t, _) => dcd cc pc (.if_acmp c o) n && n == 3 && decide ((pc : Int) + o = (t : Int))
  | (.ifnull o, n, t, _) => dcd cc pc (.ifnull o) n && n == 3 && decide ((pc : Int) + o = (t : Int))
  | (.ifnonnull o, n, t, _) => dcd cc pc (.ifnonnull o) n && n == 3 && decide ((pc : Int) + o = (t : Int))
  | (.goto o, n, t, _) => dcd cc pc (.goto o) n && n == 3 && decide ((pc : Int) + o = (t : Int))
  | (.tableswitch d lo hi os, n, _) => dcd cc pc (.tableswitch d lo hi os) n && decide (hi + 1 = lo + os.toList.length) && decide (0 ≤ (pc : Int) + d) && os.toList.all (fun o => decide (0 ≤ (pc : Int) + o))
  | (.lookupswitch d ps, n, _) => dcd cc pc (.lookupswitch d ps) n && decide (0 ≤ (pc : Int) + d)
  | (.getfield i, n, k, j, t, o, nn, ab) => dcd cc pc (.getfield i) n && n == 3 && has4 ftT own i k j && ((k == 12 && Nat.blt j 3) || (Nat.blt k 12 && Nat.blt j (nf k) && fty k j == t)) && ((lyo k j).1 == o && (o == 0 || ((lyo k j).2.1 == nn && decide (((lyo k j).2.2 : Int) = ab))))
  | (.putfield i, n, k, j, t, o, _) => (lyo k j).1 == o && dcd cc pc (.putfield i) n && n == 3 && has4 ftT own i k j && Nat.blt k 12 && Nat.blt j (nf k) && fty k j == t && (!((vwc k).2.1 j).2.2.2 || (ini && own == k))
  | (.getstatic i, n, t, a, m, _) => dcd cc pc (.getstatic i) n && n == 3 && ((t == 12 && Nat.ble 1 a && Nat.ble a 37 && m == 0 && has4 ftT own i 12 (a + 2)) || (t == 24 && a == 38 && m == 37 && has4 ftT own i 13 0))
  | (.new i, n, k, m, mi, x, _) => Nat.blt k 12 && m == nf k && has3 ctT own i k && has2 isT k (nf k) && has1 inT k && dcd cc pc (.new i) 3 && (match mi with
    | 0 => n == 3
    | mj + 1 => n == 7 && dcd cc (pc + 3) .dup 1 && dcd cc (pc + 4) (.invokespecial x) 3 && (cOK own x mj 0 true || cOK own x mj 0 false) && has1 imT mj && has1 iniT mj && decide (rtt mj = none))
  | (.anewarray i, n, _) => dcd cc pc (.anewarray i) n && n == 3 && has3 ctT own i 9
  | (.invokevirtual i, n, mi, m, k, _, q, _) => dcd cc pc (.invokevirtual i) n && n == 3 && (k == 89 || (Nat.blt k 12 && Nat.ble 1 m && cOK own i mi (m - 1) false && has1 imT mi && (has2 seT mi mi || has1 pvT mi) && (owc mi == k) && q == rq (rzs mi)))
  | (.invokespecial i, n, mi, m, k, fl, q, _) => dcd cc pc (.invokespecial i) n && n == 3 && (match fl with
    | 9 => has3 mtT own i 309
    | fl => Nat.blt k 12 && Nat.ble 1 m && cOK own i mi (m - 1) (fl == 1) && has1 imT mi && has1 iniT mi && decide (rtt mi = none) && q == 3)
  | (.invokestatic i, n, mi, m, _, fl, q, _) => dcd cc pc (.invokestatic i) n && n == 3 && (match fl with
    | 8 => has3 mtT own i 310
    | fl => cOK own i mi m (fl == 1) && has1 stT mi && q == rq (rzs mi))
  | (.aconst_null, n, _) => dcd cc pc .aconst_null n && n == 1
  | (i, n, _) => dcd cc pc i n && n == ilen i
theorem nar8 {z : Int} (h1 : -128 ≤ z) (h2 : z ≤ 127) : (Int8.ofInt z).toInt32 = c32 z := e32 (by
  rw [Int8.toInt_toInt32, Int8.toInt_ofInt, c32_toInt (by unfold in32; omega)]
  show Int.bmod z 256 = z
  exact Int.bmod_eq_of_le (by omega) (by omega))
theorem nar16 {z : Int} (h1 : -32768 ≤ z) (h2 : z ≤ 32767) : (Int16.ofInt z).toInt32 = c32 z := e32 (by
  rw [Int16.toInt_toInt32, Int16.toInt_ofInt, c32_toInt (by unfold in32; omega)]
  show Int.bmod z 65536 = z
  exact Int.bmod_eq_of_le (by omega) (by omega))
section SND7
variable {p : Program} {l : Launch} {e : Env} {R : Room} {s : State} {m : MethodId} {args : Array Value} {below : List Frame} {meth : Method} {c : Code} {Q : State → Prop}
variable {f : Bool} {D : va_G} {Z : CI4} {base L z0 u0 nL own : Nat} {xs : Nat → Int32} {adS adE : Nat → Nat} {cc : ByteArray} {pc : Nat} {ls st : List AV} {A : AH}
theorem getd {n n' : Nat} {i : Instr} (h : (dcd cc pc i n && n == n') = true) : decode cc pc = .ok (i, n') ∧ n = n' := by
  rw [Bool.and_eq_true, beq_iff_eq] at h
  obtain ⟨h1, h2⟩ := h
  subst h2
  exact ⟨dcd_of h1, rfl⟩
theorem s_gets {i a n : Nat} {v : Value} {t : Nat} {C0 nm ds : String} (C : CTX p R s m args c D Z base L xs adS nL own cc) (hdg : decode cc pc = .ok (.getstatic i, 3)) (hlk : (Cond.fieldLink (cnm own) i C0 nm ds).before args s = true) (hZ : va_Z C0 nm ds v (fun q => base ≤ q) s s.heap) (hv : ∀ ad, (∀ i, i < 40 → ad i = adS i) → cv ad (vR t a n) = v) (hok : okv L A (vR t a n)) (kk : Wok f p l e R s m args below meth c Q D Z base L xs adS adE z0 u0 nL (pc + 3) ls (vR t a n :: st) A) : Wok f p l e R s m args below meth c Q D Z base L xs adS adE z0 u0 nL pc ls st A := by
  intro ad H locs cells slots lsM hI hL ho hs
  have h := kk ad H locs cells slots lsM hI hL ho (okv_cons hok hs)
  rw [List.map_cons, hv ad hI.2.2.2.2.1] at h
  exact va_gets C.1 C.2.1 hZ hI.2.2.1 C.2.2.2.1 hlk (fun _ h9 => h9) hdg h
theorem s_obj {i t a n : Nat} {z : Int} (C : CTX p R s m args c D Z base L xs adS nL own cc) (hdg : decode cc pc = .ok (.invokespecial i, 3)) (hl : (own, i, 309) ∈ mtT) (ht : 10 ≤ t) (ha : a ≠ 0) (hc : cats st ≤ 8) (kk : Wok f p l e R s m args below meth c Q D Z base L xs adS adE z0 u0 nL (pc + 3) ls st A) : Wok f p l e R s m args below meth c Q D Z base L xs adS adE z0 u0 nL pc ls ((t, z, a, n) :: st) A := by
  intro ad H locs cells slots lsM hI hL ho hs
  have h := kk ad H locs cells slots lsM hI hL ho (okv_tail hs)
  have hst : ((t, z, a, n) :: st).map (cv ad) = .ref (ad a) :: st.map (cv ad) := by
    rw [List.map_cons, cv_r (v := (t, z, a, n)) (show 2 ≤ t by omega), rfv_n (show (t, z, a, n).2.2.1 ≠ 0 from ha)]
  rw [hst]
  have e0 : Lib.objectInit = ynm 309 := by decide +kernel
  have w1 := C.2.2.2.2.1 _ (ml_in hl)
  have w2 := C.2.2.2.2.1 _ (im_in (y := 309) (by decide +kernel))
  have w3 := C.2.2.2.2.1 _ (co_in (y := 309) (by decide +kernel))
  rw [← e0] at w1 w2 w3
  refine W.objInit C.1 C.2.1 C.2.2.2.1 w1 w2 w3 rfl (by rw [C.2.2.1]; exact hL.2.1) rfl hdg C.2.2.2.2.2.2.2.1 ?_ h
  have h60 := C.2.2.2.2.2.2.2.2
  show 2 * 0 + ((st.map (cv ad)).map fun v => v.category).sum + 12 ≤ R.locals
  rw [cats_eq]; omega
end SND7
