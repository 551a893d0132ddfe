/-! the abstract machine: values (tag, number, address, length), heap (ints, refs, shapes) -/
abbrev AV : Type := Nat × Int × Nat × Nat
abbrev AH : Type := (Nat → Nat → Int) × (Nat → Nat → Nat) × List (Nat × Nat)
abbrev RS : Type := Option (Option AV × AH)
def gi (A : AH) (a k : Nat) : Int := A.1 a k
def gr (A : AH) (a k : Nat) : Nat := A.2.1 a k
def kd (A : AH) (a : Nat) : Nat := (A.2.2.getD a (99, 0)).1
def ln (A : AH) (a : Nat) : Nat := (A.2.2.getD a (99, 0)).2
def sz (A : AH) : Nat := A.2.2.length
def wi (A : AH) (a k : Nat) (v : Int) : AH := (fun b j => if b = a ∧ j = k then v else A.1 b j, A.2.1, A.2.2)
def wr (A : AH) (a k v : Nat) : AH := (A.1, fun b j => if b = a ∧ j = k then v else A.2.1 b j, A.2.2)
def nw (A : AH) (k n : Nat) : AH := (fun b j => if b = A.2.2.length then 0 else A.1 b j, fun b j => if b = A.2.2.length then 0 else A.2.1 b j, A.2.2 ++ [(k, n)])
def cpa (A : AH) (s sp d dp n : Nat) : AH := (fun b j => if b = d ∧ (dp ≤ j ∧ j < dp + n) then A.1 s (sp + (j - dp)) else A.1 b j, A.2.1, A.2.2)
theorem w32_ex (x : Int) : ∃ z : Int, z = Int.bmod x 4294967296 := ⟨_, rfl⟩
noncomputable def w32 (x : Int) : Int := Classical.choose (w32_ex x)
theorem w32_eq (x : Int) : w32 x = Int.bmod x 4294967296 := Classical.choose_spec (w32_ex x)
theorem w64_ex (x : Int) : ∃ z : Int, z = Int.bmod x 18446744073709551616 := ⟨_, rfl⟩
noncomputable def w64 (x : Int) : Int := Classical.choose (w64_ex x)
theorem w64_eq (x : Int) : w64 x = Int.bmod x 18446744073709551616 := Classical.choose_spec (w64_ex x)
theorem band_ex (a b : Int) : ∃ z : Int, z = (Int32.ofInt a &&& Int32.ofInt b).toInt := ⟨_, rfl⟩
noncomputable def band (a b : Int) : Int := Classical.choose (band_ex a b)
theorem band_eq (a b : Int) : band a b = (Int32.ofInt a &&& Int32.ofInt b).toInt := Classical.choose_spec (band_ex a b)
theorem bor_ex (a b : Int) : ∃ z : Int, z = (Int32.ofInt a ||| Int32.ofInt b).toInt := ⟨_, rfl⟩
noncomputable def bor (a b : Int) : Int := Classical.choose (bor_ex a b)
theorem bor_eq (a b : Int) : bor a b = (Int32.ofInt a ||| Int32.ofInt b).toInt := Classical.choose_spec (bor_ex a b)
theorem bxor_ex (a b : Int) : ∃ z : Int, z = (Int32.ofInt a ^^^ Int32.ofInt b).toInt := ⟨_, rfl⟩
noncomputable def bxor (a b : Int) : Int := Classical.choose (bxor_ex a b)
theorem bxor_eq (a b : Int) : bxor a b = (Int32.ofInt a ^^^ Int32.ofInt b).toInt := Classical.choose_spec (bxor_ex a b)
theorem bshl_ex (a b : Int) : ∃ z : Int, z = (Int32.ofInt a <<< (Int32.ofInt b &&& 31)).toInt := ⟨_, rfl⟩
noncomputable def bshl (a b : Int) : Int := Classical.choose (bshl_ex a b)
theorem bshl_eq (a b : Int) : bshl a b = (Int32.ofInt a <<< (Int32.ofInt b &&& 31)).toInt := Classical.choose_spec (bshl_ex a b)
theorem bshr_ex (a b : Int) : ∃ z : Int, z = (Int32.ofInt a >>> (Int32.ofInt b &&& 31)).toInt := ⟨_, rfl⟩
noncomputable def bshr (a b : Int) : Int := Classical.choose (bshr_ex a b)
theorem bshr_eq (a b : Int) : bshr a b = (Int32.ofInt a >>> (Int32.ofInt b &&& 31)).toInt := Classical.choose_spec (bshr_ex a b)
theorem bushr_ex (a b : Int) : ∃ z : Int, z = ((Int32.ofInt a).toUInt32 >>> ((Int32.ofInt b).toUInt32 &&& Int32.toUInt32 31)).toInt32.toInt := ⟨_, rfl⟩
noncomputable def bushr (a b : Int) : Int := Classical.choose (bushr_ex a b)
theorem bushr_eq (a b : Int) : bushr a b = ((Int32.ofInt a).toUInt32 >>> ((Int32.ofInt b).toUInt32 &&& Int32.toUInt32 31)).toInt32.toInt := Classical.choose_spec (bushr_ex a b)
def lcp (a b : Int) : Int := if a < b then -1 else if a = b then 0 else 1
def vI (x : Int) : AV := (0, x, 0, 0)
def vL (x : Int) : AV := (1, x, 0, 0)
def vR (t a n : Nat) : AV := (t, 0, a, n)
def vU : AV := (8, 0, 0, 0)
def vS : AV := (9, 0, 0, 0)
/-- an instruction as decoded, its length, what it resolves to (six numbers) -/
abbrev EI : Type := Instr × Nat × (Nat × Nat × Nat × Nat × Nat × Int)
def lget (ls : List AV) (k : Nat) : AV := ls.getD k vU
/-- a store at k: a long takes two places, the second one marked -/
def lset (ls : List AV) (k : Nat) (v : AV) : List AV := match v.1 with
  | 1 => (ls.set k v).set (k + 1) vS
  | _ => ls.set k v
def cat (v : AV) : Nat := match v.1 with
  | 1 => 2
  | _ => 1
def cats : List AV → Nat
  | [] => 0
  | v :: r => cat v + cats r
def wK : List Int := [115567641, 232608281, 160605774, 139834018, 94419351, 154733301, 266405166, 208906747, 24977727, 115720515, 237742020, 209047446, 275320701, 180574758, 198093357, 51407406, 332864532, 51436998, 203574708, 115720110, 24666552, 191610176, 212302449, 230483502, 224799543, 21867813, 209249973, 20962395, 191594322, 187539624, 31735670, 91245096, 173106882, 218819934, 295344468, 194895963, 174878163]
def wF : List Int := [(-1), (-1), 0, 1, (-1), (-1), (-1), (-1), (-1), (-1), (-1), 5, 6, (-1), (-1), (-1), (-1), (-1), 2, 3, 4, 7, 8, 9, (-1), (-1), (-1), (-1), (-1), (-1), (-1), (-1), (-1), (-1), (-1), (-1), (-1)]
def wO : List Int := [1, 1, 1, 1, 1, 1, 1, 1, 1, 1, 1, 1, 1, 1, 1, 1, 1, 1, 1, 1, 1, 1, 1, 1, 1, 1, 1, 1, 1, 1, 1, 0, 0, 0, 0, 0, 0]
def wN : List String := ["HALL", "PERSON", "KEEPS", "ITCHES", "FOR", "JUDGE", "ROGUE", "NOBODY", "AT", "HATES", "POINT", "NOISE", "SEAT", "LOUD", "MUTE", "COSTS", "WEIGH", "COUGH", "NEAR", "HATED", "ASKED", "MINUTE", "NUMBER", "PARTY", "OR", "AND", "NOT", "ALL", "MIN", "MAX", "BESIDE", "FIRST", "LAST", "OFTEN", "TOTAL", "MOST", "LEAST"]
/-- the constants of the enum: slot 0 key, 1 fact, 2 own; constant i at address i + 1 -/
def wdf (s a : Nat) : Int := match s with
  | 0 => wK.getD (a - 1) 0
  | 1 => wF.getD (a - 1) 0
  | _ => wO.getD (a - 1) 0
abbrev NX : Type := List AV → List AV → AH → RS
abbrev SX : Type := Nat → List AV → AH → RS
def cI (r : RS) (k : Int → AH → RS) : RS := match r with
  | some (some (0, x, _), A) => k x A
  | _ => none
def cL (r : RS) (k : Int → AH → RS) : RS := match r with
  | some (some (1, x, _), A) => k x A
  | _ => none
def cV (r : RS) (k : AH → RS) : RS := match r with
  | some (none, A) => k A
  | _ => none
def cR (t : Nat) (r : RS) (k : Nat → Nat → AH → RS) : RS := match r with
  | some (some (t', _, a, n), A) => match t' == t with
    | true => k a n A
    | false => none
  | _ => none
/-- behind a call that answers by q (0 int, 1 long, 3 void, else the tag of a reference) -/
def i_ret (q : Nat) (r : RS) (st : List AV) (nx : List AV → AH → RS) : RS := match q with
  | 0 => cI r (fun x A => nx (vI x :: st) A)
  | 1 => cL r (fun x A => nx (vL x :: st) A)
  | 3 => cV r (fun A => nx st A)
  | t => cR t r (fun a n A => nx (vR t a n :: st) A)
def i_ld (k : Nat) (ls st : List AV) (A : AH) (nx : NX) : RS := match (lget ls k).1 == 0 with
  | true => nx ls (lget ls k :: st) A
  | false => none
def i_ldl (k : Nat) (ls st : List AV) (A : AH) (nx : NX) : RS := match ((lget ls k).1 == 1) && ((lget ls (k + 1)).1 == 9) with
  | true => nx ls (lget ls k :: st) A
  | false => none
def i_lda (k : Nat) (ls st : List AV) (A : AH) (nx : NX) : RS := match Nat.ble 10 (lget ls k).1 with
  | true => nx ls (lget ls k :: st) A
  | false => none
def i_st (t k : Nat) (ls st : List AV) (A : AH) (nx : NX) : RS := match st with
  | v :: r => match (v.1 == t) && Nat.blt (k + t) ls.length with
    | true => nx (lset ls k v) r A
    | false => none
  | _ => none
def i_sta (k : Nat) (ls st : List AV) (A : AH) (nx : NX) : RS := match st with
  | v :: r => match Nat.ble 10 v.1 && Nat.blt k ls.length with
    | true => nx (lset ls k v) r A
    | false => none
  | _ => none
def i_b2 (g : Int → Int → Int) (ls st : List AV) (A : AH) (nx : NX) : RS := match st with
  | (0, y, _) :: (0, x, _) :: r => nx ls (vI (g x y) :: r) A
  | _ => none
def i_l2 (g : Int → Int → Int) (ls st : List AV) (A : AH) (nx : NX) : RS := match st with
  | (1, y, _) :: (1, x, _) :: r => nx ls (vL (g x y) :: r) A
  | _ => none
def i_b2z (g : Int → Int → Int) (ls st : List AV) (A : AH) (nx : NX) : RS := match st with
  | (0, y, _) :: (0, x, _) :: r => if y = 0 then none else nx ls (vI (g x y) :: r) A
  | _ => none
def i_l2z (g : Int → Int → Int) (ls st : List AV) (A : AH) (nx : NX) : RS := match st with
  | (1, y, _) :: (1, x, _) :: r => if y = 0 then none else nx ls (vL (g x y) :: r) A
  | _ => none
def cmpI (c : ClassFile.Cond) (x y : Int) (t e : RS) : RS := match c with
  | .eq => if x = y then t else e
  | .ne => if x = y then e else t
  | .lt => if x < y then t else e
  | .ge => if x < y then e else t
  | .gt => if y < x then t else e
  | .le => if y < x then e else t
def i_ic (c : ClassFile.Cond) (t : Nat) (ls st : List AV) (A : AH) (nx : NX) (jp : Nat → NX) : RS := match st with
  | (0, y, _) :: (0, x, _) :: r => cmpI c x y (jp t ls r A) (nx ls r A)
  | _ => none
def i_if (c : ClassFile.Cond) (t : Nat) (ls st : List AV) (A : AH) (nx : NX) (jp : Nat → NX) : RS := match st with
  | (0, x, _) :: r => cmpI c x 0 (jp t ls r A) (nx ls r A)
  | _ => none
def i_ac (c : Bool) (t : Nat) (ls st : List AV) (A : AH) (nx : NX) (jp : Nat → NX) : RS := match st with
  | (22, _, y, _) :: (22, _, x, _) :: r => match c with
    | true => if x = y then jp t ls r A else nx ls r A
    | false => if x = y then nx ls r A else jp t ls r A
  | _ => none
def i_nl (c : Bool) (t : Nat) (ls st : List AV) (A : AH) (nx : NX) (jp : Nat → NX) : RS := match st with
  | (kx, _, x, _) :: r => match Nat.ble 10 kx with
    | true => match c with
      | true => if x = 0 then jp t ls r A else nx ls r A
      | false => if x = 0 then nx ls r A else jp t ls r A
    | false => none
  | _ => none
def tgt (pc : Nat) (off : Int) : Nat := ((pc : Int) + off).toNat
def i_swt (pc : Nat) (x : Int) (ls r : List AV) (A : AH) (d : Int) (jp : Nat → NX) : Int → List Int → RS
  | _, [] => jp (tgt pc d) ls r A
  | lo, o :: os => if x = lo then jp (tgt pc o) ls r A else i_swt pc x ls r A d jp (lo + 1) os
def lab (ab : Int) (o a : Nat) : Nat := match ab with
  | 1 => o
  | _ => a + o
/-- fields: kind k, slot s, tag t (0 int, 1 long, 2 boolean, 10 + kind), laid: o (0: read it), its length n, ab 1: o is the address, 0: o is behind the object's -/
def i_gf (f : Bool) (k s t o n : Nat) (ab : Int) (ls st : List AV) (A : AH) (nx : NX) : RS := match st with
  | (kx, _, a, _) :: r => match kx == 10 + k with
    | true => if a = 0 then none else match k with
      | 12 => nx ls (vI (wdf s a) :: r) A
      | _ => match t with
        | 0 => nx ls (vI (gi A a s) :: r) A
        | 1 => nx ls (vL (gi A a s) :: r) A
        | 2 => nx ls (vI (gi A a s) :: r) A
        | t' => match f && (o != 0) with
          | true => nx ls (vR t' (lab ab o a) n :: r) A
          | false => nx ls (vR t' (gr A a s) (match Nat.ble 30 t' with | true => ln A (gr A a s) | false => 0) :: r) A
    | false => none
  | _ => none
def i_pf (f : Bool) (k s t o : Nat) (ls st : List AV) (A : AH) (nx : NX) : RS := match st with
  | (kv, x, v, _) :: (kx, _, a, _) :: r => match (kx == 10 + k) && (!f || o == 0) with
    | true => if a = 0 then none else match t with
      | 0 => match kv with
        | 0 => nx ls r (wi A a s x)
        | _ => none
      | 1 => match kv with
        | 1 => nx ls r (wi A a s x)
        | _ => none
      | 2 => match kv with
        | 0 => if x = 0 ∨ x = 1 then nx ls r (wi A a s x) else none
        | _ => none
      | t' => match kv == t' with
        | true => nx ls r (wr A a s v)
        | false => none
    | false => none
  | _ => none
def i_al (ks : Nat → Bool) (ls st : List AV) (A : AH) (nx : NX) (g : Nat → Nat → AV) : RS := match st with
  | (0, i, _) :: (kx, _, a, n) :: r => match ks kx with
    | true => if a = 0 then none else if 0 ≤ i ∧ i < (n : Int) then nx ls (g a i.toNat :: r) A else none
    | false => none
  | _ => none
def i_as (kv kx : Nat) (ls st : List AV) (A : AH) (nx : NX) : RS := match st with
  | (kw, x, _) :: (0, i, _) :: (ky, _, a, n) :: r => match (kw == kv) && (ky == kx) with
    | true => if a = 0 then none else if 0 ≤ i ∧ i < (n : Int) then nx ls r (wi A a i.toNat x) else none
    | false => none
  | _ => none
def i_aas (ls st : List AV) (A : AH) (nx : NX) : RS := match st with
  | (19, _, v, _) :: (0, i, _) :: (33, _, a, n) :: r => if a = 0 ∨ v = 0 then none else if 0 ≤ i ∧ i < (n : Int) then nx ls r (wr A a i.toNat v) else none
  | _ => none
def i_cp (ls st : List AV) (A : AH) (nx : NX) : RS := match st with
  | (0, n, _) :: (0, dp, _) :: (30, _, d, nd) :: (0, sp, _) :: (30, _, s, ns) :: r => match Nat.ble (cats r) 8 with
    | true => if s = 0 ∨ d = 0 ∨ s = d then none else if (0 ≤ sp ∧ 0 ≤ dp ∧ 0 ≤ n) ∧ sp + n ≤ (ns : Int) ∧ dp + n ≤ (nd : Int) then nx ls r (cpa A s sp.toNat d dp.toNat n.toNat) else none
    | false => none
  | _ => none
def i_na (f : Bool) (k : Nat) (ls st : List AV) (A : AH) (nx : NX) : RS := match st with
  | (0, n, _) :: r => if 0 ≤ n ∧ n ≤ 1000000 then nx ls (vR (10 + k) (sz A) n.toNat :: r) (nw A k n.toNat) else none
  | _ => none
def i_call (vt : Bool) (k mi n q : Nat) (S : SX) (ls st : List AV) (A : AH) (nx : NX) : RS :=
  match Nat.ble n st.length && Nat.ble (cats (st.drop n)) 8 && (!vt || (lget st (n - 1)).1 == 10 + k) with
  | true => match vt with
    | true => if (lget st (n - 1)).2.2.1 = 0 then none else i_ret q (S mi (st.take n).reverse A) (st.drop n) (nx ls)
    | false => i_ret q (S mi (st.take n).reverse A) (st.drop n) (nx ls)
  | false => none
/-- one instruction. rz: the method's answer (0 int, 1 long, 2 boolean, 3 void, 10 + kind). SN: how a new object is made ready by its own code -/
noncomputable def ins (f : Bool) (rz : Nat) (S SN : SX) (e : EI) (pc : Nat) (ls st : List AV) (A : AH) (nx : NX) (jp : Nat → NX) : RS :=
  match e with
  | (.aload k, _, _) => i_lda k ls st A nx
  | (.aload_n k, _, _) => i_lda k.val ls st A nx
  | (.iload k, _, _) => i_ld k ls st A nx
  | (.iload_n k, _, _) => i_ld k.val ls st A nx
  | (.lload k, _, _) => i_ldl k ls st A nx
  | (.lload_n k, _, _) => i_ldl k.val ls st A nx
  | (.astore k, _, _) => i_sta k ls st A nx
  | (.astore_n k, _, _) => i_sta k.val ls st A nx
  | (.istore k, _, _) => i_st 0 k ls st A nx
  | (.istore_n k, _, _) => i_st 0 k.val ls st A nx
  | (.lstore k, _, _) => i_st 1 k ls st A nx
  | (.lstore_n k, _, _) => i_st 1 k.val ls st A nx
  | (.iconst z, _, _) => nx ls (vI z :: st) A
  | (.bipush z, _, _) => nx ls (vI z :: st) A
  | (.sipush z, _, _) => nx ls (vI z :: st) A
  | (.lconst z, _, _) => nx ls (vL ((z.val : Nat) : Int) :: st) A
  | (.ldc _, _, _, _, _, _, _, z) => nx ls (vI z :: st) A
  | (.ldc_w _, _, _, _, _, _, _, z) => nx ls (vI z :: st) A
  | (.ldc2_w _, _, _, _, _, _, _, z) => nx ls (vL z :: st) A
  | (.aconst_null, _, k, _) => nx ls (vR (10 + k) 0 0 :: st) A
  | (.iinc k z, _, _) => match ((lget ls k).1 == 0) && Nat.blt k ls.length with
    | true => nx (lset ls k (vI (w32 ((lget ls k).2.1 + z)))) st A
    | false => none
  | (.iadd, _, _) => i_b2 (fun x y => w32 (x + y)) ls st A nx
  | (.isub, _, _) => i_b2 (fun x y => w32 (x - y)) ls st A nx
  | (.imul, _, _) => i_b2 (fun x y => w32 (x * y)) ls st A nx
  | (.iand, _, _) => i_b2 band ls st A nx
  | (.ior, _, _) => i_b2 bor ls st A nx
  | (.ixor, _, _) => i_b2 bxor ls st A nx
  | (.ishl, _, _) => i_b2 bshl ls st A nx
  | (.ishr, _, _) => i_b2 bshr ls st A nx
  | (.iushr, _, _) => i_b2 bushr ls st A nx
  | (.idiv, _, _) => i_b2z (fun x y => w32 (x.tdiv y)) ls st A nx
  | (.irem, _, _) => i_b2z (fun x y => x.tmod y) ls st A nx
  | (.ladd, _, _) => i_l2 (fun x y => w64 (x + y)) ls st A nx
  | (.lsub, _, _) => i_l2 (fun x y => w64 (x - y)) ls st A nx
  | (.lmul, _, _) => i_l2 (fun x y => w64 (x * y)) ls st A nx
  | (.ldiv, _, _) => i_l2z (fun x y => w64 (x.tdiv y)) ls st A nx
  | (.lrem, _, _) => i_l2z (fun x y => x.tmod y) ls st A nx
  | (.ineg, _, _) => match st with
    | (0, x, _) :: r => nx ls (vI (w32 (-x)) :: r) A
    | _ => none
  | (.lneg, _, _) => match st with
    | (1, x, _) :: r => nx ls (vL (w64 (-x)) :: r) A
    | _ => none
  | (.i2l, _, _) => match st with
    | (0, x, _) :: r => nx ls (vL x :: r) A
    | _ => none
  | (.l2i, _, _) => match st with
    | (1, x, _) :: r => nx ls (vI (w32 x) :: r) A
    | _ => none
  | (.lcmp, _, _) => match st with
    | (1, y, _) :: (1, x, _) :: r => nx ls (vI (lcp x y) :: r) A
    | _ => none
  | (.dup, _, _) => match st with
    | v :: r => match cat v with
      | 1 => nx ls (v :: v :: r) A
      | _ => none
    | _ => none
  | (.dup2, _, _) => match st with
    | v :: w :: r => match cat v + cat w with
      | 2 => nx ls (v :: w :: v :: w :: r) A
      | _ => none
    | _ => none
  | (.pop, _, _) => match st with
    | v :: r => match cat v with
      | 1 => nx ls r A
      | _ => none
    | _ => none
  | (.if_icmp c _, _, t, _) => i_ic c t ls st A nx jp
  | (.ifCond c _, _, t, _) => i_if c t ls st A nx jp
  | (.if_acmp .eq _, _, t, _) => i_ac true t ls st A nx jp
  | (.if_acmp .ne _, _, t, _) => i_ac false t ls st A nx jp
  | (.ifnull _, _, t, _) => i_nl true t ls st A nx jp
  | (.ifnonnull _, _, t, _) => i_nl false t ls st A nx jp
  | (.goto _, _, t, _) => jp t ls st A
  | (.tableswitch d lo _ os, _, _) => match st with
    | (0, x, _) :: r => i_swt pc x ls r A d jp lo os.toList
    | _ => none
  | (.lookupswitch d ps, _, _) => match st with
    | (0, _, _) :: r => match ps.toList with
      | [] => jp (tgt pc d) ls r A
      | _ => none
    | _ => none
  | (.getfield _, _, k, s, t, o, n, ab) => i_gf f k s t o n ab ls st A nx
  | (.putfield _, _, k, s, t, o, _) => i_pf f k s t o ls st A nx
  | (.getstatic _, _, t, a, n, _) => nx ls (vR (10 + t) a n :: st) A
  | (.iaload, _, _) => i_al (fun k => (k == 30) || (k == 35)) ls st A nx (fun a i => vI (gi A a i))
  | (.laload, _, _) => i_al (fun k => k == 31) ls st A nx (fun a i => vL (gi A a i))
  | (.caload, _, _) => i_al (fun k => k == 32) ls st A nx (fun a i => vI (gi A a i))
  | (.aaload, _, 0, _) => i_al (fun k => k == 33) ls st A nx (fun a i => vR 19 (gr A a i) 0)
  | (.aaload, _, _ + 1, _) => i_al (fun k => k == 34) ls st A nx (fun _ i => vR 22 (i + 1) 0)
  | (.iastore, _, _) => i_as 0 30 ls st A nx
  | (.lastore, _, _) => i_as 1 31 ls st A nx
  | (.castore, _, _) => match st with
    | (_, x, _) :: _ => if 0 ≤ x ∧ x < 65536 then i_as 0 32 ls st A nx else none
    | _ => none
  | (.aastore, _, _) => i_aas ls st A nx
  | (.arraylength, _, _) => match st with
    | (k, _, a, n) :: r => match Nat.ble 30 k with
      | true => if a = 0 then none else nx ls (vI (n : Int) :: r) A
      | false => none
    | _ => none
  | (.newarray .int, _, _) => i_na f 20 ls st A nx
  | (.newarray .long, _, _) => i_na f 21 ls st A nx
  | (.newarray .char, _, _) => i_na f 22 ls st A nx
  | (.anewarray _, _, _) => i_na f 23 ls st A nx
  | (.new _, _, k, n, mi, _) => match mi with
    | 0 => match f with
      | false => nx ls (vR (10 + k) (sz A) 0 :: st) (nw A k n)
      | true => none
    | mj + 1 => match Nat.ble (cats st) 7 with
      | true => cV (SN mj [vR (10 + k) (sz A) 0] (nw A k n)) (fun A' => nx ls (vR (10 + k) (sz A) 0 :: st) A')
      | false => none
  | (.invokevirtual _, _, mi, n, k, _, q, _) => i_call true k mi n q S ls st A nx
  | (.invokespecial _, _, mi, n, k, t, q, _) => match t with
    | 9 => match st with
      | v :: r => match Nat.ble 10 v.1 && Nat.ble (cats r) 8 with
        | true => if v.2.2.1 = 0 then none else nx ls r A
        | false => none
      | _ => none
    | _ => i_call true k mi n q S ls st A nx
  | (.invokestatic _, _, mi, n, k, t, q, _) => match t with
    | 8 => i_cp ls st A nx
    | _ => i_call false k mi n q S ls st A nx
  | (.ireturn, _, _) => match st with
    | [(0, x, _)] => match rz with
      | 0 => some (some (vI x), A)
      | 2 => if x = 0 ∨ x = 1 then some (some (vI x), A) else none
      | _ => none
    | _ => none
  | (.lreturn, _, _) => match st with
    | [(1, x, _)] => match rz with
      | 1 => some (some (vL x), A)
      | _ => none
    | _ => none
  | (.areturn, _, _) => match st with
    | [v] => match Nat.ble 10 rz && (v.1 == rz) with
      | true => some (some v, A)
      | false => none
    | _ => none
  | (.return_, _, _) => match st with
    | [] => match rz with
      | 3 => some (none, A)
      | _ => none
    | _ => none
  | _ => none
/-- a stretch of instructions; where it ends, or at a jump, the stretch that begins there -/
noncomputable def blk (f : Bool) (rz : Nat) (S SN : SX) (jp : Nat → NX) : List EI → Nat → List AV → List AV → AH → RS
  | [], pc, ls, st, A => jp pc ls st A
  | e :: es, pc, ls, st, A => ins f rz S SN e pc ls st A (fun ls st A => blk f rz S SN jp es (pc + e.2.1) ls st A) jp
/-- the stretch that begins at pc -/
def look (bs : List (Nat × List EI)) (pc : Nat) : List EI := match bs with
  | [] => []
  | q :: r => match Nat.beq q.1 pc with
    | true => q.2
    | false => look r pc
noncomputable def go (f : Bool) (rz : Nat) (S SN : SX) (bs : List (Nat × List EI)) : Nat → Nat → List AV → List AV → AH → RS
  | 0, _, _, _, _ => none
  | n + 1, pc, ls, st, A => match look bs pc with
    | [] => none
    | e :: es => blk f rz S SN (go f rz S SN bs n) (e :: es) pc ls st A
def enter : List AV → List AV
  | [] => []
  | v :: r => match v.1 with
    | 1 => v :: vS :: enter r
    | _ => v :: enter r
def padU (n : Nat) (l : List AV) : List AV := l ++ List.replicate (n - l.length) vU
def e0 (i : Instr) (n : Nat) : EI := (i, n, 0, 0, 0, 0, 0, 0)
def e1 (i : Instr) (n t : Nat) : EI := (i, n, t, 0, 0, 0, 0, 0)
