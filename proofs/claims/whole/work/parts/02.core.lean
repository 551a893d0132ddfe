/-! the abstract machine: values (tag, number, address, length), heap (ints, refs, shapes) -/
abbrev AV : Type := Nat × Int × Nat × Nat
abbrev AH : Type := (Nat → Nat → Int) × (Nat → Nat → Nat) × List (Nat × Nat)
def gi (A : AH) (a k : Nat) : Int := A.1 a k
def gr (A : AH) (a k : Nat) : Nat := A.2.1 a k
def kd (A : AH) (a : Nat) : Nat := (A.2.2.getD a (99, 0)).1
def ln (A : AH) (a : Nat) : Nat := (A.2.2.getD a (99, 0)).2
def sz (A : AH) : Nat := A.2.2.length
def wi (A : AH) (a k : Nat) (v : Int) : AH := (fun b j => if b = a ∧ j = k then v else A.1 b j, A.2.1, A.2.2)
def wr (A : AH) (a k v : Nat) : AH := (A.1, fun b j => if b = a ∧ j = k then v else A.2.1 b j, A.2.2)
def nw (A : AH) (k n : Nat) : AH := (fun b j => if b = A.2.2.length then 0 else A.1 b j, fun b j => if b = A.2.2.length then 0 else A.2.1 b j, A.2.2 ++ [(k, n)])
def cpa (A : AH) (s sp d dp n : Nat) : AH := (fun b j => if b = d ∧ (dp ≤ j ∧ j < dp + n) then A.1 s (sp + (j - dp)) else A.1 b j, A.2.1, A.2.2)
def w32 (x : Int) : Int := Int.bmod x 4294967296
def w64 (x : Int) : Int := Int.bmod x 18446744073709551616
def band (a b : Int) : Int := (Int32.ofInt a &&& Int32.ofInt b).toInt
def bor (a b : Int) : Int := (Int32.ofInt a ||| Int32.ofInt b).toInt
def bxor (a b : Int) : Int := (Int32.ofInt a ^^^ Int32.ofInt b).toInt
def bshl (a b : Int) : Int := (Int32.ofInt a <<< (Int32.ofInt b &&& 31)).toInt
def bshr (a b : Int) : Int := (Int32.ofInt a >>> (Int32.ofInt b &&& 31)).toInt
def bushr (a b : Int) : Int := ((Int32.ofInt a).toUInt32 >>> ((Int32.ofInt b).toUInt32 &&& Int32.toUInt32 31)).toInt32.toInt
def lcp (a b : Int) : Int := if a < b then -1 else if a = b then 0 else 1
def vI (x : Int) : AV := (0, x, 0, 0)
def vL (x : Int) : AV := (1, x, 0, 0)
def vR (k a n : Nat) : AV := (10 + k, 0, a, n)
abbrev vU : AV := (8, 0, 0, 0)
/-- an instruction as decoded, its length, what it resolves to -/
abbrev EI : Type := Instr × Nat × (Nat × Nat × Nat × Nat × Nat × Int)
def lget (ls : List AV) (k : Nat) : AV := ls.getD k vU
/-- a store at k, as the machine's slots do it -/
def lset (ls : List AV) (k : Nat) (v : AV) : List AV :=
  match v.1 with
  | 1 => ((if (ls.getD (k - 1) vU).1 = 1 ∧ 1 ≤ k then ls.set (k - 1) vU else ls).set k v).set (k + 1) vU
  | _ => (if (ls.getD (k - 1) vU).1 = 1 ∧ 1 ≤ k then ls.set (k - 1) vU else ls).set k v
def cat (v : AV) : Nat := match v.1 with | 1 => 2 | _ => 1
def cats (st : List AV) : Nat := (st.map cat).sum
/-- the constants of the enum: slot 0 key, 1 fact, 2 own; constant i at address i + 1 -/
def wK : List Int := [115567641, 232608281, 160605774, 139834018, 94419351, 154733301, 266405166, 208906747, 24977727, 115720515, 237742020, 209047446, 275320701, 180574758, 198093357, 51407406, 332864532, 51436998, 203574708, 115720110, 24666552, 191610176, 212302449, 230483502, 224799543, 21867813, 209249973, 20962395, 191594322, 187539624, 31735670, 91245096, 173106882, 218819934, 295344468, 194895963, 174878163]
def wF : List Int := [(-1), (-1), 0, 1, (-1), (-1), (-1), (-1), (-1), (-1), (-1), 5, 6, (-1), (-1), (-1), (-1), (-1), 2, 3, 4, 7, 8, 9, (-1), (-1), (-1), (-1), (-1), (-1), (-1), (-1), (-1), (-1), (-1), (-1), (-1)]
def wO : List Int := [1, 1, 1, 1, 1, 1, 1, 1, 1, 1, 1, 1, 1, 1, 1, 1, 1, 1, 1, 1, 1, 1, 1, 1, 1, 1, 1, 1, 1, 1, 1, 0, 0, 0, 0, 0, 0]
def wN : List String := ["HALL", "PERSON", "KEEPS", "ITCHES", "FOR", "JUDGE", "ROGUE", "NOBODY", "AT", "HATES", "POINT", "NOISE", "SEAT", "LOUD", "MUTE", "COSTS", "WEIGH", "COUGH", "NEAR", "HATED", "ASKED", "MINUTE", "NUMBER", "PARTY", "OR", "AND", "NOT", "ALL", "MIN", "MAX", "BESIDE", "FIRST", "LAST", "OFTEN", "TOTAL", "MOST", "LEAST"]
def wdf (s a : Nat) : Int := match s with
  | 0 => wK.getD (a - 1) 0
  | 1 => wF.getD (a - 1) 0
  | _ => wO.getD (a - 1) 0
/-- what stands from pc t on -/
def sfx : List EI → Nat → Nat → List EI
  | [], _, _ => []
  | e :: es, pc, t => if pc = t then e :: es else sfx es (pc + e.2.1) t
section INS
variable {X : Type}
abbrev NX (X : Type) : Type := List AV → List AV → AH → Option (X × AH)
abbrev CX (X : Type) : Type := Nat → List AV → AH → (Option AV → AH → Option (X × AH)) → Option (X × AH)
def i_ld (t k : Nat) (ls st : List AV) (A : AH) (nx : NX X) : Option (X × AH) := if (lget ls k).1 = t then nx ls (lget ls k :: st) A else none
def i_lda (k : Nat) (ls st : List AV) (A : AH) (nx : NX X) : Option (X × AH) := if 10 ≤ (lget ls k).1 then nx ls (lget ls k :: st) A else none
def i_st (t k : Nat) (ls st : List AV) (A : AH) (nx : NX X) : Option (X × AH) := match st with
  | v :: r => if v.1 = t ∧ k + t < ls.length then nx (lset ls k v) r A else none
  | _ => none
def i_sta (k : Nat) (ls st : List AV) (A : AH) (nx : NX X) : Option (X × AH) := match st with
  | v :: r => if 10 ≤ v.1 ∧ k < ls.length then nx (lset ls k v) r A else none
  | _ => none
def i_b2 (g : Int → Int → Int) (ls st : List AV) (A : AH) (nx : NX X) : Option (X × AH) := match st with
  | (0, y, _) :: (0, x, _) :: r => nx ls (vI (g x y) :: r) A
  | _ => none
def i_l2 (g : Int → Int → Int) (ls st : List AV) (A : AH) (nx : NX X) : Option (X × AH) := match st with
  | (1, y, _) :: (1, x, _) :: r => nx ls (vL (g x y) :: r) A
  | _ => none
def i_b2z (g : Int → Int → Int) (ls st : List AV) (A : AH) (nx : NX X) : Option (X × AH) := match st with
  | (0, y, _) :: (0, x, _) :: r => if y = 0 then none else nx ls (vI (g x y) :: r) A
  | _ => none
def i_l2z (g : Int → Int → Int) (ls st : List AV) (A : AH) (nx : NX X) : Option (X × AH) := match st with
  | (1, y, _) :: (1, x, _) :: r => if y = 0 then none else nx ls (vL (g x y) :: r) A
  | _ => none
def cmpI (c : ClassFile.Cond) (x y : Int) (t e : Option (X × AH)) : Option (X × AH) := match c with
  | .eq => if x = y then t else e
  | .ne => if x = y then e else t
  | .lt => if x < y then t else e
  | .ge => if x < y then e else t
  | .gt => if y < x then t else e
  | .le => if y < x then e else t
def tgt (pc : Nat) (off : Int) : Nat := ((pc : Int) + off).toNat
def i_ic (c : ClassFile.Cond) (t : Nat) (ls st : List AV) (A : AH) (nx : NX X) (jp : Nat → NX X) : Option (X × AH) := match st with
  | (0, y, _) :: (0, x, _) :: r => cmpI c x y (jp t ls r A) (nx ls r A)
  | _ => none
def i_if (c : ClassFile.Cond) (t : Nat) (ls st : List AV) (A : AH) (nx : NX X) (jp : Nat → NX X) : Option (X × AH) := match st with
  | (0, x, _) :: r => cmpI c x 0 (jp t ls r A) (nx ls r A)
  | _ => none
def i_ac (c : Bool) (t : Nat) (ls st : List AV) (A : AH) (nx : NX X) (jp : Nat → NX X) : Option (X × AH) := match st with
  | (ky, _, y, _) :: (kx, _, x, _) :: r => if 10 ≤ ky ∧ 10 ≤ kx then (match c with
    | true => if x = y then jp t ls r A else nx ls r A
    | false => if x = y then nx ls r A else jp t ls r A) else none
  | _ => none
def i_nl (c : Bool) (t : Nat) (ls st : List AV) (A : AH) (nx : NX X) (jp : Nat → NX X) : Option (X × AH) := match st with
  | (kx, _, x, _) :: r => if 10 ≤ kx then (match c with
    | true => if x = 0 then jp t ls r A else nx ls r A
    | false => if x = 0 then nx ls r A else jp t ls r A) else none
  | _ => none
def i_swt (pc : Nat) (x : Int) (ls r : List AV) (A : AH) (d : Int) (jp : Nat → NX X) : Int → List Int → Option (X × AH)
  | _, [] => jp (tgt pc d) ls r A
  | lo, o :: os => if x = lo then jp (tgt pc o) ls r A else i_swt pc x ls r A d jp (lo + 1) os
def i_swl (pc : Nat) (x : Int) (ls r : List AV) (A : AH) (d : Int) (jp : Nat → NX X) : List (Int × Int) → Option (X × AH)
  | [] => jp (tgt pc d) ls r A
  | o :: os => if x = o.1 then jp (tgt pc o.2) ls r A else i_swl pc x ls r A d jp os
/-- fields: kind k, slot s, tag t (0 int, 1 long, 2 boolean, 10 + kind), laid: o (0: read it), its length n -/
def i_gf (f : Bool) (k s t o n : Nat) (ab : Int) (ls st : List AV) (A : AH) (nx : NX X) : Option (X × AH) := match st with
  | (kx, _, a, _) :: r => if kx = 10 + k then (if a = 0 then none else
      match k == 12 with
      | true => nx ls (vI (wdf s a) :: r) A
      | false => match t with
        | 0 => nx ls (vI (gi A a s) :: r) A
        | 1 => nx ls (vL (gi A a s) :: r) A
        | 2 => nx ls (vI (gi A a s) :: r) A
        | t' => match f && (o != 0) with
          | true => nx ls ((t', 0, (match ab with | 1 => o | _ => a + o), n) :: r) A
          | false => nx ls ((t', 0, gr A a s, ln A (gr A a s)) :: r) A) else none
  | _ => none
def i_pf (k s t : Nat) (ls st : List AV) (A : AH) (nx : NX X) : Option (X × AH) := match st with
  | (kv, x, v, _) :: (kx, _, a, _) :: r => if kx = 10 + k then (if a = 0 then none else match t with
      | 0 => if kv = 0 then nx ls r (wi A a s x) else none
      | 1 => if kv = 1 then nx ls r (wi A a s x) else none
      | 2 => if kv = 0 then (if x = 0 ∨ x = 1 then nx ls r (wi A a s x) else none) else none
      | t' => if kv = t' then nx ls r (wr A a s v) else none) else none
  | _ => none
def i_al (ks : List Nat) (ls st : List AV) (A : AH) (nx : NX X) (g : Nat → Nat → AV) : Option (X × AH) := match st with
  | (0, i, _) :: (kx, _, a, n) :: r => if kx ∈ ks then (if a = 0 then none else if 0 ≤ i ∧ i < (n : Int) then nx ls (g a i.toNat :: r) A else none) else none
  | _ => none
def i_as (kv kx : Nat) (ls st : List AV) (A : AH) (nx : NX X) (g : Nat → Nat → Int → AH) : Option (X × AH) := match st with
  | (kw, x, _) :: (0, i, _) :: (ky, _, a, n) :: r => if kw = kv ∧ ky = kx then (if a = 0 then none else if 0 ≤ i ∧ i < (n : Int) then nx ls r (g a i.toNat x) else none) else none
  | _ => none
def i_aas (ls st : List AV) (A : AH) (nx : NX X) : Option (X × AH) := match st with
  | (19, _, v, _) :: (0, i, _) :: (33, _, a, n) :: r => if a = 0 ∨ v = 0 then none else if 0 ≤ i ∧ i < (n : Int) then nx ls r (wr A a i.toNat v) else none
  | _ => none
def i_cp (ls st : List AV) (A : AH) (nx : NX X) : Option (X × AH) := match st with
  | (0, n, _) :: (0, dp, _) :: (30, _, d, nd) :: (0, sp, _) :: (30, _, s, ns) :: r => if cats r ≤ 8 then (if s = 0 ∨ d = 0 ∨ s = d then none else if (0 ≤ sp ∧ 0 ≤ dp ∧ 0 ≤ n) ∧ sp + n ≤ (ns : Int) ∧ dp + n ≤ (nd : Int) then nx ls r (cpa A s sp.toNat d dp.toNat n.toNat) else none) else none
  | _ => none
def i_na (k : Nat) (ls st : List AV) (A : AH) (nx : NX X) : Option (X × AH) := match st with
  | (0, n, _) :: r => if 0 ≤ n ∧ n ≤ 1000000 then nx ls ((10 + k, 0, sz A, n.toNat) :: r) (nw A k n.toNat) else none
  | _ => none
def i_call (vt : Bool) (k mi n : Nat) (C : CX X) (ls st : List AV) (A : AH) (nx : NX X) : Option (X × AH) :=
  match decide (n ≤ st.length) && decide (cats (st.drop n) ≤ 8) && (!vt || (lget st (n - 1)).1 == 10 + k) with
  | true => match vt with
    | true => if (lget st (n - 1)).2.2.1 = 0 then none else C mi (st.take n).reverse A (fun v A' => nx ls (v.toList ++ st.drop n) A')
    | false => C mi (st.take n).reverse A (fun v A' => nx ls (v.toList ++ st.drop n) A')
  | false => none

/-- one instruction. rz: the method's answer (0 int, 1 long, 2 boolean, 3 void, 10 + kind) -/
def ins (f : Bool) (rz : Nat) (rt : Option AV → Option X) (C : CX X) (e : EI) (pc : Nat) (ls st : List AV) (A : AH) (nx : NX X) (jp : Nat → NX X) : Option (X × AH) :=
  match e with
  | (.aload k, _, _) => i_lda k ls st A nx
  | (.aload_n k, _, _) => i_lda k ls st A nx
  | (.iload k, _, _) => i_ld 0 k ls st A nx
  | (.iload_n k, _, _) => i_ld 0 k ls st A nx
  | (.lload k, _, _) => i_ld 1 k ls st A nx
  | (.lload_n k, _, _) => i_ld 1 k ls st A nx
  | (.astore k, _, _) => i_sta k ls st A nx
  | (.astore_n k, _, _) => i_sta k ls st A nx
  | (.istore k, _, _) => i_st 0 k ls st A nx
  | (.istore_n k, _, _) => i_st 0 k ls st A nx
  | (.lstore k, _, _) => i_st 1 k ls st A nx
  | (.lstore_n k, _, _) => i_st 1 k ls st A nx
  | (.iconst z, _, _) => nx ls (vI z :: st) A
  | (.bipush z, _, _) => nx ls (vI z :: st) A
  | (.sipush z, _, _) => nx ls (vI z :: st) A
  | (.lconst z, _, _) => nx ls (vL ((z : Nat) : Int) :: st) A
  | (.ldc _, _, _, _, _, _, _, z) => nx ls (vI z :: st) A
  | (.ldc_w _, _, _, _, _, _, _, z) => nx ls (vI z :: st) A
  | (.ldc2_w _, _, _, _, _, _, _, z) => nx ls (vL z :: st) A
  | (.aconst_null, _, k, _) => nx ls ((10 + k, 0, 0, 0) :: st) A
  | (.iinc k z, _, _) => if (lget ls k).1 = 0 ∧ k < ls.length then nx (lset ls k (vI (w32 ((lget ls k).2.1 + z)))) st A else none
  | (.iadd, _, _) => i_b2 (fun x y => w32 (x + y)) ls st A nx
  | (.isub, _, _) => i_b2 (fun x y => w32 (x - y)) ls st A nx
  | (.imul, _, _) => i_b2 (fun x y => w32 (x * y)) ls st A nx
  | (.iand, _, _) => i_b2 band ls st A nx
  | (.ior, _, _) => i_b2 bor ls st A nx
  | (.ixor, _, _) => i_b2 bxor ls st A nx
  | (.ishl, _, _) => i_b2 bshl ls st A nx
  | (.ishr, _, _) => i_b2 bshr ls st A nx
  | (.iushr, _, _) => i_b2 bushr ls st A nx
  | (.idiv, _, _) => i_b2z (fun x y => w32 (x.tdiv y)) ls st A nx
  | (.irem, _, _) => i_b2z (fun x y => x.tmod y) ls st A nx
  | (.ladd, _, _) => i_l2 (fun x y => w64 (x + y)) ls st A nx
  | (.lsub, _, _) => i_l2 (fun x y => w64 (x - y)) ls st A nx
  | (.lmul, _, _) => i_l2 (fun x y => w64 (x * y)) ls st A nx
  | (.ldiv, _, _) => i_l2z (fun x y => w64 (x.tdiv y)) ls st A nx
  | (.lrem, _, _) => i_l2z (fun x y => x.tmod y) ls st A nx
  | (.ineg, _, _) => match st with
    | (0, x, _) :: r => nx ls (vI (w32 (-x)) :: r) A
    | _ => none
  | (.lneg, _, _) => match st with
    | (1, x, _) :: r => nx ls (vL (w64 (-x)) :: r) A
    | _ => none
  | (.i2l, _, _) => match st with
    | (0, x, _) :: r => nx ls (vL x :: r) A
    | _ => none
  | (.l2i, _, _) => match st with
    | (1, x, _) :: r => nx ls (vI (w32 x) :: r) A
    | _ => none
  | (.lcmp, _, _) => match st with
    | (1, y, _) :: (1, x, _) :: r => nx ls (vI (lcp x y) :: r) A
    | _ => none
  | (.dup, _, _) => match st with
    | v :: r => if v.1 = 1 then none else nx ls (v :: v :: r) A
    | _ => none
  | (.dup2, _, _) => match st with
    | v :: w :: r => if v.1 = 1 ∨ w.1 = 1 then none else nx ls (v :: w :: v :: w :: r) A
    | _ => none
  | (.pop, _, _) => match st with
    | v :: r => if v.1 = 1 then none else nx ls r A
    | _ => none
  | (.if_icmp c o, _, _) => i_ic c (tgt pc o) ls st A nx jp
  | (.ifCond c o, _, _) => i_if c (tgt pc o) ls st A nx jp
  | (.if_acmp .eq o, _, _) => i_ac true (tgt pc o) ls st A nx jp
  | (.if_acmp .ne o, _, _) => i_ac false (tgt pc o) ls st A nx jp
  | (.ifnull o, _, _) => i_nl true (tgt pc o) ls st A nx jp
  | (.ifnonnull o, _, _) => i_nl false (tgt pc o) ls st A nx jp
  | (.goto o, _, _) => jp (tgt pc o) ls st A
  | (.tableswitch d lo _ os, _, _) => match st with
    | (0, x, _) :: r => i_swt pc x ls r A d jp lo os.toList
    | _ => none
  | (.lookupswitch d ps, _, _) => match st with
    | (0, x, _) :: r => i_swl pc x ls r A d jp ps.toList
    | _ => none
  | (.getfield _, _, k, s, t, o, n, ab) => i_gf f k s t o n ab ls st A nx
  | (.putfield _, _, k, s, t, _) => i_pf k s t ls st A nx
  | (.getstatic _, _, t, a, n, _) => nx ls ((10 + t, 0, a, n) :: st) A
  | (.iaload, _, _) => i_al [30, 35] ls st A nx (fun a i => vI (gi A a i))
  | (.laload, _, _) => i_al [31] ls st A nx (fun a i => vL (gi A a i))
  | (.caload, _, _) => i_al [32] ls st A nx (fun a i => vI (gi A a i))
  | (.aaload, _, 0, _) => i_al [33] ls st A nx (fun a i => (19, 0, gr A a i, 0))
  | (.aaload, _, _ + 1, _) => i_al [34] ls st A nx (fun _ i => (22, 0, i + 1, 0))
  | (.iastore, _, _) => i_as 0 30 ls st A nx (fun a i x => wi A a i x)
  | (.lastore, _, _) => i_as 1 31 ls st A nx (fun a i x => wi A a i x)
  | (.castore, _, _) => match st with
    | (_, x, _) :: _ => if 0 ≤ x ∧ x < 65536 then i_as 0 32 ls st A nx (fun a i x => wi A a i x) else none
    | _ => none
  | (.aastore, _, _) => i_aas ls st A nx
  | (.arraylength, _, _) => match st with
    | (k, _, a, n) :: r => if 30 ≤ k ∧ n < 2147483648 then (if a = 0 then none else nx ls (vI (n : Int) :: r) A) else none
    | _ => none
  | (.newarray .int, _, _) => i_na 20 ls st A nx
  | (.newarray .long, _, _) => i_na 21 ls st A nx
  | (.newarray .char, _, _) => i_na 22 ls st A nx
  | (.anewarray _, _, _) => i_na 23 ls st A nx
  | (.new _, _, k, n, _) => match f with
    | false => nx ls ((10 + k, 0, sz A, 0) :: st) (nw A k n)
    | true => none
  | (.invokevirtual _, _, mi, n, k, _) => i_call true k mi n C ls st A nx
  | (.invokespecial _, _, mi, n, k, t, _) => match t with
    | 9 => match st with
      | v :: r => if 10 ≤ v.1 ∧ cats r ≤ 8 then (if v.2.2.1 = 0 then none else nx ls r A) else none
      | _ => none
    | _ => i_call true k mi n C ls st A nx
  | (.invokestatic _, _, mi, n, k, t, _) => match t with
    | 8 => i_cp ls st A nx
    | _ => i_call false k mi n C ls st A nx
  | (.ireturn, _, _) => match st with
    | [(0, x, _)] => (match rz with
      | 0 => match rt (some (vI x)) with | some q => some (q, A) | none => none
      | 2 => if x = 0 ∨ x = 1 then (match rt (some (vI x)) with | some q => some (q, A) | none => none) else none
      | _ => none)
    | _ => none
  | (.lreturn, _, _) => match st with
    | [(1, x, _)] => (match rz with
      | 1 => match rt (some (vL x)) with | some q => some (q, A) | none => none
      | _ => none)
    | _ => none
  | (.areturn, _, _) => match st with
    | [v] => if 10 ≤ rz ∧ v.1 = rz then (match rt (some v) with | some q => some (q, A) | none => none) else none
    | _ => none
  | (.return_, _, _) => match st with
    | [] => (match rz with
      | 3 => match rt none with | some q => some (q, A) | none => none
      | _ => none)
    | _ => none
  | _ => none
def blk (f : Bool) (rz : Nat) (rt : Option AV → Option X) (full : List EI) (inl stp : Nat → Bool) (K : Nat → NX X) (C : CX X) : Nat → List EI → Nat → List AV → List AV → AH → Option (X × AH)
  | 0, _, _, _, _, _ => none
  | _ + 1, [], _, _, _, _ => none
  | n + 1, e :: es, pc, ls, st, A => ins f rz rt C e pc ls st A
      (fun ls st A => match stp (pc + e.2.1) with | true => K (pc + e.2.1) ls st A | false => blk f rz rt full inl stp K C n es (pc + e.2.1) ls st A)
      (fun t ls st A => match inl t with | true => blk f rz rt full inl stp K C n (sfx full 0 t) t ls st A | false => K t ls st A)
end INS
