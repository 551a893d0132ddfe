/-! conversions, the stack, branches -/
section SND2
variable {p : Program} {l : Launch} {e : Env} {R : Room} {s : State} {m : MethodId} {args : Array Value} {below : List Frame} {meth : Method} {c : Code} {Q : State → Prop}
variable {f : Bool} {D : va_G} {Z : CI4} {base L z0 u0 nL own : Nat} {xs : Nat → Int32} {adS adE : Nat → Nat} {cc : ByteArray} {pc : Nat} {ls st : List AV} {A : AH}
theorem s_ineg {x : Int} {w : Nat × Nat} (C : CTX p R s m args c D Z base L xs adS nL own cc) (hdg : decode cc pc = .ok (.ineg, 1)) (kk : Wok f p l e R s m args below meth c Q D Z base L xs adS adE z0 u0 nL (pc + 1) ls (vI (w32 (-x)) :: st) A) : Wok f p l e R s m args below meth c Q D Z base L xs adS adE z0 u0 nL pc ls ((0, x, w) :: st) A := by
  intro ad H locs cells slots lsM hI hL ho hs
  have h := kk ad H locs cells slots lsM hI hL ho (okv_cons (in32_w32 _) (okv_tail hs))
  refine lv_ineg C.1 C.2.1 hdg ?_
  rw [List.map_cons, cv_0 rfl] at h
  rw [← c32_neg]; exact h
theorem s_lneg {x : Int} {w : Nat × Nat} (C : CTX p R s m args c D Z base L xs adS nL own cc) (hdg : decode cc pc = .ok (.lneg, 1)) (kk : Wok f p l e R s m args below meth c Q D Z base L xs adS adE z0 u0 nL (pc + 1) ls (vL (w64 (-x)) :: st) A) : Wok f p l e R s m args below meth c Q D Z base L xs adS adE z0 u0 nL pc ls ((1, x, w) :: st) A := by
  intro ad H locs cells slots lsM hI hL ho hs
  have h := kk ad H locs cells slots lsM hI hL ho (okv_cons (in64_w64 _) (okv_tail hs))
  refine lv_lneg C.1 C.2.1 hdg ?_
  rw [List.map_cons, cv_1 rfl] at h
  rw [← c64_neg]; exact h
theorem s_i2l {x : Int} {w : Nat × Nat} (C : CTX p R s m args c D Z base L xs adS nL own cc) (hdg : decode cc pc = .ok (.i2l, 1)) (kk : Wok f p l e R s m args below meth c Q D Z base L xs adS adE z0 u0 nL (pc + 1) ls (vL x :: st) A) : Wok f p l e R s m args below meth c Q D Z base L xs adS adE z0 u0 nL pc ls ((0, x, w) :: st) A := by
  intro ad H locs cells slots lsM hI hL ho hs
  have hx : in32 x := okv_head hs
  have h := kk ad H locs cells slots lsM hI hL ho (okv_cons (show in64 x by unfold in32 at hx; unfold in64; omega) (okv_tail hs))
  exact lv_i2l C.1 C.2.1 hdg (c32_l hx) h
theorem s_l2i {x : Int} {w : Nat × Nat} (C : CTX p R s m args c D Z base L xs adS nL own cc) (hdg : decode cc pc = .ok (.l2i, 1)) (kk : Wok f p l e R s m args below meth c Q D Z base L xs adS adE z0 u0 nL (pc + 1) ls (vI (w32 x) :: st) A) : Wok f p l e R s m args below meth c Q D Z base L xs adS adE z0 u0 nL pc ls ((1, x, w) :: st) A := by
  intro ad H locs cells slots lsM hI hL ho hs
  have h := kk ad H locs cells slots lsM hI hL ho (okv_cons (in32_w32 _) (okv_tail hs))
  exact lv_l2i C.1 C.2.1 hdg (c64_i x) h
theorem in32_lcp (x y : Int) : in32 (lcp x y) := by
  unfold lcp in32
  split
  · omega
  · split <;> omega
theorem c32_lcp {x y : Int} (hx : in64 x) (hy : in64 y) : c32 (lcp x y) = lg_cmp (c64 x) (c64 y) := by
  unfold lcp lg_cmp
  simp only [gt_iff_lt, c64_lt hy hx, c64_eq hx hy]
  by_cases h : x < y
  · rw [if_pos h, if_neg (by omega), if_neg (by omega)]; rfl
  · rw [if_neg h]
    by_cases h2 : x = y
    · rw [if_pos h2, if_neg (by omega), if_pos h2]; rfl
    · rw [if_neg h2, if_pos (by omega)]; rfl
theorem s_lcmp {x y : Int} {w w' : Nat × Nat} (C : CTX p R s m args c D Z base L xs adS nL own cc) (hdg : decode cc pc = .ok (.lcmp, 1)) (kk : Wok f p l e R s m args below meth c Q D Z base L xs adS adE z0 u0 nL (pc + 1) ls (vI (lcp x y) :: st) A) : Wok f p l e R s m args below meth c Q D Z base L xs adS adE z0 u0 nL pc ls ((1, y, w) :: (1, x, w') :: st) A := by
  intro ad H locs cells slots lsM hI hL ho hs
  have h := kk ad H locs cells slots lsM hI hL ho (okv_cons (in32_lcp x y) (okv_tail (okv_tail hs)))
  refine W.lcmp C.1 C.2.1 hdg ?_
  rw [← c32_lcp (okv_head (okv_tail hs)) (okv_head hs)]
  exact h
theorem s_dup {v : AV} (C : CTX p R s m args c D Z base L xs adS nL own cc) (hdg : decode cc pc = .ok (.dup, 1)) (hc : cat v = 1) (kk : Wok f p l e R s m args below meth c Q D Z base L xs adS adE z0 u0 nL (pc + 1) ls (v :: v :: st) A) : Wok f p l e R s m args below meth c Q D Z base L xs adS adE z0 u0 nL pc ls (v :: st) A := by
  intro ad H locs cells slots lsM hI hL ho hs
  exact lv_dup C.1 C.2.1 hdg (by rw [cv_cat]; exact hc) (kk ad H locs cells slots lsM hI hL ho (okv_cons (okv_head hs) hs))
theorem s_dup2 {v w : AV} (C : CTX p R s m args c D Z base L xs adS nL own cc) (hdg : decode cc pc = .ok (.dup2, 1)) (hv : cat v = 1) (hw : cat w = 1) (kk : Wok f p l e R s m args below meth c Q D Z base L xs adS adE z0 u0 nL (pc + 1) ls (v :: w :: v :: w :: st) A) : Wok f p l e R s m args below meth c Q D Z base L xs adS adE z0 u0 nL pc ls (v :: w :: st) A := by
  intro ad H locs cells slots lsM hI hL ho hs
  exact lv_dup2_11 C.1 C.2.1 hdg (by rw [cv_cat]; exact hv) (by rw [cv_cat]; exact hw) (kk ad H locs cells slots lsM hI hL ho (okv_cons (okv_head hs) (okv_cons (okv_head (okv_tail hs)) hs)))
theorem s_pop {v : AV} (C : CTX p R s m args c D Z base L xs adS nL own cc) (hdg : decode cc pc = .ok (.pop, 1)) (hc : cat v = 1) (kk : Wok f p l e R s m args below meth c Q D Z base L xs adS adE z0 u0 nL (pc + 1) ls st A) : Wok f p l e R s m args below meth c Q D Z base L xs adS adE z0 u0 nL pc ls (v :: st) A := by
  intro ad H locs cells slots lsM hI hL ho hs
  exact lv_pop C.1 C.2.1 hdg (by rw [cv_cat]; exact hc) (kk ad H locs cells slots lsM hI hL ho (okv_tail hs))
theorem s_null {t : Nat} (C : CTX p R s m args c D Z base L xs adS nL own cc) (hdg : decode cc pc = .ok (.aconst_null, 1)) (ht : 10 ≤ t) (kk : Wok f p l e R s m args below meth c Q D Z base L xs adS adE z0 u0 nL (pc + 1) ls (vR t 0 0 :: st) A) : Wok f p l e R s m args below meth c Q D Z base L xs adS adE z0 u0 nL pc ls st A := by
  intro ad H locs cells slots lsM hI hL ho hs
  have hv : okv L A (vR t 0 0) := by
    unfold okv vR
    dsimp only
    split <;> first | omega | exact ⟨ht, Or.inl rfl, fun _ h => absurd rfl h⟩
  have h := kk ad H locs cells slots lsM hI hL ho (okv_cons hv hs)
  rw [List.map_cons, cv_r (show 2 ≤ (vR t 0 0).1 from Nat.le_trans (by omega) ht)] at h
  exact lv_null C.1 C.2.1 hdg h
theorem s_goto {o : Int} {t : Nat} (C : CTX p R s m args c D Z base L xs adS nL own cc) (hdg : decode cc pc = .ok (.goto o, 3)) (ht : (pc : Int) + o = (t : Int)) (kk : Wok f p l e R s m args below meth c Q D Z base L xs adS adE z0 u0 nL t ls st A) : Wok f p l e R s m args below meth c Q D Z base L xs adS adE z0 u0 nL pc ls st A := by
  intro ad H locs cells slots lsM hI hL ho hs
  exact lv_goto C.1 C.2.1 hdg ht (kk ad H locs cells slots lsM hI hL ho hs)
theorem s_icmp {c0 : ClassFile.Cond} {o : Int} {t : Nat} {x y : Int} {w w' : Nat × Nat} {a b : RS} {r : Option AV × AH} (C : CTX p R s m args c D Z base L xs adS nL own cc) (hdg : decode cc pc = .ok (.if_icmp c0 o, 3)) (ht : (pc : Int) + o = (t : Int)) (h : cmpI c0 x y a b = some r)
    (kt : a = some r → Wok f p l e R s m args below meth c Q D Z base L xs adS adE z0 u0 nL t ls st A) (kf : b = some r → Wok f p l e R s m args below meth c Q D Z base L xs adS adE z0 u0 nL (pc + 3) ls st A) : Wok f p l e R s m args below meth c Q D Z base L xs adS adE z0 u0 nL pc ls ((0, y, w) :: (0, x, w') :: st) A := by
  intro ad H locs cells slots lsM hI hL ho hs
  have hy : in32 y := okv_head hs
  have hx : in32 x := okv_head (okv_tail hs)
  have hs' := okv_tail (okv_tail hs)
  have kt' := fun q => kt q ad H locs cells slots lsM hI hL ho hs'
  have kf' := fun q => kf q ad H locs cells slots lsM hI hL ho hs'
  clear kt kf
  cases c0 <;> simp only [cmpI] at h
  · exact lv_icmp_eq C.1 C.2.1 hdg ht (fun q => kt' (by rwa [if_pos ((c32_eq hx hy).mp q)] at h)) (fun q => kf' (by rwa [if_neg (fun z => q ((c32_eq hx hy).mpr z))] at h))
  · exact lv_icmp_ne C.1 C.2.1 hdg ht (fun q => kt' (by rwa [if_neg (fun z => q ((c32_eq hx hy).mpr z))] at h)) (fun q => kf' (by rwa [if_pos ((c32_eq hx hy).mp q)] at h))
  · exact lv_icmp_lt C.1 C.2.1 hdg ht (fun q => kt' (by rwa [if_pos ((c32_lt hx hy).mp q)] at h)) (fun q => kf' (by rwa [if_neg (fun z => q ((c32_lt hx hy).mpr z))] at h))
  · exact lv_icmp_ge C.1 C.2.1 hdg ht (fun q => kt' (by rwa [if_neg (Int.not_lt.mpr ((c32_le hy hx).mp q))] at h)) (fun q => kf' (by rwa [if_pos (Int.not_le.mp (fun z => q ((c32_le hy hx).mpr z)))] at h))
  · exact lv_icmp_gt C.1 C.2.1 hdg ht (fun q => kt' (by rwa [if_pos ((c32_lt hy hx).mp q)] at h)) (fun q => kf' (by rwa [if_neg (fun z => q ((c32_lt hy hx).mpr z))] at h))
  · exact lv_icmp_le C.1 C.2.1 hdg ht (fun q => kt' (by rwa [if_neg (Int.not_lt.mpr ((c32_le hx hy).mp q))] at h)) (fun q => kf' (by rwa [if_pos (Int.not_le.mp (fun z => q ((c32_le hx hy).mpr z)))] at h))
theorem s_if {c0 : ClassFile.Cond} {o : Int} {t : Nat} {x : Int} {w : Nat × Nat} {a b : RS} {r : Option AV × AH} (C : CTX p R s m args c D Z base L xs adS nL own cc) (hdg : decode cc pc = .ok (.ifCond c0 o, 3)) (ht : (pc : Int) + o = (t : Int)) (h : cmpI c0 x 0 a b = some r)
    (kt : a = some r → Wok f p l e R s m args below meth c Q D Z base L xs adS adE z0 u0 nL t ls st A) (kf : b = some r → Wok f p l e R s m args below meth c Q D Z base L xs adS adE z0 u0 nL (pc + 3) ls st A) : Wok f p l e R s m args below meth c Q D Z base L xs adS adE z0 u0 nL pc ls ((0, x, w) :: st) A := by
  intro ad H locs cells slots lsM hI hL ho hs
  have hx : in32 x := okv_head hs
  have hy : in32 0 := in32_0
  have hs' := okv_tail hs
  have kt' := fun q => kt q ad H locs cells slots lsM hI hL ho hs'
  have kf' := fun q => kf q ad H locs cells slots lsM hI hL ho hs'
  clear kt kf
  cases c0 <;> simp only [cmpI] at h
  · exact lv_if_eq C.1 C.2.1 hdg ht (fun q => kt' (by rwa [if_pos ((c32_eq hx hy).mp q)] at h)) (fun q => kf' (by rwa [if_neg (fun z => q ((c32_eq hx hy).mpr z))] at h))
  · exact lv_if_ne C.1 C.2.1 hdg ht (fun q => kt' (by rwa [if_neg (fun z => q ((c32_eq hx hy).mpr z))] at h)) (fun q => kf' (by rwa [if_pos ((c32_eq hx hy).mp q)] at h))
  · exact lv_if_lt C.1 C.2.1 hdg ht (fun q => kt' (by rwa [if_pos ((c32_lt hx hy).mp q)] at h)) (fun q => kf' (by rwa [if_neg (fun z => q ((c32_lt hx hy).mpr z))] at h))
  · exact lv_if_ge C.1 C.2.1 hdg ht (fun q => kt' (by rwa [if_neg (Int.not_lt.mpr ((c32_le hy hx).mp q))] at h)) (fun q => kf' (by rwa [if_pos (Int.not_le.mp (fun z => q ((c32_le hy hx).mpr z)))] at h))
  · exact lv_if_gt C.1 C.2.1 hdg ht (fun q => kt' (by rwa [if_pos ((c32_lt hy hx).mp q)] at h)) (fun q => kf' (by rwa [if_neg (fun z => q ((c32_lt hy hx).mpr z))] at h))
  · exact lv_if_le C.1 C.2.1 hdg ht (fun q => kt' (by rwa [if_neg (Int.not_lt.mpr ((c32_le hx hy).mp q))] at h)) (fun q => kf' (by rwa [if_pos (Int.not_le.mp (fun z => q ((c32_le hx hy).mpr z)))] at h))
theorem okr_22 {L : Nat} {A : AH} {x a n : Nat} {z : Int} (h : okv L A (22, z, a, n)) (hx : x = a) : x = 0 ∨ (1 ≤ x ∧ x ≤ 37) := by
  have h2 : okref A 22 a := h.2.1
  rw [hx]
  exact h2
theorem s_acmp {c0 : Bool} {o : Int} {t : Nat} {zx zy : Int} {x y nx ny : Nat} {r : Option AV × AH} {a b : RS} (C : CTX p R s m args c D Z base L xs adS nL own cc) (hdg : decode cc pc = .ok (.if_acmp (if c0 then .eq else .ne) o, 3)) (ht : (pc : Int) + o = (t : Int)) (h : (match c0 with | true => if x = y then a else b | false => if x = y then b else a) = some r)
    (kt : a = some r → Wok f p l e R s m args below meth c Q D Z base L xs adS adE z0 u0 nL t ls st A) (kf : b = some r → Wok f p l e R s m args below meth c Q D Z base L xs adS adE z0 u0 nL (pc + 3) ls st A) : Wok f p l e R s m args below meth c Q D Z base L xs adS adE z0 u0 nL pc ls ((22, zy, y, ny) :: (22, zx, x, nx) :: st) A := by
  intro ad H locs cells slots lsM hI hL ho hs
  have hs' := okv_tail (okv_tail hs)
  have kt' := fun q => kt q ad H locs cells slots lsM hI hL ho hs'
  have kf' := fun q => kf q ad H locs cells slots lsM hI hL ho hs'
  have hy := okr_22 (okv_head hs) rfl
  have hx := okr_22 (okv_head (okv_tail hs)) rfl
  have had := hI.2.2.2.2.1
  have hE := C.2.2.2.2.2.2.1.1.2
  have key : rfo ad x = rfo ad y ↔ x = y := by
    constructor
    · intro q
      unfold rfo at q
      by_cases h1 : x = 0
      · by_cases h2 : y = 0
        · omega
        · rw [if_pos h1, if_neg h2] at q; cases q
      · by_cases h2 : y = 0
        · rw [if_neg h1, if_pos h2] at q; cases q
        · rw [if_neg h1, if_neg h2] at q
          have q1 := Option.some.inj q
          rw [had x (by omega), had y (by omega)] at q1
          have := hE (x - 1) (y - 1) (by rw [show wN.length = 37 from rfl]; omega) (by rw [show wN.length = 37 from rfl]; omega) (by show adS (x - 1 + 1) = adS (y - 1 + 1); rw [show x - 1 + 1 = x by omega, show y - 1 + 1 = y by omega]; exact q1)
          omega
    · intro q; rw [q]
  show W p l e R s m args below meth c H locs cells slots Q (F0 m pc lsM (va_rf (rfo ad y) :: va_rf (rfo ad x) :: st.map (cv ad)))
  cases c0
  · exact lv_acmp_ne C.1 C.2.1 hdg ht (fun q => kt' (by simpa only [if_neg (fun z => q (key.mpr z))] using h)) (fun q => kf' (by simpa only [if_pos (key.mp q)] using h))
  · exact lv_acmp_eq C.1 C.2.1 hdg ht (fun q => kt' (by simpa only [if_pos (key.mp q)] using h)) (fun q => kf' (by simpa only [if_neg (fun z => q (key.mpr z))] using h))
theorem s_null1 {o : Int} {t k x n : Nat} {z : Int} {r : Option AV × AH} {a b : RS} (C : CTX p R s m args c D Z base L xs adS nL own cc) (hdg : decode cc pc = .ok (.ifnull o, 3)) (ht : (pc : Int) + o = (t : Int)) (hk : 10 ≤ k) (h : (if x = 0 then a else b) = some r)
    (kt : a = some r → Wok f p l e R s m args below meth c Q D Z base L xs adS adE z0 u0 nL t ls st A) (kf : b = some r → Wok f p l e R s m args below meth c Q D Z base L xs adS adE z0 u0 nL (pc + 3) ls st A) : Wok f p l e R s m args below meth c Q D Z base L xs adS adE z0 u0 nL pc ls ((k, z, x, n) :: st) A := by
  intro ad H locs cells slots lsM hI hL ho hs
  rw [List.map_cons, cv_r (show 2 ≤ k by omega)]
  by_cases h0 : x = 0
  · rw [if_pos h0] at h
    rw [show (k, z, x, n).2.2.1 = 0 from h0, rfv_0]
    exact lv_ifnullN C.1 C.2.1 hdg ht (kt h ad H locs cells slots lsM hI hL ho (okv_tail hs))
  · rw [if_neg h0] at h
    rw [rfv_n (show (k, z, x, n).2.2.1 ≠ 0 from h0)]
    exact lv_ifnull C.1 C.2.1 hdg (kf h ad H locs cells slots lsM hI hL ho (okv_tail hs))
theorem s_null2 {o : Int} {t k x n : Nat} {z : Int} {r : Option AV × AH} {a b : RS} (C : CTX p R s m args c D Z base L xs adS nL own cc) (hdg : decode cc pc = .ok (.ifnonnull o, 3)) (ht : (pc : Int) + o = (t : Int)) (hk : 10 ≤ k) (h : (if x = 0 then b else a) = some r)
    (kt : a = some r → Wok f p l e R s m args below meth c Q D Z base L xs adS adE z0 u0 nL t ls st A) (kf : b = some r → Wok f p l e R s m args below meth c Q D Z base L xs adS adE z0 u0 nL (pc + 3) ls st A) : Wok f p l e R s m args below meth c Q D Z base L xs adS adE z0 u0 nL pc ls ((k, z, x, n) :: st) A := by
  intro ad H locs cells slots lsM hI hL ho hs
  rw [List.map_cons, cv_r (show 2 ≤ k by omega)]
  by_cases h0 : x = 0
  · rw [if_pos h0] at h
    rw [show (k, z, x, n).2.2.1 = 0 from h0, rfv_0]
    exact lv_ifnonnullN C.1 C.2.1 hdg (kf h ad H locs cells slots lsM hI hL ho (okv_tail hs))
  · rw [if_neg h0] at h
    rw [rfv_n (show (k, z, x, n).2.2.1 ≠ 0 from h0)]
    exact lv_ifnonnull C.1 C.2.1 hdg ht (kt h ad H locs cells slots lsM hI hL ho (okv_tail hs))
theorem swt_eq {pc : Nat} {x : Int} {ls r : List AV} {A : AH} {d : Int} {jp : Nat → NX} : ∀ (os : List Int) (lo : Int), i_swt pc x ls r A d jp lo os = jp (tgt pc (if lo ≤ x ∧ x < lo + os.length then os.getD (x - lo).toNat d else d)) ls r A
  | [], lo => by
    rw [if_neg (by simp)]; rfl
  | o :: os, lo => by
    have ih := swt_eq (pc := pc) (x := x) (ls := ls) (r := r) (A := A) (d := d) (jp := jp) os (lo + 1)
    show (if x = lo then jp (tgt pc o) ls r A else i_swt pc x ls r A d jp (lo + 1) os) = _
    by_cases h : x = lo
    · rw [if_pos h, if_pos (by simp; omega)]
      have : (x - lo).toNat = 0 := by omega
      rw [this]; rfl
    · rw [if_neg h, ih]
      by_cases h2 : lo + 1 ≤ x ∧ x < lo + 1 + os.length
      · rw [if_pos h2, if_pos (by simp only [List.length_cons]; omega)]
        have : (x - lo).toNat = (x - (lo + 1)).toNat + 1 := by omega
        rw [this]; rfl
      · rw [if_neg h2, if_neg (by simp only [List.length_cons]; omega)]
theorem s_tsw {d lo hi : Int} {os : Array Int} {len : Nat} {x : Int} {w : Nat × Nat} {jp : Nat → NX} {r : Option AV × AH} (C : CTX p R s m args c D Z base L xs adS nL own cc) (hdg : decode cc pc = .ok (.tableswitch d lo hi os, len)) (hh : hi + 1 = lo + os.toList.length) (hd : 0 ≤ (pc : Int) + d) (hos : ∀ o ∈ os.toList, 0 ≤ (pc : Int) + o)
    (h : i_swt pc x ls st A d jp lo os.toList = some r) (kj : ∀ t, jp t ls st A = some r → Wok f p l e R s m args below meth c Q D Z base L xs adS adE z0 u0 nL t ls st A) : Wok f p l e R s m args below meth c Q D Z base L xs adS adE z0 u0 nL pc ls ((0, x, w) :: st) A := by
  intro ad H locs cells slots lsM hI hL ho hs
  have hx : in32 x := okv_head hs
  rw [swt_eq] at h
  have kj' := fun t q => kj t q ad H locs cells slots lsM hI hL ho (okv_tail hs)
  have hxi : (c32 x).toInt = x := c32_toInt hx
  by_cases hr : lo ≤ x ∧ x < lo + os.toList.length
  · rw [if_pos hr] at h
    have hlt : (x - lo).toNat < os.toList.length := by omega
    have e1 : os.toList.getD (x - lo).toNat d = os.toList[(x - lo).toNat] := by rw [List.getD_eq_getElem?_getD, List.getElem?_eq_getElem hlt]; rfl
    have hm := hos _ (List.getElem_mem hlt)
    rw [e1] at h
    refine lv_tableIn (off := os.toList[(x - lo).toNat]) (tgt := tgt pc os.toList[(x - lo).toNat]) C.1 C.2.1 hdg (by rw [hxi]; omega) (by rw [hxi]; omega) ?_ ?_ (kj' _ h)
    · rw [hxi, ← Array.getElem?_toList]
      exact List.getElem?_eq_getElem hlt
    · unfold tgt; omega
  · rw [if_neg hr] at h
    refine lv_tableOut (tgt := tgt pc d) C.1 C.2.1 hdg (by rw [hxi]; omega) ?_ (kj' _ h)
    unfold tgt; omega
theorem s_lsw {d : Int} {ps : Array (Int × Int)} {len : Nat} {x : Int} {w : Nat × Nat} (C : CTX p R s m args c D Z base L xs adS nL own cc) (hdg : decode cc pc = .ok (.lookupswitch d ps, len)) (hps : ps.toList = []) (hd : 0 ≤ (pc : Int) + d) (kk : Wok f p l e R s m args below meth c Q D Z base L xs adS adE z0 u0 nL (tgt pc d) ls st A) : Wok f p l e R s m args below meth c Q D Z base L xs adS adE z0 u0 nL pc ls ((0, x, w) :: st) A := by
  intro ad H locs cells slots lsM hI hL ho hs
  refine lv_lookup (off := d) (tgt := tgt pc d) C.1 C.2.1 hdg (by rw [hps]; rfl) (by rw [hps]; rfl) (by unfold tgt; omega) (kk ad H locs cells slots lsM hI hL ho (okv_tail hs))
end SND2
