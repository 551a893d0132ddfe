theorem lc2 : ∀ k : Fin 2, Int64.ofNat k.val = c64 ((k.val : Nat) : Int) := by decide
theorem cat_cs (v : AV) : cat v = 1 ∨ cat v = 2 := by unfold cat; split <;> simp
theorem cat_sum {v w : AV} (h : cat v + cat w = 2) : cat v = 1 ∧ cat w = 1 := by
  have h1 := cat_cs v
  have h2 := cat_cs w
  omega
theorem ftg_obj {A : AH} {a k j : Nat} (hkd : kd A a = k) (hk : k < 12) : ftg A a j = fty k j := by
  unfold ftg
  rw [hkd]
  split <;> first | omega | rfl
theorem lenf_ln {L : Nat} {A : AH} {t a : Nat} (h : t < 34) : lenf L A t a = ln A a := by
  unfold lenf
  split <;> first | omega | rfl
theorem fld_wi {A : AH} {ad : Nat → Nat} {a j i t : Nat} {x : Int} (h : i ≠ j) : fld (wi A a j x) ad t a i = fld A ad t a i := by
  have h1 : gi (wi A a j x) a i = gi A a i := by rw [gi_wi, if_neg (fun q => h q.2)]
  unfold fld
  rw [h1]
  rfl
theorem fld_wr {A : AH} {ad : Nat → Nat} {a j i t v : Nat} (h : i ≠ j) : fld (wr A a j v) ad t a i = fld A ad t a i := by
  have h1 : gr (wr A a j v) a i = gr A a i := by rw [gr_wr, if_neg (fun q => h q.2)]
  unfold fld
  rw [h1]
  rfl
theorem oks_ref {A : AH} {t a j : Nat} (ht : 10 ≤ t) (h : oks A t a j) : okref A t (gr A a j) := by
  unfold oks at h
  split at h <;> first | omega | exact h.2
section SND9
variable {p : Program} {l : Launch} {e : Env} {R : Room} {s : State} {m : MethodId} {args : Array Value} {below : List Frame} {meth : Method} {c : Code} {Q : State → Prop}
variable {f : Bool} {D : va_G} {Z : CI4} {base L z0 u0 nL own : Nat} {xs : Nat → Int32} {adS adE : Nat → Nat} {cc : ByteArray} {pc : Nat} {ls st : List AV} {A : AH}
theorem s_new3N {d i k x mj : Nat} {nest : Bool} {A' : AH} (C : CTX p R s m args c D Z base L xs adS nL own cc) (h1 : decode cc pc = .ok (.new i, 3)) (h2 : decode cc (pc + 3) = .ok (.dup, 1)) (h3 : decode cc (pc + 4) = .ok (.invokespecial x, 3)) (hk : k < 12) (hl : (own, i, k) ∈ ctT) (his : (k, nf k) ∈ isT) (hin : k ∈ inT) (hc : cats st ≤ 7) (h : cOK own x mj 0 nest = true) (him : mj ∈ imT) (hini : (ynm mj).name = "<init>") (hret : rtt mj = none) (hR : d + 1 ≤ R.frames ∧ 60 * d + 60 ≤ R.locals) (hz : sz A ≠ 0) (hp : pfx (nw A k (nf k)) A') (hroom : sz A' ≤ z0 + R.cells ∧ sl A' ≤ u0 + R.slots)
    (hM : MTA false l d mj [vR (10 + k) (sz A) 0] (nw A k (nf k)) none A') (kk : Wok false p l e R s m args below meth c Q D Z base L xs adS adE z0 u0 nL (pc + 7) ls (vR (10 + k) (sz A) 0 :: st) A') : Wok false p l e R s m args below meth c Q D Z base L xs adS adE z0 u0 nL pc ls st A := by
  have z1 := pfx_sz hp
  have z2 := pfx_sl hp
  rw [sz_nw] at z1
  rw [sl_nw] at z2
  refine s_new C h1 hk hl his hin ⟨by omega, by omega⟩ ?_
  refine s_dup C h2 ?_ ?_
  · unfold cat vR
    dsimp only
    split
    · omega
    · rfl
  · refine s_callI (k := k) (b := sz A) (z := 0) (nn := 0) (as := []) (st := vR (10 + k) (sz A) 0 :: st) C h3 hk hz ?_ rfl h him hini hret hR hp hroom hM ?_
    · show cat (vR (10 + k) (sz A) 0) + cats st ≤ 8
      have : cat (vR (10 + k) (sz A) 0) = 1 := by
        unfold cat vR
        dsimp only
        split
        · omega
        · rfl
      omega
    · exact kk
theorem inv_f {ad : Nat → Nat} {H : Heap} {locs : List Loc} {cells slots : Nat} (h : INV f D Z base L xs adS adE z0 u0 s A ad H locs cells slots) : INV false D Z base L xs adS adE z0 u0 s A ad H locs cells slots := ⟨h.1, h.2.1, h.2.2.1, ⟨h.2.2.2.1.1, fun q => by cases q⟩, h.2.2.2.2⟩
theorem inv_t {ad : Nat → Nat} {H : Heap} {locs : List Loc} {cells slots : Nat} (h : INV false D Z base L xs adS adE z0 u0 s A ad H locs cells slots) (hl : f = true → LayOK A) : INV f D Z base L xs adS adE z0 u0 s A ad H locs cells slots := ⟨h.1, h.2.1, h.2.2.1, ⟨h.2.2.2.1.1, hl⟩, h.2.2.2.2⟩
theorem s_new3 {d i k x mj : Nat} {nest : Bool} {A' : AH} (C : CTX p R s m args c D Z base L xs adS nL own cc) (h1 : decode cc pc = .ok (.new i, 3)) (h2 : decode cc (pc + 3) = .ok (.dup, 1)) (h3 : decode cc (pc + 4) = .ok (.invokespecial x, 3)) (hk : k < 12) (hl : (own, i, k) ∈ ctT) (his : (k, nf k) ∈ isT) (hin : k ∈ inT) (hc : cats st ≤ 7) (h : cOK own x mj 0 nest = true) (him : mj ∈ imT) (hini : (ynm mj).name = "<init>") (hret : rtt mj = none) (hR : d + 1 ≤ R.frames ∧ 60 * d + 60 ≤ R.locals) (hz : sz A ≠ 0) (hp : pfx (nw A k (nf k)) A') (hroom : sz A' ≤ z0 + R.cells ∧ sl A' ≤ u0 + R.slots)
    (hM : MTA false l d mj [vR (10 + k) (sz A) 0] (nw A k (nf k)) none A') (hLy : f = true → 40 ≤ sz A → LayOK A → LayOK A') (kk : Wok f p l e R s m args below meth c Q D Z base L xs adS adE z0 u0 nL (pc + 7) ls (vR (10 + k) (sz A) 0 :: st) A') : Wok f p l e R s m args below meth c Q D Z base L xs adS adE z0 u0 nL pc ls st A := by
  intro ad H locs cells slots lsM hI hL ho hs
  refine s_new3N C h1 h2 h3 hk hl his hin hc h him hini hret hR hz hp hroom hM ?_ ad H locs cells slots lsM (inv_f hI) hL ho hs
  intro ad' H' locs' cells' slots' lsM' hI' hL' ho' hs'
  exact kk ad' H' locs' cells' slots' lsM' (inv_t hI' (fun q => hLy q hI.2.2.2.1.1.1 (hI.2.2.2.1.2 q))) hL' ho' hs'
theorem s_getI {i k j a n : Nat} {z : Int} (C : CTX p R s m args c D Z base L xs adS nL own cc) (hdg : decode cc pc = .ok (.getfield i, 3)) (hk : k < 12) (hj : j < nf k) (hl : (own, i, k, j) ∈ ftT) (ht : fty k j = 0) (ha : a ≠ 0) (kk : Wok f p l e R s m args below meth c Q D Z base L xs adS adE z0 u0 nL (pc + 3) ls (vI (gi A a j) :: st) A) : Wok f p l e R s m args below meth c Q D Z base L xs adS adE z0 u0 nL pc ls ((10 + k, z, a, n) :: st) A :=
  s_getO (V := vI (gi A a j)) C hdg hk hj hl ha (fun ad => by rw [ht]; rfl) (fun hwf h40 hsz hkd => okf (t := 0) hwf h40 hsz (by rw [ftg_obj hkd hk, ht])) kk
theorem s_getL {i k j a n : Nat} {z : Int} (C : CTX p R s m args c D Z base L xs adS nL own cc) (hdg : decode cc pc = .ok (.getfield i, 3)) (hk : k < 12) (hj : j < nf k) (hl : (own, i, k, j) ∈ ftT) (ht : fty k j = 1) (ha : a ≠ 0) (kk : Wok f p l e R s m args below meth c Q D Z base L xs adS adE z0 u0 nL (pc + 3) ls (vL (gi A a j) :: st) A) : Wok f p l e R s m args below meth c Q D Z base L xs adS adE z0 u0 nL pc ls ((10 + k, z, a, n) :: st) A :=
  s_getO (V := vL (gi A a j)) C hdg hk hj hl ha (fun ad => by rw [ht]; rfl) (fun hwf h40 hsz hkd => okf (t := 1) hwf h40 hsz (by rw [ftg_obj hkd hk, ht])) kk
theorem s_getZ {i k j a n : Nat} {z : Int} (C : CTX p R s m args c D Z base L xs adS nL own cc) (hdg : decode cc pc = .ok (.getfield i, 3)) (hk : k < 12) (hj : j < nf k) (hl : (own, i, k, j) ∈ ftT) (ht : fty k j = 2) (ha : a ≠ 0) (kk : Wok f p l e R s m args below meth c Q D Z base L xs adS adE z0 u0 nL (pc + 3) ls (vI (gi A a j) :: st) A) : Wok f p l e R s m args below meth c Q D Z base L xs adS adE z0 u0 nL pc ls ((10 + k, z, a, n) :: st) A := by
  refine s_getO (V := vI (gi A a j)) C hdg hk hj hl ha (fun ad => by rw [ht]; rfl) (fun hwf h40 hsz hkd => ?_) kk
  have h01 : gi A a j = 0 ∨ gi A a j = 1 := okf (t := 2) (j := j) hwf h40 hsz (by rw [ftg_obj hkd hk, ht])
  show in32 (gi A a j)
  unfold in32
  omega
theorem s_getR {i k j a n : Nat} {z : Int} (C : CTX p R s m args c D Z base L xs adS nL own cc) (hdg : decode cc pc = .ok (.getfield i, 3)) (hk : k < 12) (hj : j < nf k) (hl : (own, i, k, j) ∈ ftT) (ht : 10 ≤ fty k j) (ha : a ≠ 0) (kk : Wok f p l e R s m args below meth c Q D Z base L xs adS adE z0 u0 nL (pc + 3) ls (vR (fty k j) (gr A a j) (match Nat.ble 30 (fty k j) with | true => ln A (gr A a j) | false => 0) :: st) A) : Wok f p l e R s m args below meth c Q D Z base L xs adS adE z0 u0 nL pc ls ((10 + k, z, a, n) :: st) A := by
  refine s_getO (V := vR (fty k j) (gr A a j) (match Nat.ble 30 (fty k j) with | true => ln A (gr A a j) | false => 0)) C hdg hk hj hl ha (fun ad => ?_) (fun hwf h40 hsz hkd => ?_) kk
  · rw [cv_r (show 2 ≤ fty k j by omega)]
    show rfv ad (gr A a j) = _
    unfold fld
    generalize fty k j = t at ht
    match t, ht with
    | t' + 10, _ => rfl
  · refine okv_ref ht (oks_ref ht (okf hwf h40 hsz (ftg_obj hkd hk))) (fun h30 h0 => ?_)
    rw [Nat.ble_eq_true_of_le h30, lenf_ln (fty_lt k j)]
theorem lab_if (ab : Int) (o a : Nat) : lab ab o a = if ab = 1 then o else a + o := by
  unfold lab
  split
  · rfl
  · rename_i q; rw [if_neg q]
theorem lad_if (k j a : Nat) : lad k j a = if ((lyo k j).2.2 : Int) = 1 then (lyo k j).1 else a + (lyo k j).1 := by
  unfold lad
  split
  · rename_i q; rw [q]; rfl
  · rename_i q; rw [if_neg (fun h => q (by omega))]
theorem lyo_obj : ∀ k, k < 12 → ∀ j, j < nf k → fty k j < 30 → (lyo k j).2.1 = 0 := by decide +kernel
theorem s_getF {i k j a n nn : Nat} {z : Int} (C : CTX p R s m args c D Z base L xs adS nL own cc) (hdg : decode cc pc = .ok (.getfield i, 3)) (hk : k < 12) (hj : j < nf k) (hl : (own, i, k, j) ∈ ftT) (ht : 10 ≤ fty k j) (ha : a ≠ 0) (hf : f = true) (ho : (lyo k j).1 ≠ 0) (hnn : (lyo k j).2.1 = nn) (kk : Wok f p l e R s m args below meth c Q D Z base L xs adS adE z0 u0 nL (pc + 3) ls (vR (fty k j) (lad k j a) nn :: st) A) : Wok f p l e R s m args below meth c Q D Z base L xs adS adE z0 u0 nL pc ls ((10 + k, z, a, n) :: st) A := by
  intro ad H locs cells slots lsM hI hL ho1 hs
  obtain ⟨h40, hsz, hkd, -⟩ := ok_obj (okv_head hs) (Or.inl hk) ha
  have hlay := hI.2.2.2.1.2 hf a h40 hsz j (by rw [hkd]; exact ho)
  rw [hkd] at hlay
  have e : vR (fty k j) (gr A a j) (match Nat.ble 30 (fty k j) with | true => ln A (gr A a j) | false => 0) = vR (fty k j) (lad k j a) nn := by
    rw [hlay.1]
    congr 1
    by_cases h30 : 30 ≤ fty k j
    · rw [Nat.ble_eq_true_of_le h30, ← hnn, ← hlay.2.2 h30, hlay.1]
    · have h0 := lyo_obj k hk j hj (by omega)
      have hb : Nat.ble 30 (fty k j) = false := by
        cases hq : Nat.ble 30 (fty k j)
        · rfl
        · exact absurd (Nat.le_of_ble_eq_true hq) h30
      rw [hb, ← hnn, h0]
  refine s_getR C hdg hk hj hl ht ha ?_ ad H locs cells slots lsM hI hL ho1 hs
  rw [e]
  exact kk
theorem s_putI {i k j a n : Nat} {z x : Int} {w : Nat × Nat} (C : CTX p R s m args c D Z base L xs adS nL own cc) (hdg : decode cc pc = .ok (.putfield i, 3)) (hk : k < 12) (hj : j < nf k) (hl : (own, i, k, j) ∈ ftT) (ht : fty k j = 0) (ha : a ≠ 0) (hfin : ((vwc k).2.1 j).2.2.2 = true → meth.name = "<init>" ∧ own = k) (kk : Wok f p l e R s m args below meth c Q D Z base L xs adS adE z0 u0 nL (pc + 3) ls st (wi A a j x)) : Wok f p l e R s m args below meth c Q D Z base L xs adS adE z0 u0 nL pc ls ((0, x, w) :: (10 + k, z, a, n) :: st) A := by
  refine s_put (A' := wi A a j x) C hdg hk hj hl ha hfin (by rw [ht]; rfl) rfl (fun ad => ?_) (fun ad i' hi' => ?_) (fun ad => wce_wi) (fun hwf h40 hsz hkd ho => wf_wi hwf h40 (by rw [ftg_obj hkd hk, ht]; exact ho)) (fun hl _ _ _ => hl) kk
  · rw [ht]; show Value.int (c32 (gi (wi A a j x) a j)) = _; rw [gi_wi, if_pos ⟨rfl, rfl⟩]; rfl
  · exact fld_wi hi'
theorem s_putL {i k j a n : Nat} {z x : Int} {w : Nat × Nat} (C : CTX p R s m args c D Z base L xs adS nL own cc) (hdg : decode cc pc = .ok (.putfield i, 3)) (hk : k < 12) (hj : j < nf k) (hl : (own, i, k, j) ∈ ftT) (ht : fty k j = 1) (ha : a ≠ 0) (hfin : ((vwc k).2.1 j).2.2.2 = true → meth.name = "<init>" ∧ own = k) (kk : Wok f p l e R s m args below meth c Q D Z base L xs adS adE z0 u0 nL (pc + 3) ls st (wi A a j x)) : Wok f p l e R s m args below meth c Q D Z base L xs adS adE z0 u0 nL pc ls ((1, x, w) :: (10 + k, z, a, n) :: st) A := by
  refine s_put (A' := wi A a j x) C hdg hk hj hl ha hfin (by rw [ht]; rfl) rfl (fun ad => ?_) (fun ad i' hi' => ?_) (fun ad => wce_wi) (fun hwf h40 hsz hkd ho => wf_wi hwf h40 (by rw [ftg_obj hkd hk, ht]; exact ho)) (fun hl _ _ _ => hl) kk
  · rw [ht]; show Value.long (c64 (gi (wi A a j x) a j)) = _; rw [gi_wi, if_pos ⟨rfl, rfl⟩]; rfl
  · exact fld_wi hi'
theorem s_putZ {i k j a n : Nat} {z x : Int} {w : Nat × Nat} (C : CTX p R s m args c D Z base L xs adS nL own cc) (hdg : decode cc pc = .ok (.putfield i, 3)) (hk : k < 12) (hj : j < nf k) (hl : (own, i, k, j) ∈ ftT) (ht : fty k j = 2) (h01 : x = 0 ∨ x = 1) (ha : a ≠ 0) (hfin : ((vwc k).2.1 j).2.2.2 = true → meth.name = "<init>" ∧ own = k) (kk : Wok f p l e R s m args below meth c Q D Z base L xs adS adE z0 u0 nL (pc + 3) ls st (wi A a j x)) : Wok f p l e R s m args below meth c Q D Z base L xs adS adE z0 u0 nL pc ls ((0, x, w) :: (10 + k, z, a, n) :: st) A := by
  refine s_put (A' := wi A a j x) C hdg hk hj hl ha hfin (by rw [ht]; exact ⟨rfl, h01⟩) rfl (fun ad => ?_) (fun ad i' hi' => ?_) (fun ad => wce_wi) (fun hwf h40 hsz hkd ho => wf_wi hwf h40 (by rw [ftg_obj hkd hk, ht]; exact h01)) (fun hl _ _ _ => hl) kk
  · rw [ht]; show Value.int (c32 (gi (wi A a j x) a j)) = _; rw [gi_wi, if_pos ⟨rfl, rfl⟩]; rfl
  · exact fld_wi hi'
theorem s_putR {i k j a n t v w : Nat} {z x : Int} (C : CTX p R s m args c D Z base L xs adS nL own cc) (hdg : decode cc pc = .ok (.putfield i, 3)) (hk : k < 12) (hj : j < nf k) (hl : (own, i, k, j) ∈ ftT) (ht : 10 ≤ fty k j) (htt : t = fty k j) (hlo : f = true → (lyo k j).1 = 0) (ha : a ≠ 0) (hfin : ((vwc k).2.1 j).2.2.2 = true → meth.name = "<init>" ∧ own = k) (kk : Wok f p l e R s m args below meth c Q D Z base L xs adS adE z0 u0 nL (pc + 3) ls st (wr A a j v)) : Wok f p l e R s m args below meth c Q D Z base L xs adS adE z0 u0 nL pc ls ((t, x, v, w) :: (10 + k, z, a, n) :: st) A := by
  subst htt
  refine s_put (A' := wr A a j v) C hdg hk hj hl ha hfin ?_ rfl (fun ad => ?_) (fun ad i' hi' => ?_) (fun ad => wce_wr) (fun hwf h40 hsz hkd ho => ?_) (fun hl _ hkd hf => lay_wr (by rw [hkd]; exact hlo hf) hl) kk
  · generalize fty k j = t at ht
    match t, ht with
    | t' + 10, h => exact h
  · rw [cv_r (v := (fty k j, x, v, w)) (show 2 ≤ fty k j by omega)]
    have hg : gr (wr A a j v) a j = v := by rw [gr_wr, if_pos ⟨rfl, rfl⟩]
    unfold fld
    rw [hg]
    generalize fty k j = t at ht
    match t, ht with
    | t' + 10, h => rfl
  · exact fld_wr hi'
  · have hft2 : ftg A a j = fty k j := ftg_obj hkd hk
    refine wf_wr hwf (by rw [hft2]; exact ht) ?_
    rw [hft2]
    exact ((okv_def (by omega) (by omega) (by omega) (by omega)).mp ho).2.1
set_option maxHeartbeats 8000000 in
theorem ins_sound {d rz : Nat} {ini : Bool} {S SN : SX} {e0 : EI} {nx : NX} {jp : Nat → NX} {r : Option AV × AH} (C : CTX p R s m args c D Z base L xs adS nL own cc) (hok : okI own ini cc pc e0 = true) (hini : ini = true → meth.name = "<init>")
    (hS : ∀ mi av A v A', S mi av A = some (v, A') → pfx A A' ∧ MTA f l d mi av A v A') (hSN : ∀ mi av A v A', SN mi av A = some (v, A') → pfx A A' ∧ MTA false l d mi av A v A') (hSL : f = true → ∀ k n mj A A', 40 ≤ sz A → LayOK A → SN mj [vR (10 + k) (sz A) 0] (nw A k n) = some (none, A') → LayOK A') (hR : d + 1 ≤ R.frames ∧ 60 * d + 60 ≤ R.locals) (hroom : sz r.2 ≤ z0 + R.cells ∧ sl r.2 ≤ u0 + R.slots)
    (hm : ∀ ls' st' A', nx ls' st' A' = some r → pfx A' r.2)
    (kn : ∀ ls' st' A', nx ls' st' A' = some r → Wok f p l e R s m args below meth c Q D Z base L xs adS adE z0 u0 nL (pc + e0.2.1) ls' st' A') (kj : ∀ t ls' st' A', jp t ls' st' A' = some r → Wok f p l e R s m args below meth c Q D Z base L xs adS adE z0 u0 nL t ls' st' A')
    (kI : ∀ x w, (rz = 0 ∨ (rz = 2 ∧ (x = 0 ∨ x = 1))) → decode cc pc = .ok (.ireturn, 1) → r = (some (vI x), A) → st = [(0, x, w)] → Wok f p l e R s m args below meth c Q D Z base L xs adS adE z0 u0 nL pc ls st A)
    (kL : ∀ x w, rz = 1 → decode cc pc = .ok (.lreturn, 1) → r = (some (vL x), A) → st = [(1, x, w)] → Wok f p l e R s m args below meth c Q D Z base L xs adS adE z0 u0 nL pc ls st A)
    (kA : ∀ v, 10 ≤ rz → v.1 = rz → decode cc pc = .ok (.areturn, 1) → r = (some v, A) → st = [v] → Wok f p l e R s m args below meth c Q D Z base L xs adS adE z0 u0 nL pc ls st A)
    (kV : rz = 3 → decode cc pc = .ok (.return_, 1) → r = (none, A) → st = [] → Wok f p l e R s m args below meth c Q D Z base L xs adS adE z0 u0 nL pc ls st A)
    (h : ins f rz S SN e0 pc ls st A nx jp = some r) : Wok f p l e R s m args below meth c Q D Z base L xs adS adE z0 u0 nL pc ls st A := by
  have roomN : ∀ {A' : AH}, pfx A' r.2 → sz A' ≤ z0 + R.cells ∧ sl A' ≤ u0 + R.slots := fun q => ⟨Nat.le_trans (pfx_sz q) hroom.1, Nat.le_trans (pfx_sl q) hroom.2⟩
  obtain ⟨i, n, t, b, k, fl, q, z⟩ := e0
  cases i with
  | aload k =>
    obtain ⟨hd, hn⟩ := getd (n' := 2) hok
    subst hn
    simp only [ins, i_lda] at h
    split at h
    · rename_i h10; exact s_aload C hd (Nat.le_of_ble_eq_true h10) (kn _ _ _ h)
    · cases h
  | aload_n k =>
    obtain ⟨hd, hn⟩ := getd (n' := 1) hok
    subst hn
    simp only [ins, i_lda] at h
    split at h
    · rename_i h10; exact s_aload_n C hd (Nat.le_of_ble_eq_true h10) (kn _ _ _ h)
    · cases h
  | iload k =>
    obtain ⟨hd, hn⟩ := getd (n' := 2) hok
    subst hn
    simp only [ins, i_ld] at h
    split at h
    · rename_i h10; exact s_iload C hd (by simpa using h10) (kn _ _ _ h)
    · cases h
  | iload_n k =>
    obtain ⟨hd, hn⟩ := getd (n' := 1) hok
    subst hn
    simp only [ins, i_ld] at h
    split at h
    · rename_i h10; exact s_iload_n C hd (by simpa using h10) (kn _ _ _ h)
    · cases h
  | lload k =>
    obtain ⟨hd, hn⟩ := getd (n' := 2) hok
    subst hn
    simp only [ins, i_ldl] at h
    split at h
    · rename_i h10
      rw [Bool.and_eq_true, beq_iff_eq, beq_iff_eq] at h10
      exact s_lload C hd h10.1 h10.2 (kn _ _ _ h)
    · cases h
  | lload_n k =>
    obtain ⟨hd, hn⟩ := getd (n' := 1) hok
    subst hn
    simp only [ins, i_ldl] at h
    split at h
    · rename_i h10
      rw [Bool.and_eq_true, beq_iff_eq, beq_iff_eq] at h10
      exact s_lload_n C hd h10.1 h10.2 (kn _ _ _ h)
    · cases h
  | astore k =>
    obtain ⟨hd, hn⟩ := getd (n' := 2) hok
    subst hn
    simp only [ins, i_sta] at h
    split at h
    · split at h
      · rename_i h10
        rw [Bool.and_eq_true] at h10
        exact s_astore C hd (Nat.le_of_ble_eq_true h10.1) (Nat.le_of_ble_eq_true h10.2) (kn _ _ _ h)
      · cases h
    · cases h
  | astore_n k =>
    obtain ⟨hd, hn⟩ := getd (n' := 1) hok
    subst hn
    simp only [ins, i_sta] at h
    split at h
    · split at h
      · rename_i h10
        rw [Bool.and_eq_true] at h10
        exact s_astore_n C hd (Nat.le_of_ble_eq_true h10.1) (Nat.le_of_ble_eq_true h10.2) (kn _ _ _ h)
      · cases h
    · cases h
  | istore k =>
    obtain ⟨hd, hn⟩ := getd (n' := 2) hok
    subst hn
    simp only [ins, i_st] at h
    split at h
    · split at h
      · rename_i h10
        rw [Bool.and_eq_true, beq_iff_eq] at h10
        exact s_istore C hd h10.1 (Nat.le_of_ble_eq_true h10.2) (kn _ _ _ h)
      · cases h
    · cases h
  | istore_n k =>
    obtain ⟨hd, hn⟩ := getd (n' := 1) hok
    subst hn
    simp only [ins, i_st] at h
    split at h
    · split at h
      · rename_i h10
        rw [Bool.and_eq_true, beq_iff_eq] at h10
        exact s_istore_n C hd h10.1 (Nat.le_of_ble_eq_true h10.2) (kn _ _ _ h)
      · cases h
    · cases h
  | lstore k =>
    obtain ⟨hd, hn⟩ := getd (n' := 2) hok
    subst hn
    simp only [ins, i_st] at h
    split at h
    · split at h
      · rename_i h10
        rw [Bool.and_eq_true, beq_iff_eq] at h10
        exact s_lstore C hd h10.1 (Nat.le_of_ble_eq_true h10.2) (kn _ _ _ h)
      · cases h
    · cases h
  | lstore_n k =>
    obtain ⟨hd, hn⟩ := getd (n' := 1) hok
    subst hn
    simp only [ins, i_st] at h
    split at h
    · split at h
      · rename_i h10
        rw [Bool.and_eq_true, beq_iff_eq] at h10
        exact s_lstore_n C hd h10.1 (Nat.le_of_ble_eq_true h10.2) (kn _ _ _ h)
      · cases h
    · cases h
  | iconst z0 =>
    simp only [okI, Bool.and_eq_true, beq_iff_eq, decide_eq_true_eq] at hok
    obtain ⟨⟨⟨hd, hn⟩, h1⟩, h2⟩ := hok
    subst hn
    simp only [ins] at h
    exact s_pushI (n := 1) (fun H locs cells slots lsM rest k => lv_iconst C.1 C.2.1 (dcd_of hd) rfl k) (by unfold in32; omega) (kn _ _ _ h)
  | bipush z0 =>
    simp only [okI, Bool.and_eq_true, beq_iff_eq, decide_eq_true_eq] at hok
    obtain ⟨⟨⟨hd, hn⟩, h1⟩, h2⟩ := hok
    subst hn
    simp only [ins] at h
    exact s_pushI (n := 2) (fun H locs cells slots lsM rest k => lv_bipush C.1 C.2.1 (dcd_of hd) (nar8 h1 h2) k) (by unfold in32; omega) (kn _ _ _ h)
  | sipush z0 =>
    simp only [okI, Bool.and_eq_true, beq_iff_eq, decide_eq_true_eq] at hok
    obtain ⟨⟨⟨hd, hn⟩, h1⟩, h2⟩ := hok
    subst hn
    simp only [ins] at h
    exact s_pushI (n := 3) (fun H locs cells slots lsM rest k => lv_sipush C.1 C.2.1 (dcd_of hd) (nar16 h1 h2) k) (by unfold in32; omega) (kn _ _ _ h)
  | lconst z0 =>
    obtain ⟨hd, hn⟩ := getd (n' := 1) hok
    subst hn
    simp only [ins] at h
    exact s_pushL (n := 1) (fun H locs cells slots lsM rest k => lv_lconst C.1 C.2.1 hd (lc2 _) k) (by unfold in64; omega) (kn _ _ _ h)
  | ldc i =>
    simp only [okI, Bool.and_eq_true, beq_iff_eq, decide_eq_true_eq] at hok
    obtain ⟨⟨⟨⟨hd, hn⟩, h0⟩, h1⟩, h2⟩ := hok
    subst hn
    simp only [ins] at h
    exact s_pushI (n := 2) (fun H locs cells slots lsM rest k => lv_ldc C.1 C.2.1 C.2.2.2.1 (C.2.2.2.2.1 _ (kt_in (by simpa using h0))) (dcd_of hd) k) ⟨h1, h2⟩ (kn _ _ _ h)
  | ldc_w i =>
    simp only [okI, Bool.and_eq_true, beq_iff_eq, decide_eq_true_eq] at hok
    obtain ⟨⟨⟨⟨hd, hn⟩, h0⟩, h1⟩, h2⟩ := hok
    subst hn
    simp only [ins] at h
    exact s_pushI (n := 3) (fun H locs cells slots lsM rest k => lv_ldcw C.1 C.2.1 C.2.2.2.1 (C.2.2.2.2.1 _ (kt_in (by simpa using h0))) (dcd_of hd) k) ⟨h1, h2⟩ (kn _ _ _ h)
  | ldc2_w i =>
    simp only [okI, Bool.and_eq_true, beq_iff_eq, decide_eq_true_eq] at hok
    obtain ⟨⟨⟨⟨hd, hn⟩, h0⟩, h1⟩, h2⟩ := hok
    subst hn
    simp only [ins] at h
    exact s_pushL (n := 3) (fun H locs cells slots lsM rest k => lv_ldc2 C.1 C.2.1 C.2.2.2.1 (C.2.2.2.2.1 _ (k2_in (by simpa using h0))) (dcd_of hd) k) ⟨h1, h2⟩ (kn _ _ _ h)
  | aconst_null =>
    obtain ⟨hd, hn⟩ := getd (n' := 1) hok
    subst hn
    simp only [ins] at h
    exact s_null C hd (by omega) (kn _ _ _ h)
  | iinc a z0 =>
    obtain ⟨hd, hn⟩ := getd (n' := 3) hok
    subst hn
    simp only [ins] at h
    split at h
    · rename_i h10
      rw [Bool.and_eq_true, beq_iff_eq] at h10
      exact s_iinc C hd h10.1 (Nat.le_of_ble_eq_true h10.2) (kn _ _ _ h)
    · cases h
  | iadd =>
    obtain ⟨hd, hn⟩ := getd (n' := 1) hok
    subst hn
    simp only [ins, i_b2] at h
    split at h
    · exact s_b2 (g := fun x y => w32 (x + y)) (fo := fun x y => x + y) (fun H locs cells slots lsM rest _ _ k => lv_iadd C.1 C.2.1 hd k) (fun _ _ => ⟨c32_add _ _, in32_w32 _⟩) (kn _ _ _ h)
    · cases h
  | isub =>
    obtain ⟨hd, hn⟩ := getd (n' := 1) hok
    subst hn
    simp only [ins, i_b2] at h
    split at h
    · exact s_b2 (g := fun x y => w32 (x - y)) (fo := fun x y => x - y) (fun H locs cells slots lsM rest _ _ k => lv_isub C.1 C.2.1 hd k) (fun _ _ => ⟨c32_sub _ _, in32_w32 _⟩) (kn _ _ _ h)
    · cases h
  | imul =>
    obtain ⟨hd, hn⟩ := getd (n' := 1) hok
    subst hn
    simp only [ins, i_b2] at h
    split at h
    · exact s_b2 (g := fun x y => w32 (x * y)) (fo := fun x y => x * y) (fun H locs cells slots lsM rest _ _ k => lv_imul C.1 C.2.1 hd k) (fun _ _ => ⟨c32_mul _ _, in32_w32 _⟩) (kn _ _ _ h)
    · cases h
  | iand =>
    obtain ⟨hd, hn⟩ := getd (n' := 1) hok
    subst hn
    simp only [ins, i_b2] at h
    split at h
    · exact s_b2 (g := band) (fo := fun x y => x &&& y) (fun H locs cells slots lsM rest _ _ k => lv_iand C.1 C.2.1 hd k) (fun _ _ => ⟨c32_band _ _, by rw [band_eq]; exact in32_of _⟩) (kn _ _ _ h)
    · cases h
  | ior =>
    obtain ⟨hd, hn⟩ := getd (n' := 1) hok
    subst hn
    simp only [ins, i_b2] at h
    split at h
    · exact s_b2 (g := bor) (fo := fun x y => x ||| y) (fun H locs cells slots lsM rest _ _ k => lv_ior C.1 C.2.1 hd k) (fun _ _ => ⟨c32_bor _ _, by rw [bor_eq]; exact in32_of _⟩) (kn _ _ _ h)
    · cases h
  | ixor =>
    obtain ⟨hd, hn⟩ := getd (n' := 1) hok
    subst hn
    simp only [ins, i_b2] at h
    split at h
    · exact s_b2 (g := bxor) (fo := fun x y => x ^^^ y) (fun H locs cells slots lsM rest _ _ k => lv_ixor C.1 C.2.1 hd k) (fun _ _ => ⟨c32_bxor _ _, by rw [bxor_eq]; exact in32_of _⟩) (kn _ _ _ h)
    · cases h
  | ishl =>
    obtain ⟨hd, hn⟩ := getd (n' := 1) hok
    subst hn
    simp only [ins, i_b2] at h
    split at h
    · exact s_b2 (g := bshl) (fo := fun x y => x <<< (y &&& 31)) (fun H locs cells slots lsM rest _ _ k => lv_ishl C.1 C.2.1 hd k) (fun _ _ => ⟨c32_bshl _ _, by rw [bshl_eq]; exact in32_of _⟩) (kn _ _ _ h)
    · cases h
  | ishr =>
    obtain ⟨hd, hn⟩ := getd (n' := 1) hok
    subst hn
    simp only [ins, i_b2] at h
    split at h
    · exact s_b2 (g := bshr) (fo := fun x y => x >>> (y &&& 31)) (fun H locs cells slots lsM rest _ _ k => lv_ishr C.1 C.2.1 hd k) (fun _ _ => ⟨c32_bshr _ _, by rw [bshr_eq]; exact in32_of _⟩) (kn _ _ _ h)
    · cases h
  | iushr =>
    obtain ⟨hd, hn⟩ := getd (n' := 1) hok
    subst hn
    simp only [ins, i_b2] at h
    split at h
    · exact s_b2 (g := bushr) (fo := fun x y => (x.toUInt32 >>> (y.toUInt32 &&& Int32.toUInt32 31)).toInt32) (fun H locs cells slots lsM rest _ _ k => lv_iushr C.1 C.2.1 hd rfl k) (fun _ _ => ⟨c32_bushr _ _, by rw [bushr_eq]; exact in32_of _⟩) (kn _ _ _ h)
    · cases h
  | idiv =>
    obtain ⟨hd, hn⟩ := getd (n' := 1) hok
    subst hn
    simp only [ins, i_b2z] at h
    split at h
    · split at h
      · cases h
      · rename_i hy
        exact s_b2 (g := fun x y => w32 (x.tdiv y)) (fo := fun x y => x / y) (fun H locs cells slots lsM rest _ h2 k => lv_idiv C.1 C.2.1 hd (fun q => hy ((c32_eq h2 in32_0).mp q)) k) (fun h1 h2 => ⟨c32_div h1 h2, in32_w32 _⟩) (kn _ _ _ h)
    · cases h
  | irem =>
    obtain ⟨hd, hn⟩ := getd (n' := 1) hok
    subst hn
    simp only [ins, i_b2z] at h
    split at h
    · split at h
      · cases h
      · rename_i hy
        exact s_b2 (g := fun x y => x.tmod y) (fo := fun x y => x - x / y * y) (fun H locs cells slots lsM rest _ h2 k => lv_irem C.1 C.2.1 hd (fun q => hy ((c32_eq h2 in32_0).mp q)) k) (fun h1 h2 => ⟨c32_rem h1 h2, in32_tmod h1 hy⟩) (kn _ _ _ h)
    · cases h
  | ladd =>
    obtain ⟨hd, hn⟩ := getd (n' := 1) hok
    subst hn
    simp only [ins, i_l2] at h
    split at h
    · exact s_l2 (g := fun x y => w64 (x + y)) (fo := fun x y => x + y) (fun H locs cells slots lsM rest _ _ k => lv_ladd C.1 C.2.1 hd k) (fun _ _ => ⟨c64_add _ _, in64_w64 _⟩) (kn _ _ _ h)
    · cases h
  | lsub =>
    obtain ⟨hd, hn⟩ := getd (n' := 1) hok
    subst hn
    simp only [ins, i_l2] at h
    split at h
    · exact s_l2 (g := fun x y => w64 (x - y)) (fo := fun x y => x - y) (fun H locs cells slots lsM rest _ _ k => lv_lsub C.1 C.2.1 hd k) (fun _ _ => ⟨c64_sub _ _, in64_w64 _⟩) (kn _ _ _ h)
    · cases h
  | lmul =>
    obtain ⟨hd, hn⟩ := getd (n' := 1) hok
    subst hn
    simp only [ins, i_l2] at h
    split at h
    · exact s_l2 (g := fun x y => w64 (x * y)) (fo := fun x y => x * y) (fun H locs cells slots lsM rest _ _ k => lv_lmul C.1 C.2.1 hd k) (fun _ _ => ⟨c64_mul _ _, in64_w64 _⟩) (kn _ _ _ h)
    · cases h
  | ldiv =>
    obtain ⟨hd, hn⟩ := getd (n' := 1) hok
    subst hn
    simp only [ins, i_l2z] at h
    split at h
    · split at h
      · cases h
      · rename_i hy
        exact s_l2 (g := fun x y => w64 (x.tdiv y)) (fo := fun x y => x / y) (fun H locs cells slots lsM rest _ h2 k => lv_ldiv C.1 C.2.1 hd (fun q => hy ((c64_eq h2 in64_0).mp q)) k) (fun h1 h2 => ⟨c64_div h1 h2, in64_w64 _⟩) (kn _ _ _ h)
    · cases h
  | lrem =>
    obtain ⟨hd, hn⟩ := getd (n' := 1) hok
    subst hn
    simp only [ins, i_l2z] at h
    split at h
    · split at h
      · cases h
      · rename_i hy
        exact s_l2 (g := fun x y => x.tmod y) (fo := fun x y => x - x / y * y) (fun H locs cells slots lsM rest _ h2 k => lv_lrem C.1 C.2.1 hd (fun q => hy ((c64_eq h2 in64_0).mp q)) k) (fun h1 h2 => ⟨c64_rem h1 h2, in64_tmod h1 hy⟩) (kn _ _ _ h)
    · cases h
  | ineg =>
    obtain ⟨hd, hn⟩ := getd (n' := 1) hok
    subst hn
    simp only [ins] at h
    split at h
    · exact s_ineg C hd (kn _ _ _ h)
    · cases h
  | lneg =>
    obtain ⟨hd, hn⟩ := getd (n' := 1) hok
    subst hn
    simp only [ins] at h
    split at h
    · exact s_lneg C hd (kn _ _ _ h)
    · cases h
  | i2l =>
    obtain ⟨hd, hn⟩ := getd (n' := 1) hok
    subst hn
    simp only [ins] at h
    split at h
    · exact s_i2l C hd (kn _ _ _ h)
    · cases h
  | l2i =>
    obtain ⟨hd, hn⟩ := getd (n' := 1) hok
    subst hn
    simp only [ins] at h
    split at h
    · exact s_l2i C hd (kn _ _ _ h)
    · cases h
  | lcmp =>
    obtain ⟨hd, hn⟩ := getd (n' := 1) hok
    subst hn
    simp only [ins] at h
    split at h
    · exact s_lcmp C hd (kn _ _ _ h)
    · cases h
  | dup =>
    obtain ⟨hd, hn⟩ := getd (n' := 1) hok
    subst hn
    simp only [ins] at h
    split at h
    · split at h
      · rename_i hc; exact s_dup C hd hc (kn _ _ _ h)
      · cases h
    · cases h
  | dup2 =>
    obtain ⟨hd, hn⟩ := getd (n' := 1) hok
    subst hn
    simp only [ins] at h
    split at h
    · split at h
      · rename_i hc
        exact s_dup2 C hd (cat_sum hc).1 (cat_sum hc).2 (kn _ _ _ h)
      · cases h
    · cases h
  | pop =>
    obtain ⟨hd, hn⟩ := getd (n' := 1) hok
    subst hn
    simp only [ins] at h
    split at h
    · split at h
      · rename_i hc; exact s_pop C hd hc (kn _ _ _ h)
      · cases h
    · cases h
  | if_icmp c o =>
    simp only [okI, Bool.and_eq_true, beq_iff_eq, decide_eq_true_eq] at hok
    obtain ⟨⟨hd, hn⟩, ht⟩ := hok
    subst hn
    simp only [ins, i_ic] at h
    split at h
    · exact s_icmp C (dcd_of hd) ht h (kj _ _ _ _) (kn _ _ _)
    · cases h
  | ifCond c o =>
    simp only [okI, Bool.and_eq_true, beq_iff_eq, decide_eq_true_eq] at hok
    obtain ⟨⟨hd, hn⟩, ht⟩ := hok
    subst hn
    simp only [ins, i_if] at h
    split at h
    · exact s_if C (dcd_of hd) ht h (kj _ _ _ _) (kn _ _ _)
    · cases h
  | if_acmp c o =>
    simp only [okI, Bool.and_eq_true, beq_iff_eq, decide_eq_true_eq] at hok
    obtain ⟨⟨hd, hn⟩, ht⟩ := hok
    subst hn
    cases c <;> simp only [ins, i_ac] at h <;> split at h
    · exact s_acmp (c0 := true) C (dcd_of hd) ht h (kj _ _ _ _) (kn _ _ _)
    · cases h
    · exact s_acmp (c0 := false) C (dcd_of hd) ht h (kj _ _ _ _) (kn _ _ _)
    · cases h
  | ifnull o =>
    simp only [okI, Bool.and_eq_true, beq_iff_eq, decide_eq_true_eq] at hok
    obtain ⟨⟨hd, hn⟩, ht⟩ := hok
    subst hn
    simp only [ins, i_nl] at h
    split at h
    · split at h
      · rename_i h10; exact s_null1 C (dcd_of hd) ht (Nat.le_of_ble_eq_true h10) h (kj _ _ _ _) (kn _ _ _)
      · cases h
    · cases h
  | ifnonnull o =>
    simp only [okI, Bool.and_eq_true, beq_iff_eq, decide_eq_true_eq] at hok
    obtain ⟨⟨hd, hn⟩, ht⟩ := hok
    subst hn
    simp only [ins, i_nl] at h
    split at h
    · split at h
      · rename_i h10; exact s_null2 C (dcd_of hd) ht (Nat.le_of_ble_eq_true h10) h (kj _ _ _ _) (kn _ _ _)
      · cases h
    · cases h
  | goto o =>
    simp only [okI, Bool.and_eq_true, beq_iff_eq, decide_eq_true_eq] at hok
    obtain ⟨⟨hd, hn⟩, ht⟩ := hok
    simp only [ins] at h
    exact s_goto C (by subst hn; exact dcd_of hd) ht (kj _ _ _ _ h)
  | tableswitch d0 lo hi os =>
    simp only [okI, Bool.and_eq_true, beq_iff_eq, decide_eq_true_eq, List.all_eq_true] at hok
    obtain ⟨⟨⟨hd, h1⟩, h2⟩, h3⟩ := hok
    simp only [ins] at h
    split at h
    · exact s_tsw C (dcd_of hd) h1 h2 h3 h (fun t q => kj _ _ _ _ q)
    · cases h
  | lookupswitch d0 ps =>
    simp only [okI, Bool.and_eq_true, decide_eq_true_eq] at hok
    obtain ⟨hd, h1⟩ := hok
    simp only [ins] at h
    split at h
    · split at h
      · rename_i hps; exact s_lsw C (dcd_of hd) hps h1 (kj _ _ _ _ h)
      · cases h
    · cases h
  | ireturn =>
    obtain ⟨hd, hn⟩ := getd (n' := 1) hok
    simp only [ins] at h
    split at h
    · split at h
      · cases h; exact kI _ _ (Or.inl rfl) hd rfl rfl
      · split at h
        · rename_i h01; cases h; exact kI _ _ (Or.inr ⟨rfl, h01⟩) hd rfl rfl
        · cases h
      · cases h
    · cases h
  | lreturn =>
    obtain ⟨hd, hn⟩ := getd (n' := 1) hok
    simp only [ins] at h
    split at h
    · split at h
      · cases h; exact kL _ _ rfl hd rfl rfl
      · cases h
    · cases h
  | areturn =>
    obtain ⟨hd, hn⟩ := getd (n' := 1) hok
    simp only [ins] at h
    split at h
    · split at h
      · rename_i h10
        rw [Bool.and_eq_true, beq_iff_eq] at h10
        cases h; exact kA _ (Nat.le_of_ble_eq_true h10.1) h10.2 hd rfl rfl
      · cases h
    · cases h
  | return_ =>
    obtain ⟨hd, hn⟩ := getd (n' := 1) hok
    simp only [ins] at h
    split at h
    · split at h
      · cases h; exact kV rfl hd rfl rfl
      · cases h
    · cases h
  | getfield i =>
    simp only [okI, Bool.and_eq_true, Bool.or_eq_true, beq_iff_eq] at hok
    obtain ⟨⟨⟨⟨hd, hn⟩, hft⟩, hor⟩, hlo⟩ := hok
    subst hn
    have hft := has4_mem hft
    simp only [ins, i_gf] at h
    split at h
    · split at h
      · rename_i hkx
        have hkx := beq_iff_eq.mp hkx
        subst hkx
        split at h
        · cases h
        · rename_i ha
          split at h
          · rcases hor with ⟨_, h3⟩ | ⟨⟨h3, _⟩, _⟩
            · exact s_getE C (dcd_of hd) (Nat.le_of_ble_eq_true h3) hft ha (kn _ _ _ h)
            · exact absurd (Nat.le_of_ble_eq_true h3) (by omega)
          · rename_i h12
            rcases hor with ⟨h3, _⟩ | ⟨⟨h3, h4⟩, h5⟩
            · exact absurd h3 h12
            · have h3 : t < 12 := Nat.le_of_ble_eq_true h3
              have h4 : b < nf t := Nat.le_of_ble_eq_true h4
              subst h5
              split at h
              · rename_i e0; exact s_getI C (dcd_of hd) h3 h4 hft e0 ha (kn _ _ _ h)
              · rename_i e0; exact s_getL C (dcd_of hd) h3 h4 hft e0 ha (kn _ _ _ h)
              · rename_i e0; exact s_getZ C (dcd_of hd) h3 h4 hft e0 ha (kn _ _ _ h)
              · rename_i e0 e1 e2
                have h10 : 10 ≤ fty t b := by
                  rcases fty_cs t b with q | q | q | q
                  · exact absurd q e0
                  · exact absurd q e1
                  · exact absurd q e2
                  · exact q
                split at h
                · rename_i hfo
                  simp only [Bool.and_eq_true, bne_iff_ne] at hfo
                  obtain ⟨hl1, hl2⟩ := hlo
                  rcases hl2 with hl2 | ⟨hl2, hl3⟩
                  · exact absurd hl2 hfo.2
                  · have hl3 := of_decide_eq_true hl3
                    rw [← hl1, lab_if, ← hl3, ← lad_if] at h
                    exact s_getF C (dcd_of hd) h3 h4 hft h10 ha hfo.1 (by rw [hl1]; exact hfo.2) hl2 (kn _ _ _ h)
                · exact s_getR C (dcd_of hd) h3 h4 hft h10 ha (kn _ _ _ h)
      · cases h
    · cases h
  | putfield i =>
    simp only [okI, Bool.and_eq_true, beq_iff_eq] at hok
    obtain ⟨⟨⟨⟨⟨⟨⟨hlo, hd⟩, hn⟩, hft⟩, h3⟩, h4⟩, h5⟩, hf⟩ := hok
    subst hn
    have hft := has4_mem hft
    have h3 : t < 12 := Nat.le_of_ble_eq_true h3
    have h4 : b < nf t := Nat.le_of_ble_eq_true h4
    have hfin : ((vwc t).2.1 b).2.2.2 = true → meth.name = "<init>" ∧ own = t := by
      intro q
      rw [q] at hf
      simp only [Bool.not_true, Bool.false_or, Bool.and_eq_true, beq_iff_eq] at hf
      exact ⟨hini hf.1, hf.2⟩
    simp only [ins, i_pf] at h
    split at h
    · split at h
      · rename_i hkx
        rw [Bool.and_eq_true, beq_iff_eq] at hkx
        obtain ⟨hkx, hfo⟩ := hkx
        have hfo : f = true → (lyo t b).1 = 0 := by
          intro q
          rw [q] at hfo
          rw [hlo]
          simpa using hfo
        subst hkx
        split at h
        · cases h
        · rename_i ha
          split at h
          · split at h
            · exact s_putI C (dcd_of hd) h3 h4 hft h5 ha hfin (kn _ _ _ h)
            · cases h
          · split at h
            · exact s_putL C (dcd_of hd) h3 h4 hft h5 ha hfin (kn _ _ _ h)
            · cases h
          · split at h
            · split at h
              · rename_i h01; exact s_putZ C (dcd_of hd) h3 h4 hft h5 h01 ha hfin (kn _ _ _ h)
              · cases h
            · cases h
          · rename_i e0 e1 e2
            split at h
            · rename_i hkv
              have hkv := beq_iff_eq.mp hkv
              have h10 : 10 ≤ fty t b := by
                rcases fty_cs t b with q | q | q | q
                · exact absurd (h5.symm.trans q) e0
                · exact absurd (h5.symm.trans q) e1
                · exact absurd (h5.symm.trans q) e2
                · exact q
              exact s_putR C (dcd_of hd) h3 h4 hft h10 (hkv.trans h5.symm) hfo ha hfin (kn _ _ _ h)
            · cases h
      · cases h
    · cases h
  | getstatic i =>
    simp only [okI, Bool.and_eq_true, Bool.or_eq_true, beq_iff_eq] at hok
    obtain ⟨⟨hd, hn⟩, hor⟩ := hok
    subst hn
    simp only [ins] at h
    rcases hor with ⟨⟨⟨⟨e1, h1⟩, h2⟩, e2⟩, hft⟩ | ⟨⟨⟨e1, e2⟩, e3⟩, hft⟩
    · have h1 := Nat.le_of_ble_eq_true h1
      have h2 := Nat.le_of_ble_eq_true h2
      have hft := has4_mem hft
      subst e1; subst e2
      have hlk := C.2.2.2.2.1 _ (fl_in hft)
      obtain ⟨b', rfl⟩ : ∃ b', b = b' + 1 := ⟨b - 1, by omega⟩
      have hE := (C.2.2.2.2.2.2.1.1.1 b' (by rw [show wN.length = 37 from rfl]; omega)).1
      refine s_gets (t := 10 + 12) (a := b' + 1) (n := 0) (C0 := "SilentCourt$Word") (nm := wN.getD b' "") (ds := "LSilentCourt$Word;") C (dcd_of hd) hlk hE (fun ad had => ?_) (okv_ref (t := 10 + 12) (a := b' + 1) (n := 0) (by omega) (Or.inr (show 1 ≤ b' + 1 ∧ b' + 1 ≤ 37 from ⟨h1, h2⟩)) (fun q => by omega)) (kn _ _ _ h)
      rw [cv_r (show 2 ≤ 22 by omega), rfv_n (show (vR (10 + 12) (b' + 1) 0).2.2.1 ≠ 0 from Nat.succ_ne_zero _)]
      show Value.ref (ad (b' + 1)) = _
      rw [had (b' + 1) (by omega)]
    · have hft := has4_mem hft
      subst e1; subst e2; subst e3
      have hlk := C.2.2.2.2.1 _ (fl_in hft)
      refine s_gets (t := 10 + 24) (a := 38) (n := 37) (C0 := "SilentCourt$Reader") (nm := "WORDS") (ds := "[LSilentCourt$Word;") C (dcd_of hd) hlk C.2.2.2.2.2.2.1.2.1 (fun ad had => ?_) (okv_ref (t := 10 + 24) (a := 38) (n := 37) (by omega) (Or.inr rfl) (fun _ _ => rfl)) (kn _ _ _ h)
      rw [cv_r (show 2 ≤ 34 by omega), rfv_n (show (vR (10 + 24) 38 37).2.2.1 ≠ 0 from by decide)]
      show Value.ref (ad 38) = _
      rw [had 38 (by omega)]
  | iaload =>
    obtain ⟨hd, hn⟩ := getd (n' := 1) hok
    subst hn
    simp only [ins, i_al] at h
    split at h
    · split at h
      · rename_i hk
        split at h
        · cases h
        · rename_i ha
          split at h
          · rename_i hi
            rw [Bool.or_eq_true, beq_iff_eq, beq_iff_eq] at hk
            rcases hk with hk | hk <;> subst hk
            · exact s_iald C hd ha hi (kn _ _ _ h)
            · exact s_sald C hd ha hi (kn _ _ _ h)
          · cases h
      · cases h
    · cases h
  | laload =>
    obtain ⟨hd, hn⟩ := getd (n' := 1) hok
    subst hn
    simp only [ins, i_al] at h
    split at h
    · split at h
      · rename_i hk
        split at h
        · cases h
        · rename_i ha
          split at h
          · rename_i hi
            have hk := beq_iff_eq.mp hk
            subst hk
            exact s_lald C hd ha hi (kn _ _ _ h)
          · cases h
      · cases h
    · cases h
  | caload =>
    obtain ⟨hd, hn⟩ := getd (n' := 1) hok
    subst hn
    simp only [ins, i_al] at h
    split at h
    · split at h
      · rename_i hk
        split at h
        · cases h
        · rename_i ha
          split at h
          · rename_i hi
            have hk := beq_iff_eq.mp hk
            subst hk
            exact s_cald C hd ha hi (kn _ _ _ h)
          · cases h
      · cases h
    · cases h
  | aaload =>
    obtain ⟨hd, hn⟩ := getd (n' := 1) hok
    subst hn
    cases t with
    | zero =>
      simp only [ins, i_al] at h
      split at h
      · split at h
        · rename_i hk
          split at h
          · cases h
          · rename_i ha
            split at h
            · rename_i hi
              have hk := beq_iff_eq.mp hk
              subst hk
              exact s_aald C hd ha hi (kn _ _ _ h)
            · cases h
        · cases h
      · cases h
    | succ t =>
      simp only [ins, i_al] at h
      split at h
      · split at h
        · rename_i hk
          split at h
          · cases h
          · rename_i ha
            split at h
            · rename_i hi
              have hk := beq_iff_eq.mp hk
              subst hk
              exact s_aaldE C hd ha hi (kn _ _ _ h)
            · cases h
        · cases h
      · cases h
  | iastore =>
    obtain ⟨hd, hn⟩ := getd (n' := 1) hok
    subst hn
    simp only [ins, i_as] at h
    split at h
    · split at h
      · rename_i hk
        split at h
        · cases h
        · rename_i ha
          split at h
          · rename_i hi
            rw [Bool.and_eq_true, beq_iff_eq, beq_iff_eq] at hk
            obtain ⟨k1, k2⟩ := hk
            subst k1; subst k2
            exact s_iast C hd ha hi (kn _ _ _ h)
          · cases h
      · cases h
    · cases h
  | lastore =>
    obtain ⟨hd, hn⟩ := getd (n' := 1) hok
    subst hn
    simp only [ins, i_as] at h
    split at h
    · split at h
      · rename_i hk
        split at h
        · cases h
        · rename_i ha
          split at h
          · rename_i hi
            rw [Bool.and_eq_true, beq_iff_eq, beq_iff_eq] at hk
            obtain ⟨k1, k2⟩ := hk
            subst k1; subst k2
            exact s_last C hd ha hi (kn _ _ _ h)
          · cases h
      · cases h
    · cases h
  | castore =>
    obtain ⟨hd, hn⟩ := getd (n' := 1) hok
    subst hn
    simp only [ins, i_as] at h
    split at h
    · split at h
      · rename_i hx
        split at h
        · rename_i heq
          cases heq
          split at h
          · rename_i hk
            split at h
            · cases h
            · rename_i ha
              split at h
              · rename_i hi
                rw [Bool.and_eq_true, beq_iff_eq, beq_iff_eq] at hk
                obtain ⟨k1, k2⟩ := hk
                subst k1; subst k2
                exact s_cast C hd ha hx hi (kn _ _ _ h)
              · cases h
          · cases h
        · cases h
      · cases h
    · cases h
  | aastore =>
    obtain ⟨hd, hn⟩ := getd (n' := 1) hok
    subst hn
    simp only [ins, i_aas] at h
    split at h
    · split at h
      · cases h
      · rename_i ha
        split at h
        · rename_i hi
          exact s_aast C hd (fun q => ha (Or.inl q)) (fun q => ha (Or.inr q)) hi (kn _ _ _ h)
        · cases h
    · cases h
  | arraylength =>
    obtain ⟨hd, hn⟩ := getd (n' := 1) hok
    subst hn
    simp only [ins] at h
    split at h
    · split at h
      · rename_i hk
        split at h
        · cases h
        · rename_i ha
          exact s_alen C hd (Nat.le_of_ble_eq_true hk) ha (kn _ _ _ h)
      · cases h
    · cases h
  | newarray a =>
    obtain ⟨hd, hn⟩ := getd (n' := 2) hok
    subst hn
    have z39 : ∀ {k0 n0 : Nat} {j : Nat}, gi (nw A k0 n0) (sz A) j = 0 := fun {_ _ _} => by rw [gi_nw, if_pos rfl]
    cases a with
    | int =>
      simp only [ins, i_na] at h
      split at h
      · split at h
        · rename_i hr
          have hp := roomN (hm _ _ _ h)
          rw [sz_nw, sl_nw] at hp
          refine s_newa (k := 20) (t0 := 0) (ty := .int) (a0 := fun N => (N, .inl (fun _ => 0))) C hd rfl ac_in.1 ⟨by omega, by omega⟩ hr ⟨Z.1, rfl, fun ad' => ?_⟩ (fun _ _ => rfl) (by decide) (fun U cA cB q1 q2 => Option.some.inj (q1.symm.trans q2)) hp (kn _ _ _ h)
          rw [wce_20 (by rw [kd_nw, if_pos rfl]), ln_nw, if_pos rfl]
          simp only [z39]
          rfl
        · cases h
      · cases h
    | long =>
      simp only [ins, i_na] at h
      split at h
      · split at h
        · rename_i hr
          have hp := roomN (hm _ _ _ h)
          rw [sz_nw, sl_nw] at hp
          refine s_newa (k := 21) (t0 := 1) (ty := .long) (a0 := fun N => (N, .inr (.inl (fun _ => 0)))) C hd rfl ac_in.2.1 ⟨by omega, by omega⟩ hr ⟨Z.2.1, rfl, fun ad' => ?_⟩ (fun _ _ => rfl) (by decide) (fun U cA cB q1 q2 => Option.some.inj (q1.symm.trans q2)) hp (kn _ _ _ h)
          rw [wce_21 (by rw [kd_nw, if_pos rfl]), ln_nw, if_pos rfl]
          simp only [z39]
          rfl
        · cases h
      · cases h
    | char =>
      simp only [ins, i_na] at h
      split at h
      · split at h
        · rename_i hr
          have hp := roomN (hm _ _ _ h)
          rw [sz_nw, sl_nw] at hp
          refine s_newa (k := 22) (t0 := 2) (ty := .char) (a0 := fun N => (N, .inl (fun _ => 0))) C hd rfl ac_in.2.2 ⟨by omega, by omega⟩ hr ⟨Z.2.2.1, rfl, fun ad' => ?_⟩ (fun _ _ => rfl) (by decide) (fun U cA cB q1 q2 => Option.some.inj (q1.symm.trans q2)) hp (kn _ _ _ h)
          rw [wce_22 (by rw [kd_nw, if_pos rfl]), ln_nw, if_pos rfl]
          simp only [z39]
          rfl
        · cases h
      · cases h
    | _ => simp only [ins] at h; cases h
  | anewarray i =>
    simp only [okI, Bool.and_eq_true, beq_iff_eq] at hok
    obtain ⟨⟨hd, hn⟩, hct⟩ := hok
    subst hn
    simp only [ins, i_na] at h
    split at h
    · split at h
      · rename_i hr
        have hp := roomN (hm _ _ _ h)
        rw [sz_nw, sl_nw] at hp
        exact s_newq C (dcd_of hd) (has3_mem hct) hr hp (kn _ _ _ h)
      · cases h
    · cases h
  | new i =>
    cases k with
    | zero =>
      simp only [okI, Bool.and_eq_true, beq_iff_eq] at hok
      obtain ⟨⟨⟨⟨⟨⟨h1, h2⟩, h3⟩, h4⟩, h5⟩, hd⟩, hn⟩ := hok
      subst hn; subst h2
      cases f with
      | true => simp only [ins] at h; cases h
      | false =>
      simp only [ins] at h
      have hp := roomN (hm _ _ _ h)
      rw [sz_nw, sl_nw] at hp
      exact s_new C (dcd_of hd) (Nat.le_of_ble_eq_true h1) (has3_mem h3) (has2_mem h4) (has1_mem h5) hp (kn _ _ _ h)
    | succ mj =>
      simp only [okI, Bool.and_eq_true, Bool.or_eq_true, beq_iff_eq, decide_eq_true_eq] at hok
      obtain ⟨⟨⟨⟨⟨⟨h1, h2⟩, h3⟩, h4⟩, h5⟩, hd⟩, ⟨⟨⟨⟨⟨hn, hd2⟩, hd3⟩, hcc⟩, him⟩, hnm⟩, hrt⟩ := hok
      subst hn; subst h2
      simp only [ins] at h
      split at h
      · rename_i h7
        intro ad H locs cells slots lsM hI hL ho hs
        have hz := hI.2.2.2.1.1.1
        revert h
        intro h
        unfold cV at h
        split at h
        · rename_i A' heq
          obtain ⟨hp, hM⟩ := hSN _ _ _ _ _ heq
          have hroom' := roomN (hm _ _ _ h)
          rcases hcc with hcc | hcc
          · exact s_new3 (nest := true) C (dcd_of hd) (dcd_of hd2) (dcd_of hd3) (Nat.le_of_ble_eq_true h1) (has3_mem h3) (has2_mem h4) (has1_mem h5) (Nat.le_of_ble_eq_true h7) hcc (has1_mem him) (iniT_ok _ (has1_mem hnm)) hrt hR (by omega) hp hroom' hM (fun q q40 ql => hSL q _ _ _ _ _ q40 ql heq) (kn _ _ _ h) ad H locs cells slots lsM hI hL ho hs
          · exact s_new3 (nest := false) C (dcd_of hd) (dcd_of hd2) (dcd_of hd3) (Nat.le_of_ble_eq_true h1) (has3_mem h3) (has2_mem h4) (has1_mem h5) (Nat.le_of_ble_eq_true h7) hcc (has1_mem him) (iniT_ok _ (has1_mem hnm)) hrt hR (by omega) hp hroom' hM (fun q q40 ql => hSL q _ _ _ _ _ q40 ql heq) (kn _ _ _ h) ad H locs cells slots lsM hI hL ho hs
        · cases h
      · cases h
  | invokevirtual i =>
    simp only [okI, Bool.and_eq_true, Bool.or_eq_true, beq_iff_eq] at hok
    obtain ⟨⟨hd, hn⟩, hor⟩ := hok
    subst hn
    simp only [ins] at h
    obtain ⟨c1, c2, c3, c4⟩ := call_inv h
    obtain ⟨c5, c6⟩ := c3 rfl
    rcases hor with h89 | ⟨⟨⟨⟨⟨⟨hk, h1⟩, hcc⟩, him⟩, hse⟩, hcl⟩, hq⟩
    · intro ad H locs cells slots lsM hI hL ho hs
      exfalso
      have hv := okv_get hs (b - 1)
      generalize hg : lget st (b - 1) = v at hv c5 c6
      obtain ⟨t', z', a', n'⟩ := v
      dsimp only at c5 c6
      subst h89; subst c5
      have h9 := ((okv_def (by omega) (by omega) (by omega) (by omega)).mp hv).2.1
      rcases h9 with h9 | h9
      · exact c6 h9
      · have hsh := hI.2.2.2.1.1.2.1 a' h9.1 h9.2.1
        have := h9.2.2
        rcases hsh with q | q <;> omega
    · have h1 := Nat.le_of_ble_eq_true h1
      obtain ⟨b', rfl⟩ : ∃ b', b = b' + 1 := ⟨b - 1, by omega⟩
      obtain ⟨v, A', w, e1, e2, e3, e4⟩ := ret_inv c4
      obtain ⟨hp, hM⟩ := hS _ _ _ _ _ e1
      rw [cut_recv c1] at hM
      have hst : st = (st.take b').reverse.reverse ++ lget st b' :: st.drop (b' + 1) := by
        have := cut_st (st := st) c1
        rw [cut_recv c1, List.reverse_cons, List.append_assoc] at this
        exact this
      generalize hg : lget st b' = v0 at hM hst c5 c6
      have c5 : (lget st b').1 = 10 + k := c5
      have c6 : (lget st b').2.2.1 ≠ 0 := c6
      rw [hg] at c5 c6
      obtain ⟨t', z', a', n'⟩ := v0
      dsimp only at c5 c6
      subst c5
      rw [hst]
      refine s_callV (as := (st.take b').reverse) C (dcd_of hd) (Nat.le_of_ble_eq_true hk) c6 c2 ?_ hcc (has1_mem him) (hse.imp has2_mem has1_mem) (by rw [← hcl]; exact (cOK_t hcc).2.2.1.symm) hR hp (roomN (hm _ _ _ e2)) hM (wk_cong e3 (e4 L A') (kn _ _ _ e2))
      rw [List.length_reverse, List.length_take]; omega
  | invokespecial i =>
    simp only [okI, Bool.and_eq_true, beq_iff_eq] at hok
    obtain ⟨⟨hd, hn⟩, hor⟩ := hok
    subst hn
    simp only [ins] at h
    split at h
    · split at h
      · rename_i v r1
        split at h
        · rename_i hc
          rw [Bool.and_eq_true] at hc
          split at h
          · cases h
          · rename_i ha
            obtain ⟨t', z', a', n'⟩ := v
            exact s_obj C (dcd_of hd) (has3_mem hor) (Nat.le_of_ble_eq_true hc.1) ha (Nat.le_of_ble_eq_true hc.2) (kn _ _ _ h)
        · cases h
      · cases h
    · rename_i h9
      have hor2 : (Nat.blt k 12 && Nat.ble 1 b && cOK own i t (b - 1) (fl == 1) && has1 imT t && has1 iniT t && decide (rtt t = none) && q == 3) = true := by
        revert hor
        split
        · exact absurd rfl h9
        · exact id
      simp only [Bool.and_eq_true, beq_iff_eq, decide_eq_true_eq] at hor2
      obtain ⟨⟨⟨⟨⟨⟨hk, h1⟩, hcc⟩, him⟩, hnm⟩, hrt⟩, hq⟩ := hor2
      subst hq
      obtain ⟨c1, c2, c3, c4⟩ := call_inv h
      obtain ⟨c5, c6⟩ := c3 rfl
      have h1 := Nat.le_of_ble_eq_true h1
      obtain ⟨b', rfl⟩ : ∃ b', b = b' + 1 := ⟨b - 1, by omega⟩
      unfold i_ret at c4
      simp only at c4
      unfold cV at c4
      split at c4
      · rename_i A' e1
        obtain ⟨hp, hM⟩ := hS _ _ _ _ _ e1
        rw [cut_recv c1] at hM
        have hst : st = (st.take b').reverse.reverse ++ lget st b' :: st.drop (b' + 1) := by
          have := cut_st (st := st) c1
          rw [cut_recv c1, List.reverse_cons, List.append_assoc] at this
          exact this
        generalize hg : lget st b' = v0 at hM hst c5 c6
        have c5 : (lget st b').1 = 10 + k := c5
        have c6 : (lget st b').2.2.1 ≠ 0 := c6
        rw [hg] at c5 c6
        obtain ⟨t', z', a', n'⟩ := v0
        dsimp only at c5 c6
        subst c5
        rw [hst]
        refine s_callI (as := (st.take b').reverse) C (dcd_of hd) (Nat.le_of_ble_eq_true hk) c6 c2 ?_ hcc (has1_mem him) (iniT_ok _ (has1_mem hnm)) hrt hR hp (roomN (hm _ _ _ c4)) hM (kn _ _ _ c4)
        rw [List.length_reverse, List.length_take]; omega
      · cases c4
  | invokestatic i =>
    simp only [okI, Bool.and_eq_true, beq_iff_eq] at hok
    obtain ⟨⟨hd, hn⟩, hor⟩ := hok
    subst hn
    simp only [ins] at h
    split at h
    · unfold i_cp at h
      split at h
      · split at h
        · rename_i hc
          split at h
          · cases h
          · rename_i hsd
            split at h
            · rename_i hr
              exact s_copy C (dcd_of hd) (has3_mem hor) (fun q => hsd (Or.inl q)) (fun q => hsd (Or.inr (Or.inl q))) (Nat.le_of_ble_eq_true hc) hr (kn _ _ _ h)
            · cases h
        · cases h
      · cases h
    · rename_i h8
      have hor2 : (cOK own i t b (fl == 1) && has1 stT t && q == rq (rzs t)) = true := by
        revert hor
        split
        · exact absurd rfl h8
        · exact id
      simp only [Bool.and_eq_true, beq_iff_eq] at hor2
      obtain ⟨⟨hcc, hst0⟩, hq⟩ := hor2
      obtain ⟨c1, c2, c3, c4⟩ := call_inv h
      obtain ⟨v, A', w, e1, e2, e3, e4⟩ := ret_inv c4
      obtain ⟨hp, hM⟩ := hS _ _ _ _ _ e1
      rw [cut_st (st := st) c1]
      refine s_callS (as := (st.take b).reverse) C (dcd_of hd) c2 ?_ hcc (has1_mem hst0) hR hp (roomN (hm _ _ _ e2)) hM (wk_cong e3 (e4 L A') (kn _ _ _ e2))
      rw [List.length_reverse, List.length_take]; omega
  | _ => simp only [ins] at h; cases h
end SND9
