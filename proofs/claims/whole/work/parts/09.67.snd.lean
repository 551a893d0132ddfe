/-! new cells; a row copied; calls -/
theorem cv_adn {L : Nat} {A : AH} {ad ad' : Nat → Nat} {v : AV} (h : okv L A v) (hz : 40 ≤ sz A) (hd : ∀ i, i < sz A → ad' i = ad i) : cv ad' v = cv ad v := by
  unfold cv
  split
  · rfl
  · rfl
  · rename_i h0 h1
    unfold okv at h
    have hlt : v.2.2.1 < sz A := by
      split at h
      · rename_i q; exact absurd q h0
      · rename_i q; exact absurd q h1
      · omega
      · omega
      · exact okref_lt h.2.1 hz
    unfold rfv rfo
    by_cases q : v.2.2.1 = 0
    · rw [if_pos q, if_pos q]
    · rw [if_neg q, if_neg q, hd _ hlt]
theorem cvs_adn {L : Nat} {A : AH} {ad ad' : Nat → Nat} {st : List AV} (h : OKV L A st) (hz : 40 ≤ sz A) (hd : ∀ i, i < sz A → ad' i = ad i) : st.map (cv ad') = st.map (cv ad) := List.map_congr_left fun v hv => cv_adn (h v hv) hz hd
theorem lvi_adn {L nL : Nat} {A : AH} {ad ad' : Nat → Nat} {ls : List AV} {lsM : Array Slot} (hL : LVI nL ad ls lsM) (h : OKV L A ls) (hz : 40 ≤ sz A) (hd : ∀ i, i < sz A → ad' i = ad i) : LVI nL ad' ls lsM := by
  refine ⟨hL.1, hL.2.1, hL.2.2.1, fun q hq => hL.2.2.2 q ?_⟩
  obtain ⟨q1, q2, q3⟩ := lvl_mem.mp hq
  rw [cv_adn (okv_get h q.1) hz hd] at q3
  exact lvl_mem.mpr ⟨q1, q2, q3⟩
def dfv (t : Nat) : Value := match t with
  | 0 => .int 0
  | 1 => .long 0
  | 2 => .int 0
  | _ => .null
def flds0 (k : Nat) : List Value := (List.range (nf k)).map (fun j => dfv (fty k j))
theorem flds_new {A : AH} {ad : Nat → Nat} {k n : Nat} : flds (nw A k n) ad k (sz A) = flds0 k := by
  unfold flds flds0
  apply List.map_congr_left
  intro j _
  unfold fld dfv
  rw [gi_nw, if_pos rfl, gr_nw, if_pos rfl]
  split
  · rename_i h; rw [h]; rfl
  · rename_i h; rw [h]; rfl
  · rename_i h; rw [h]; rfl
  · rename_i h0 h1 h2
    split
    · rename_i h; exact absurd h h0
    · rename_i h; exact absurd h h1
    · rename_i h; exact absurd h h2
    · rfl
theorem def_ok {ty : FieldType} {t : Nat} (h : tyOK ty t = true) : defaultValue ty = dfv t := by
  cases ty with
  | int =>
    have h0 : t = 0 := by simpa [tyOK] using h
    subst h0; rfl
  | long =>
    have h0 : t = 1 := by simpa [tyOK] using h
    subst h0; rfl
  | boolean =>
    have h0 : t = 2 := by simpa [tyOK] using h
    subst h0; rfl
  | object n =>
    have h0 : 10 ≤ t := Nat.le_of_ble_eq_true h
    match t, h0 with
    | t' + 10, _ => rfl
  | array n =>
    have h0 : 10 ≤ t := Nat.le_of_ble_eq_true h
    match t, h0 with
    | t' + 10, _ => rfl
  | _ => cases h
theorem ctch {C : String} {U : State} {cA cB : ClassId} (h1 : va_RA U cA (.object C)) (h2 : va_RA U cB (.object C)) : cA = cB := by
  obtain ⟨_, _, _, _, _, a⟩ := h1
  obtain ⟨_, _, _, _, _, b⟩ := h2
  rw [a] at b
  exact Option.some.inj b
section SND5
variable {p : Program} {l : Launch} {e : Env} {R : Room} {s : State} {m : MethodId} {args : Array Value} {below : List Frame} {meth : Method} {c : Code} {Q : State → Prop}
variable {f : Bool} {D : va_G} {Z : CI4} {base L z0 u0 nL own : Nat} {xs : Nat → Int32} {adS adE : Nat → Nat} {cc : ByteArray} {pc : Nat} {ls st : List AV} {A : AH}
/-- behind a new cell -/
theorem inv_nw {ad : Nat → Nat} {H H1 : Heap} {locs : List Loc} {cells slots k n q : Nat} {E : va_E} (hI : INV f D Z base L xs adS adE z0 u0 s A ad H locs cells slots) (hE : E = wce Z (nw A k n) (adn ad (sz A) q) (sz A)) (hwf : WG f L xs (nw A k n)) (q1 : va_P D vwCl (wd Z A ad ++ [(q, E)]) H1) (q2 : va_D (fun q => base ≤ q) (wd Z A ad ++ [(q, E)])) (q3 : va_S (fun q => base ≤ q) s.heap H1 locs) : INV f D Z base L xs adS adE z0 u0 s (nw A k n) (adn ad (sz A) q) H1 locs (cells + 1) (slots + n) := by
  have hz := hI.2.2.2.1.1.1
  rw [hE, ← wd_nw hI.2.2.2.1.1] at q1 q2
  refine ⟨q1, q2, q3, hwf, fun i hi => ?_, fun i hi => ?_, ?_, ?_⟩
  · unfold adn; rw [if_neg (by omega)]; exact hI.2.2.2.2.1 i hi
  · have := hI.2.2.2.2.2.2.1
    unfold adn; rw [if_neg (by omega)]; exact hI.2.2.2.2.2.1 i hi
  · rw [sz_nw]; have := hI.2.2.2.2.2.2.1; omega
  · rw [sl_nw]; have := hI.2.2.2.2.2.2.2; omega
theorem adn_old {ad : Nat → Nat} {z q : Nat} : ∀ i, i < z → adn ad z q i = ad i := fun i hi => by unfold adn; rw [if_neg (by omega)]
theorem okv_new {A : AH} {k n : Nat} (hk : (k < 12 ∧ n = nf k) ∨ (20 ≤ k ∧ k ≤ 23)) (hz : 40 ≤ sz A) {n' : Nat} (hn : 20 ≤ k → n' = n) : okv L (nw A k n) (vR (10 + k) (sz A) n') := by
  refine okv_ref (by omega) (Or.inr ?_) (fun h30 _ => ?_)
  · split
    · omega
    · omega
    · omega
    · rw [sz_nw, kd_nw, if_pos rfl]; omega
  · rw [hn (by omega)]
    unfold lenf
    split
    · omega
    · omega
    · rw [ln_nw, if_pos rfl]
theorem s_new {i k : Nat} (C : CTX p R s m args c D Z base L xs adS nL own cc) (hdg : decode cc pc = .ok (.new i, 3)) (hk : k < 12) (hl : (own, i, k) ∈ ctT) (his : (k, nf k) ∈ isT) (hin : k ∈ inT) (hroom : sz A + 1 ≤ z0 + R.cells ∧ sl A + nf k ≤ u0 + R.slots) (kk : Wok false p l e R s m args below meth c Q D Z base L xs adS adE z0 u0 nL (pc + 3) ls (vR (10 + k) (sz A) 0 :: st) (nw A k (nf k))) : Wok false p l e R s m args below meth c Q D Z base L xs adS adE z0 u0 nL pc ls st A := by
  intro ad H locs cells slots lsM hI hL ho hs
  have hb0 : base ≤ s.heap.size := C.2.2.2.2.2.2.1.2.2.2.2.2.2.1
  have hz := hI.2.2.2.1.1.1
  have hcc := hI.2.2.2.2.2.2
  have h1 := C.2.2.2.2.1 _ (ct_in hl)
  have h2 := C.2.2.2.2.1 _ (is_in his)
  have h3 := C.2.2.2.2.1 _ (ini_in hin)
  rw [← vw_nm0 k hk] at h1 h3
  rw [show cnm (k, nf k).1 = (vwc k).1 from (vw_nm0 k hk).symm, show (k, nf k).2 = (vwc k).2.2 from (vw_nf k hk).symm] at h2
  refine va_new (ci := k) (fs := flds0 k) (C := (vwc k).1) (T := (vwc k).2.1) (N := (vwc k).2.2) C.1 C.2.1 C.2.2.2.2.1 (vw_in hk) (pty k) (fun q hq => (vw_pty k hk q (by rw [vw_nf k hk] at hq; exact hq)).1) C.2.2.2.1 h1 h2 h3 C.2.2.2.2.2.1 hI.1 hI.2.1 hI.2.2.1 (fun q hq => Nat.le_trans hb0 hq) (vw_at hk) (fun j hj => ?_) (by omega) (by rw [vw_nf k hk]; omega) hdg (fun q H1 q1 q2 q3 => ?_)
  · rw [vw_nf k hk] at hj
    rw [def_ok (vw_pty k hk j hj).2]
    unfold vp_V flds0
    rw [List.getD_eq_getElem?_getD, List.getElem?_map, List.getElem?_range hj]
    rfl
  · rw [vw_nf k hk]
    have hI' := inv_nw (k := k) (n := nf k) hI (by rw [wce_obj (by rw [kd_nw, if_pos rfl]) hk, flds_new]) ⟨wf_nw hI.2.2.2.1.1 (Or.inl ⟨hk, rfl⟩) (fty_cs k), fun q => by cases q⟩ q1 q2 q3
    have h := kk (adn ad (sz A) q) H1 locs (cells + 1) (slots + nf k) lsM hI' (lvi_adn hL ho hz adn_old) (OKV_nw ho) (okv_cons (okv_new (Or.inl ⟨hk, rfl⟩) hz (fun h => by omega)) (OKV_nw hs))
    rw [List.map_cons, cvs_adn hs hz adn_old, cv_r (show 2 ≤ 10 + k by omega), rfv_n (show (vR (10 + k) (sz A) 0).2.2.1 ≠ 0 from by show sz A ≠ 0; omega)] at h
    rw [show adn ad (sz A) q (vR (10 + k) (sz A) 0).2.2.1 = q from by show (if sz A = sz A then q else ad (sz A)) = q; rw [if_pos rfl]] at h
    exact h
theorem s_newa {at0 : ArrayType} {k t0 : Nat} {n : Int} {w : Nat × Nat} {ty : FieldType} {a0 : Nat → vp_A} (C : CTX p R s m args c D Z base L xs adS nL own cc) (hdg : decode cc pc = .ok (.newarray at0, 2)) (hty : newarray.typeOf at0 = ty) (hac : Cond.arrayClass ty ∈ gtb) (hk : 20 ≤ k ∧ k ≤ 22) (hn : 0 ≤ n ∧ n ≤ 1000000) (ht0 : ∃ cA, (tys4 Z)[t0]? = some (cA, ty) ∧ ∀ ad', wce Z (nw A k n.toNat) ad' (sz A) = .inl (cA, a0 n.toNat)) (ha0 : ∀ (cA : ClassId) (N : Nat), vp_cell cA (a0 N) = arrV cA N (fun _ => defaultValue ty)) (hby : componentBytes ty ≤ 8) (hRA : ∀ (U : State) (cA cB : ClassId), va_RA U cA ty → va_RA U cB ty → cA = cB)
    (hroom : sz A + 1 ≤ z0 + R.cells ∧ sl A + n.toNat ≤ u0 + R.slots) (kk : Wok f p l e R s m args below meth c Q D Z base L xs adS adE z0 u0 nL (pc + 2) ls (vR (10 + k) (sz A) n.toNat :: st) (nw A k n.toNat)) : Wok f p l e R s m args below meth c Q D Z base L xs adS adE z0 u0 nL pc ls ((0, n, w) :: st) A := by
  intro ad H locs cells slots lsM hI hL ho hs
  have hb0 : base ≤ s.heap.size := C.2.2.2.2.2.2.1.2.2.2.2.2.2.1
  have hz := hI.2.2.2.1.1.1
  have hcc := hI.2.2.2.2.2.2
  have h1 := C.2.2.2.2.1 _ hac
  obtain ⟨cA0, ht, hw⟩ := ht0
  have hn32 : in32 n := by unfold in32; omega
  have hst : ((0, n, w) :: st).map (cv ad) = .int (c32 n) :: st.map (cv ad) := rfl
  rw [hst]
  have hnn : ¬ c32 n < 0 := by
    intro q
    rw [show (0 : Int32) = c32 0 from rfl, c32_lt hn32 in32_0] at q
    omega
  have hnat : (c32 n).toNatClampNeg = n.toNat := by
    rw [show (c32 n).toNatClampNeg = (c32 n).toInt.toNat from rfl, c32_toInt hn32]
  have hbytes : n.toNat * componentBytes ty ≤ 536870912 := Nat.le_trans (Nat.mul_le_mul (show n.toNat ≤ 1000000 by omega) hby) (by decide)
  refine va_newa (a0 := a0 n.toNat) C.1 C.2.1 (by rw [hty]; exact h1) hty C.2.2.2.2.2.1 hI.1 hI.2.1 hI.2.2.1 (fun q hq => Nat.le_trans hb0 hq) (fun cA => ha0 cA _) hnn hnat hbytes (by omega) (by omega) hdg (fun q cA H1 hK q1 q2 q3 => ?_)
  have e1 : cA = cA0 := by
    have r1 := (hK.2 4 (cA, ty) rfl).2
    have r2 := (C.2.2.2.2.2.1.2 t0 (cA0, ty) ht).2
    exact hRA _ _ _ r1 r2
  subst e1
  have hI' := inv_nw (k := k) (n := n.toNat) hI (hw _).symm ⟨wf_nw hI.2.2.2.1.1 (Or.inr ⟨by omega, by omega, by omega⟩) (fty_cs k), fun q => lay_nw hI.2.2.2.1.1 (by omega) (hI.2.2.2.1.2 q)⟩ q1 q2 q3
  have h := kk (adn ad (sz A) q) H1 locs (cells + 1) (slots + n.toNat) lsM hI' (lvi_adn hL ho hz adn_old) (OKV_nw ho) (okv_cons (okv_new (Or.inr ⟨by omega, by omega⟩) hz (fun _ => rfl)) (OKV_nw (okv_tail hs)))
  rw [List.map_cons, cvs_adn (okv_tail hs) hz adn_old, cv_r (show 2 ≤ 10 + k by omega), rfv_n (show (vR (10 + k) (sz A) n.toNat).2.2.1 ≠ 0 from by show sz A ≠ 0; omega)] at h
  rw [show adn ad (sz A) q (vR (10 + k) (sz A) n.toNat).2.2.1 = q from by show (if sz A = sz A then q else ad (sz A)) = q; rw [if_pos rfl]] at h
  exact h
theorem s_newq {i : Nat} {n : Int} {w : Nat × Nat} (C : CTX p R s m args c D Z base L xs adS nL own cc) (hdg : decode cc pc = .ok (.anewarray i, 3)) (hl : (own, i, 9) ∈ ctT) (hn : 0 ≤ n ∧ n ≤ 1000000)
    (hroom : sz A + 1 ≤ z0 + R.cells ∧ sl A + n.toNat ≤ u0 + R.slots) (kk : Wok f p l e R s m args below meth c Q D Z base L xs adS adE z0 u0 nL (pc + 3) ls (vR 33 (sz A) n.toNat :: st) (nw A 23 n.toNat)) : Wok f p l e R s m args below meth c Q D Z base L xs adS adE z0 u0 nL pc ls ((0, n, w) :: st) A := by
  intro ad H locs cells slots lsM hI hL ho hs
  have hb0 : base ≤ s.heap.size := C.2.2.2.2.2.2.1.2.2.2.2.2.2.1
  have hAO := C.2.2.2.2.2.2.1.2.2.2.2.2.2.2.2
  have hz := hI.2.2.2.1.1.1
  have hcc := hI.2.2.2.2.2.2
  have h1 := C.2.2.2.2.1 _ (ct_in hl)
  have hn32 : in32 n := by unfold in32; omega
  have hst : ((0, n, w) :: st).map (cv ad) = .int (c32 n) :: st.map (cv ad) := rfl
  rw [hst]
  have hnn : ¬ c32 n < 0 := by
    intro q
    rw [show (0 : Int32) = c32 0 from rfl, c32_lt hn32 in32_0] at q
    omega
  have hnat : (c32 n).toNatClampNeg = n.toNat := by
    rw [show (c32 n).toNatClampNeg = (c32 n).toInt.toNat from rfl, c32_toInt hn32]
  refine va_newq (C := "SilentCourt$Sitting") C.1 C.2.1 C.2.2.2.1 h1 hAO C.2.2.2.2.2.1 hI.1 hI.2.1 hI.2.2.1 (fun q hq => Nat.le_trans hb0 hq) hnn hnat (by omega) (by omega) (by omega) hdg (fun q cA H1 hK q1 q2 q3 => ?_)
  have e1 : cA = Z.2.2.2 := ctch (hK.2 4 (cA, .object "SilentCourt$Sitting") rfl).2 (C.2.2.2.2.2.1.2 3 (Z.2.2.2, .object "SilentCourt$Sitting") rfl).2
  subst e1
  have hI' := inv_nw (k := 23) (n := n.toNat) hI (by
    rw [wce_23 (by rw [kd_nw, if_pos rfl]), ln_nw, if_pos rfl]
    have : (fun j => rfo (adn ad (sz A) q) (gr (nw A 23 n.toNat) (sz A) j)) = fun _ => none := by
      funext j; rw [gr_nw, if_pos rfl]; rfl
    rw [this]) ⟨wf_nw hI.2.2.2.1.1 (Or.inr ⟨by omega, by omega, by omega⟩) (fty_cs 23), fun q => lay_nw hI.2.2.2.1.1 (by omega) (hI.2.2.2.1.2 q)⟩ q1 q2 q3
  have h := kk (adn ad (sz A) q) H1 locs (cells + 1) (slots + n.toNat) lsM hI' (lvi_adn hL ho hz adn_old) (OKV_nw ho) (okv_cons (okv_new (k := 23) (Or.inr ⟨by omega, by omega⟩) hz (fun _ => rfl)) (OKV_nw (okv_tail hs)))
  rw [List.map_cons, cvs_adn (okv_tail hs) hz adn_old, cv_r (show 2 ≤ 33 by omega), rfv_n (show (vR 33 (sz A) n.toNat).2.2.1 ≠ 0 from by show sz A ≠ 0; omega)] at h
  rw [show adn ad (sz A) q (vR 33 (sz A) n.toNat).2.2.1 = q from by show (if sz A = sz A then q else ad (sz A)) = q; rw [if_pos rfl]] at h
  exact h
theorem s_copy {i : Nat} {n dp sp : Int} {d nd sa ns : Nat} {z z' : Int} {w w' w'' : Nat × Nat} (C : CTX p R s m args c D Z base L xs adS nL own cc) (hdg : decode cc pc = .ok (.invokestatic i, 3)) (hl : (own, i, 310) ∈ mtT) (hsa : sa ≠ 0) (hd : d ≠ 0) (hc : cats st ≤ 8) (hr : (0 ≤ sp ∧ 0 ≤ dp ∧ 0 ≤ n) ∧ sp + n ≤ (ns : Int) ∧ dp + n ≤ (nd : Int)) (kk : Wok f p l e R s m args below meth c Q D Z base L xs adS adE z0 u0 nL (pc + 3) ls st (cpa A sa sp.toNat d dp.toNat n.toNat)) : Wok f p l e R s m args below meth c Q D Z base L xs adS adE z0 u0 nL pc ls ((0, n, w) :: (0, dp, w') :: (30, z, d, nd) :: (0, sp, w'') :: (30, z', sa, ns) :: st) A := by
  intro ad H locs cells slots lsM hI hL ho hs
  have hsd := okv_head (okv_tail (okv_tail hs))
  have hss := okv_head (okv_tail (okv_tail (okv_tail (okv_tail hs))))
  have hst5 := okv_tail (okv_tail (okv_tail (okv_tail (okv_tail hs))))
  obtain ⟨d40, dsz, dkd, dn⟩ := ok_obj (k := 20) hsd (Or.inr ⟨by omega, by omega⟩) hd
  obtain ⟨s40, ssz, skd, sn⟩ := ok_obj (k := 20) hss (Or.inr ⟨by omega, by omega⟩) hsa
  have dn := dn (by omega)
  have sn := sn (by omega)
  have hwf := hI.2.2.2.1.1
  have hl1 := ln_lt hwf d40 dsz (by omega)
  have hl2 := ln_lt hwf s40 ssz (by omega)
  have cn : ∀ x : Int, 0 ≤ x → x ≤ 1000000 → (¬ c32 x < 0) ∧ (c32 x).toNatClampNeg = x.toNat := by
    intro x h0 h1
    have hx : in32 x := by unfold in32; omega
    refine ⟨fun q => ?_, by rw [show (c32 x).toNatClampNeg = (c32 x).toInt.toNat from rfl, c32_toInt hx]⟩
    rw [show (0 : Int32) = c32 0 from rfl, c32_lt hx in32_0] at q
    omega
  obtain ⟨n1, n2⟩ := cn n (by omega) (by omega)
  obtain ⟨d1, d2⟩ := cn dp (by omega) (by omega)
  obtain ⟨s1, s2⟩ := cn sp (by omega) (by omega)
  have hed := wd_at (Z := Z) (ad := ad) d40 dsz
  rw [wce_20 dkd] at hed
  have hes := wd_at (Z := Z) (ad := ad) s40 ssz
  rw [wce_20 skd] at hes
  have hst : ((0, n, w) :: (0, dp, w') :: (30, z, d, nd) :: (0, sp, w'') :: (30, z', sa, ns) :: st).map (cv ad) = .int (c32 n) :: .int (c32 dp) :: .ref (ad d) :: .int (c32 sp) :: .ref (ad sa) :: st.map (cv ad) := by
    simp only [List.map_cons]
    rw [cv_0 (v := (0, n, w)) rfl, cv_0 (v := (0, dp, w')) rfl, cv_0 (v := (0, sp, w'')) rfl, cv_r (v := (30, z, d, nd)) (show 2 ≤ 30 by omega), rfv_n (show (30, z, d, nd).2.2.1 ≠ 0 from hd), cv_r (v := (30, z', sa, ns)) (show 2 ≤ 30 by omega), rfv_n (show (30, z', sa, ns).2.2.1 ≠ 0 from hsa)]
  rw [hst]
  have ac : arraycopyName = ynm 310 := by decide +kernel
  have w1 := C.2.2.2.2.1 _ (ml_in hl)
  have w2 := C.2.2.2.2.1 (Cond.native arraycopyName) (in_gtb (tb_in (by decide +kernel)) rfl)
  have w3 := C.2.2.2.2.1 (Cond.static arraycopyName) (in_gtb (tb_in (by decide +kernel)) rfl)
  have w4 := C.2.2.2.2.1 (Cond.initialized "java/lang/System") (in_gtb (tb_in (by decide +kernel)) rfl)
  rw [← ac] at w1
  refine va_copyi (ty := .int) C.1 C.2.1 (by rw [C.2.2.1]; exact hL.2.1.symm) C.2.2.2.1 w1 w2 w3 w4 C.2.2.2.2.2.1 hI.1 hI.2.1 hI.2.2.1 (sa - 40) (d - 40) 0 0 hes hed rfl rfl rfl s1 d1 n1 (by rw [s2, n2]; omega) (by rw [d2, n2]; omega) (fun _ _ => rfl) C.2.2.2.2.2.2.2.1 ?_ hdg (fun H1 locs1 q1 q2 q3 => ?_)
  · rw [cats_eq]
    have h60 := C.2.2.2.2.2.2.2.2
    have : nativeFrameWords "java/lang/System" "arraycopy" 5 + 11 ≤ 52 := by decide +kernel
    omega
  · have hE : (Sum.inl (Z.1, ln A d, .inl (va_cpy (fun j => c32 (gi A sa j)) (fun j => c32 (gi A d j)) (c32 sp).toNatClampNeg (c32 dp).toNatClampNeg (c32 n).toNatClampNeg)) : va_E) = wce Z (cpa A sa sp.toNat d dp.toNat n.toNat) ad d := by
      rw [wce_20 (show kd (cpa A sa sp.toNat d dp.toNat n.toNat) d = 20 from dkd), s2, d2, n2]
      have : va_cpy (fun j => c32 (gi A sa j)) (fun j => c32 (gi A d j)) sp.toNat dp.toNat n.toNat = fun j => c32 (gi (cpa A sa sp.toNat d dp.toNat n.toNat) d j) := by
        funext j
        unfold va_cpy
        rw [gi_cpa]
        by_cases q : dp.toNat ≤ j ∧ j < dp.toNat + n.toNat
        · rw [if_pos q, if_pos ⟨rfl, q⟩]
        · rw [if_neg q, if_neg (fun x => q x.2)]
      rw [this]; rfl
    rw [hE, wd_set (A := A) (A' := cpa A sa sp.toNat d dp.toNat n.toNat) rfl wce_cpa d40] at q1 q2
    exact kk ad H1 locs1 cells slots lsM ⟨q1, q2, q3, ⟨wf_cpa hwf s40 ssz skd d40 dkd, hI.2.2.2.1.2⟩, hI.2.2.2.2⟩ hL ho hst5
end SND5
