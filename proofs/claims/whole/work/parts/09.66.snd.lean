/-! arrays, new cells -/
section SND4
variable {p : Program} {l : Launch} {e : Env} {R : Room} {s : State} {m : MethodId} {args : Array Value} {below : List Frame} {meth : Method} {c : Code} {Q : State → Prop}
variable {f : Bool} {D : va_G} {Z : CI4} {base L z0 u0 nL own : Nat} {xs : Nat → Int32} {adS adE : Nat → Nat} {cc : ByteArray} {pc : Nat} {ls st : List AV} {A : AH}
theorem ln_lt {A : AH} {a : Nat} (h : WF L xs A) (h40 : 40 ≤ a) (hsz : a < sz A) (hk : 20 ≤ kd A a) : ln A a ≤ 1000000 := by
  rcases h.2.1 a h40 hsz with q | q
  · omega
  · exact q.2.2
theorem okf {A : AH} {a j t : Nat} (h : WF L xs A) (h40 : 40 ≤ a) (hsz : a < sz A) (ht : ftg A a j = t) : oks A t a j := ht ▸ h.2.2.1 a j h40 hsz
theorem s_iald {i : Int} {a n : Nat} {z : Int} {w : Nat × Nat} (C : CTX p R s m args c D Z base L xs adS nL own cc) (hdg : decode cc pc = .ok (.iaload, 1)) (ha : a ≠ 0) (hi : 0 ≤ i ∧ i < (n : Int)) (kk : Wok f p l e R s m args below meth c Q D Z base L xs adS adE z0 u0 nL (pc + 1) ls (vI (gi A a i.toNat) :: st) A) : Wok f p l e R s m args below meth c Q D Z base L xs adS adE z0 u0 nL pc ls ((0, i, w) :: (30, z, a, n) :: st) A := by
  intro ad H locs cells slots lsM hI hL ho hs
  obtain ⟨h40, hsz, hkd, hn⟩ := ok_obj (k := 20) (okv_head (okv_tail hs)) (Or.inr ⟨by omega, by omega⟩) ha
  have hn := hn (by omega)
  have hwf := hI.2.2.2.1.1
  have hln := ln_lt hwf h40 hsz (by omega)
  obtain ⟨x1, x2⟩ := c32_ix hi.1 hi.2 (by omega)
  have hg : in32 (gi A a i.toNat) := okf (t := 0) hwf h40 hsz (by unfold ftg; rw [hkd]; rfl)
  have h := kk ad H locs cells slots lsM hI hL ho (okv_cons hg (okv_tail (okv_tail hs)))
  rw [List.map_cons, cv_0 rfl] at h
  have he := wd_at (Z := Z) (ad := ad) h40 hsz
  rw [wce_20 hkd] at he
  have hst : ((0, i, w) :: (30, z, a, n) :: st).map (cv ad) = .int (c32 i) :: .ref (ad a) :: st.map (cv ad) := by
    rw [List.map_cons, List.map_cons, cv_0 (v := (0, i, w)) rfl, cv_r (v := (30, z, a, n)) (show 2 ≤ 30 by omega), rfv_n (show (30, z, a, n).2.2.1 ≠ 0 from ha)]
  rw [hst]
  refine va_iald C.1 C.2.1 C.2.2.2.2.2.1 hI.1 (a - 40) 0 he rfl (by rw [← hn]; exact x1) hdg ?_
  rw [x2]; exact h
theorem s_cald {i : Int} {a n : Nat} {z : Int} {w : Nat × Nat} (C : CTX p R s m args c D Z base L xs adS nL own cc) (hdg : decode cc pc = .ok (.caload, 1)) (ha : a ≠ 0) (hi : 0 ≤ i ∧ i < (n : Int)) (kk : Wok f p l e R s m args below meth c Q D Z base L xs adS adE z0 u0 nL (pc + 1) ls (vI (gi A a i.toNat) :: st) A) : Wok f p l e R s m args below meth c Q D Z base L xs adS adE z0 u0 nL pc ls ((0, i, w) :: (32, z, a, n) :: st) A := by
  intro ad H locs cells slots lsM hI hL ho hs
  obtain ⟨h40, hsz, hkd, hn⟩ := ok_obj (k := 22) (okv_head (okv_tail hs)) (Or.inr ⟨by omega, by omega⟩) ha
  have hn := hn (by omega)
  have hwf := hI.2.2.2.1.1
  have hln := ln_lt hwf h40 hsz (by omega)
  obtain ⟨x1, x2⟩ := c32_ix hi.1 hi.2 (by omega)
  have hg0 : 0 ≤ gi A a i.toNat ∧ gi A a i.toNat < 65536 := okf (t := 7) hwf h40 hsz (by unfold ftg; rw [hkd]; rfl)
  have hg : in32 (gi A a i.toNat) := by unfold in32; omega
  have h := kk ad H locs cells slots lsM hI hL ho (okv_cons hg (okv_tail (okv_tail hs)))
  rw [List.map_cons, cv_0 rfl] at h
  have he := wd_at (Z := Z) (ad := ad) h40 hsz
  rw [wce_22 hkd] at he
  have hst : ((0, i, w) :: (32, z, a, n) :: st).map (cv ad) = .int (c32 i) :: .ref (ad a) :: st.map (cv ad) := by
    rw [List.map_cons, List.map_cons, cv_0 (v := (0, i, w)) rfl, cv_r (v := (32, z, a, n)) (show 2 ≤ 32 by omega), rfv_n (show (32, z, a, n).2.2.1 ≠ 0 from ha)]
  rw [hst]
  refine va_cald C.1 C.2.1 C.2.2.2.2.2.1 hI.1 (a - 40) 2 he rfl (by rw [← hn]; exact x1) hdg ?_
  rw [x2]; exact h
theorem s_lald {i : Int} {a n : Nat} {z : Int} {w : Nat × Nat} (C : CTX p R s m args c D Z base L xs adS nL own cc) (hdg : decode cc pc = .ok (.laload, 1)) (ha : a ≠ 0) (hi : 0 ≤ i ∧ i < (n : Int)) (kk : Wok f p l e R s m args below meth c Q D Z base L xs adS adE z0 u0 nL (pc + 1) ls (vL (gi A a i.toNat) :: st) A) : Wok f p l e R s m args below meth c Q D Z base L xs adS adE z0 u0 nL pc ls ((0, i, w) :: (31, z, a, n) :: st) A := by
  intro ad H locs cells slots lsM hI hL ho hs
  obtain ⟨h40, hsz, hkd, hn⟩ := ok_obj (k := 21) (okv_head (okv_tail hs)) (Or.inr ⟨by omega, by omega⟩) ha
  have hn := hn (by omega)
  have hwf := hI.2.2.2.1.1
  have hln := ln_lt hwf h40 hsz (by omega)
  obtain ⟨x1, x2⟩ := c32_ix hi.1 hi.2 (by omega)
  have hg : in64 (gi A a i.toNat) := okf (t := 1) hwf h40 hsz (by unfold ftg; rw [hkd]; rfl)
  have h := kk ad H locs cells slots lsM hI hL ho (okv_cons hg (okv_tail (okv_tail hs)))
  rw [List.map_cons, cv_1 rfl] at h
  have he := wd_at (Z := Z) (ad := ad) h40 hsz
  rw [wce_21 hkd] at he
  have hst : ((0, i, w) :: (31, z, a, n) :: st).map (cv ad) = .int (c32 i) :: .ref (ad a) :: st.map (cv ad) := by
    rw [List.map_cons, List.map_cons, cv_0 (v := (0, i, w)) rfl, cv_r (v := (31, z, a, n)) (show 2 ≤ 31 by omega), rfv_n (show (31, z, a, n).2.2.1 ≠ 0 from ha)]
  rw [hst]
  refine va_lald C.1 C.2.1 C.2.2.2.2.2.1 hI.1 (a - 40) 1 he rfl (by rw [← hn]; exact x1) hdg ?_
  rw [x2]; exact h
theorem s_aald {i : Int} {a n : Nat} {z : Int} {w : Nat × Nat} (C : CTX p R s m args c D Z base L xs adS nL own cc) (hdg : decode cc pc = .ok (.aaload, 1)) (ha : a ≠ 0) (hi : 0 ≤ i ∧ i < (n : Int)) (kk : Wok f p l e R s m args below meth c Q D Z base L xs adS adE z0 u0 nL (pc + 1) ls (vR 19 (gr A a i.toNat) 0 :: st) A) : Wok f p l e R s m args below meth c Q D Z base L xs adS adE z0 u0 nL pc ls ((0, i, w) :: (33, z, a, n) :: st) A := by
  intro ad H locs cells slots lsM hI hL ho hs
  obtain ⟨h40, hsz, hkd, hn⟩ := ok_obj (k := 23) (okv_head (okv_tail hs)) (Or.inr ⟨by omega, by omega⟩) ha
  have hn := hn (by omega)
  have hwf := hI.2.2.2.1.1
  have hln := ln_lt hwf h40 hsz (by omega)
  obtain ⟨x1, x2⟩ := c32_ix hi.1 hi.2 (by omega)
  have hg : 10 ≤ 19 ∧ okref A 19 (gr A a i.toNat) := okf (t := 19) hwf h40 hsz (by unfold ftg; rw [hkd]; rfl)
  have h := kk ad H locs cells slots lsM hI hL ho (okv_cons (okv_ref (by omega) hg.2 (fun h => by omega)) (okv_tail (okv_tail hs)))
  rw [List.map_cons, cv_r (show 2 ≤ 19 by omega)] at h
  have he := wd_at (Z := Z) (ad := ad) h40 hsz
  rw [wce_23 hkd] at he
  have hst : ((0, i, w) :: (33, z, a, n) :: st).map (cv ad) = .int (c32 i) :: .ref (ad a) :: st.map (cv ad) := by
    rw [List.map_cons, List.map_cons, cv_0 (v := (0, i, w)) rfl, cv_r (v := (33, z, a, n)) (show 2 ≤ 33 by omega), rfv_n (show (33, z, a, n).2.2.1 ≠ 0 from ha)]
  rw [hst]
  refine va_aldq C.1 C.2.1 C.2.2.2.2.2.1 hI.1 (a - 40) 3 he rfl (by rw [← hn]; exact x1) hdg ?_
  rw [x2]; exact h
theorem s_aaldE {i : Int} {a n : Nat} {z : Int} {w : Nat × Nat} (C : CTX p R s m args c D Z base L xs adS nL own cc) (hdg : decode cc pc = .ok (.aaload, 1)) (ha : a ≠ 0) (hi : 0 ≤ i ∧ i < (n : Int)) (kk : Wok f p l e R s m args below meth c Q D Z base L xs adS adE z0 u0 nL (pc + 1) ls (vR 22 (i.toNat + 1) 0 :: st) A) : Wok f p l e R s m args below meth c Q D Z base L xs adS adE z0 u0 nL pc ls ((0, i, w) :: (34, z, a, n) :: st) A := by
  intro ad H locs cells slots lsM hI hL ho hs
  have h0 : 10 ≤ 34 ∧ okref A 34 a ∧ (30 ≤ 34 → a ≠ 0 → n = lenf L A 34 a) := okv_head (okv_tail hs)
  have hn : n = 37 := h0.2.2 (by omega) ha
  have ha38 : a = 38 := by
    rcases h0.2.1 with q | q
    · exact absurd q ha
    · exact q
  subst hn; subst ha38
  obtain ⟨x1, x2⟩ := c32_ix hi.1 hi.2 (by omega)
  have h := kk ad H locs cells slots lsM hI hL ho (okv_cons (okv_ref (by omega) (Or.inr (show 1 ≤ i.toNat + 1 ∧ i.toNat + 1 ≤ 37 by omega)) (fun h => by omega)) (okv_tail (okv_tail hs)))
  rw [List.map_cons, cv_r (show 2 ≤ 22 by omega), rfv_n (show (vR 22 (i.toNat + 1) 0).2.2.1 ≠ 0 from Nat.succ_ne_zero _)] at h
  have hst : ((0, i, w) :: (34, z, 38, 37) :: st).map (cv ad) = .int (c32 i) :: .ref (adS 38) :: st.map (cv ad) := by
    rw [List.map_cons, List.map_cons, cv_0 (v := (0, i, w)) rfl, cv_r (v := (34, z, 38, 37)) (show 2 ≤ 34 by omega), rfv_n (show (34, z, 38, 37).2.2.1 ≠ 0 from ha), ← hI.2.2.2.2.1 38 (by omega)]
  rw [hst]
  refine vb_tq C.1 C.2.1 C.2.2.2.2.2.2.1.2.2.1 hI.2.2.1 x1 rfl hdg ?_
  rw [x2, ← hI.2.2.2.2.1 (i.toNat + 1) (by omega)]; exact h
theorem s_sald {i : Int} {a n : Nat} {z : Int} {w : Nat × Nat} (C : CTX p R s m args c D Z base L xs adS nL own cc) (hdg : decode cc pc = .ok (.iaload, 1)) (ha : a ≠ 0) (hi : 0 ≤ i ∧ i < (n : Int)) (kk : Wok f p l e R s m args below meth c Q D Z base L xs adS adE z0 u0 nL (pc + 1) ls (vI (gi A a i.toNat) :: st) A) : Wok f p l e R s m args below meth c Q D Z base L xs adS adE z0 u0 nL pc ls ((0, i, w) :: (35, z, a, n) :: st) A := by
  intro ad H locs cells slots lsM hI hL ho hs
  have h0 : 10 ≤ 35 ∧ okref A 35 a ∧ (30 ≤ 35 → a ≠ 0 → n = lenf L A 35 a) := okv_head (okv_tail hs)
  have hn : n = L := h0.2.2 (by omega) ha
  have ha39 : a = 39 := by
    rcases h0.2.1 with q | q
    · exact absurd q ha
    · exact q
  subst hn; subst ha39
  obtain ⟨-, -, -, s4, s5, s6, s7, -⟩ := C.2.2.2.2.2.2.1
  obtain ⟨x1, x2⟩ := c32_ix hi.1 hi.2 (by omega)
  have hgi := hI.2.2.2.1.1.2.2.2 i.toNat (by omega)
  have hg : in32 (gi A 39 i.toNat) := by rw [hgi]; exact in32_of _
  have h := kk ad H locs cells slots lsM hI hL ho (okv_cons hg (okv_tail (okv_tail hs)))
  rw [List.map_cons, cv_0 rfl] at h
  have hst : ((0, i, w) :: (35, z, 39, n) :: st).map (cv ad) = .int (c32 i) :: .ref (adS 39) :: st.map (cv ad) := by
    rw [List.map_cons, List.map_cons, cv_0 (v := (0, i, w)) rfl, cv_r (v := (35, z, 39, n)) (show 2 ≤ 35 by omega), rfv_n (show (35, z, 39, n).2.2.1 ≠ 0 from ha), ← hI.2.2.2.2.1 39 (by omega)]
  rw [hst]
  refine va_sld C.1 C.2.1 s4 (by omega) (by omega) hI.2.2.1 x1 hdg ?_
  rw [x2]
  rw [show xs i.toNat = c32 (gi A 39 i.toNat) by rw [hgi, c32_of]]
  exact h
theorem s_alen {k a n : Nat} {z : Int} (C : CTX p R s m args c D Z base L xs adS nL own cc) (hdg : decode cc pc = .ok (.arraylength, 1)) (hk : 30 ≤ k) (ha : a ≠ 0) (kk : Wok f p l e R s m args below meth c Q D Z base L xs adS adE z0 u0 nL (pc + 1) ls (vI (n : Int) :: st) A) : Wok f p l e R s m args below meth c Q D Z base L xs adS adE z0 u0 nL pc ls ((k, z, a, n) :: st) A := by
  intro ad H locs cells slots lsM hI hL ho hs
  have h0 : 10 ≤ k ∧ okref A k a ∧ (30 ≤ k → a ≠ 0 → n = lenf L A k a) := by
    have h := okv_head hs
    unfold okv at h
    dsimp only at h
    split at h <;> first | omega | exact h
  have hn := h0.2.2 hk ha
  have hr := h0.2.1
  obtain ⟨-, -, s3, s4, s5, s6, s7, -⟩ := C.2.2.2.2.2.2.1
  have hst : ((k, z, a, n) :: st).map (cv ad) = .ref (ad a) :: st.map (cv ad) := by
    rw [List.map_cons, cv_r (v := (k, z, a, n)) (show 2 ≤ k by omega), rfv_n (show (k, z, a, n).2.2.1 ≠ 0 from ha)]
  rw [hst]
  have hh : n < 2147483648 → W p l e R s m args below meth c H locs cells slots Q (F0 m (pc + 1) lsM (.int (Int32.ofNat n) :: st.map (cv ad))) := by
    intro hlt
    have h := kk ad H locs cells slots lsM hI hL ho (okv_cons (show in32 (n : Int) by unfold in32; omega) (okv_tail hs))
    rw [List.map_cons, cv_0 rfl] at h
    exact h
  rcases hr with hr | hr
  · exact absurd hr ha
  · split at hr
    · omega
    · subst hr
      have : n = 37 := hn
      subst this
      rw [hI.2.2.2.2.1 38 (by omega)]
      exact va_tlen C.1 C.2.1 s3 hI.2.2.1 rfl hdg (hh (by omega))
    · subst hr
      have : n = L := hn
      subst this
      rw [hI.2.2.2.2.1 39 (by omega)]
      exact va_slen C.1 C.2.1 s4 (by omega) (by omega) hI.2.2.1 hdg (hh (by omega))
    · rename_i n34 n35
      obtain ⟨h40, hsz, hkd⟩ := hr
      have hln := ln_lt hI.2.2.2.1.1 h40 hsz (by omega)
      have hn : n = ln A a := by
        rw [hn]; unfold lenf
        split
        · exact absurd rfl n34
        · exact absurd rfl n35
        · rfl
      have he := wd_at (Z := Z) (ad := ad) h40 hsz
      have hsh := hI.2.2.2.1.1.2.1 a h40 hsz
      rw [← hn] at hln
      have hk4 : kd A a = 20 ∨ kd A a = 21 ∨ kd A a = 22 ∨ kd A a = 23 := by
        rcases hsh with q | q <;> omega
      rcases hk4 with q | q | q | q
      · rw [wce_20 q] at he
        exact va_alen C.1 C.2.1 C.2.2.2.2.2.1 hI.1 (a - 40) 0 he (ty := .int) rfl rfl hdg (by rw [← hn]; exact hh (by omega))
      · rw [wce_21 q] at he
        exact va_alen C.1 C.2.1 C.2.2.2.2.2.1 hI.1 (a - 40) 1 he (ty := .long) rfl rfl hdg (by rw [← hn]; exact hh (by omega))
      · rw [wce_22 q] at he
        exact va_alen C.1 C.2.1 C.2.2.2.2.2.1 hI.1 (a - 40) 2 he (ty := .char) rfl rfl hdg (by rw [← hn]; exact hh (by omega))
      · rw [wce_23 q] at he
        exact va_alen C.1 C.2.1 C.2.2.2.2.2.1 hI.1 (a - 40) 3 he (ty := .object "SilentCourt$Sitting") rfl rfl hdg (by rw [← hn]; exact hh (by omega))
/-- the heap behind a store into an array -/
theorem inv_wi {ad : Nat → Nat} {H H1 : Heap} {locs locs1 : List Loc} {cells slots a j : Nat} {x : Int} {E : va_E} (hI : INV f D Z base L xs adS adE z0 u0 s A ad H locs cells slots) (h40 : 40 ≤ a) (hE : E = wce Z (wi A a j x) ad a) (hwf : WF L xs (wi A a j x)) (q1 : va_P D vwCl ((wd Z A ad).set (a - 40) (ad a, E)) H1) (q2 : va_D (fun q => base ≤ q) ((wd Z A ad).set (a - 40) (ad a, E))) (q3 : va_S (fun q => base ≤ q) s.heap H1 locs1) : INV f D Z base L xs adS adE z0 u0 s (wi A a j x) ad H1 locs1 cells slots := by
  rw [hE, wd_set (A := A) (A' := wi A a j x) rfl wce_wi h40] at q1 q2
  exact ⟨q1, q2, q3, ⟨hwf, hI.2.2.2.1.2⟩, hI.2.2.2.2⟩
theorem s_iast {i x : Int} {a n : Nat} {z : Int} {w w' : Nat × Nat} (C : CTX p R s m args c D Z base L xs adS nL own cc) (hdg : decode cc pc = .ok (.iastore, 1)) (ha : a ≠ 0) (hi : 0 ≤ i ∧ i < (n : Int)) (kk : Wok f p l e R s m args below meth c Q D Z base L xs adS adE z0 u0 nL (pc + 1) ls st (wi A a i.toNat x)) : Wok f p l e R s m args below meth c Q D Z base L xs adS adE z0 u0 nL pc ls ((0, x, w') :: (0, i, w) :: (30, z, a, n) :: st) A := by
  intro ad H locs cells slots lsM hI hL ho hs
  obtain ⟨h40, hsz, hkd, hn⟩ := ok_obj (k := 20) (okv_head (okv_tail (okv_tail hs))) (Or.inr ⟨by omega, by omega⟩) ha
  have hn := hn (by omega)
  have hwf := hI.2.2.2.1.1
  have hln := ln_lt hwf h40 hsz (by omega)
  obtain ⟨x1, x2⟩ := c32_ix hi.1 hi.2 (by omega)
  have hx : in32 x := okv_head hs
  have hft : ftg A a i.toNat = 0 := by unfold ftg; rw [hkd]; rfl
  have he := wd_at (Z := Z) (ad := ad) h40 hsz
  rw [wce_20 hkd] at he
  have hst : ((0, x, w') :: (0, i, w) :: (30, z, a, n) :: st).map (cv ad) = .int (c32 x) :: .int (c32 i) :: .ref (ad a) :: st.map (cv ad) := by
    rw [List.map_cons, List.map_cons, List.map_cons, cv_0 (v := (0, x, w')) rfl, cv_0 (v := (0, i, w)) rfl, cv_r (v := (30, z, a, n)) (show 2 ≤ 30 by omega), rfv_n (show (30, z, a, n).2.2.1 ≠ 0 from ha)]
  rw [hst]
  refine va_iast C.1 C.2.1 C.2.2.2.2.2.1 hI.1 hI.2.1 hI.2.2.1 (a - 40) 0 he rfl (by rw [← hn]; exact x1) hdg fun H1 locs1 q1 q2 q3 => ?_
  refine kk ad H1 locs1 cells slots lsM (inv_wi hI h40 ?_ (wf_wi hwf h40 (by rw [hft]; exact hx)) q1 q2 q3) hL ho (okv_tail (okv_tail (okv_tail hs)))
  rw [wce_20 (show kd (wi A a i.toNat x) a = 20 from hkd), x2, upd_i]; rfl
theorem s_last {i x : Int} {a n : Nat} {z : Int} {w w' : Nat × Nat} (C : CTX p R s m args c D Z base L xs adS nL own cc) (hdg : decode cc pc = .ok (.lastore, 1)) (ha : a ≠ 0) (hi : 0 ≤ i ∧ i < (n : Int)) (kk : Wok f p l e R s m args below meth c Q D Z base L xs adS adE z0 u0 nL (pc + 1) ls st (wi A a i.toNat x)) : Wok f p l e R s m args below meth c Q D Z base L xs adS adE z0 u0 nL pc ls ((1, x, w') :: (0, i, w) :: (31, z, a, n) :: st) A := by
  intro ad H locs cells slots lsM hI hL ho hs
  obtain ⟨h40, hsz, hkd, hn⟩ := ok_obj (k := 21) (okv_head (okv_tail (okv_tail hs))) (Or.inr ⟨by omega, by omega⟩) ha
  have hn := hn (by omega)
  have hwf := hI.2.2.2.1.1
  have hln := ln_lt hwf h40 hsz (by omega)
  obtain ⟨x1, x2⟩ := c32_ix hi.1 hi.2 (by omega)
  have hx : in64 x := okv_head hs
  have hft : ftg A a i.toNat = 1 := by unfold ftg; rw [hkd]; rfl
  have he := wd_at (Z := Z) (ad := ad) h40 hsz
  rw [wce_21 hkd] at he
  have hst : ((1, x, w') :: (0, i, w) :: (31, z, a, n) :: st).map (cv ad) = .long (c64 x) :: .int (c32 i) :: .ref (ad a) :: st.map (cv ad) := by
    rw [List.map_cons, List.map_cons, List.map_cons, cv_1 (v := (1, x, w')) rfl, cv_0 (v := (0, i, w)) rfl, cv_r (v := (31, z, a, n)) (show 2 ≤ 31 by omega), rfv_n (show (31, z, a, n).2.2.1 ≠ 0 from ha)]
  rw [hst]
  refine va_last C.1 C.2.1 C.2.2.2.2.2.1 hI.1 hI.2.1 hI.2.2.1 (a - 40) 1 he rfl (by rw [← hn]; exact x1) hdg fun H1 locs1 q1 q2 q3 => ?_
  refine kk ad H1 locs1 cells slots lsM (inv_wi hI h40 ?_ (wf_wi hwf h40 (by rw [hft]; exact hx)) q1 q2 q3) hL ho (okv_tail (okv_tail (okv_tail hs)))
  rw [wce_21 (show kd (wi A a i.toNat x) a = 21 from hkd), x2, upd_l]; rfl
theorem c32_char {x : Int} (h : 0 ≤ x ∧ x < 65536) : vp_nar .char (c32 x) = c32 x := by
  have h1 : c32 x = nI x.toNat := e32 (by rw [c32_toInt (by unfold in32; omega), nI_toInt (by omega)]; omega)
  rw [h1]
  unfold vp_nar
  rw [(pk_charN (q := x.toNat) (by omega)).1]
theorem s_cast {i x : Int} {a n : Nat} {z : Int} {w w' : Nat × Nat} (C : CTX p R s m args c D Z base L xs adS nL own cc) (hdg : decode cc pc = .ok (.castore, 1)) (ha : a ≠ 0) (hx : 0 ≤ x ∧ x < 65536) (hi : 0 ≤ i ∧ i < (n : Int)) (kk : Wok f p l e R s m args below meth c Q D Z base L xs adS adE z0 u0 nL (pc + 1) ls st (wi A a i.toNat x)) : Wok f p l e R s m args below meth c Q D Z base L xs adS adE z0 u0 nL pc ls ((0, x, w') :: (0, i, w) :: (32, z, a, n) :: st) A := by
  intro ad H locs cells slots lsM hI hL ho hs
  obtain ⟨h40, hsz, hkd, hn⟩ := ok_obj (k := 22) (okv_head (okv_tail (okv_tail hs))) (Or.inr ⟨by omega, by omega⟩) ha
  have hn := hn (by omega)
  have hwf := hI.2.2.2.1.1
  have hln := ln_lt hwf h40 hsz (by omega)
  obtain ⟨x1, x2⟩ := c32_ix hi.1 hi.2 (by omega)
  have hft : ftg A a i.toNat = 7 := by unfold ftg; rw [hkd]; rfl
  have he := wd_at (Z := Z) (ad := ad) h40 hsz
  rw [wce_22 hkd] at he
  have hst : ((0, x, w') :: (0, i, w) :: (32, z, a, n) :: st).map (cv ad) = .int (c32 x) :: .int (c32 i) :: .ref (ad a) :: st.map (cv ad) := by
    rw [List.map_cons, List.map_cons, List.map_cons, cv_0 (v := (0, x, w')) rfl, cv_0 (v := (0, i, w)) rfl, cv_r (v := (32, z, a, n)) (show 2 ≤ 32 by omega), rfv_n (show (32, z, a, n).2.2.1 ≠ 0 from ha)]
  rw [hst]
  refine va_cast C.1 C.2.1 C.2.2.2.2.2.1 hI.1 hI.2.1 hI.2.2.1 (a - 40) 2 he rfl (by rw [← hn]; exact x1) hdg fun H1 locs1 q1 q2 q3 => ?_
  refine kk ad H1 locs1 cells slots lsM (inv_wi hI h40 ?_ (wf_wi hwf h40 (by rw [hft]; exact hx)) q1 q2 q3) hL ho (okv_tail (okv_tail (okv_tail hs)))
  rw [wce_22 (show kd (wi A a i.toNat x) a = 22 from hkd), x2, c32_char hx, upd_i]; rfl
theorem s_aast {i : Int} {a v n n' : Nat} {z z' : Int} {w : Nat × Nat} (C : CTX p R s m args c D Z base L xs adS nL own cc) (hdg : decode cc pc = .ok (.aastore, 1)) (ha : a ≠ 0) (hv : v ≠ 0) (hi : 0 ≤ i ∧ i < (n : Int)) (kk : Wok f p l e R s m args below meth c Q D Z base L xs adS adE z0 u0 nL (pc + 1) ls st (wr A a i.toNat v)) : Wok f p l e R s m args below meth c Q D Z base L xs adS adE z0 u0 nL pc ls ((19, z', v, n') :: (0, i, w) :: (33, z, a, n) :: st) A := by
  intro ad H locs cells slots lsM hI hL ho hs
  obtain ⟨h40, hsz, hkd, hn⟩ := ok_obj (k := 23) (okv_head (okv_tail (okv_tail hs))) (Or.inr ⟨by omega, by omega⟩) ha
  obtain ⟨v40, vsz, vkd, -⟩ := ok_obj (k := 9) (okv_head hs) (Or.inl (by omega)) hv
  have hn := hn (by omega)
  have hwf := hI.2.2.2.1.1
  have hln := ln_lt hwf h40 hsz (by omega)
  obtain ⟨x1, x2⟩ := c32_ix hi.1 hi.2 (by omega)
  have hft : ftg A a i.toNat = 19 := by unfold ftg; rw [hkd]; rfl
  have he := wd_at (Z := Z) (ad := ad) h40 hsz
  rw [wce_23 hkd] at he
  have hev := wd_at (Z := Z) (ad := ad) v40 vsz
  rw [wce_obj vkd (by omega)] at hev
  have hst : ((19, z', v, n') :: (0, i, w) :: (33, z, a, n) :: st).map (cv ad) = .ref (ad v) :: .int (c32 i) :: .ref (ad a) :: st.map (cv ad) := by
    rw [List.map_cons, List.map_cons, List.map_cons, cv_r (v := (19, z', v, n')) (show 2 ≤ 19 by omega), rfv_n (show (19, z', v, n').2.2.1 ≠ 0 from hv), cv_0 (v := (0, i, w)) rfl, cv_r (v := (33, z, a, n)) (show 2 ≤ 33 by omega), rfv_n (show (33, z, a, n).2.2.1 ≠ 0 from ha)]
  rw [hst]
  refine va_astq (r := vwc 9) C.1 C.2.1 C.2.2.2.2.2.1 hI.1 hI.2.1 hI.2.2.1 (a - 40) 3 (v - 40) 9 he rfl hev (vw_at (by omega)) (by rw [← hn]; exact x1) hdg fun H1 locs1 q1 q2 q3 => ?_
  have hE : (Sum.inl (Z.2.2.2, ln A a, .inr (.inr (.inr (.inr (va_up (fun j => rfo ad (gr A a j)) (c32 i).toNatClampNeg (some (ad v))))))) : va_E) = wce Z (wr A a i.toNat v) ad a := by
    rw [wce_23 (show kd (wr A a i.toNat v) a = 23 from hkd), x2]
    have : va_up (fun j => rfo ad (gr A a j)) i.toNat (some (ad v)) = fun j => rfo ad (gr (wr A a i.toNat v) a j) := by
      funext j
      unfold va_up
      rw [gr_wr]
      by_cases hj : j = i.toNat
      · rw [if_pos hj, if_pos ⟨rfl, hj⟩]; unfold rfo; rw [if_neg hv]
      · rw [if_neg hj, if_neg (fun q => hj q.2)]
    rw [this]; rfl
  rw [hE, wd_set (A := A) (A' := wr A a i.toNat v) rfl wce_wr h40] at q1 q2
  refine kk ad H1 locs1 cells slots lsM ⟨q1, q2, q3, ⟨wf_wr hwf (by rw [hft]; omega) (by rw [hft]; exact Or.inr ⟨v40, vsz, by omega⟩), fun q => lay_wr (by rw [hkd]; rfl) (hI.2.2.2.1.2 q)⟩, hI.2.2.2.2⟩ hL ho (okv_tail (okv_tail (okv_tail hs)))
end SND4
