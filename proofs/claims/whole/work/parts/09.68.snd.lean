/-! calls -/
def pfx (A A' : AH) : Prop := ∃ ext, A'.2.2 = A.2.2 ++ ext
theorem pfx_sz {A A' : AH} (h : pfx A A') : sz A ≤ sz A' := by obtain ⟨x, e⟩ := h; unfold sz; rw [e, List.length_append]; omega
theorem pfx_sl {A A' : AH} (h : pfx A A') : sl A ≤ sl A' := by obtain ⟨x, e⟩ := h; unfold sl; rw [e, List.map_append, List.sum_append]; omega
theorem pfx_sh {A A' : AH} (h : pfx A A') {b : Nat} (hb : b < sz A) : A'.2.2.getD b (99, 0) = A.2.2.getD b (99, 0) := by
  obtain ⟨x, e⟩ := h
  rw [e]
  simp only [List.getD]
  rw [List.getElem?_append_left hb]
theorem pfx_rf (A : AH) : pfx A A := ⟨[], by simp⟩
theorem pfx_tr {A B C : AH} (h1 : pfx A B) (h2 : pfx B C) : pfx A C := by
  obtain ⟨x, e⟩ := h1
  obtain ⟨y, f⟩ := h2
  exact ⟨x ++ y, by rw [f, e, List.append_assoc]⟩
theorem okref_pfx {A A' : AH} {t a : Nat} (hp : pfx A A') (h : okref A t a) : okref A' t a := by
  rcases h with h | h
  · exact Or.inl h
  · refine Or.inr ?_
    revert h
    split <;> intro h
    · exact h
    · exact h
    · exact h
    · have hz := pfx_sz hp
      refine ⟨h.1, by omega, ?_⟩
      unfold kd at h ⊢
      rw [pfx_sh hp h.2.1]
      exact h.2.2
theorem okv_pfx {L : Nat} {A A' : AH} {v : AV} (hp : pfx A A') (h : okv L A v) : okv L A' v := by
  unfold okv at h ⊢
  split at h
  · exact h
  · exact h
  · exact h
  · exact h
  · refine ⟨h.1, okref_pfx hp h.2.1, fun h30 h0 => ?_⟩
    rw [h.2.2 h30 h0]
    have h1 := h.2.1
    rcases h1 with h1 | h1
    · exact absurd h1 h0
    · unfold lenf
      split
      · rfl
      · rfl
      · rename_i n34 n35
        by_cases h22 : v.1 = 22
        · omega
        · revert h1
          split
          · intro _; exact absurd (by assumption) h22
          · intro _; exact absurd (by assumption) n34
          · intro _; exact absurd (by assumption) n35
          · intro h1; unfold ln; rw [pfx_sh hp h1.2.1]
theorem OKV_pfx {L : Nat} {A A' : AH} {vs : List AV} (hp : pfx A A') (h : OKV L A vs) : OKV L A' vs := fun v hv => okv_pfx hp (h v hv)
theorem STA.to {base : Nat} {adS : Nat → Nat} {L : Nat} {xs : Nat → Int32} {u U : State} (h : STA base adS L xs u) (hW : u.WarmedH U.vm) (h1 : u.heap.size ≤ U.heap.size) (h2 : ∀ q : Nat, q < u.heap.size → ¬ base ≤ q → U.heap[q]? = u.heap[q]?) : STA base adS L xs U := by
  obtain ⟨a1, a2, a3, a4, a5, a6, a7, a8, a9⟩ := h
  exact ⟨va_En.moved hW.alike (a1.kept h2), va_Z.moved hW.alike (a2.kept h2), va_T.moved hW.alike (a3.kept h2), va_X.moved hW.alike (a4.kept (h2 _ (by omega) (by omega))), a5, a6, by omega, fun q hq => va_Nw.warmM hW (a8 q hq), va_AO.moved hW.alike a9⟩
def rmd (d : Nat) (A A' : AH) : Room := { frames := d, cells := sz A' - sz A, slots := sl A' - sl A, locals := 60 * d }
def PreC (D : va_G) (Z : CI4) (base L : Nat) (xs : Nat → Int32) (adS : Nat → Nat) (A : AH) (ad : Nat → Nat) : State → Prop := fun U => va_P D vwCl (wd Z A ad) U.heap ∧ va_K D vwCl (tys4 Z) U ∧ va_D (fun q => base ≤ q) (wd Z A ad) ∧ STA base adS L xs U
def PostC (f : Bool) (D : va_G) (Z : CI4) (base L : Nat) (xs : Nat → Int32) (A A' : AH) (ad : Nat → Nat) (v : Option AV) : Array Value → State → Outcome → State → Prop := fun _ st oc t => (∃ ad' : Nat → Nat, (∀ i, i < sz A → ad' i = ad i) ∧ oc = .returned (v.map (cv ad')) ∧ va_P D vwCl (wd Z A' ad') t.heap ∧ va_D (fun q => base ≤ q) (wd Z A' ad') ∧ WG f L xs A' ∧ ∀ w, v = some w → okv L A' w) ∧ va_F (fun q => base ≤ q) st t
def MTA (f : Bool) (l : Launch) (d mi : Nat) (av : List AV) (A : AH) (v : Option AV) (A' : AH) : Prop := ∀ (D : va_G) (Z : CI4) (base L : Nat) (xs : Nat → Int32) (adS ad : Nat → Nat), WG f L xs A → OKV L A av → (∀ i, i < 40 → ad i = adS i) →
  Met l (ynm mi) (Cond.code (ynm mi) (cod mi) (mxl mi) (rtt mi) :: gtb) (rmd d A A') (va_Pc (av.map (cv ad)) (PreC D Z base L xs adS A ad)) (PostC f D Z base L xs A A' ad v) (sz A' - sz A) (sl A' - sl A) (fun q => base ≤ q)
theorem pre_blind {D : va_G} {Z : CI4} {base L : Nat} {xs : Nat → Int32} {adS ad : Nat → Nat} {A : AH} {vs : List Value} : FrameBlind (va_Pc vs (PreC D Z base L xs adS A ad)) := by
  intro a U g mk h
  obtain ⟨h0, h1, h2, h3, h4⟩ := h
  exact ⟨h0, h1, va_K.moved (u := U) (U := U.calling g mk a) (Vm.Alike.refl U.vm) h2, h3, h4.to (U := U.calling g mk a) (State.WarmedH.refl U) (Nat.le_refl _) (fun _ _ _ => rfl)⟩
theorem good_code {mi : Nat} (hco : mi ∈ coT) : GoodIn gtb (Cond.code (ynm mi) (cod mi) (mxl mi) (rtt mi) :: gtb) := by
  intro w hw
  rcases List.mem_cons.mp hw with h | h
  · rw [h]; exact ⟨co_in hco, gtb_good (co_in hco)⟩
  · exact ⟨h, gtb_good h⟩
section SND6
variable {p : Program} {l : Launch} {e : Env} {R : Room} {s : State} {m : MethodId} {args : Array Value} {below : List Frame} {meth : Method} {c : Code} {Q : State → Prop}
variable {f : Bool} {D : va_G} {Z : CI4} {base L z0 u0 nL own : Nat} {xs : Nat → Int32} {adS adE : Nat → Nat} {cc : ByteArray} {pc : Nat} {ls st : List AV} {A : AH}
theorem s_callR {A' : AH} {v : Option AV} {aa : Array Value} {st0 : List Value} {ad : Nat → Nat} {H : Heap} {locs : List Loc} {cells slots : Nat} {lsM : Array Slot} (hp : pfx A A') (hI : INV f D Z base L xs adS adE z0 u0 s A ad H locs cells slots) (hL : LVI nL ad ls lsM) (ho : OKV L A ls) (hs : OKV L A st)
    (hrun : va_Run p l e R s m args below meth c H locs cells slots (sz A' - sz A) (sl A' - sl A) (F0 m pc lsM st0) (st.map (cv ad)) (PostC f D Z base L xs A A' ad v aa) (fun q => base ≤ q))
    (kk : Wok f p l e R s m args below meth c Q D Z base L xs adS adE z0 u0 nL (pc + 3) ls (v.toList ++ st) A') : W p l e R s m args below meth c H locs cells slots Q (F0 m pc lsM st0) := by
  intro T hT X
  obtain ⟨v', st1, t, T', Lc, h0, X', hLc, e1, e2, ⟨⟨ad', hag, hv', hP', hD', hwf', hokv⟩, hF1, hF2⟩, hst⟩ := hrun T hT X
  cases hv'
  have hz := hI.2.2.2.1.1.1
  have hsz := pfx_sz hp
  have hsl := pfx_sl hp
  have hS : va_S (fun q => base ≤ q) s.heap T'.heap (locs ++ Lc) := by
    rw [h0] at hF1 hF2
    refine ⟨Nat.le_trans hI.2.2.1.1 (by rw [e1]; exact hF1), fun q q1 q2 => ?_, fun q hq => ?_⟩
    · rw [e1, hF2 q (Nat.lt_of_lt_of_le q1 hI.2.2.1.1) q2]; exact hI.2.2.1.2.1 q q1 q2
    · rcases List.mem_append.mp hq with h | h
      · exact hI.2.2.1.2.2 q h
      · exact hLc q h
  have hI' : INV f D Z base L xs adS adE z0 u0 s A' ad' T'.heap (locs ++ Lc) (cells + (sz A' - sz A)) (slots + (sl A' - sl A)) := by
    have c1 := hI.2.2.2.2.2.2.1
    have c2 := hI.2.2.2.2.2.2.2
    refine ⟨by rw [e1]; exact hP', hD', hS, hwf', fun i hi => ?_, fun i hi => ?_, by omega, by omega⟩
    · rw [hag i (by omega)]; exact hI.2.2.2.2.1 i hi
    · rw [hag i (by omega)]; exact hI.2.2.2.2.2.1 i hi
  have hsv : OKV L A' (v.toList ++ st) := by
    intro w hw
    rcases List.mem_append.mp hw with h | h
    · exact hokv w (by simpa using h)
    · exact okv_pfx hp (hs w h)
  have h := kk ad' T'.heap (locs ++ Lc) _ _ lsM hI' (lvi_adn hL ho hz hag) (OKV_pfx hp ho) hsv
  have hst2 : (v.toList ++ st).map (cv ad') = (v.map (cv ad')).toList ++ st.map (cv ad) := by
    rw [List.map_append, cvs_adn hs hz hag]
    cases v <;> rfl
  rw [hst2] at h
  obtain ⟨t2, a1, b1⟩ := h T' rfl X'
  exact ⟨t2, hst t2 a1, b1⟩
/-- what a call wants of the tables -/
def cOK (own i mi n : Nat) (nest : Bool) : Bool := (match nest with | true => has3 nestT own i mi | false => has3 mtT own i mi) && has2 cTab mi n
theorem cOK_t {own i mi n : Nat} {nest : Bool} (h : cOK own i mi n nest = true) : mi ∈ coT ∧ owc mi ∈ inT ∧ (ynm mi).cls = cnm (owc mi) ∧ ((ynm mi).cls ≠ "java/lang/invoke/MethodHandle" ∧ (ynm mi).cls ≠ "java/lang/invoke/VarHandle" ∧ (parseMethodDescriptor (ynm mi).desc).map (fun d => d.parameters.length) = some n) ∧ mxl mi ≤ 40 := by
  unfold cOK at h
  rw [Bool.and_eq_true] at h
  have h2 := List.all_eq_true.mp cTab_ok _ (has2_mem h.2)
  unfold cTabK at h2
  simp only [Bool.and_eq_true, bne_iff_ne, beq_iff_eq] at h2
  obtain ⟨⟨⟨⟨⟨⟨h1, h3⟩, h4⟩, h5⟩, h6⟩, h7⟩, h8⟩ := h2
  exact ⟨has1_mem h1, has1_mem h3, h4, ⟨h5, h6, h7⟩, Nat.le_of_ble_eq_true h8⟩
theorem pre_U {ad : Nat → Nat} {H : Heap} {locs : List Loc} {cells slots : Nat} (C : CTX p R s m args c D Z base L xs adS nL own cc) (hI : INV f D Z base L xs adS adE z0 u0 s A ad H locs cells slots) {vs : List Value} : ∀ U : State, U.heap = H → s.WarmedH U.vm → va_Pc vs (PreC D Z base L xs adS A ad) vs.toArray U := by
  intro U hU hW
  refine ⟨rfl, by rw [hU]; exact hI.1, va_K.moved hW.alike C.2.2.2.2.2.1, hI.2.1, C.2.2.2.2.2.2.1.to hW (by rw [hU]; exact hI.2.2.1.1) (fun q q1 q2 => by rw [hU]; exact hI.2.2.1.2.1 q q1 q2)⟩
theorem cB_of {d i mi n : Nat} {A' : AH} {ret : Option FieldType} (C : CTX p R s m args c D Z base L xs adS nL own cc) (h : cOK own i mi n false = true) (hR : d + 1 ≤ R.frames ∧ 60 * d + 60 ≤ R.locals) (hret : rtt mi = ret) : CallB R s args (cnm own) i (ynm mi) (cod mi) (mxl mi) ret (Cond.code (ynm mi) (cod mi) (mxl mi) (rtt mi) :: gtb) (rmd d A A') (sz A' - sz A) (sl A' - sl A) n := by
  obtain ⟨h2, h3, h4, h5, h8⟩ := cOK_t h
  unfold cOK at h
  rw [Bool.and_eq_true] at h
  subst hret
  exact callB_of n C.2.2.2.2.1 (good_code h2) rfl rfl rfl (by rw [h4]; exact C.2.2.2.2.1 _ (ini_in h3)) (C.2.2.2.2.1 _ (ml_in (has3_mem h.1))) h5 ⟨hR.1, by show 8 + (mxl mi + 11) + 60 * d ≤ R.locals; omega⟩
theorem cN_of {d i mi n : Nat} {A' : AH} {ret : Option FieldType} (C : CTX p R s m args c D Z base L xs adS nL own cc) (h : cOK own i mi n true = true) (hR : d + 1 ≤ R.frames ∧ 60 * d + 60 ≤ R.locals) (hret : rtt mi = ret) : va_CN R s args (cnm own) i (ynm mi) "SilentCourt" (cod mi) (mxl mi) ret (Cond.code (ynm mi) (cod mi) (mxl mi) (rtt mi) :: gtb) (rmd d A A') (sz A' - sz A) (sl A' - sl A) n := by
  obtain ⟨h2, h3, h4, h5, h8⟩ := cOK_t h
  unfold cOK at h
  rw [Bool.and_eq_true] at h
  subst hret
  exact va_cnB n C.2.2.2.2.1 (good_code h2) rfl rfl rfl (C.2.2.2.2.2.2.1.2.2.2.2.2.2.2.1 (own, i, mi) (has3_mem h.1)) (by rw [h4]; exact C.2.2.2.2.1 _ (ini_in h3)) h5 ⟨hR.1, by show 8 + (mxl mi + 11) + 60 * d ≤ R.locals; omega⟩
theorem s_callV {d i mi k b n nn : Nat} {z : Int} {v : Option AV} {A' : AH} {as : List AV} (C : CTX p R s m args c D Z base L xs adS nL own cc) (hdg : decode cc pc = .ok (.invokevirtual i, 3)) (hk : k < 12) (hb : b ≠ 0) (hc : cats st ≤ 8) (hn : as.length = n) (h : cOK own i mi n false = true) (him : mi ∈ imT) (hse : (mi, mi) ∈ seT ∨ mi ∈ pvT) (hcl : cnm k = (ynm mi).cls) (hR : d + 1 ≤ R.frames ∧ 60 * d + 60 ≤ R.locals) (hp : pfx A A') (hroom : sz A' ≤ z0 + R.cells ∧ sl A' ≤ u0 + R.slots)
    (hM : MTA f l d mi ((10 + k, z, b, nn) :: as) A v A') (kk : Wok f p l e R s m args below meth c Q D Z base L xs adS adE z0 u0 nL (pc + 3) ls (v.toList ++ st) A') : Wok f p l e R s m args below meth c Q D Z base L xs adS adE z0 u0 nL pc ls (as.reverse ++ (10 + k, z, b, nn) :: st) A := by
  intro ad H locs cells slots lsM hI hL ho hs
  have hsr : okv L A (10 + k, z, b, nn) := hs _ (List.mem_append_right _ List.mem_cons_self)
  have hss : OKV L A st := fun w hw => hs w (List.mem_append_right _ (List.mem_cons_of_mem _ hw))
  have hsa : OKV L A as := fun w hw => hs w (List.mem_append_left _ (List.mem_reverse.mpr hw))
  obtain ⟨h40, hsz, hkd, -⟩ := ok_obj hsr (Or.inl hk) hb
  have hst : (as.reverse ++ (10 + k, z, b, nn) :: st).map (cv ad) = (as.map (cv ad)).reverse ++ .ref (ad b) :: st.map (cv ad) := by
    rw [List.map_append, List.map_reverse, List.map_cons, cv_r (v := (10 + k, z, b, nn)) (show 2 ≤ 10 + k by omega), rfv_n (show (10 + k, z, b, nn).2.2.1 ≠ 0 from hb)]
  rw [hst]
  have hav : ((10 + k, z, b, nn) :: as).map (cv ad) = .ref (ad b) :: as.map (cv ad) := by
    rw [List.map_cons, cv_r (v := (10 + k, z, b, nn)) (show 2 ≤ 10 + k by omega), rfv_n (show (10 + k, z, b, nn).2.2.1 ≠ 0 from hb)]
  have hM' := hM D Z base L xs adS ad hI.2.2.2.1 (okv_cons hsr hsa) hI.2.2.2.2.1
  have he := wd_at (Z := Z) (ad := ad) h40 hsz
  rw [wce_obj hkd hk] at he
  have hc1 := hI.2.2.2.2.2.2
  have hz1 := pfx_sz hp
  have hz2 := pfx_sl hp
  refine s_callR hp hI hL ho hss (va_runV (C := cnm k) (b := ad b) (As := as.map (cv ad)) (n := n) ⟨C.1, C.2.1, C.2.2.1, C.2.2.2.1, C.2.2.2.2.1⟩ hM' ⟨cB_of C h hR rfl, C.2.2.2.2.1 _ (im_in him), ?_⟩ ⟨pre_blind, ?_, ?_⟩ rfl (by rw [List.length_map]; exact hn) hL.2.1 rfl ?_ hdg ⟨by omega, by omega⟩) kk
  · rw [hcl]; exact C.2.2.2.2.1 _ (se_in hse)
  · have := va_recv C.2.2.2.2.2.1 hI.1 (vw_at hk) he
    rw [vw_nm0 k hk] at this
    exact this
  · rw [hav]; exact pre_U C hI
  · show 2 * 0 + ((st.map (cv ad)).map fun v => v.category).sum ≤ 8
    rw [cats_eq]; omega
theorem s_callS {d i mi n : Nat} {nest : Bool} {v : Option AV} {A' : AH} {as : List AV} (C : CTX p R s m args c D Z base L xs adS nL own cc) (hdg : decode cc pc = .ok (.invokestatic i, 3)) (hc : cats st ≤ 8) (hn : as.length = n) (h : cOK own i mi n nest = true) (hst0 : mi ∈ stT) (hR : d + 1 ≤ R.frames ∧ 60 * d + 60 ≤ R.locals) (hp : pfx A A') (hroom : sz A' ≤ z0 + R.cells ∧ sl A' ≤ u0 + R.slots)
    (hM : MTA f l d mi as A v A') (kk : Wok f p l e R s m args below meth c Q D Z base L xs adS adE z0 u0 nL (pc + 3) ls (v.toList ++ st) A') : Wok f p l e R s m args below meth c Q D Z base L xs adS adE z0 u0 nL pc ls (as.reverse ++ st) A := by
  intro ad H locs cells slots lsM hI hL ho hs
  have hss : OKV L A st := fun w hw => hs w (List.mem_append_right _ hw)
  have hsa : OKV L A as := fun w hw => hs w (List.mem_append_left _ (List.mem_reverse.mpr hw))
  have hst : (as.reverse ++ st).map (cv ad) = (as.map (cv ad)).reverse ++ st.map (cv ad) := by rw [List.map_append, List.map_reverse]
  rw [hst]
  have hM' := hM D Z base L xs adS ad hI.2.2.2.1 hsa hI.2.2.2.2.1
  have hc1 := hI.2.2.2.2.2.2
  have hz1 := pfx_sz hp
  have hz2 := pfx_sl hp
  have hcat : 2 * (F0 m pc lsM ((as.map (cv ad)).reverse ++ st.map (cv ad))).monitorRoom + ((st.map (cv ad)).map fun v => v.category).sum ≤ 8 := by
    show 2 * 0 + ((st.map (cv ad)).map fun v => v.category).sum ≤ 8
    rw [cats_eq]; omega
  cases nest
  · exact s_callR hp hI hL ho hss (va_runS (As := as.map (cv ad)) (n := n) ⟨C.1, C.2.1, C.2.2.1, C.2.2.2.1, C.2.2.2.2.1⟩ hM' ⟨cB_of C h hR rfl, C.2.2.2.2.1 _ (st_in hst0)⟩ ⟨pre_blind, pre_U C hI⟩ rfl (by rw [List.length_map]; exact hn) hL.2.1 rfl hcat hdg ⟨by omega, by omega⟩) kk
  · exact s_callR hp hI hL ho hss (va_runSN (As := as.map (cv ad)) (n := n) ⟨C.1, C.2.1, C.2.2.1, C.2.2.2.1, C.2.2.2.2.1⟩ hM' ⟨cN_of C h hR rfl, C.2.2.2.2.1 _ (st_in hst0), trivial⟩ ⟨pre_blind, pre_U C hI⟩ rfl (by rw [List.length_map]; exact hn) hL.2.1 rfl hcat hdg ⟨by omega, by omega⟩) kk
theorem s_callI {d i mi k b n nn : Nat} {z : Int} {nest : Bool} {A' : AH} {as : List AV} (C : CTX p R s m args c D Z base L xs adS nL own cc) (hdg : decode cc pc = .ok (.invokespecial i, 3)) (hk : k < 12) (hb : b ≠ 0) (hc : cats st ≤ 8) (hn : as.length = n) (h : cOK own i mi n nest = true) (him : mi ∈ imT) (hini : (ynm mi).name = "<init>") (hret : rtt mi = none) (hR : d + 1 ≤ R.frames ∧ 60 * d + 60 ≤ R.locals) (hp : pfx A A') (hroom : sz A' ≤ z0 + R.cells ∧ sl A' ≤ u0 + R.slots)
    (hM : MTA f l d mi ((10 + k, z, b, nn) :: as) A none A') (kk : Wok f p l e R s m args below meth c Q D Z base L xs adS adE z0 u0 nL (pc + 3) ls st A') : Wok f p l e R s m args below meth c Q D Z base L xs adS adE z0 u0 nL pc ls (as.reverse ++ (10 + k, z, b, nn) :: st) A := by
  intro ad H locs cells slots lsM hI hL ho hs
  have hsr : okv L A (10 + k, z, b, nn) := hs _ (List.mem_append_right _ List.mem_cons_self)
  have hss : OKV L A st := fun w hw => hs w (List.mem_append_right _ (List.mem_cons_of_mem _ hw))
  have hsa : OKV L A as := fun w hw => hs w (List.mem_append_left _ (List.mem_reverse.mpr hw))
  have hst : (as.reverse ++ (10 + k, z, b, nn) :: st).map (cv ad) = (as.map (cv ad)).reverse ++ .ref (ad b) :: st.map (cv ad) := by
    rw [List.map_append, List.map_reverse, List.map_cons, cv_r (v := (10 + k, z, b, nn)) (show 2 ≤ 10 + k by omega), rfv_n (show (10 + k, z, b, nn).2.2.1 ≠ 0 from hb)]
  rw [hst]
  have hav : ((10 + k, z, b, nn) :: as).map (cv ad) = .ref (ad b) :: as.map (cv ad) := by
    rw [List.map_cons, cv_r (v := (10 + k, z, b, nn)) (show 2 ≤ 10 + k by omega), rfv_n (show (10 + k, z, b, nn).2.2.1 ≠ 0 from hb)]
  have hM' := hM D Z base L xs adS ad hI.2.2.2.1 (okv_cons hsr hsa) hI.2.2.2.2.1
  have hc1 := hI.2.2.2.2.2.2
  have hz1 := pfx_sz hp
  have hz2 := pfx_sl hp
  have hcat : 2 * (F0 m pc lsM ((as.map (cv ad)).reverse ++ .ref (ad b) :: st.map (cv ad))).monitorRoom + ((st.map (cv ad)).map fun v => v.category).sum ≤ 8 := by
    show 2 * 0 + ((st.map (cv ad)).map fun v => v.category).sum ≤ 8
    rw [cats_eq]; omega
  have hpu : ∀ U : State, U.heap = H → s.WarmedH U.vm → va_Pc (((10 + k, z, b, nn) :: as).map (cv ad)) (PreC D Z base L xs adS A ad) (Value.ref (ad b) :: as.map (cv ad)).toArray U := by
    rw [hav]; exact pre_U C hI
  cases nest
  · exact s_callR (v := none) hp hI hL ho hss (va_runI (b := ad b) (As := as.map (cv ad)) (n := n) ⟨C.1, C.2.1, C.2.2.1, C.2.2.2.1, C.2.2.2.2.1⟩ hM' ⟨cB_of C h hR hret, hini, C.2.2.2.2.1 _ (im_in him)⟩ ⟨pre_blind, hpu⟩ rfl (by rw [List.length_map]; exact hn) hL.2.1 rfl hcat hdg ⟨by omega, by omega⟩) kk
  · exact s_callR (v := none) hp hI hL ho hss (va_runIN (b := ad b) (As := as.map (cv ad)) (n := n) ⟨C.1, C.2.1, C.2.2.1, C.2.2.2.1, C.2.2.2.2.1⟩ hM' ⟨cN_of C h hR hret, hini, C.2.2.2.2.1 _ (im_in him)⟩ ⟨pre_blind, hpu⟩ rfl (by rw [List.length_map]; exact hn) hL.2.1 rfl hcat hdg ⟨by omega, by omega⟩) kk
end SND6
