/-! a method that runs in the abstract machine keeps its contract in the machine -/
def isIni (mi : Nat) : Bool := (ynm mi).name == "<init>"
def chkM (mi : Nat) : Bool := okBs (owc mi) (isIni mi) (cod mi) (pbs mi) && rzOK (rzs mi) (rtt mi) && plainName (ynm mi).cls && ((ynm mi).cls == cnm (owc mi))
theorem pbs_big {mi : Nat} (h : 309 ≤ mi) : pbs mi = [] := by
  unfold pbs
  have hl : pbsT.length = 309 := by decide +kernel
  rw [List.getD_eq_getElem?_getD, List.getElem?_eq_none (by rw [hl]; exact h)]
  rfl
theorem run_big {d mi : Nat} {av : List AV} {A : AH} (h : 309 ≤ mi) : run d mi av A = none := by
  cases d with
  | zero => rfl
  | succ d =>
    have hp : pbs mi = [] := by
      unfold pbs
      have hl : pbsT.length = 309 := by decide +kernel
      rw [List.getD_eq_getElem?_getD, List.getElem?_eq_none (by rw [hl]; exact h)]
      rfl
    unfold run
    rw [hp]
    split <;> rfl
set_option maxHeartbeats 4000000 in
theorem meth_sound {f : Bool} {d mi : Nat} {av : List AV} {A A' : AH} {v : Option AV} {S SN : SX} (l : Launch) (hck : chkM mi = true) (hS : ∀ mi av A v A', S mi av A = some (v, A') → pfx A A' ∧ MTA f l d mi av A v A') (hSN : ∀ mi av A v A', SN mi av A = some (v, A') → pfx A A' ∧ MTA false l d mi av A v A') (hSL : f = true → ∀ k n mj A A', 40 ≤ sz A → LayOK A → SN mj [vR (10 + k) (sz A) 0] (nw A k n) = some (none, A') → LayOK A') (hpf : pfx A A') (hlen : (enter av).length ≤ mxl mi)
    (h : go f (rzs mi) S SN (pbs mi) 1000000 0 (padU (mxl mi) (enter av)) [] A = some (v, A')) : MTA f l (d + 1) mi av A v A' := by
  unfold chkM at hck
  simp only [Bool.and_eq_true, beq_iff_eq] at hck
  obtain ⟨⟨⟨hbs, hrz⟩, hpl⟩, hcl⟩ := hck
  intro D Z base L xs adS ad hwf ho had
  refine Met.ofW (cc := cod mi) (maxL := mxl mi) (ret := rtt mi) hpl rfl ?_
  intro p e s m args below meth c s₁ B hml hv
  obtain ⟨rfl, hP, hK, hD, hSt⟩ := hv
  have hlocks : meth.locks = false := B.notSynchronized
  have hown : s.vm.findClass (cnm (owc mi)) = some m.cls := by rw [← hcl]; exact findClass_of_methodNamed B.named
  have hts := atoms_spec (ws := Cond.code (ynm mi) (cod mi) (mxl mi) (rtt mi) :: gtb) B.pre
  have C : CTX p (rmd (d + 1) A A') s m (av.map (cv ad)).toArray c D Z base L xs adS (mxl mi) (owc mi) (cod mi) := ⟨B.exec, B.bytes, hml, hown, fun w hw => hts w (List.mem_cons_of_mem _ hw), hK, hSt, by show 1 ≤ d + 1; omega, by show 60 ≤ 60 * (d + 1); omega⟩
  have hini : isIni mi = true → meth.name = "<init>" := by
    intro q
    unfold isIni at q
    rw [(name_of_methodNamed B.named B.method).1]
    exact beq_iff_eq.mp q
  have z1 := pfx_sz hpf
  have z2 := pfx_sl hpf
  have hr := B.returns
  have hx := B.exec
  have hb := B.bytes
  have fin : ∀ (A1 : AH) (ad' : Nat → Nat) (H : Heap) (locs : List Loc) (cells slots : Nat), INV f D Z base L xs adS ad (sz A) (sl A) s A1 ad' H locs cells slots → ∀ (v1 : Option AV), (∀ w, v1 = some w → okv L A1 w) → (v, A') = (v1, A1) → cells = sz A' - sz A ∧ slots = sl A' - sl A ∧ ∀ t : State, t.heap = H → s.WarmedH t.vm → PostC f D Z base L xs A A' ad v (av.map (cv ad)).toArray s (.returned (v1.map (cv ad'))) t := by
    intro A1 ad' H locs cells slots hI v1 hokv e1
    cases e1
    refine ⟨by have := hI.2.2.2.2.2.2.1; omega, by have := hI.2.2.2.2.2.2.2; omega, fun t ht hW => ⟨⟨ad', hI.2.2.2.2.2.1, rfl, by rw [ht]; exact hI.1, hI.2.1, hI.2.2.2.1, hokv⟩, hI.2.2.1.F ht⟩⟩
  rw [lg_entry_eq]
  refine go_sound (d := d) (own := owc mi) (ini := isIni mi) (z0 := sz A) (u0 := sl A) (adE := ad) (r := (v, A')) C hbs hini hS hSN hSL ⟨by show d + 1 ≤ d + 1; omega, by show 60 * d + 60 ≤ 60 * (d + 1); omega⟩ ⟨by show sz A' ≤ sz A + (sz A' - sz A); omega, by show sl A' ≤ sl A + (sl A' - sl A); omega⟩ ?_ ?_ ?_ ?_ _ 0 _ [] A h ad s.heap [] 0 0 _ ⟨hP, hD, va_S.rf, hwf, had, fun _ _ => rfl, by omega, by omega⟩ (lvi_entry ho hlen) (okv_pad (okv_enter ho)) (fun w hw => by cases hw)
  · intro pc ls A1 x w hrz2 hdg er ad' H locs cells slots lsM hI hL ho1 hs
    have hx0 : in32 x := okv_head hs
    obtain ⟨e1, e2, e3⟩ := fin A1 ad' H locs cells slots hI (some (vI x)) (fun w hw => by cases hw; exact hx0) er
    subst e1; subst e2
    rcases hrz2 with q | ⟨q, h01⟩
    · rw [q] at hrz
      have hr2 : meth.sig.returnType = some .int := by
        rw [hr]
        generalize rtt mi = t at hrz
        unfold rzOK at hrz
        split at hrz <;> first | rfl | (revert hrz; decide) | cases hrz
      exact W.iret (v := c32 x) hx hb hr2 e3 hI.2.2.1.2.2 hdg
    · rw [q] at hrz
      have hr2 : meth.sig.returnType = some .boolean := by
        rw [hr]
        generalize rtt mi = t at hrz
        unfold rzOK at hrz
        split at hrz <;> first | rfl | (revert hrz; decide) | cases hrz
      exact W.zret (v := c32 x) (ty := .boolean) hx hb hr2 (by rcases h01 with q | q <;> rw [q] <;> decide) e3 hI.2.2.1.2.2 hdg
  · intro pc ls A1 x w q hdg er ad' H locs cells slots lsM hI hL ho1 hs
    have hx0 : in64 x := okv_head hs
    obtain ⟨e1, e2, e3⟩ := fin A1 ad' H locs cells slots hI (some (vL x)) (fun w hw => by cases hw; exact hx0) er
    subst e1; subst e2
    rw [q] at hrz
    have hr2 : meth.sig.returnType = some .long := by
      rw [hr]
      generalize rtt mi = t at hrz
      unfold rzOK at hrz
      split at hrz <;> first | rfl | (revert hrz; decide) | cases hrz
    exact W.lret (v := c64 x) hx hb hr2 e3 hI.2.2.1.2.2 hdg
  · intro pc ls A1 v1 q10 q hdg er ad' H locs cells slots lsM hI hL ho1 hs
    obtain ⟨e1, e2, e3⟩ := fin A1 ad' H locs cells slots hI (some v1) (fun w hw => by cases hw; exact okv_head hs) er
    subst e1; subst e2
    have hr2 : ∃ rt, meth.sig.returnType = some rt ∧ ((∃ n, rt = .object n) ∨ ∃ t, rt = .array t) := by
      rw [hr]
      generalize rtt mi = t at hrz
      unfold rzOK at hrz
      split at hrz
      · have := beq_iff_eq.mp hrz; omega
      · have := beq_iff_eq.mp hrz; omega
      · have := beq_iff_eq.mp hrz; omega
      · have := beq_iff_eq.mp hrz; omega
      · exact ⟨_, rfl, Or.inl ⟨_, rfl⟩⟩
      · exact ⟨_, rfl, Or.inr ⟨_, rfl⟩⟩
      · cases hrz
    obtain ⟨rt, hr3, hr4⟩ := hr2
    have hvv : cv ad' v1 = .null ∨ ∃ a, cv ad' v1 = .ref a := by
      rw [cv_r (by omega)]
      by_cases h0 : v1.2.2.1 = 0
      · rw [h0]; exact Or.inl rfl
      · rw [rfv_n h0]; exact Or.inr ⟨_, rfl⟩
    exact W.aret (v := cv ad' v1) hx hb hr3 hr4 hvv e3 hI.2.2.1.2.2 hdg
  · intro pc ls A1 q hdg er ad' H locs cells slots lsM hI hL ho1 hs
    obtain ⟨e1, e2, e3⟩ := fin A1 ad' H locs cells slots hI none (fun w hw => by cases hw) er
    subst e1; subst e2
    rw [q] at hrz
    have hr2 : meth.sig.returnType = none := by
      rw [hr]
      generalize rtt mi = t at hrz
      unfold rzOK at hrz
      split at hrz <;> first | rfl | (revert hrz; decide) | cases hrz
    exact W.vret hx hb hr2 e3 hI.2.2.1.2.2 hdg
theorem mi_lt {d mi : Nat} {av : List AV} {A : AH} {v : Option AV} {A' : AH} (h : run d mi av A = some (v, A')) : mi < 309 := by
  rcases Nat.lt_or_ge mi 309 with q | q
  · exact q
  · rw [run_big q] at h; cases h
theorem run_sound (chk : ∀ mi, mi < 309 → chkM mi = true) (l : Launch) : ∀ (d mi : Nat) (av : List AV) (A : AH) (v : Option AV) (A' : AH), run d mi av A = some (v, A') → MTA false l d mi av A v A'
  | 0, _, _, _, _, _, h => by cases h
  | d + 1, mi, av, A, v, A', h => by
    have hpf := run_pfx _ _ _ _ _ _ h
    have hmi := mi_lt h
    unfold run at h
    split at h
    · rename_i hlen
      exact meth_sound l (chk mi hmi) (fun mi av A v A' q => ⟨run_pfx _ _ _ _ _ _ q, run_sound chk l d mi av A v A' q⟩) (fun mi av A v A' q => ⟨run_pfx _ _ _ _ _ _ q, run_sound chk l d mi av A v A' q⟩) (fun q => by cases q) hpf (Nat.le_of_ble_eq_true hlen) h
    · cases h
theorem runN_sound (chk : ∀ mi, mi < 309 → chkM mi = true) (l : Launch) (d mi : Nat) (av : List AV) (A : AH) (v : Option AV) (A' : AH) (h : runN d mi av A = some (v, A')) : MTA false l d mi av A v A' := by
  unfold runN at h
  split at h
  · exact run_sound chk l _ _ _ _ _ _ h
  · cases h
theorem runF_sound (chk : ∀ mi, mi < 309 → chkM mi = true) (hL : ∀ d k n mj A A', 40 ≤ sz A → LayOK A → runN d mj [vR (10 + k) (sz A) 0] (nw A k n) = some (none, A') → LayOK A') (l : Launch) : ∀ (d mi : Nat) (av : List AV) (A : AH) (v : Option AV) (A' : AH), runF d mi av A = some (v, A') → MTA true l d mi av A v A'
  | 0, _, _, _, _, _, h => by cases h
  | d + 1, mi, av, A, v, A', h => by
    have hpf := runF_pfx _ _ _ _ _ _ h
    have hmi : mi < 309 := by
      rcases Nat.lt_or_ge mi 309 with q | q
      · exact q
      · exfalso
        unfold runF at h
        rw [pbs_big q] at h
        revert h
        split <;> intro h <;> cases h
    unfold runF at h
    split at h
    · rename_i hlen
      exact meth_sound l (chk mi hmi) (fun mi av A v A' q => ⟨runF_pfx _ _ _ _ _ _ q, runF_sound chk hL l d mi av A v A' q⟩) (fun mi av A v A' q => ⟨runN_pfx _ _ _ _ _ _ q, runN_sound chk l d mi av A v A' q⟩) (fun _ => hL d) hpf (Nat.le_of_ble_eq_true hlen) h
    · cases h
