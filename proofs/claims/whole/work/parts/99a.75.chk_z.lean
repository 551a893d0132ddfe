/-! methods whose class is plainly named, or for which no native row stands -/
theorem met_ofWF {l : Launch} {y : MethodName} {ws ws' : List Cond} {rm : Room} {Pc : Array Value → State → Prop} {Qc : Array Value → State → Outcome → State → Prop} {mc ms : Nat} {free : Addr → Prop} {cc : ByteArray} {maxL : Nat} {ret : Option FieldType}
    (hy : plainFor y = true) (hw : ws = Cond.code y cc maxL ret :: ws')
    (body : ∀ p e s m args below meth c s₁, BodyLoose p l y (headSpec ws rm) cc maxL ret e s m args below meth c s₁ → c.maxLocals = maxL → Pc args s →
      W p l e (headSpec ws rm).room s m args below meth c s.heap [] 0 0 (MQ below Qc args s mc ms free) (entryFrame m args maxL)) : Met l y ws rm Pc Qc mc ms free := by
  refine MetFree.of_bodySF (code := cc) (maxLocals := maxL) (ret := ret) hy ?_ ?_
  · intro args s m h hn
    obtain ⟨meth, c, h1, h2, h3, h4, h5, h6, -, -⟩ := Cond.code_spec hn (atoms_spec (ws := ws) h _ (by rw [hw]; exact List.mem_cons_self))
    exact ⟨meth, c, h1, h2, h3, h4, h5, h6⟩
  · intro p e s m args below meth c s₁ B hml hP _
    have hh0 : s₁.heap = s.heap := by rw [B.state]; rfl
    obtain ⟨t, a1, o, b1, b2, b3⟩ := body p e s m args below meth c s₁ B hml hP s₁ hh0 (Stand.of_body B)
    exact ⟨t, o, a1, b1, b2, ⟨b3.1, b3.2⟩⟩
def chkMN (mi : Nat) : Bool := okBs (owc mi) (isIni mi) (cod mi) (pbs mi) && rzOK (rzs mi) (rtt mi) && plainFor (ynm mi) && ((ynm mi).cls == cnm (owc mi))
theorem meth_soundN {f : Bool} {d mi : Nat} {av : List AV} {A A' : AH} {v : Option AV} {S SN : SX} (l : Launch) (hck : chkMN mi = true) (hS : ∀ mi av A v A', S mi av A = some (v, A') → pfx A A' ∧ MTA f l d mi av A v A') (hSN : ∀ mi av A v A', SN mi av A = some (v, A') → pfx A A' ∧ MTA false l d mi av A v A') (hSL : f = true → ∀ k n mj A A', 40 ≤ sz A → LayOK A → SN mj [vR (10 + k) (sz A) 0] (nw A k n) = some (none, A') → LayOK A') (hpf : pfx A A') (hlen : (enter av).length ≤ mxl mi)
    (h : go f (rzs mi) S SN (pbs mi) 1000000 0 (padU (mxl mi) (enter av)) [] A = some (v, A')) : MTA f l (d + 1) mi av A v A' := by
  unfold chkMN at hck
  simp only [Bool.and_eq_true, beq_iff_eq] at hck
  obtain ⟨⟨⟨hbs, hrz⟩, hpl⟩, hcl⟩ := hck
  intro D Z base L xs adS ad hwf ho had
  refine met_ofWF (cc := cod mi) (maxL := mxl mi) (ret := rtt mi) hpl rfl ?_
  intro p e s m args below meth c s₁ B hml hv
  obtain ⟨rfl, hP, hK, hD, hSt⟩ := hv
  have hlocks : meth.locks = false := B.notSynchronized
  have hown : s.vm.findClass (cnm (owc mi)) = some m.cls := by rw [← hcl]; exact findClass_of_methodNamed B.named
  have hts := atoms_spec (ws := Cond.code (ynm mi) (cod mi) (mxl mi) (rtt mi) :: gtb) B.pre
  have C : CTX p (rmd (d + 1) A A') s m (av.map (cv ad)).toArray c D Z base L xs adS (mxl mi) (owc mi) (cod mi) := ⟨B.exec, B.bytes, hml, hown, fun w hw => hts w (List.mem_cons_of_mem _ hw), hK, hSt, by show 1 ≤ d + 1; omega, by show 60 ≤ 60 * (d + 1); omega⟩
  have hini : isIni mi = true → meth.name = "<init>" := by
    intro q
    unfold isIni at q
    rw [(name_of_methodNamed B.named B.method).1]
    exact beq_iff_eq.mp q
  have z1 := pfx_sz hpf
  have z2 := pfx_sl hpf
  have hr := B.returns
  have hx := B.exec
  have hb := B.bytes
  have fin : ∀ (A1 : AH) (ad' : Nat → Nat) (H : Heap) (locs : List Loc) (cells slots : Nat), INV f D Z base L xs adS ad (sz A) (sl A) s A1 ad' H locs cells slots → ∀ (v1 : Option AV), (∀ w, v1 = some w → okv L A1 w) → (v, A') = (v1, A1) → cells = sz A' - sz A ∧ slots = sl A' - sl A ∧ ∀ t : State, t.heap = H → s.WarmedH t.vm → PostC f D Z base L xs A A' ad v (av.map (cv ad)).toArray s (.returned (v1.map (cv ad'))) t := by
    intro A1 ad' H locs cells slots hI v1 hokv e1
    cases e1
    refine ⟨by have := hI.2.2.2.2.2.2.1; omega, by have := hI.2.2.2.2.2.2.2; omega, fun t ht hW => ⟨⟨ad', hI.2.2.2.2.2.1, rfl, by rw [ht]; exact hI.1, hI.2.1, hI.2.2.2.1, hokv⟩, hI.2.2.1.F ht⟩⟩
  rw [lg_entry_eq]
  refine go_sound (d := d) (own := owc mi) (ini := isIni mi) (z0 := sz A) (u0 := sl A) (adE := ad) (r := (v, A')) C hbs hini hS hSN hSL ⟨by show d + 1 ≤ d + 1; omega, by show 60 * d + 60 ≤ 60 * (d + 1); omega⟩ ⟨by show sz A' ≤ sz A + (sz A' - sz A); omega, by show sl A' ≤ sl A + (sl A' - sl A); omega⟩ ?_ ?_ ?_ ?_ _ 0 _ [] A h ad s.heap [] 0 0 _ ⟨hP, hD, va_S.rf, hwf, had, fun _ _ => rfl, by omega, by omega⟩ (lvi_entry ho hlen) (okv_pad (okv_enter ho)) (fun w hw => by cases hw)
  · intro pc ls A1 x w hrz2 hdg er ad' H locs cells slots lsM hI hL ho1 hs
    have hx0 : in32 x := okv_head hs
    obtain ⟨e1, e2, e3⟩ := fin A1 ad' H locs cells slots hI (some (vI x)) (fun w hw => by cases hw; exact hx0) er
    subst e1; subst e2
    rcases hrz2 with q | ⟨q, h01⟩
    · rw [q] at hrz
      have hr2 : meth.sig.returnType = some .int := by
        rw [hr]
        generalize rtt mi = t at hrz
        unfold rzOK at hrz
        split at hrz <;> first | rfl | (revert hrz; decide) | cases hrz
      exact W.iret (v := c32 x) hx hb hr2 e3 hI.2.2.1.2.2 hdg
    · rw [q] at hrz
      have hr2 : meth.sig.returnType = some .boolean := by
        rw [hr]
        generalize rtt mi = t at hrz
        unfold rzOK at hrz
        split at hrz <;> first | rfl | (revert hrz; decide) | cases hrz
      exact W.zret (v := c32 x) (ty := .boolean) hx hb hr2 (by rcases h01 with q | q <;> rw [q] <;> decide) e3 hI.2.2.1.2.2 hdg
  · intro pc ls A1 x w q hdg er ad' H locs cells slots lsM hI hL ho1 hs
    have hx0 : in64 x := okv_head hs
    obtain ⟨e1, e2, e3⟩ := fin A1 ad' H locs cells slots hI (some (vL x)) (fun w hw => by cases hw; exact hx0) er
    subst e1; subst e2
    rw [q] at hrz
    have hr2 : meth.sig.returnType = some .long := by
      rw [hr]
      generalize rtt mi = t at hrz
      unfold rzOK at hrz
      split at hrz <;> first | rfl | (revert hrz; decide) | cases hrz
    exact W.lret (v := c64 x) hx hb hr2 e3 hI.2.2.1.2.2 hdg
  · intro pc ls A1 v1 q10 q hdg er ad' H locs cells slots lsM hI hL ho1 hs
    obtain ⟨e1, e2, e3⟩ := fin A1 ad' H locs cells slots hI (some v1) (fun w hw => by cases hw; exact okv_head hs) er
    subst e1; subst e2
    have hr2 : ∃ rt, meth.sig.returnType = some rt ∧ ((∃ n, rt = .object n) ∨ ∃ t, rt = .array t) := by
      rw [hr]
      generalize rtt mi = t at hrz
      unfold rzOK at hrz
      split at hrz
      · have := beq_iff_eq.mp hrz; omega
      · have := beq_iff_eq.mp hrz; omega
      · have := beq_iff_eq.mp hrz; omega
      · have := beq_iff_eq.mp hrz; omega
      · exact ⟨_, rfl, Or.inl ⟨_, rfl⟩⟩
      · exact ⟨_, rfl, Or.inr ⟨_, rfl⟩⟩
      · cases hrz
    obtain ⟨rt, hr3, hr4⟩ := hr2
    have hvv : cv ad' v1 = .null ∨ ∃ a, cv ad' v1 = .ref a := by
      rw [cv_r (by omega)]
      by_cases h0 : v1.2.2.1 = 0
      · rw [h0]; exact Or.inl rfl
      · rw [rfv_n h0]; exact Or.inr ⟨_, rfl⟩
    exact W.aret (v := cv ad' v1) hx hb hr3 hr4 hvv e3 hI.2.2.1.2.2 hdg
  · intro pc ls A1 q hdg er ad' H locs cells slots lsM hI hL ho1 hs
    obtain ⟨e1, e2, e3⟩ := fin A1 ad' H locs cells slots hI none (fun w hw => by cases hw) er
    subst e1; subst e2
    rw [q] at hrz
    have hr2 : meth.sig.returnType = none := by
      rw [hr]
      generalize rtt mi = t at hrz
      unfold rzOK at hrz
      split at hrz <;> first | rfl | (revert hrz; decide) | cases hrz
    exact W.vret hx hb hr2 e3 hI.2.2.1.2.2 hdg
theorem run_soundN (chk : ∀ mi, mi < 309 → chkMN mi = true) (l : Launch) : ∀ (d mi : Nat) (av : List AV) (A : AH) (v : Option AV) (A' : AH), run d mi av A = some (v, A') → MTA false l d mi av A v A'
  | 0, _, _, _, _, _, h => by cases h
  | d + 1, mi, av, A, v, A', h => by
    have hpf := run_pfx _ _ _ _ _ _ h
    have hmi := mi_lt h
    unfold run at h
    split at h
    · rename_i hlen
      exact meth_soundN l (chk mi hmi) (fun mi av A v A' q => ⟨run_pfx _ _ _ _ _ _ q, run_soundN chk l d mi av A v A' q⟩) (fun mi av A v A' q => ⟨run_pfx _ _ _ _ _ _ q, run_soundN chk l d mi av A v A' q⟩) (fun q => by cases q) hpf (Nat.le_of_ble_eq_true hlen) h
    · cases h
theorem runN_soundN (chk : ∀ mi, mi < 309 → chkMN mi = true) (l : Launch) (d mi : Nat) (av : List AV) (A : AH) (v : Option AV) (A' : AH) (h : runN d mi av A = some (v, A')) : MTA false l d mi av A v A' := by
  unfold runN at h
  split at h
  · exact run_soundN chk l _ _ _ _ _ _ h
  · cases h
theorem runF_soundN (chk : ∀ mi, mi < 309 → chkMN mi = true) (hL : ∀ d k n mj A A', 40 ≤ sz A → LayOK A → runN d mj [vR (10 + k) (sz A) 0] (nw A k n) = some (none, A') → LayOK A') (l : Launch) : ∀ (d mi : Nat) (av : List AV) (A : AH) (v : Option AV) (A' : AH), runF d mi av A = some (v, A') → MTA true l d mi av A v A'
  | 0, _, _, _, _, _, h => by cases h
  | d + 1, mi, av, A, v, A', h => by
    have hpf := runF_pfx _ _ _ _ _ _ h
    have hmi : mi < 309 := by
      rcases Nat.lt_or_ge mi 309 with q | q
      · exact q
      · exfalso
        unfold runF at h
        rw [pbs_big q] at h
        revert h
        split <;> intro h <;> cases h
    unfold runF at h
    split at h
    · rename_i hlen
      exact meth_soundN l (chk mi hmi) (fun mi av A v A' q => ⟨runF_pfx _ _ _ _ _ _ q, runF_soundN chk hL l d mi av A v A' q⟩) (fun mi av A v A' q => ⟨runN_pfx _ _ _ _ _ _ q, runN_soundN chk l d mi av A v A' q⟩) (fun _ => hL d) hpf (Nat.le_of_ble_eq_true hlen) h
    · cases h
/-! every method is as the tables say -/
def chkR (mi : Nat) : Bool := rzOK (rzs mi) (rtt mi) && plainFor (ynm mi) && ((ynm mi).cls == cnm (owc mi))
set_option maxRecDepth 1000000 in
theorem chkR_all : ∀ mi, mi < 309 → chkR mi = true := by decide +kernel
theorem isIni_all : ∀ mi, mi < 309 → isIni mi = has1 iniT mi := by decide +kernel
theorem kl_0 : okBs (owc 0) (has1 iniT 0) (cod 0) (pbs 0) = true := kk_0
theorem kl_1 : okBs (owc 1) (has1 iniT 1) (cod 1) (pbs 1) = true := kk_1
theorem kl_2 : okBs (owc 2) (has1 iniT 2) (cod 2) (pbs 2) = true := kk_2
theorem kl_3 : okBs (owc 3) (has1 iniT 3) (cod 3) (pbs 3) = true := kk_3
theorem kl_4 : okBs (owc 4) (has1 iniT 4) (cod 4) (pbs 4) = true := kk_4
theorem kl_5 : okBs (owc 5) (has1 iniT 5) (cod 5) (pbs 5) = true := kk_5
theorem kl_6 : okBs (owc 6) (has1 iniT 6) (cod 6) (pbs 6) = true := kk_6
theorem kl_7 : okBs (owc 7) (has1 iniT 7) (cod 7) (pbs 7) = true := kk_7
theorem kl_8 : okBs (owc 8) (has1 iniT 8) (cod 8) (pbs 8) = true := kk_8
theorem kl_9 : okBs (owc 9) (has1 iniT 9) (cod 9) (pbs 9) = true := kk_9
theorem kl_10 : okBs (owc 10) (has1 iniT 10) (cod 10) (pbs 10) = true := kk_10
theorem kl_11 : okBs (owc 11) (has1 iniT 11) (cod 11) (pbs 11) = true := kk_11
theorem kl_12 : okBs (owc 12) (has1 iniT 12) (cod 12) (pbs 12) = true := kk_12
theorem kl_13 : okBs (owc 13) (has1 iniT 13) (cod 13) (pbs 13) = true := kk_13
theorem kl_14 : okBs (owc 14) (has1 iniT 14) (cod 14) (pbs 14) = true := kk_14
theorem kl_15 : okBs (owc 15) (has1 iniT 15) (cod 15) (pbs 15) = true := kk_15
theorem kl_16 : okBs (owc 16) (has1 iniT 16) (cod 16) (pbs 16) = true := kk_16
theorem kl_17 : okBs (owc 17) (has1 iniT 17) (cod 17) (pbs 17) = true := kk_17
theorem kl_18 : okBs (owc 18) (has1 iniT 18) (cod 18) (pbs 18) = true := kk_18
theorem kl_19 : okBs (owc 19) (has1 iniT 19) (cod 19) (pbs 19) = true := kk_19
theorem kl_20 : okBs (owc 20) (has1 iniT 20) (cod 20) (pbs 20) = true := kk_20
theorem kl_21 : okBs (owc 21) (has1 iniT 21) (cod 21) (pbs 21) = true := kk_21
theorem kl_22 : okBs (owc 22) (has1 iniT 22) (cod 22) (pbs 22) = true := kk_22
theorem kl_23 : okBs (owc 23) (has1 iniT 23) (cod 23) (pbs 23) = true := kk_23
theorem kl_24 : okBs (owc 24) (has1 iniT 24) (cod 24) (pbs 24) = true := kk_24
theorem kl_25 : okBs (owc 25) (has1 iniT 25) (cod 25) (pbs 25) = true := kk_25
theorem kl_26 : okBs (owc 26) (has1 iniT 26) (cod 26) (pbs 26) = true := kk_26
theorem kl_27 : okBs (owc 27) (has1 iniT 27) (cod 27) (pbs 27) = true := kk_27
theorem kl_28 : okBs (owc 28) (has1 iniT 28) (cod 28) (pbs 28) = true := kk_28
theorem kl_29 : okBs (owc 29) (has1 iniT 29) (cod 29) (pbs 29) = true := kk_29
theorem kl_30 : okBs (owc 30) (has1 iniT 30) (cod 30) (pbs 30) = true := kk_30
theorem kl_31 : okBs (owc 31) (has1 iniT 31) (cod 31) (pbs 31) = true := kk_31
theorem kl_32 : okBs (owc 32) (has1 iniT 32) (cod 32) (pbs 32) = true := kk_32
theorem kl_33 : okBs (owc 33) (has1 iniT 33) (cod 33) (pbs 33) = true := kk_33
theorem kl_34 : okBs (owc 34) (has1 iniT 34) (cod 34) (pbs 34) = true := kk_34
theorem kl_35 : okBs (owc 35) (has1 iniT 35) (cod 35) (pbs 35) = true := kk_35
theorem kl_36 : okBs (owc 36) (has1 iniT 36) (cod 36) (pbs 36) = true := kk_36
theorem kl_37 : okBs (owc 37) (has1 iniT 37) (cod 37) (pbs 37) = true := kk_37
theorem kl_38 : okBs (owc 38) (has1 iniT 38) (cod 38) (pbs 38) = true := kk_38
theorem kl_39 : okBs (owc 39) (has1 iniT 39) (cod 39) (pbs 39) = true := kk_39
theorem kl_40 : okBs (owc 40) (has1 iniT 40) (cod 40) (pbs 40) = true := kk_40
theorem kl_41 : okBs (owc 41) (has1 iniT 41) (cod 41) (pbs 41) = true := kk_41
theorem kl_42 : okBs (owc 42) (has1 iniT 42) (cod 42) (pbs 42) = true := kk_42
theorem kl_43 : okBs (owc 43) (has1 iniT 43) (cod 43) (pbs 43) = true := kk_43
theorem kl_44 : okBs (owc 44) (has1 iniT 44) (cod 44) (pbs 44) = true := kk_44
theorem kl_45 : okBs (owc 45) (has1 iniT 45) (cod 45) (pbs 45) = true := kk_45
theorem kl_46 : okBs (owc 46) (has1 iniT 46) (cod 46) (pbs 46) = true := kk_46
theorem kl_47 : okBs (owc 47) (has1 iniT 47) (cod 47) (pbs 47) = true := kk_47
theorem kl_48 : okBs (owc 48) (has1 iniT 48) (cod 48) (pbs 48) = true := kk_48
theorem kl_49 : okBs (owc 49) (has1 iniT 49) (cod 49) (pbs 49) = true := kk_49
theorem kl_50 : okBs (owc 50) (has1 iniT 50) (cod 50) (pbs 50) = true := kk_50
theorem kl_51 : okBs (owc 51) (has1 iniT 51) (cod 51) (pbs 51) = true := kk_51
theorem kl_52 : okBs (owc 52) (has1 iniT 52) (cod 52) (pbs 52) = true := kk_52
theorem kl_53 : okBs (owc 53) (has1 iniT 53) (cod 53) (pbs 53) = true := kk_53
theorem kl_54 : okBs (owc 54) (has1 iniT 54) (cod 54) (pbs 54) = true := kk_54
theorem kl_55 : okBs (owc 55) (has1 iniT 55) (cod 55) (pbs 55) = true := kk_55
theorem kl_56 : okBs (owc 56) (has1 iniT 56) (cod 56) (pbs 56) = true := kk_56
theorem kl_57 : okBs (owc 57) (has1 iniT 57) (cod 57) (pbs 57) = true := kk_57
theorem kl_58 : okBs (owc 58) (has1 iniT 58) (cod 58) (pbs 58) = true := kk_58
theorem kl_59 : okBs (owc 59) (has1 iniT 59) (cod 59) (pbs 59) = true := kk_59
theorem kl_60 : okBs (owc 60) (has1 iniT 60) (cod 60) (pbs 60) = true := kk_60
theorem kl_61 : okBs (owc 61) (has1 iniT 61) (cod 61) (pbs 61) = true := kk_61
theorem kl_62 : okBs (owc 62) (has1 iniT 62) (cod 62) (pbs 62) = true := kk_62
theorem kl_63 : okBs (owc 63) (has1 iniT 63) (cod 63) (pbs 63) = true := kk_63
theorem kl_64 : okBs (owc 64) (has1 iniT 64) (cod 64) (pbs 64) = true := kk_64
theorem kl_65 : okBs (owc 65) (has1 iniT 65) (cod 65) (pbs 65) = true := kk_65
theorem kl_66 : okBs (owc 66) (has1 iniT 66) (cod 66) (pbs 66) = true := kk_66
theorem kl_67 : okBs (owc 67) (has1 iniT 67) (cod 67) (pbs 67) = true := kk_67
theorem kl_68 : okBs (owc 68) (has1 iniT 68) (cod 68) (pbs 68) = true := kk_68
theorem kl_69 : okBs (owc 69) (has1 iniT 69) (cod 69) (pbs 69) = true := kk_69
theorem kl_70 : okBs (owc 70) (has1 iniT 70) (cod 70) (pbs 70) = true := kk_70
theorem kl_71 : okBs (owc 71) (has1 iniT 71) (cod 71) (pbs 71) = true := kk_71
theorem kl_72 : okBs (owc 72) (has1 iniT 72) (cod 72) (pbs 72) = true := kk_72
theorem kl_73 : okBs (owc 73) (has1 iniT 73) (cod 73) (pbs 73) = true := kk_73
theorem kl_74 : okBs (owc 74) (has1 iniT 74) (cod 74) (pbs 74) = true := kk_74
theorem kl_75 : okBs (owc 75) (has1 iniT 75) (cod 75) (pbs 75) = true := kk_75
theorem kl_76 : okBs (owc 76) (has1 iniT 76) (cod 76) (pbs 76) = true := kk_76
theorem kl_77 : okBs (owc 77) (has1 iniT 77) (cod 77) (pbs 77) = true := kk_77
theorem kl_78 : okBs (owc 78) (has1 iniT 78) (cod 78) (pbs 78) = true := kk_78
theorem kl_79 : okBs (owc 79) (has1 iniT 79) (cod 79) (pbs 79) = true := kk_79
theorem kl_80 : okBs (owc 80) (has1 iniT 80) (cod 80) (pbs 80) = true := kk_80
theorem kl_81 : okBs (owc 81) (has1 iniT 81) (cod 81) (pbs 81) = true := kk_81
theorem kl_82 : okBs (owc 82) (has1 iniT 82) (cod 82) (pbs 82) = true := kk_82
theorem kl_83 : okBs (owc 83) (has1 iniT 83) (cod 83) (pbs 83) = true := kk_83
theorem kl_84 : okBs (owc 84) (has1 iniT 84) (cod 84) (pbs 84) = true := kk_84
theorem kl_85 : okBs (owc 85) (has1 iniT 85) (cod 85) (pbs 85) = true := kk_85
theorem kl_86 : okBs (owc 86) (has1 iniT 86) (cod 86) (pbs 86) = true := kk_86
theorem kl_87 : okBs (owc 87) (has1 iniT 87) (cod 87) (pbs 87) = true := kk_87
theorem kl_88 : okBs (owc 88) (has1 iniT 88) (cod 88) (pbs 88) = true := kk_88
theorem kl_89 : okBs (owc 89) (has1 iniT 89) (cod 89) (pbs 89) = true := kk_89
theorem kl_90 : okBs (owc 90) (has1 iniT 90) (cod 90) (pbs 90) = true := kk_90
theorem kl_91 : okBs (owc 91) (has1 iniT 91) (cod 91) (pbs 91) = true := kk_91
theorem kl_92 : okBs (owc 92) (has1 iniT 92) (cod 92) (pbs 92) = true := kk_92
theorem kl_93 : okBs (owc 93) (has1 iniT 93) (cod 93) (pbs 93) = true := kk_93
theorem kl_94 : okBs (owc 94) (has1 iniT 94) (cod 94) (pbs 94) = true := kk_94
theorem kl_95 : okBs (owc 95) (has1 iniT 95) (cod 95) (pbs 95) = true := kk_95
theorem kl_96 : okBs (owc 96) (has1 iniT 96) (cod 96) (pbs 96) = true := kk_96
theorem kl_97 : okBs (owc 97) (has1 iniT 97) (cod 97) (pbs 97) = true := kk_97
theorem kl_98 : okBs (owc 98) (has1 iniT 98) (cod 98) (pbs 98) = true := kk_98
theorem kl_99 : okBs (owc 99) (has1 iniT 99) (cod 99) (pbs 99) = true := kk_99
theorem kl_100 : okBs (owc 100) (has1 iniT 100) (cod 100) (pbs 100) = true := kk_100
theorem kl_101 : okBs (owc 101) (has1 iniT 101) (cod 101) (pbs 101) = true := kk_101
theorem kl_102 : okBs (owc 102) (has1 iniT 102) (cod 102) (pbs 102) = true := kk_102
theorem kl_103 : okBs (owc 103) (has1 iniT 103) (cod 103) (pbs 103) = true := kk_103
theorem kl_104 : okBs (owc 104) (has1 iniT 104) (cod 104) (pbs 104) = true := kk_104
theorem kl_105 : okBs (owc 105) (has1 iniT 105) (cod 105) (pbs 105) = true := kk_105
theorem kl_106 : okBs (owc 106) (has1 iniT 106) (cod 106) (pbs 106) = true := kk_106
theorem kl_107 : okBs (owc 107) (has1 iniT 107) (cod 107) (pbs 107) = true := kk_107
theorem kl_108 : okBs (owc 108) (has1 iniT 108) (cod 108) (pbs 108) = true := kk_108
theorem kl_109 : okBs (owc 109) (has1 iniT 109) (cod 109) (pbs 109) = true := kk_109
theorem kl_110 : okBs (owc 110) (has1 iniT 110) (cod 110) (pbs 110) = true := kk_110
theorem kl_111 : okBs (owc 111) (has1 iniT 111) (cod 111) (pbs 111) = true := kk_111
theorem kl_112 : okBs (owc 112) (has1 iniT 112) (cod 112) (pbs 112) = true := kk_112
theorem kl_113 : okBs (owc 113) (has1 iniT 113) (cod 113) (pbs 113) = true := kk_113
theorem kl_114 : okBs (owc 114) (has1 iniT 114) (cod 114) (pbs 114) = true := kk_114
theorem kl_115 : okBs (owc 115) (has1 iniT 115) (cod 115) (pbs 115) = true := kk_115
theorem kl_116 : okBs (owc 116) (has1 iniT 116) (cod 116) (pbs 116) = true := kk_116
theorem kl_117 : okBs (owc 117) (has1 iniT 117) (cod 117) (pbs 117) = true := kk_117
theorem kl_118 : okBs (owc 118) (has1 iniT 118) (cod 118) (pbs 118) = true := kk_118
theorem kl_119 : okBs (owc 119) (has1 iniT 119) (cod 119) (pbs 119) = true := kk_119
theorem kl_120 : okBs (owc 120) (has1 iniT 120) (cod 120) (pbs 120) = true := kk_120
theorem kl_121 : okBs (owc 121) (has1 iniT 121) (cod 121) (pbs 121) = true := kk_121
theorem kl_122 : okBs (owc 122) (has1 iniT 122) (cod 122) (pbs 122) = true := kk_122
theorem kl_123 : okBs (owc 123) (has1 iniT 123) (cod 123) (pbs 123) = true := kk_123
theorem kl_124 : okBs (owc 124) (has1 iniT 124) (cod 124) (pbs 124) = true := kk_124
theorem kl_125 : okBs (owc 125) (has1 iniT 125) (cod 125) (pbs 125) = true := kk_125
theorem kl_126 : okBs (owc 126) (has1 iniT 126) (cod 126) (pbs 126) = true := kk_126
theorem kl_127 : okBs (owc 127) (has1 iniT 127) (cod 127) (pbs 127) = true := kk_127
theorem kl_128 : okBs (owc 128) (has1 iniT 128) (cod 128) (pbs 128) = true := kk_128
theorem kl_129 : okBs (owc 129) (has1 iniT 129) (cod 129) (pbs 129) = true := kk_129
theorem kl_130 : okBs (owc 130) (has1 iniT 130) (cod 130) (pbs 130) = true := kk_130
theorem kl_131 : okBs (owc 131) (has1 iniT 131) (cod 131) (pbs 131) = true := kk_131
theorem kl_132 : okBs (owc 132) (has1 iniT 132) (cod 132) (pbs 132) = true := kk_132
theorem kl_133 : okBs (owc 133) (has1 iniT 133) (cod 133) (pbs 133) = true := kk_133
theorem kl_134 : okBs (owc 134) (has1 iniT 134) (cod 134) (pbs 134) = true := kk_134
theorem kl_135 : okBs (owc 135) (has1 iniT 135) (cod 135) (pbs 135) = true := kk_135
theorem kl_136 : okBs (owc 136) (has1 iniT 136) (cod 136) (pbs 136) = true := kk_136
theorem kl_137 : okBs (owc 137) (has1 iniT 137) (cod 137) (pbs 137) = true := kk_137
theorem kl_138 : okBs (owc 138) (has1 iniT 138) (cod 138) (pbs 138) = true := kk_138
theorem kl_139 : okBs (owc 139) (has1 iniT 139) (cod 139) (pbs 139) = true := kk_139
theorem kl_140 : okBs (owc 140) (has1 iniT 140) (cod 140) (pbs 140) = true := kk_140
theorem kl_141 : okBs (owc 141) (has1 iniT 141) (cod 141) (pbs 141) = true := kk_141
theorem kl_142 : okBs (owc 142) (has1 iniT 142) (cod 142) (pbs 142) = true := kk_142
theorem kl_143 : okBs (owc 143) (has1 iniT 143) (cod 143) (pbs 143) = true := kk_143
theorem kl_144 : okBs (owc 144) (has1 iniT 144) (cod 144) (pbs 144) = true := kk_144
theorem kl_145 : okBs (owc 145) (has1 iniT 145) (cod 145) (pbs 145) = true := kk_145
theorem kl_146 : okBs (owc 146) (has1 iniT 146) (cod 146) (pbs 146) = true := kk_146
theorem kl_147 : okBs (owc 147) (has1 iniT 147) (cod 147) (pbs 147) = true := kk_147
theorem kl_148 : okBs (owc 148) (has1 iniT 148) (cod 148) (pbs 148) = true := kk_148
theorem kl_149 : okBs (owc 149) (has1 iniT 149) (cod 149) (pbs 149) = true := kk_149
theorem kl_150 : okBs (owc 150) (has1 iniT 150) (cod 150) (pbs 150) = true := kk_150
theorem kl_151 : okBs (owc 151) (has1 iniT 151) (cod 151) (pbs 151) = true := kk_151
theorem kl_152 : okBs (owc 152) (has1 iniT 152) (cod 152) (pbs 152) = true := kk_152
theorem kl_153 : okBs (owc 153) (has1 iniT 153) (cod 153) (pbs 153) = true := kk_153
theorem kl_154 : okBs (owc 154) (has1 iniT 154) (cod 154) (pbs 154) = true := kk_154
theorem kl_155 : okBs (owc 155) (has1 iniT 155) (cod 155) (pbs 155) = true := kk_155
theorem kl_156 : okBs (owc 156) (has1 iniT 156) (cod 156) (pbs 156) = true := kk_156
theorem kl_157 : okBs (owc 157) (has1 iniT 157) (cod 157) (pbs 157) = true := kk_157
theorem kl_158 : okBs (owc 158) (has1 iniT 158) (cod 158) (pbs 158) = true := kk_158
theorem kl_159 : okBs (owc 159) (has1 iniT 159) (cod 159) (pbs 159) = true := kk_159
theorem kl_160 : okBs (owc 160) (has1 iniT 160) (cod 160) (pbs 160) = true := kk_160
theorem kl_161 : okBs (owc 161) (has1 iniT 161) (cod 161) (pbs 161) = true := kk_161
theorem kl_162 : okBs (owc 162) (has1 iniT 162) (cod 162) (pbs 162) = true := kk_162
theorem kl_163 : okBs (owc 163) (has1 iniT 163) (cod 163) (pbs 163) = true := kk_163
theorem kl_164 : okBs (owc 164) (has1 iniT 164) (cod 164) (pbs 164) = true := kk_164
theorem kl_165 : okBs (owc 165) (has1 iniT 165) (cod 165) (pbs 165) = true := kk_165
theorem kl_166 : okBs (owc 166) (has1 iniT 166) (cod 166) (pbs 166) = true := kk_166
theorem kl_167 : okBs (owc 167) (has1 iniT 167) (cod 167) (pbs 167) = true := kk_167
theorem kl_168 : okBs (owc 168) (has1 iniT 168) (cod 168) (pbs 168) = true := kk_168
theorem kl_169 : okBs (owc 169) (has1 iniT 169) (cod 169) (pbs 169) = true := kk_169
theorem kl_170 : okBs (owc 170) (has1 iniT 170) (cod 170) (pbs 170) = true := kk_170
theorem kl_171 : okBs (owc 171) (has1 iniT 171) (cod 171) (pbs 171) = true := kk_171
theorem kl_172 : okBs (owc 172) (has1 iniT 172) (cod 172) (pbs 172) = true := kk_172
theorem kl_173 : okBs (owc 173) (has1 iniT 173) (cod 173) (pbs 173) = true := kk_173
theorem kl_174 : okBs (owc 174) (has1 iniT 174) (cod 174) (pbs 174) = true := kk_174
theorem kl_175 : okBs (owc 175) (has1 iniT 175) (cod 175) (pbs 175) = true := kk_175
theorem kl_176 : okBs (owc 176) (has1 iniT 176) (cod 176) (pbs 176) = true := kk_176
theorem kl_177 : okBs (owc 177) (has1 iniT 177) (cod 177) (pbs 177) = true := kk_177
theorem kl_178 : okBs (owc 178) (has1 iniT 178) (cod 178) (pbs 178) = true := kk_178
theorem kl_179 : okBs (owc 179) (has1 iniT 179) (cod 179) (pbs 179) = true := kk_179
theorem kl_180 : okBs (owc 180) (has1 iniT 180) (cod 180) (pbs 180) = true := kk_180
theorem kl_181 : okBs (owc 181) (has1 iniT 181) (cod 181) (pbs 181) = true := kk_181
theorem kl_182 : okBs (owc 182) (has1 iniT 182) (cod 182) (pbs 182) = true := kk_182
theorem kl_183 : okBs (owc 183) (has1 iniT 183) (cod 183) (pbs 183) = true := kk_183
theorem kl_184 : okBs (owc 184) (has1 iniT 184) (cod 184) (pbs 184) = true := kk_184
theorem kl_185 : okBs (owc 185) (has1 iniT 185) (cod 185) (pbs 185) = true := kk_185
theorem kl_186 : okBs (owc 186) (has1 iniT 186) (cod 186) (pbs 186) = true := kk_186
theorem kl_187 : okBs (owc 187) (has1 iniT 187) (cod 187) (pbs 187) = true := kk_187
theorem kl_188 : okBs (owc 188) (has1 iniT 188) (cod 188) (pbs 188) = true := kk_188
theorem kl_189 : okBs (owc 189) (has1 iniT 189) (cod 189) (pbs 189) = true := kk_189
theorem kl_190 : okBs (owc 190) (has1 iniT 190) (cod 190) (pbs 190) = true := kk_190
theorem kl_191 : okBs (owc 191) (has1 iniT 191) (cod 191) (pbs 191) = true := kk_191
theorem kl_192 : okBs (owc 192) (has1 iniT 192) (cod 192) (pbs 192) = true := kk_192
theorem kl_193 : okBs (owc 193) (has1 iniT 193) (cod 193) (pbs 193) = true := kk_193
theorem kl_194 : okBs (owc 194) (has1 iniT 194) (cod 194) (pbs 194) = true := kk_194
theorem kl_195 : okBs (owc 195) (has1 iniT 195) (cod 195) (pbs 195) = true := kk_195
theorem kl_196 : okBs (owc 196) (has1 iniT 196) (cod 196) (pbs 196) = true := kk_196
theorem kl_197 : okBs (owc 197) (has1 iniT 197) (cod 197) (pbs 197) = true := kk_197
theorem kl_198 : okBs (owc 198) (has1 iniT 198) (cod 198) (pbs 198) = true := kk_198
theorem kl_199 : okBs (owc 199) (has1 iniT 199) (cod 199) (pbs 199) = true := kk_199
theorem kl_200 : okBs (owc 200) (has1 iniT 200) (cod 200) (pbs 200) = true := kk_200
theorem kl_201 : okBs (owc 201) (has1 iniT 201) (cod 201) (pbs 201) = true := kk_201
theorem kl_202 : okBs (owc 202) (has1 iniT 202) (cod 202) (pbs 202) = true := kk_202
theorem kl_203 : okBs (owc 203) (has1 iniT 203) (cod 203) (pbs 203) = true := kk_203
theorem kl_204 : okBs (owc 204) (has1 iniT 204) (cod 204) (pbs 204) = true := kk_204
theorem kl_205 : okBs (owc 205) (has1 iniT 205) (cod 205) (pbs 205) = true := kk_205
theorem kl_206 : okBs (owc 206) (has1 iniT 206) (cod 206) (pbs 206) = true := kk_206
theorem kl_207 : okBs (owc 207) (has1 iniT 207) (cod 207) (pbs 207) = true := kk_207
theorem kl_208 : okBs (owc 208) (has1 iniT 208) (cod 208) (pbs 208) = true := kk_208
theorem kl_209 : okBs (owc 209) (has1 iniT 209) (cod 209) (pbs 209) = true := kk_209
theorem kl_210 : okBs (owc 210) (has1 iniT 210) (cod 210) (pbs 210) = true := kk_210
theorem kl_211 : okBs (owc 211) (has1 iniT 211) (cod 211) (pbs 211) = true := kk_211
theorem kl_212 : okBs (owc 212) (has1 iniT 212) (cod 212) (pbs 212) = true := kk_212
theorem kl_213 : okBs (owc 213) (has1 iniT 213) (cod 213) (pbs 213) = true := kk_213
theorem kl_214 : okBs (owc 214) (has1 iniT 214) (cod 214) (pbs 214) = true := kk_214
theorem kl_215 : okBs (owc 215) (has1 iniT 215) (cod 215) (pbs 215) = true := kk_215
theorem kl_216 : okBs (owc 216) (has1 iniT 216) (cod 216) (pbs 216) = true := kk_216
theorem kl_217 : okBs (owc 217) (has1 iniT 217) (cod 217) (pbs 217) = true := kk_217
theorem kl_218 : okBs (owc 218) (has1 iniT 218) (cod 218) (pbs 218) = true := kk_218
theorem kl_219 : okBs (owc 219) (has1 iniT 219) (cod 219) (pbs 219) = true := kk_219
theorem kl_220 : okBs (owc 220) (has1 iniT 220) (cod 220) (pbs 220) = true := kk_220
theorem kl_221 : okBs (owc 221) (has1 iniT 221) (cod 221) (pbs 221) = true := kk_221
theorem kl_222 : okBs (owc 222) (has1 iniT 222) (cod 222) (pbs 222) = true := kk_222
theorem kl_223 : okBs (owc 223) (has1 iniT 223) (cod 223) (pbs 223) = true := kk_223
theorem kl_224 : okBs (owc 224) (has1 iniT 224) (cod 224) (pbs 224) = true := kk_224
theorem kl_225 : okBs (owc 225) (has1 iniT 225) (cod 225) (pbs 225) = true := kk_225
theorem kl_226 : okBs (owc 226) (has1 iniT 226) (cod 226) (pbs 226) = true := kk_226
theorem kl_227 : okBs (owc 227) (has1 iniT 227) (cod 227) (pbs 227) = true := kk_227
theorem kl_228 : okBs (owc 228) (has1 iniT 228) (cod 228) (pbs 228) = true := kk_228
theorem kl_229 : okBs (owc 229) (has1 iniT 229) (cod 229) (pbs 229) = true := kk_229
theorem kl_230 : okBs (owc 230) (has1 iniT 230) (cod 230) (pbs 230) = true := kk_230
theorem kl_231 : okBs (owc 231) (has1 iniT 231) (cod 231) (pbs 231) = true := kk_231
theorem kl_232 : okBs (owc 232) (has1 iniT 232) (cod 232) (pbs 232) = true := kk_232
theorem kl_233 : okBs (owc 233) (has1 iniT 233) (cod 233) (pbs 233) = true := kk_233
theorem kl_234 : okBs (owc 234) (has1 iniT 234) (cod 234) (pbs 234) = true := kk_234
theorem kl_235 : okBs (owc 235) (has1 iniT 235) (cod 235) (pbs 235) = true := kk_235
theorem kl_236 : okBs (owc 236) (has1 iniT 236) (cod 236) (pbs 236) = true := kk_236
theorem kl_237 : okBs (owc 237) (has1 iniT 237) (cod 237) (pbs 237) = true := kk_237
theorem kl_238 : okBs (owc 238) (has1 iniT 238) (cod 238) (pbs 238) = true := kk_238
theorem kl_239 : okBs (owc 239) (has1 iniT 239) (cod 239) (pbs 239) = true := kk_239
theorem kl_240 : okBs (owc 240) (has1 iniT 240) (cod 240) (pbs 240) = true := kk_240
theorem kl_241 : okBs (owc 241) (has1 iniT 241) (cod 241) (pbs 241) = true := kk_241
theorem kl_242 : okBs (owc 242) (has1 iniT 242) (cod 242) (pbs 242) = true := kk_242
theorem kl_243 : okBs (owc 243) (has1 iniT 243) (cod 243) (pbs 243) = true := kk_243
theorem kl_244 : okBs (owc 244) (has1 iniT 244) (cod 244) (pbs 244) = true := kk_244
theorem kl_245 : okBs (owc 245) (has1 iniT 245) (cod 245) (pbs 245) = true := kk_245
theorem kl_246 : okBs (owc 246) (has1 iniT 246) (cod 246) (pbs 246) = true := kk_246
theorem kl_247 : okBs (owc 247) (has1 iniT 247) (cod 247) (pbs 247) = true := kk_247
theorem kl_248 : okBs (owc 248) (has1 iniT 248) (cod 248) (pbs 248) = true := kk_248
theorem kl_249 : okBs (owc 249) (has1 iniT 249) (cod 249) (pbs 249) = true := kk_249
theorem kl_250 : okBs (owc 250) (has1 iniT 250) (cod 250) (pbs 250) = true := kk_250
theorem kl_251 : okBs (owc 251) (has1 iniT 251) (cod 251) (pbs 251) = true := kk_251
theorem kl_252 : okBs (owc 252) (has1 iniT 252) (cod 252) (pbs 252) = true := kk_252
theorem kl_253 : okBs (owc 253) (has1 iniT 253) (cod 253) (pbs 253) = true := kk_253
theorem kl_254 : okBs (owc 254) (has1 iniT 254) (cod 254) (pbs 254) = true := kk_254
theorem kl_255 : okBs (owc 255) (has1 iniT 255) (cod 255) (pbs 255) = true := kk_255
theorem kl_256 : okBs (owc 256) (has1 iniT 256) (cod 256) (pbs 256) = true := kk_256
theorem kl_257 : okBs (owc 257) (has1 iniT 257) (cod 257) (pbs 257) = true := kk_257
theorem kl_258 : okBs (owc 258) (has1 iniT 258) (cod 258) (pbs 258) = true := kk_258
theorem kl_259 : okBs (owc 259) (has1 iniT 259) (cod 259) (pbs 259) = true := kk_259
theorem kl_260 : okBs (owc 260) (has1 iniT 260) (cod 260) (pbs 260) = true := kk_260
theorem kl_261 : okBs (owc 261) (has1 iniT 261) (cod 261) (pbs 261) = true := kk_261
theorem kl_262 : okBs (owc 262) (has1 iniT 262) (cod 262) (pbs 262) = true := kk_262
theorem kl_263 : okBs (owc 263) (has1 iniT 263) (cod 263) (pbs 263) = true := kk_263
theorem kl_264 : okBs (owc 264) (has1 iniT 264) (cod 264) (pbs 264) = true := kk_264
theorem kl_265 : okBs (owc 265) (has1 iniT 265) (cod 265) (pbs 265) = true := kk_265
theorem kl_266 : okBs (owc 266) (has1 iniT 266) (cod 266) (pbs 266) = true := kk_266
theorem kl_267 : okBs (owc 267) (has1 iniT 267) (cod 267) (pbs 267) = true := kk_267
theorem kl_268 : okBs (owc 268) (has1 iniT 268) (cod 268) (pbs 268) = true := kk_268
theorem kl_269 : okBs (owc 269) (has1 iniT 269) (cod 269) (pbs 269) = true := kk_269
theorem kl_270 : okBs (owc 270) (has1 iniT 270) (cod 270) (pbs 270) = true := kk_270
theorem kl_271 : okBs (owc 271) (has1 iniT 271) (cod 271) (pbs 271) = true := kk_271
theorem kl_272 : okBs (owc 272) (has1 iniT 272) (cod 272) (pbs 272) = true := kk_272
theorem kl_273 : okBs (owc 273) (has1 iniT 273) (cod 273) (pbs 273) = true := kk_273
theorem kl_274 : okBs (owc 274) (has1 iniT 274) (cod 274) (pbs 274) = true := kk_274
theorem kl_275 : okBs (owc 275) (has1 iniT 275) (cod 275) (pbs 275) = true := kk_275
theorem kl_276 : okBs (owc 276) (has1 iniT 276) (cod 276) (pbs 276) = true := kk_276
theorem kl_277 : okBs (owc 277) (has1 iniT 277) (cod 277) (pbs 277) = true := kk_277
theorem kl_278 : okBs (owc 278) (has1 iniT 278) (cod 278) (pbs 278) = true := kk_278
theorem kl_279 : okBs (owc 279) (has1 iniT 279) (cod 279) (pbs 279) = true := kk_279
theorem kl_280 : okBs (owc 280) (has1 iniT 280) (cod 280) (pbs 280) = true := kk_280
theorem kl_281 : okBs (owc 281) (has1 iniT 281) (cod 281) (pbs 281) = true := kk_281
theorem kl_282 : okBs (owc 282) (has1 iniT 282) (cod 282) (pbs 282) = true := kk_282
theorem kl_283 : okBs (owc 283) (has1 iniT 283) (cod 283) (pbs 283) = true := kk_283
theorem kl_284 : okBs (owc 284) (has1 iniT 284) (cod 284) (pbs 284) = true := kk_284
theorem kl_285 : okBs (owc 285) (has1 iniT 285) (cod 285) (pbs 285) = true := kk_285
theorem kl_286 : okBs (owc 286) (has1 iniT 286) (cod 286) (pbs 286) = true := kk_286
theorem kl_287 : okBs (owc 287) (has1 iniT 287) (cod 287) (pbs 287) = true := kk_287
theorem kl_288 : okBs (owc 288) (has1 iniT 288) (cod 288) (pbs 288) = true := kk_288
theorem kl_289 : okBs (owc 289) (has1 iniT 289) (cod 289) (pbs 289) = true := kk_289
theorem kl_290 : okBs (owc 290) (has1 iniT 290) (cod 290) (pbs 290) = true := kk_290
theorem kl_291 : okBs (owc 291) (has1 iniT 291) (cod 291) (pbs 291) = true := kk_291
theorem kl_292 : okBs (owc 292) (has1 iniT 292) (cod 292) (pbs 292) = true := kk_292
theorem kl_293 : okBs (owc 293) (has1 iniT 293) (cod 293) (pbs 293) = true := kk_293
theorem kl_294 : okBs (owc 294) (has1 iniT 294) (cod 294) (pbs 294) = true := kk_294
theorem kl_295 : okBs (owc 295) (has1 iniT 295) (cod 295) (pbs 295) = true := kk_295
theorem kl_296 : okBs (owc 296) (has1 iniT 296) (cod 296) (pbs 296) = true := kk_296
theorem kl_297 : okBs (owc 297) (has1 iniT 297) (cod 297) (pbs 297) = true := kk_297
theorem kl_298 : okBs (owc 298) (has1 iniT 298) (cod 298) (pbs 298) = true := kk_298
theorem kl_299 : okBs (owc 299) (has1 iniT 299) (cod 299) (pbs 299) = true := kk_299
theorem kl_300 : okBs (owc 300) (has1 iniT 300) (cod 300) (pbs 300) = true := kk_300
theorem kl_301 : okBs (owc 301) (has1 iniT 301) (cod 301) (pbs 301) = true := kk_301
theorem kl_302 : okBs (owc 302) (has1 iniT 302) (cod 302) (pbs 302) = true := kk_302
theorem kl_303 : okBs (owc 303) (has1 iniT 303) (cod 303) (pbs 303) = true := kk_303
theorem kl_304 : okBs (owc 304) (has1 iniT 304) (cod 304) (pbs 304) = true := kk_304
theorem kl_305 : okBs (owc 305) (has1 iniT 305) (cod 305) (pbs 305) = true := kk_305
theorem kl_306 : okBs (owc 306) (has1 iniT 306) (cod 306) (pbs 306) = true := kk_306
theorem kl_307 : okBs (owc 307) (has1 iniT 307) (cod 307) (pbs 307) = true := kk_307
theorem kl_308 : okBs (owc 308) (has1 iniT 308) (cod 308) (pbs 308) = true := kk_308
theorem km_0 : ∀ j, j < 16 → okBs (owc (0 + j)) (has1 iniT (0 + j)) (cod (0 + j)) (pbs (0 + j)) = true := fun j hj => match j, hj with
  | 0, _ => kl_0
  | 1, _ => kl_1
  | 2, _ => kl_2
  | 3, _ => kl_3
  | 4, _ => kl_4
  | 5, _ => kl_5
  | 6, _ => kl_6
  | 7, _ => kl_7
  | 8, _ => kl_8
  | 9, _ => kl_9
  | 10, _ => kl_10
  | 11, _ => kl_11
  | 12, _ => kl_12
  | 13, _ => kl_13
  | 14, _ => kl_14
  | 15, _ => kl_15
  | j + 16, h => absurd h (by omega)

theorem km_1 : ∀ j, j < 16 → okBs (owc (16 + j)) (has1 iniT (16 + j)) (cod (16 + j)) (pbs (16 + j)) = true := fun j hj => match j, hj with
  | 0, _ => kl_16
  | 1, _ => kl_17
  | 2, _ => kl_18
  | 3, _ => kl_19
  | 4, _ => kl_20
  | 5, _ => kl_21
  | 6, _ => kl_22
  | 7, _ => kl_23
  | 8, _ => kl_24
  | 9, _ => kl_25
  | 10, _ => kl_26
  | 11, _ => kl_27
  | 12, _ => kl_28
  | 13, _ => kl_29
  | 14, _ => kl_30
  | 15, _ => kl_31
  | j + 16, h => absurd h (by omega)

theorem km_2 : ∀ j, j < 16 → okBs (owc (32 + j)) (has1 iniT (32 + j)) (cod (32 + j)) (pbs (32 + j)) = true := fun j hj => match j, hj with
  | 0, _ => kl_32
  | 1, _ => kl_33
  | 2, _ => kl_34
  | 3, _ => kl_35
  | 4, _ => kl_36
  | 5, _ => kl_37
  | 6, _ => kl_38
  | 7, _ => kl_39
  | 8, _ => kl_40
  | 9, _ => kl_41
  | 10, _ => kl_42
  | 11, _ => kl_43
  | 12, _ => kl_44
  | 13, _ => kl_45
  | 14, _ => kl_46
  | 15, _ => kl_47
  | j + 16, h => absurd h (by omega)

theorem km_3 : ∀ j, j < 16 → okBs (owc (48 + j)) (has1 iniT (48 + j)) (cod (48 + j)) (pbs (48 + j)) = true := fun j hj => match j, hj with
  | 0, _ => kl_48
  | 1, _ => kl_49
  | 2, _ => kl_50
  | 3, _ => kl_51
  | 4, _ => kl_52
  | 5, _ => kl_53
  | 6, _ => kl_54
  | 7, _ => kl_55
  | 8, _ => kl_56
  | 9, _ => kl_57
  | 10, _ => kl_58
  | 11, _ => kl_59
  | 12, _ => kl_60
  | 13, _ => kl_61
  | 14, _ => kl_62
  | 15, _ => kl_63
  | j + 16, h => absurd h (by omega)

theorem km_4 : ∀ j, j < 16 → okBs (owc (64 + j)) (has1 iniT (64 + j)) (cod (64 + j)) (pbs (64 + j)) = true := fun j hj => match j, hj with
  | 0, _ => kl_64
  | 1, _ => kl_65
  | 2, _ => kl_66
  | 3, _ => kl_67
  | 4, _ => kl_68
  | 5, _ => kl_69
  | 6, _ => kl_70
  | 7, _ => kl_71
  | 8, _ => kl_72
  | 9, _ => kl_73
  | 10, _ => kl_74
  | 11, _ => kl_75
  | 12, _ => kl_76
  | 13, _ => kl_77
  | 14, _ => kl_78
  | 15, _ => kl_79
  | j + 16, h => absurd h (by omega)

theorem km_5 : ∀ j, j < 16 → okBs (owc (80 + j)) (has1 iniT (80 + j)) (cod (80 + j)) (pbs (80 + j)) = true := fun j hj => match j, hj with
  | 0, _ => kl_80
  | 1, _ => kl_81
  | 2, _ => kl_82
  | 3, _ => kl_83
  | 4, _ => kl_84
  | 5, _ => kl_85
  | 6, _ => kl_86
  | 7, _ => kl_87
  | 8, _ => kl_88
  | 9, _ => kl_89
  | 10, _ => kl_90
  | 11, _ => kl_91
  | 12, _ => kl_92
  | 13, _ => kl_93
  | 14, _ => kl_94
  | 15, _ => kl_95
  | j + 16, h => absurd h (by omega)

theorem km_6 : ∀ j, j < 16 → okBs (owc (96 + j)) (has1 iniT (96 + j)) (cod (96 + j)) (pbs (96 + j)) = true := fun j hj => match j, hj with
  | 0, _ => kl_96
  | 1, _ => kl_97
  | 2, _ => kl_98
  | 3, _ => kl_99
  | 4, _ => kl_100
  | 5, _ => kl_101
  | 6, _ => kl_102
  | 7, _ => kl_103
  | 8, _ => kl_104
  | 9, _ => kl_105
  | 10, _ => kl_106
  | 11, _ => kl_107
  | 12, _ => kl_108
  | 13, _ => kl_109
  | 14, _ => kl_110
  | 15, _ => kl_111
  | j + 16, h => absurd h (by omega)

theorem km_7 : ∀ j, j < 16 → okBs (owc (112 + j)) (has1 iniT (112 + j)) (cod (112 + j)) (pbs (112 + j)) = true := fun j hj => match j, hj with
  | 0, _ => kl_112
  | 1, _ => kl_113
  | 2, _ => kl_114
  | 3, _ => kl_115
  | 4, _ => kl_116
  | 5, _ => kl_117
  | 6, _ => kl_118
  | 7, _ => kl_119
  | 8, _ => kl_120
  | 9, _ => kl_121
  | 10, _ => kl_122
  | 11, _ => kl_123
  | 12, _ => kl_124
  | 13, _ => kl_125
  | 14, _ => kl_126
  | 15, _ => kl_127
  | j + 16, h => absurd h (by omega)

theorem km_8 : ∀ j, j < 16 → okBs (owc (128 + j)) (has1 iniT (128 + j)) (cod (128 + j)) (pbs (128 + j)) = true := fun j hj => match j, hj with
  | 0, _ => kl_128
  | 1, _ => kl_129
  | 2, _ => kl_130
  | 3, _ => kl_131
  | 4, _ => kl_132
  | 5, _ => kl_133
  | 6, _ => kl_134
  | 7, _ => kl_135
  | 8, _ => kl_136
  | 9, _ => kl_137
  | 10, _ => kl_138
  | 11, _ => kl_139
  | 12, _ => kl_140
  | 13, _ => kl_141
  | 14, _ => kl_142
  | 15, _ => kl_143
  | j + 16, h => absurd h (by omega)

theorem km_9 : ∀ j, j < 16 → okBs (owc (144 + j)) (has1 iniT (144 + j)) (cod (144 + j)) (pbs (144 + j)) = true := fun j hj => match j, hj with
  | 0, _ => kl_144
  | 1, _ => kl_145
  | 2, _ => kl_146
  | 3, _ => kl_147
  | 4, _ => kl_148
  | 5, _ => kl_149
  | 6, _ => kl_150
  | 7, _ => kl_151
  | 8, _ => kl_152
  | 9, _ => kl_153
  | 10, _ => kl_154
  | 11, _ => kl_155
  | 12, _ => kl_156
  | 13, _ => kl_157
  | 14, _ => kl_158
  | 15, _ => kl_159
  | j + 16, h => absurd h (by omega)

theorem km_10 : ∀ j, j < 16 → okBs (owc (160 + j)) (has1 iniT (160 + j)) (cod (160 + j)) (pbs (160 + j)) = true := fun j hj => match j, hj with
  | 0, _ => kl_160
  | 1, _ => kl_161
  | 2, _ => kl_162
  | 3, _ => kl_163
  | 4, _ => kl_164
  | 5, _ => kl_165
  | 6, _ => kl_166
  | 7, _ => kl_167
  | 8, _ => kl_168
  | 9, _ => kl_169
  | 10, _ => kl_170
  | 11, _ => kl_171
  | 12, _ => kl_172
  | 13, _ => kl_173
  | 14, _ => kl_174
  | 15, _ => kl_175
  | j + 16, h => absurd h (by omega)

theorem km_11 : ∀ j, j < 16 → okBs (owc (176 + j)) (has1 iniT (176 + j)) (cod (176 + j)) (pbs (176 + j)) = true := fun j hj => match j, hj with
  | 0, _ => kl_176
  | 1, _ => kl_177
  | 2, _ => kl_178
  | 3, _ => kl_179
  | 4, _ => kl_180
  | 5, _ => kl_181
  | 6, _ => kl_182
  | 7, _ => kl_183
  | 8, _ => kl_184
  | 9, _ => kl_185
  | 10, _ => kl_186
  | 11, _ => kl_187
  | 12, _ => kl_188
  | 13, _ => kl_189
  | 14, _ => kl_190
  | 15, _ => kl_191
  | j + 16, h => absurd h (by omega)

theorem km_12 : ∀ j, j < 16 → okBs (owc (192 + j)) (has1 iniT (192 + j)) (cod (192 + j)) (pbs (192 + j)) = true := fun j hj => match j, hj with
  | 0, _ => kl_192
  | 1, _ => kl_193
  | 2, _ => kl_194
  | 3, _ => kl_195
  | 4, _ => kl_196
  | 5, _ => kl_197
  | 6, _ => kl_198
  | 7, _ => kl_199
  | 8, _ => kl_200
  | 9, _ => kl_201
  | 10, _ => kl_202
  | 11, _ => kl_203
  | 12, _ => kl_204
  | 13, _ => kl_205
  | 14, _ => kl_206
  | 15, _ => kl_207
  | j + 16, h => absurd h (by omega)

theorem km_13 : ∀ j, j < 16 → okBs (owc (208 + j)) (has1 iniT (208 + j)) (cod (208 + j)) (pbs (208 + j)) = true := fun j hj => match j, hj with
  | 0, _ => kl_208
  | 1, _ => kl_209
  | 2, _ => kl_210
  | 3, _ => kl_211
  | 4, _ => kl_212
  | 5, _ => kl_213
  | 6, _ => kl_214
  | 7, _ => kl_215
  | 8, _ => kl_216
  | 9, _ => kl_217
  | 10, _ => kl_218
  | 11, _ => kl_219
  | 12, _ => kl_220
  | 13, _ => kl_221
  | 14, _ => kl_222
  | 15, _ => kl_223
  | j + 16, h => absurd h (by omega)

theorem km_14 : ∀ j, j < 16 → okBs (owc (224 + j)) (has1 iniT (224 + j)) (cod (224 + j)) (pbs (224 + j)) = true := fun j hj => match j, hj with
  | 0, _ => kl_224
  | 1, _ => kl_225
  | 2, _ => kl_226
  | 3, _ => kl_227
  | 4, _ => kl_228
  | 5, _ => kl_229
  | 6, _ => kl_230
  | 7, _ => kl_231
  | 8, _ => kl_232
  | 9, _ => kl_233
  | 10, _ => kl_234
  | 11, _ => kl_235
  | 12, _ => kl_236
  | 13, _ => kl_237
  | 14, _ => kl_238
  | 15, _ => kl_239
  | j + 16, h => absurd h (by omega)

theorem km_15 : ∀ j, j < 16 → okBs (owc (240 + j)) (has1 iniT (240 + j)) (cod (240 + j)) (pbs (240 + j)) = true := fun j hj => match j, hj with
  | 0, _ => kl_240
  | 1, _ => kl_241
  | 2, _ => kl_242
  | 3, _ => kl_243
  | 4, _ => kl_244
  | 5, _ => kl_245
  | 6, _ => kl_246
  | 7, _ => kl_247
  | 8, _ => kl_248
  | 9, _ => kl_249
  | 10, _ => kl_250
  | 11, _ => kl_251
  | 12, _ => kl_252
  | 13, _ => kl_253
  | 14, _ => kl_254
  | 15, _ => kl_255
  | j + 16, h => absurd h (by omega)

theorem km_16 : ∀ j, j < 16 → okBs (owc (256 + j)) (has1 iniT (256 + j)) (cod (256 + j)) (pbs (256 + j)) = true := fun j hj => match j, hj with
  | 0, _ => kl_256
  | 1, _ => kl_257
  | 2, _ => kl_258
  | 3, _ => kl_259
  | 4, _ => kl_260
  | 5, _ => kl_261
  | 6, _ => kl_262
  | 7, _ => kl_263
  | 8, _ => kl_264
  | 9, _ => kl_265
  | 10, _ => kl_266
  | 11, _ => kl_267
  | 12, _ => kl_268
  | 13, _ => kl_269
  | 14, _ => kl_270
  | 15, _ => kl_271
  | j + 16, h => absurd h (by omega)

theorem km_17 : ∀ j, j < 16 → okBs (owc (272 + j)) (has1 iniT (272 + j)) (cod (272 + j)) (pbs (272 + j)) = true := fun j hj => match j, hj with
  | 0, _ => kl_272
  | 1, _ => kl_273
  | 2, _ => kl_274
  | 3, _ => kl_275
  | 4, _ => kl_276
  | 5, _ => kl_277
  | 6, _ => kl_278
  | 7, _ => kl_279
  | 8, _ => kl_280
  | 9, _ => kl_281
  | 10, _ => kl_282
  | 11, _ => kl_283
  | 12, _ => kl_284
  | 13, _ => kl_285
  | 14, _ => kl_286
  | 15, _ => kl_287
  | j + 16, h => absurd h (by omega)

theorem km_18 : ∀ j, j < 16 → okBs (owc (288 + j)) (has1 iniT (288 + j)) (cod (288 + j)) (pbs (288 + j)) = true := fun j hj => match j, hj with
  | 0, _ => kl_288
  | 1, _ => kl_289
  | 2, _ => kl_290
  | 3, _ => kl_291
  | 4, _ => kl_292
  | 5, _ => kl_293
  | 6, _ => kl_294
  | 7, _ => kl_295
  | 8, _ => kl_296
  | 9, _ => kl_297
  | 10, _ => kl_298
  | 11, _ => kl_299
  | 12, _ => kl_300
  | 13, _ => kl_301
  | 14, _ => kl_302
  | 15, _ => kl_303
  | j + 16, h => absurd h (by omega)

theorem km_19 : ∀ j, j < 5 → okBs (owc (304 + j)) (has1 iniT (304 + j)) (cod (304 + j)) (pbs (304 + j)) = true := fun j hj => match j, hj with
  | 0, _ => kl_304
  | 1, _ => kl_305
  | 2, _ => kl_306
  | 3, _ => kl_307
  | 4, _ => kl_308
  | j + 5, h => absurd h (by omega)

theorem chk_bs : ∀ mi, mi < 309 → okBs (owc mi) (has1 iniT mi) (cod mi) (pbs mi) = true := by
  intro mi h
  have e : mi = 16 * (mi / 16) + mi % 16 := (Nat.div_add_mod mi 16).symm
  have h16 : mi % 16 < 16 := Nat.mod_lt _ (by omega)
  have hd : mi / 16 < 20 := by omega
  generalize mi / 16 = a at e hd
  generalize mi % 16 = j at e h16
  subst e
  match a, hd with
  | 0, _ => exact km_0 j (by omega)
  | 1, _ => exact km_1 j (by omega)
  | 2, _ => exact km_2 j (by omega)
  | 3, _ => exact km_3 j (by omega)
  | 4, _ => exact km_4 j (by omega)
  | 5, _ => exact km_5 j (by omega)
  | 6, _ => exact km_6 j (by omega)
  | 7, _ => exact km_7 j (by omega)
  | 8, _ => exact km_8 j (by omega)
  | 9, _ => exact km_9 j (by omega)
  | 10, _ => exact km_10 j (by omega)
  | 11, _ => exact km_11 j (by omega)
  | 12, _ => exact km_12 j (by omega)
  | 13, _ => exact km_13 j (by omega)
  | 14, _ => exact km_14 j (by omega)
  | 15, _ => exact km_15 j (by omega)
  | 16, _ => exact km_16 j (by omega)
  | 17, _ => exact km_17 j (by omega)
  | 18, _ => exact km_18 j (by omega)
  | 19, _ => exact km_19 j (by omega)
  | a + 20, h => exact absurd h (by omega)

theorem chk_all : ∀ mi, mi < 309 → chkMN mi = true := by
  intro mi h
  have h1 := chk_bs mi h
  have h2 := chkR_all mi h
  unfold chkR at h2
  unfold chkMN
  rw [isIni_all mi h, h1]
  simpa using h2
