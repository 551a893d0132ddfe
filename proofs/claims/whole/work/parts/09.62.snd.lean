/-! the machine's state over an abstract one, and the plain instructions -/
def tys4 (Z : CI4) : List (ClassId × FieldType) := [(Z.1, .int), (Z.2.1, .long), (Z.2.2.1, .char), (Z.2.2.2, .object "SilentCourt$Sitting")]
def wFl : List (String × String × String × List Int32) := [("SilentCourt$Word", "key", "I", wK.map c32), ("SilentCourt$Word", "fact", "I", wF.map c32), ("SilentCourt$Word", "own", "Z", wO.map c32)]
/-- what stands outside the world: the enum's constants, their row, the script, nest mates' links -/
def STA (base : Nat) (adS : Nat → Nat) (L : Nat) (xs : Nat → Int32) (U : State) : Prop :=
  va_En "SilentCourt$Word" "LSilentCourt$Word;" wN wFl (fun i => adS (i + 1)) (fun q => base ≤ q) U U.heap ∧
  va_Z "SilentCourt$Reader" "WORDS" "[LSilentCourt$Word;" (.ref (adS 38)) (fun q => base ≤ q) U U.heap ∧
  va_T (.object "SilentCourt$Word") (adS 38) 37 (fun j => .ref (adS (j + 1))) (fun q => base ≤ q) U U.heap ∧
  va_X (adS 39) L xs U U.heap ∧ adS 39 < base ∧ L ≤ 3072 ∧ base ≤ U.heap.size ∧
  (∀ q ∈ nestT, va_Nw (.methodLinkNest (cnm q.1) q.2.1 (ynm q.2.2) "SilentCourt") U) ∧ va_AO "SilentCourt$Sitting" U
def INV (f : Bool) (D : va_G) (Z : CI4) (base L : Nat) (xs : Nat → Int32) (adS adE : Nat → Nat) (z0 u0 : Nat) (s : State) (A : AH) (ad : Nat → Nat) (H : Heap) (locs : List Loc) (cells slots : Nat) : Prop :=
  va_P D vwCl (wd Z A ad) H ∧ va_D (fun q => base ≤ q) (wd Z A ad) ∧ va_S (fun q => base ≤ q) s.heap H locs ∧ WG f L xs A ∧ (∀ i, i < 40 → ad i = adS i) ∧ (∀ i, i < z0 → ad i = adE i) ∧ cells + z0 = sz A ∧ slots + u0 = sl A
def lok (ls : List AV) (i : Nat) : Bool := ((lget ls i).1 == 0) || Nat.ble 10 (lget ls i).1 || (((lget ls i).1 == 1) && ((lget ls (i + 1)).1 == 9))
def lvl (ad : Nat → Nat) (ls : List AV) : List (Nat × Value) := (List.range ls.length).filterMap (fun i => if lok ls i = true then some (i, cv ad (lget ls i)) else none)
theorem lvl_mem {ad : Nat → Nat} {ls : List AV} {q : Nat × Value} : q ∈ lvl ad ls ↔ q.1 < ls.length ∧ lok ls q.1 = true ∧ q.2 = cv ad (lget ls q.1) := by
  unfold lvl
  rw [List.mem_filterMap]
  constructor
  · rintro ⟨i, hi, h⟩
    by_cases hl : lok ls i = true
    · rw [if_pos hl] at h
      cases h
      exact ⟨List.mem_range.mp hi, hl, rfl⟩
    · rw [if_neg hl] at h; cases h
  · rintro ⟨h1, h2, h3⟩
    refine ⟨q.1, List.mem_range.mpr h1, ?_⟩
    rw [if_pos h2, ← h3]
def LVI (nL : Nat) (ad : Nat → Nat) (ls : List AV) (lsM : Array Slot) : Prop := ls.length = nL ∧ lv_has lsM nL (lvl ad ls)
def OKV (L : Nat) (A : AH) (vs : List AV) : Prop := ∀ v ∈ vs, okv L A v
def CTX (p : Program) (R : Room) (s : State) (m : MethodId) (args : Array Value) (c : Code) (D : va_G) (Z : CI4) (base L : Nat) (xs : Nat → Int32) (adS : Nat → Nat) (nL own : Nat) (cc : ByteArray) : Prop :=
  p.tables.exec = Jvm.exec ∧ c.code = cc ∧ c.maxLocals = nL ∧ s.vm.findClass (cnm own) = some m.cls ∧ (∀ w ∈ gtb, w.before args s = true) ∧ va_K D vwCl (tys4 Z) s ∧ STA base adS L xs s ∧ 1 ≤ R.frames ∧ 60 ≤ R.locals
def Wok (f : Bool) (p : Program) (l : Launch) (e : Env) (R : Room) (s : State) (m : MethodId) (args : Array Value) (below : List Frame) (meth : Method) (c : Code) (Q : State → Prop) (D : va_G) (Z : CI4) (base L : Nat) (xs : Nat → Int32) (adS adE : Nat → Nat) (z0 u0 nL : Nat) (pc : Nat) (ls st : List AV) (A : AH) : Prop :=
  ∀ (ad : Nat → Nat) (H : Heap) (locs : List Loc) (cells slots : Nat) (lsM : Array Slot), INV f D Z base L xs adS adE z0 u0 s A ad H locs cells slots → LVI nL ad ls lsM → OKV L A ls → OKV L A st → W p l e R s m args below meth c H locs cells slots Q (F0 m pc lsM (st.map (cv ad)))
theorem cv_0 {ad : Nat → Nat} {v : AV} (h : v.1 = 0) : cv ad v = .int (c32 v.2.1) := by unfold cv; rw [h]; rfl
theorem cv_1 {ad : Nat → Nat} {v : AV} (h : v.1 = 1) : cv ad v = .long (c64 v.2.1) := by unfold cv; rw [h]; rfl
theorem cv_r {ad : Nat → Nat} {v : AV} (h : 2 ≤ v.1) : cv ad v = rfv ad v.2.2.1 := by
  unfold cv
  split <;> first | omega | rfl
theorem cv_cat {ad : Nat → Nat} (v : AV) : (cv ad v).category = cat v := by
  unfold cat
  split
  · rename_i h; rw [cv_1 h]; rfl
  · rename_i h
    by_cases h0 : v.1 = 0
    · rw [cv_0 h0]; rfl
    · have h1 : v.1 ≠ 1 := h
      rw [cv_r (by omega)]
      unfold rfv rfo va_rf
      split <;> (rename_i h9; split at h9 <;> first | rfl | cases h9)
theorem cats_eq {ad : Nat → Nat} : ∀ st : List AV, ((st.map (cv ad)).map fun v => v.category).sum = cats st
  | [] => rfl
  | v :: r => by
    have := cats_eq (ad := ad) r
    simp only [List.map_cons, List.sum_cons, cats, cv_cat]
    omega
theorem okv_get {L : Nat} {A : AH} {ls : List AV} (h : OKV L A ls) (k : Nat) : okv L A (lget ls k) := by
  unfold lget
  by_cases hk : k < ls.length
  · have : ls.getD k vU = ls[k] := by simp [List.getD, hk]
    rw [this]; exact h _ (List.getElem_mem hk)
  · have : ls.getD k vU = vU := by simp [List.getD, List.getElem?_eq_none (Nat.le_of_not_lt hk)]
    rw [this]; rfl
theorem lget_lt {ls : List AV} {k : Nat} (h : (lget ls k).1 ≠ 8) : k < ls.length := by
  by_cases hk : k < ls.length
  · exact hk
  · exfalso; apply h
    have : ls.getD k vU = vU := by simp [List.getD, List.getElem?_eq_none (Nat.le_of_not_lt hk)]
    unfold lget; rw [this]; rfl
theorem lvi_at {nL : Nat} {ad : Nat → Nat} {ls : List AV} {lsM : Array Slot} (h : LVI nL ad ls lsM) {k : Nat} (ho : lok ls k = true) : lsM[k]? = some (.val (cv ad (lget ls k))) := by
  have hk : k < ls.length := lget_lt (by
    intro h8; simp [lok, h8] at ho)
  exact h.2.2.2 (k, cv ad (lget ls k)) (lvl_mem.mpr ⟨hk, ho, rfl⟩)
theorem lget_set {ls : List AV} {k i : Nat} {v : AV} (hk : k < ls.length) : lget (ls.set k v) i = if i = k then v else lget ls i := by
  unfold lget
  simp only [List.getD, List.getElem?_set]
  by_cases h : k = i
  · subst h; simp [hk]
  · rw [if_neg h, if_neg (fun h2 => h h2.symm)]
theorem lvi_set {nL : Nat} {ad : Nat → Nat} {ls : List AV} {lsM lsM' : Array Slot} {k : Nat} {v : AV} (h : LVI nL ad ls lsM) (hk : k < ls.length) (h1 : v.1 ≠ 1) (h9 : v.1 ≠ 9)
    (h' : lv_has lsM' nL ((k, cv ad v) :: (lvl ad ls).filter (fun q => !(q.1 == k) && !(q.1 + 1 == k && q.2.category == 2)))) : LVI nL ad (lset ls k v) lsM' := by
  have hl : lset ls k v = ls.set k v := by
    unfold lset
    split
    · rename_i h2; exact absurd h2 h1
    · rfl
  rw [hl]
  refine ⟨by rw [List.length_set]; exact h.1, h'.1, h'.2.1, fun q hq => h'.2.2 q ?_⟩
  obtain ⟨q1, q2, q3⟩ := lvl_mem.mp hq
  rw [List.length_set] at q1
  by_cases hqk : q.1 = k
  · rw [lget_set hk, if_pos hqk] at q3
    rw [List.mem_cons]
    exact Or.inl (by rw [← q3, ← hqk])
  · rw [lget_set hk, if_neg hqk] at q3
    have hn : lget (ls.set k v) q.1 = lget ls q.1 := by rw [lget_set hk, if_neg hqk]
    have hc : q.1 + 1 = k → (lget ls q.1).1 ≠ 1 := by
      intro e h2
      unfold lok at q2
      rw [hn, h2, lget_set hk, if_pos e] at q2
      have : (v.1 == 9) = false := by simp [h9]
      rw [this] at q2
      revert q2; decide
    have hlo : lok ls q.1 = true := by
      unfold lok at q2 ⊢
      rw [hn] at q2
      by_cases e : q.1 + 1 = k
      · have h3 : ((lget ls q.1).1 == 1) = false := by simp [hc e]
        rw [h3] at q2 ⊢
        simpa using q2
      · rw [lget_set (i := q.1 + 1) hk, if_neg e] at q2
        exact q2
    rw [List.mem_cons]
    refine Or.inr (List.mem_filter.mpr ⟨lvl_mem.mpr ⟨q1, hlo, q3⟩, ?_⟩)
    have a1 : (q.1 == k) = false := by simp [hqk]
    rw [a1, q3, cv_cat]
    by_cases e : q.1 + 1 = k
    · have : cat (lget ls q.1) = 1 := by
        unfold cat
        split
        · rename_i h3; exact absurd h3 (hc e)
        · rfl
      rw [this]; simp
    · simp [e]
theorem lvi_setl {nL : Nat} {ad : Nat → Nat} {ls : List AV} {lsM lsM' : Array Slot} {k : Nat} {v : AV} (h : LVI nL ad ls lsM) (hk : k + 1 < ls.length) (h1 : v.1 = 1)
    (h' : lv_has lsM' nL ((k, cv ad v) :: (lvl ad ls).filter (fun q => !(q.1 == k) && (!(q.1 == k + 1) && !(q.1 + 1 == k && q.2.category == 2))))) : LVI nL ad (lset ls k v) lsM' := by
  have hl : lset ls k v = (ls.set k v).set (k + 1) vS := by unfold lset; rw [h1]; rfl
  rw [hl]
  have g2 : ∀ i, lget ((ls.set k v).set (k + 1) vS) i = if i = k + 1 then vS else if i = k then v else lget ls i := by
    intro i
    rw [lget_set (by rw [List.length_set]; exact hk), lget_set (by omega)]
  refine ⟨by rw [List.length_set, List.length_set]; exact h.1, h'.1, h'.2.1, fun q hq => h'.2.2 q ?_⟩
  obtain ⟨q1, q2, q3⟩ := lvl_mem.mp hq
  rw [List.length_set, List.length_set] at q1
  by_cases hqk1 : q.1 = k + 1
  · exfalso
    unfold lok at q2
    rw [g2 q.1, if_pos hqk1] at q2
    revert q2
    simp [vS]
  by_cases hqk : q.1 = k
  · rw [g2, if_neg hqk1, if_pos hqk] at q3
    rw [List.mem_cons]
    exact Or.inl (by rw [← q3, ← hqk])
  · have hn : lget ((ls.set k v).set (k + 1) vS) q.1 = lget ls q.1 := by rw [g2, if_neg hqk1, if_neg hqk]
    rw [hn] at q3
    have hc : q.1 + 1 = k → (lget ls q.1).1 ≠ 1 := by
      intro e h2
      unfold lok at q2
      rw [hn, h2, g2, if_neg (by omega), if_pos e, h1] at q2
      revert q2; decide
    have hlo : lok ls q.1 = true := by
      unfold lok at q2 ⊢
      rw [hn] at q2
      by_cases e : q.1 + 1 = k
      · have h3 : ((lget ls q.1).1 == 1) = false := by simp [hc e]
        rw [h3] at q2 ⊢
        simpa using q2
      · rw [g2 (q.1 + 1), if_neg (by omega), if_neg e] at q2
        exact q2
    rw [List.mem_cons]
    refine Or.inr (List.mem_filter.mpr ⟨lvl_mem.mpr ⟨q1, hlo, q3⟩, ?_⟩)
    have a1 : (q.1 == k) = false := by simp [hqk]
    have a2 : (q.1 == k + 1) = false := by simp [hqk1]
    rw [a1, a2, q3, cv_cat]
    by_cases e : q.1 + 1 = k
    · have : cat (lget ls q.1) = 1 := by
        unfold cat
        split
        · rename_i h3; exact absurd h3 (hc e)
        · rfl
      rw [this]; simp
    · simp [e]
theorem okv_set {L : Nat} {A : AH} {ls : List AV} {k : Nat} {v : AV} (h : OKV L A ls) (hv : okv L A v) : OKV L A (lset ls k v) := by
  have hset : ∀ (l : List AV) (i : Nat) (w : AV), OKV L A l → okv L A w → OKV L A (l.set i w) := by
    intro l i w hl hw x hx
    rcases List.mem_or_eq_of_mem_set hx with h1 | h1
    · exact hl x h1
    · rw [h1]; exact hw
  unfold lset
  split
  · exact hset _ _ _ (hset _ _ _ h hv) rfl
  · exact hset _ _ _ h hv
theorem okv_cons {L : Nat} {A : AH} {st : List AV} {v : AV} (hv : okv L A v) (h : OKV L A st) : OKV L A (v :: st) := by
  intro x hx
  rcases List.mem_cons.mp hx with h1 | h1
  · rw [h1]; exact hv
  · exact h x h1
theorem okv_tail {L : Nat} {A : AH} {st : List AV} {v : AV} (h : OKV L A (v :: st)) : OKV L A st := fun x hx => h x (List.mem_cons_of_mem _ hx)
theorem okv_head {L : Nat} {A : AH} {st : List AV} {v : AV} (h : OKV L A (v :: st)) : okv L A v := h v List.mem_cons_self
section SND
variable {p : Program} {l : Launch} {e : Env} {R : Room} {s : State} {m : MethodId} {args : Array Value} {below : List Frame} {meth : Method} {c : Code} {Q : State → Prop}
variable {f : Bool} {D : va_G} {Z : CI4} {base L z0 u0 nL own : Nat} {xs : Nat → Int32} {adS adE : Nat → Nat} {cc : ByteArray} {pc : Nat} {ls st : List AV} {A : AH}
theorem s_iload {k : Nat} (C : CTX p R s m args c D Z base L xs adS nL own cc) (hdg : decode cc pc = .ok (.iload k, 2)) (ht : (lget ls k).1 = 0) (kk : Wok f p l e R s m args below meth c Q D Z base L xs adS adE z0 u0 nL (pc + 2) ls (lget ls k :: st) A) : Wok f p l e R s m args below meth c Q D Z base L xs adS adE z0 u0 nL pc ls st A := by
  intro ad H locs cells slots lsM hI hL ho hs
  have hv := lvi_at hL (k := k) (by unfold lok; rw [ht]; rfl)
  have h := kk ad H locs cells slots lsM hI hL ho (okv_cons (okv_get ho k) hs)
  rw [List.map_cons, cv_0 ht] at h
  rw [cv_0 ht] at hv
  exact lv_iload C.1 C.2.1 hdg hv h
theorem s_iload_n {k : Fin 4} (C : CTX p R s m args c D Z base L xs adS nL own cc) (hdg : decode cc pc = .ok (.iload_n k, 1)) (ht : (lget ls k.val).1 = 0) (kk : Wok f p l e R s m args below meth c Q D Z base L xs adS adE z0 u0 nL (pc + 1) ls (lget ls k.val :: st) A) : Wok f p l e R s m args below meth c Q D Z base L xs adS adE z0 u0 nL pc ls st A := by
  intro ad H locs cells slots lsM hI hL ho hs
  have hv := lvi_at hL (k := k.val) (by unfold lok; rw [ht]; rfl)
  have h := kk ad H locs cells slots lsM hI hL ho (okv_cons (okv_get ho k.val) hs)
  rw [List.map_cons, cv_0 ht] at h
  rw [cv_0 ht] at hv
  exact lv_iload_n C.1 C.2.1 hdg rfl hv h
theorem s_lload {k : Nat} (C : CTX p R s m args c D Z base L xs adS nL own cc) (hdg : decode cc pc = .ok (.lload k, 2)) (ht : (lget ls k).1 = 1) (h9 : (lget ls (k + 1)).1 = 9) (kk : Wok f p l e R s m args below meth c Q D Z base L xs adS adE z0 u0 nL (pc + 2) ls (lget ls k :: st) A) : Wok f p l e R s m args below meth c Q D Z base L xs adS adE z0 u0 nL pc ls st A := by
  intro ad H locs cells slots lsM hI hL ho hs
  have hv := lvi_at hL (k := k) (by unfold lok; rw [ht, h9]; rfl)
  have h := kk ad H locs cells slots lsM hI hL ho (okv_cons (okv_get ho k) hs)
  rw [List.map_cons, cv_1 ht] at h
  rw [cv_1 ht] at hv
  exact lv_lload C.1 C.2.1 hdg hv h
theorem s_lload_n {k : Fin 4} (C : CTX p R s m args c D Z base L xs adS nL own cc) (hdg : decode cc pc = .ok (.lload_n k, 1)) (ht : (lget ls k.val).1 = 1) (h9 : (lget ls (k.val + 1)).1 = 9) (kk : Wok f p l e R s m args below meth c Q D Z base L xs adS adE z0 u0 nL (pc + 1) ls (lget ls k.val :: st) A) : Wok f p l e R s m args below meth c Q D Z base L xs adS adE z0 u0 nL pc ls st A := by
  intro ad H locs cells slots lsM hI hL ho hs
  have hv := lvi_at hL (k := k.val) (by unfold lok; rw [ht, h9]; rfl)
  have h := kk ad H locs cells slots lsM hI hL ho (okv_cons (okv_get ho k.val) hs)
  rw [List.map_cons, cv_1 ht] at h
  rw [cv_1 ht] at hv
  exact lv_lload_n C.1 C.2.1 hdg rfl hv h
theorem s_aload {k : Nat} (C : CTX p R s m args c D Z base L xs adS nL own cc) (hdg : decode cc pc = .ok (.aload k, 2)) (ht : 10 ≤ (lget ls k).1) (kk : Wok f p l e R s m args below meth c Q D Z base L xs adS adE z0 u0 nL (pc + 2) ls (lget ls k :: st) A) : Wok f p l e R s m args below meth c Q D Z base L xs adS adE z0 u0 nL pc ls st A := by
  intro ad H locs cells slots lsM hI hL ho hs
  have hv := lvi_at hL (k := k) (by unfold lok; rw [Nat.ble_eq_true_of_le ht]; simp)
  have h := kk ad H locs cells slots lsM hI hL ho (okv_cons (okv_get ho k) hs)
  rw [List.map_cons, cv_r (by omega)] at h
  rw [cv_r (by omega)] at hv
  by_cases h0 : (lget ls k).2.2.1 = 0
  · rw [h0, rfv_0] at h hv
    exact lv_aloadN C.1 C.2.1 hdg hv h
  · rw [rfv_n h0] at h hv
    exact lv_aload C.1 C.2.1 hdg hv h
theorem s_aload_n {k : Fin 4} (C : CTX p R s m args c D Z base L xs adS nL own cc) (hdg : decode cc pc = .ok (.aload_n k, 1)) (ht : 10 ≤ (lget ls k.val).1) (kk : Wok f p l e R s m args below meth c Q D Z base L xs adS adE z0 u0 nL (pc + 1) ls (lget ls k.val :: st) A) : Wok f p l e R s m args below meth c Q D Z base L xs adS adE z0 u0 nL pc ls st A := by
  intro ad H locs cells slots lsM hI hL ho hs
  have hv := lvi_at hL (k := k.val) (by unfold lok; rw [Nat.ble_eq_true_of_le ht]; simp)
  have h := kk ad H locs cells slots lsM hI hL ho (okv_cons (okv_get ho k.val) hs)
  rw [List.map_cons, cv_r (by omega)] at h
  rw [cv_r (by omega)] at hv
  by_cases h0 : (lget ls k.val).2.2.1 = 0
  · rw [h0, rfv_0] at h hv
    exact lv_aload_nN C.1 C.2.1 hdg rfl hv h
  · rw [rfv_n h0] at h hv
    exact lv_aload_n C.1 C.2.1 hdg rfl hv h
theorem s_istore {k : Nat} {v : AV} (C : CTX p R s m args c D Z base L xs adS nL own cc) (hdg : decode cc pc = .ok (.istore k, 2)) (ht : v.1 = 0) (hk : k < ls.length) (kk : Wok f p l e R s m args below meth c Q D Z base L xs adS adE z0 u0 nL (pc + 2) (lset ls k v) st A) : Wok f p l e R s m args below meth c Q D Z base L xs adS adE z0 u0 nL pc ls (v :: st) A := by
  intro ad H locs cells slots lsM hI hL ho hs
  rw [List.map_cons, cv_0 ht]
  refine lv_istore C.1 C.2.1 hdg hL.2 (by rw [← hL.1]; exact hk) rfl (fun lsM' hl' => ?_)
  rw [← cv_0 (ad := ad) ht] at hl'
  exact kk ad H locs cells slots lsM' hI (lvi_set hL hk (by omega) (by omega) hl') (okv_set ho (okv_head hs)) (okv_tail hs)
theorem s_istore_n {k : Fin 4} {v : AV} (C : CTX p R s m args c D Z base L xs adS nL own cc) (hdg : decode cc pc = .ok (.istore_n k, 1)) (ht : v.1 = 0) (hk : k.val < ls.length) (kk : Wok f p l e R s m args below meth c Q D Z base L xs adS adE z0 u0 nL (pc + 1) (lset ls k.val v) st A) : Wok f p l e R s m args below meth c Q D Z base L xs adS adE z0 u0 nL pc ls (v :: st) A := by
  intro ad H locs cells slots lsM hI hL ho hs
  rw [List.map_cons, cv_0 ht]
  refine lv_istore_n C.1 C.2.1 hdg rfl hL.2 (by rw [← hL.1]; exact hk) rfl (fun lsM' hl' => ?_)
  rw [← cv_0 (ad := ad) ht] at hl'
  exact kk ad H locs cells slots lsM' hI (lvi_set hL hk (by omega) (by omega) hl') (okv_set ho (okv_head hs)) (okv_tail hs)
theorem s_lstore {k : Nat} {v : AV} (C : CTX p R s m args c D Z base L xs adS nL own cc) (hdg : decode cc pc = .ok (.lstore k, 2)) (ht : v.1 = 1) (hk : k + 1 < ls.length) (kk : Wok f p l e R s m args below meth c Q D Z base L xs adS adE z0 u0 nL (pc + 2) (lset ls k v) st A) : Wok f p l e R s m args below meth c Q D Z base L xs adS adE z0 u0 nL pc ls (v :: st) A := by
  intro ad H locs cells slots lsM hI hL ho hs
  rw [List.map_cons, cv_1 ht]
  refine lv_lstore C.1 C.2.1 hdg hL.2 (by rw [← hL.1]; exact hk) rfl (fun lsM' hl' => ?_)
  rw [← cv_1 (ad := ad) ht] at hl'
  exact kk ad H locs cells slots lsM' hI (lvi_setl hL hk ht hl') (okv_set ho (okv_head hs)) (okv_tail hs)
theorem s_lstore_n {k : Fin 4} {v : AV} (C : CTX p R s m args c D Z base L xs adS nL own cc) (hdg : decode cc pc = .ok (.lstore_n k, 1)) (ht : v.1 = 1) (hk : k.val + 1 < ls.length) (kk : Wok f p l e R s m args below meth c Q D Z base L xs adS adE z0 u0 nL (pc + 1) (lset ls k.val v) st A) : Wok f p l e R s m args below meth c Q D Z base L xs adS adE z0 u0 nL pc ls (v :: st) A := by
  intro ad H locs cells slots lsM hI hL ho hs
  rw [List.map_cons, cv_1 ht]
  refine lv_lstore_n C.1 C.2.1 hdg rfl hL.2 (by rw [← hL.1]; exact hk) rfl (fun lsM' hl' => ?_)
  rw [← cv_1 (ad := ad) ht] at hl'
  exact kk ad H locs cells slots lsM' hI (lvi_setl hL hk ht hl') (okv_set ho (okv_head hs)) (okv_tail hs)
theorem s_astore {k : Nat} {v : AV} (C : CTX p R s m args c D Z base L xs adS nL own cc) (hdg : decode cc pc = .ok (.astore k, 2)) (ht : 10 ≤ v.1) (hk : k < ls.length) (kk : Wok f p l e R s m args below meth c Q D Z base L xs adS adE z0 u0 nL (pc + 2) (lset ls k v) st A) : Wok f p l e R s m args below meth c Q D Z base L xs adS adE z0 u0 nL pc ls (v :: st) A := by
  intro ad H locs cells slots lsM hI hL ho hs
  have hr : cv ad v = rfv ad v.2.2.1 := cv_r (by omega)
  rw [List.map_cons, hr]
  by_cases h0 : v.2.2.1 = 0
  · rw [h0, rfv_0]
    refine lv_astoreN C.1 C.2.1 hdg hL.2 (by rw [← hL.1]; exact hk) rfl (fun lsM' hl' => ?_)
    rw [← rfv_0 ad, ← h0, ← hr] at hl'
    exact kk ad H locs cells slots lsM' hI (lvi_set hL hk (by omega) (by omega) hl') (okv_set ho (okv_head hs)) (okv_tail hs)
  · rw [rfv_n h0]
    refine lv_astore C.1 C.2.1 hdg hL.2 (by rw [← hL.1]; exact hk) rfl (fun lsM' hl' => ?_)
    rw [← rfv_n (ad := ad) h0, ← hr] at hl'
    exact kk ad H locs cells slots lsM' hI (lvi_set hL hk (by omega) (by omega) hl') (okv_set ho (okv_head hs)) (okv_tail hs)
theorem s_astore_n {k : Fin 4} {v : AV} (C : CTX p R s m args c D Z base L xs adS nL own cc) (hdg : decode cc pc = .ok (.astore_n k, 1)) (ht : 10 ≤ v.1) (hk : k.val < ls.length) (kk : Wok f p l e R s m args below meth c Q D Z base L xs adS adE z0 u0 nL (pc + 1) (lset ls k.val v) st A) : Wok f p l e R s m args below meth c Q D Z base L xs adS adE z0 u0 nL pc ls (v :: st) A := by
  intro ad H locs cells slots lsM hI hL ho hs
  have hr : cv ad v = rfv ad v.2.2.1 := cv_r (by omega)
  rw [List.map_cons, hr]
  by_cases h0 : v.2.2.1 = 0
  · rw [h0, rfv_0]
    refine lv_astore_nN C.1 C.2.1 hdg rfl hL.2 (by rw [← hL.1]; exact hk) rfl (fun lsM' hl' => ?_)
    rw [← rfv_0 ad, ← h0, ← hr] at hl'
    exact kk ad H locs cells slots lsM' hI (lvi_set hL hk (by omega) (by omega) hl') (okv_set ho (okv_head hs)) (okv_tail hs)
  · rw [rfv_n h0]
    refine lv_astore_n C.1 C.2.1 hdg rfl hL.2 (by rw [← hL.1]; exact hk) rfl (fun lsM' hl' => ?_)
    rw [← rfv_n (ad := ad) h0, ← hr] at hl'
    exact kk ad H locs cells slots lsM' hI (lvi_set hL hk (by omega) (by omega) hl') (okv_set ho (okv_head hs)) (okv_tail hs)
theorem s_iinc {k : Nat} {z : Int} (C : CTX p R s m args c D Z base L xs adS nL own cc) (hdg : decode cc pc = .ok (.iinc k z, 3)) (ht : (lget ls k).1 = 0) (hk : k < ls.length) (kk : Wok f p l e R s m args below meth c Q D Z base L xs adS adE z0 u0 nL (pc + 3) (lset ls k (vI (w32 ((lget ls k).2.1 + z)))) st A) : Wok f p l e R s m args below meth c Q D Z base L xs adS adE z0 u0 nL pc ls st A := by
  intro ad H locs cells slots lsM hI hL ho hs
  have hm : (k, cv ad (lget ls k)) ∈ lvl ad ls := lvl_mem.mpr ⟨hk, by unfold lok; rw [ht]; rfl, rfl⟩
  obtain ⟨j, hj⟩ := List.getElem?_of_mem hm
  rw [cv_0 ht] at hj
  refine lv_iinc (v := c32 (w32 ((lget ls k).2.1 + z))) C.1 C.2.1 hdg hL.2 hj (by rw [c32_add]; rfl) (by rw [← hL.1]; exact hk) rfl (fun lsM' hl' => ?_)
  exact kk ad H locs cells slots lsM' hI (lvi_set (v := vI (w32 ((lget ls k).2.1 + z))) hL hk (show (0 : Nat) ≠ 1 by decide) (show (0 : Nat) ≠ 9 by decide) hl') (okv_set ho (in32_w32 _)) hs
theorem s_pushI {z : Int} {n : Nat} (row : ∀ (H : Heap) (locs : List Loc) (cells slots : Nat) (lsM : Array Slot) (rest : List Value), W p l e R s m args below meth c H locs cells slots Q (F0 m (pc + n) lsM (.int (c32 z) :: rest)) → W p l e R s m args below meth c H locs cells slots Q (F0 m pc lsM rest)) (hz : in32 z) (kk : Wok f p l e R s m args below meth c Q D Z base L xs adS adE z0 u0 nL (pc + n) ls (vI z :: st) A) : Wok f p l e R s m args below meth c Q D Z base L xs adS adE z0 u0 nL pc ls st A := by
  intro ad H locs cells slots lsM hI hL ho hs
  exact row _ _ _ _ _ _ (kk ad H locs cells slots lsM hI hL ho (okv_cons hz hs))
theorem s_pushL {z : Int} {n : Nat} (row : ∀ (H : Heap) (locs : List Loc) (cells slots : Nat) (lsM : Array Slot) (rest : List Value), W p l e R s m args below meth c H locs cells slots Q (F0 m (pc + n) lsM (.long (c64 z) :: rest)) → W p l e R s m args below meth c H locs cells slots Q (F0 m pc lsM rest)) (hz : in64 z) (kk : Wok f p l e R s m args below meth c Q D Z base L xs adS adE z0 u0 nL (pc + n) ls (vL z :: st) A) : Wok f p l e R s m args below meth c Q D Z base L xs adS adE z0 u0 nL pc ls st A := by
  intro ad H locs cells slots lsM hI hL ho hs
  exact row _ _ _ _ _ _ (kk ad H locs cells slots lsM hI hL ho (okv_cons hz hs))
theorem s_b2 {g : Int → Int → Int} {fo : Int32 → Int32 → Int32} {x y : Int} {w w' : Nat × Nat} (row : ∀ (H : Heap) (locs : List Loc) (cells slots : Nat) (lsM : Array Slot) (rest : List Value), in32 x → in32 y → W p l e R s m args below meth c H locs cells slots Q (F0 m (pc + 1) lsM (.int (fo (c32 x) (c32 y)) :: rest)) → W p l e R s m args below meth c H locs cells slots Q (F0 m pc lsM (.int (c32 y) :: .int (c32 x) :: rest)))
    (hf : in32 x → in32 y → c32 (g x y) = fo (c32 x) (c32 y) ∧ in32 (g x y)) (kk : Wok f p l e R s m args below meth c Q D Z base L xs adS adE z0 u0 nL (pc + 1) ls (vI (g x y) :: st) A) : Wok f p l e R s m args below meth c Q D Z base L xs adS adE z0 u0 nL pc ls ((0, y, w) :: (0, x, w') :: st) A := by
  intro ad H locs cells slots lsM hI hL ho hs
  have hy : in32 y := okv_head hs
  have hx : in32 x := okv_head (okv_tail hs)
  have h := kk ad H locs cells slots lsM hI hL ho (okv_cons (hf hx hy).2 (okv_tail (okv_tail hs)))
  refine row _ _ _ _ _ _ hx hy ?_
  rw [← (hf hx hy).1]
  exact h
theorem s_l2 {g : Int → Int → Int} {fo : Int64 → Int64 → Int64} {x y : Int} {w w' : Nat × Nat} (row : ∀ (H : Heap) (locs : List Loc) (cells slots : Nat) (lsM : Array Slot) (rest : List Value), in64 x → in64 y → W p l e R s m args below meth c H locs cells slots Q (F0 m (pc + 1) lsM (.long (fo (c64 x) (c64 y)) :: rest)) → W p l e R s m args below meth c H locs cells slots Q (F0 m pc lsM (.long (c64 y) :: .long (c64 x) :: rest)))
    (hf : in64 x → in64 y → c64 (g x y) = fo (c64 x) (c64 y) ∧ in64 (g x y)) (kk : Wok f p l e R s m args below meth c Q D Z base L xs adS adE z0 u0 nL (pc + 1) ls (vL (g x y) :: st) A) : Wok f p l e R s m args below meth c Q D Z base L xs adS adE z0 u0 nL pc ls ((1, y, w) :: (1, x, w') :: st) A := by
  intro ad H locs cells slots lsM hI hL ho hs
  have hy : in64 y := okv_head hs
  have hx : in64 x := okv_head (okv_tail hs)
  have h := kk ad H locs cells slots lsM hI hL ho (okv_cons (hf hx hy).2 (okv_tail (okv_tail hs)))
  refine row _ _ _ _ _ _ hx hy ?_
  rw [← (hf hx hy).1]
  exact h
end SND
