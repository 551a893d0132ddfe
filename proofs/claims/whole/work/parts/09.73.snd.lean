/-! stretches, methods, calls d deep -/
def okB (own : Nat) (ini : Bool) (cc : ByteArray) : Nat → List EI → Bool
  | _, [] => true
  | pc, e :: es => okI own ini cc pc e && okB own ini cc (pc + e.2.1) es
def okBs (own : Nat) (ini : Bool) (cc : ByteArray) (bs : List (Nat × List EI)) : Bool := bs.all (fun q => okB own ini cc q.1 q.2)
theorem look_ok {own : Nat} {ini : Bool} {cc : ByteArray} : ∀ {bs : List (Nat × List EI)} (pc : Nat), okBs own ini cc bs = true → okB own ini cc pc (look bs pc) = true
  | [], _, _ => rfl
  | q :: r, pc, h => by
    unfold okBs at h
    rw [List.all_cons, Bool.and_eq_true] at h
    unfold look
    split
    · rename_i e
      rw [← Nat.eq_of_beq_eq_true e]
      exact h.1
    · exact look_ok pc h.2
def rzOK (z : Nat) (t : Option FieldType) : Bool := match t with
  | none => z == 3
  | some .int => z == 0
  | some .long => z == 1
  | some .boolean => z == 2
  | some (.object _) => Nat.ble 10 z
  | some (.array _) => Nat.ble 10 z
  | _ => false
section SND10
variable {p : Program} {l : Launch} {e : Env} {R : Room} {s : State} {m : MethodId} {args : Array Value} {below : List Frame} {meth : Method} {c : Code} {Q : State → Prop}
variable {f : Bool} {D : va_G} {Z : CI4} {base L z0 u0 nL own : Nat} {xs : Nat → Int32} {adS adE : Nat → Nat} {cc : ByteArray}
theorem blk_sound {d rz : Nat} {ini : Bool} {S SN : SX} {jp : Nat → NX} {r : Option AV × AH} (C : CTX p R s m args c D Z base L xs adS nL own cc) (hini : ini = true → meth.name = "<init>")
    (hS : ∀ mi av A v A', S mi av A = some (v, A') → pfx A A' ∧ MTA f l d mi av A v A') (hSN : ∀ mi av A v A', SN mi av A = some (v, A') → pfx A A' ∧ MTA false l d mi av A v A') (hSL : f = true → ∀ k n mj A A', 40 ≤ sz A → LayOK A → SN mj [vR (10 + k) (sz A) 0] (nw A k n) = some (none, A') → LayOK A') (hR : d + 1 ≤ R.frames ∧ 60 * d + 60 ≤ R.locals) (hroom : sz r.2 ≤ z0 + R.cells ∧ sl r.2 ≤ u0 + R.slots)
    (hmj : ∀ t ls' st' A', jp t ls' st' A' = some r → pfx A' r.2) (kj : ∀ t ls' st' A', jp t ls' st' A' = some r → Wok f p l e R s m args below meth c Q D Z base L xs adS adE z0 u0 nL t ls' st' A')
    (kI : ∀ pc ls A x w, (rz = 0 ∨ (rz = 2 ∧ (x = 0 ∨ x = 1))) → decode cc pc = .ok (.ireturn, 1) → r = (some (vI x), A) → Wok f p l e R s m args below meth c Q D Z base L xs adS adE z0 u0 nL pc ls [(0, x, w)] A)
    (kL : ∀ pc ls A x w, rz = 1 → decode cc pc = .ok (.lreturn, 1) → r = (some (vL x), A) → Wok f p l e R s m args below meth c Q D Z base L xs adS adE z0 u0 nL pc ls [(1, x, w)] A)
    (kA : ∀ pc ls A v, 10 ≤ rz → v.1 = rz → decode cc pc = .ok (.areturn, 1) → r = (some v, A) → Wok f p l e R s m args below meth c Q D Z base L xs adS adE z0 u0 nL pc ls [v] A)
    (kV : ∀ pc ls A, rz = 3 → decode cc pc = .ok (.return_, 1) → r = (none, A) → Wok f p l e R s m args below meth c Q D Z base L xs adS adE z0 u0 nL pc ls [] A) :
    ∀ (es : List EI) (pc : Nat) (ls st : List AV) (A : AH), okB own ini cc pc es = true → blk f rz S SN jp es pc ls st A = some r → Wok f p l e R s m args below meth c Q D Z base L xs adS adE z0 u0 nL pc ls st A
  | [], _, _, _, _, _, h => kj _ _ _ _ h
  | e0 :: es, pc, ls, st, A, hok, h => by
    unfold okB at hok
    rw [Bool.and_eq_true] at hok
    exact ins_sound (e0 := e0) C hok.1 hini hS hSN hSL hR hroom (fun ls' st' A' q => blk_pfx (f := f) (fun mi av A v A' q => (hS mi av A v A' q).1) (fun mi av A v A' q => (hSN mi av A v A' q).1) hmj es _ ls' st' A' q) (fun ls' st' A' q => blk_sound C hini hS hSN hSL hR hroom hmj kj kI kL kA kV es _ ls' st' A' hok.2 q) kj (fun x w a b c d => by subst d; exact kI _ _ _ _ _ a b c) (fun x w a b c d => by subst d; exact kL _ _ _ _ _ a b c) (fun v a b c d f => by subst f; exact kA _ _ _ _ a b c d) (fun a b c d => by subst d; exact kV _ _ _ a b c) h
theorem go_sound {d rz : Nat} {ini : Bool} {S SN : SX} {bs : List (Nat × List EI)} {r : Option AV × AH} (C : CTX p R s m args c D Z base L xs adS nL own cc) (hbs : okBs own ini cc bs = true) (hini : ini = true → meth.name = "<init>")
    (hS : ∀ mi av A v A', S mi av A = some (v, A') → pfx A A' ∧ MTA f l d mi av A v A') (hSN : ∀ mi av A v A', SN mi av A = some (v, A') → pfx A A' ∧ MTA false l d mi av A v A') (hSL : f = true → ∀ k n mj A A', 40 ≤ sz A → LayOK A → SN mj [vR (10 + k) (sz A) 0] (nw A k n) = some (none, A') → LayOK A') (hR : d + 1 ≤ R.frames ∧ 60 * d + 60 ≤ R.locals) (hroom : sz r.2 ≤ z0 + R.cells ∧ sl r.2 ≤ u0 + R.slots)
    (kI : ∀ pc ls A x w, (rz = 0 ∨ (rz = 2 ∧ (x = 0 ∨ x = 1))) → decode cc pc = .ok (.ireturn, 1) → r = (some (vI x), A) → Wok f p l e R s m args below meth c Q D Z base L xs adS adE z0 u0 nL pc ls [(0, x, w)] A)
    (kL : ∀ pc ls A x w, rz = 1 → decode cc pc = .ok (.lreturn, 1) → r = (some (vL x), A) → Wok f p l e R s m args below meth c Q D Z base L xs adS adE z0 u0 nL pc ls [(1, x, w)] A)
    (kA : ∀ pc ls A v, 10 ≤ rz → v.1 = rz → decode cc pc = .ok (.areturn, 1) → r = (some v, A) → Wok f p l e R s m args below meth c Q D Z base L xs adS adE z0 u0 nL pc ls [v] A)
    (kV : ∀ pc ls A, rz = 3 → decode cc pc = .ok (.return_, 1) → r = (none, A) → Wok f p l e R s m args below meth c Q D Z base L xs adS adE z0 u0 nL pc ls [] A) :
    ∀ (n pc : Nat) (ls st : List AV) (A : AH), go f rz S SN bs n pc ls st A = some r → Wok f p l e R s m args below meth c Q D Z base L xs adS adE z0 u0 nL pc ls st A
  | 0, _, _, _, _, h => by cases h
  | n + 1, pc, ls, st, A, h => by
    unfold go at h
    split at h
    · cases h
    · rename_i e1 es1 heq
      have hok := look_ok (own := own) (ini := ini) (cc := cc) pc hbs
      rw [heq] at hok
      exact blk_sound C hini hS hSN hSL hR hroom (fun t ls' st' A' q => go_pfx (f := f) (fun mi av A v A' q => (hS mi av A v A' q).1) (fun mi av A v A' q => (hSN mi av A v A' q).1) n t ls' st' A' q) (fun t ls' st' A' q => go_sound C hbs hini hS hSN hSL hR hroom kI kL kA kV n t ls' st' A' q) kI kL kA kV (e1 :: es1) pc ls st A hok h
end SND10
/-- the places of a method's values at its entry -/
theorem ent_get : ∀ (av : List AV) (L : Nat) (A : AH) (ad : Nat → Nat) (i0 i : Nat), OKV L A av → lok (enter av) i = true → (i0 + i, cv ad (lget (enter av) i)) ∈ lv_args i0 (av.map (cv ad)) := by
  intro av
  induction av with
  | nil =>
    intro L A ad i0 i ho h
    exact absurd h (by simp [enter, lok, lget, vU])
  | cons v r ih =>
    intro L A ad i0 i ho h
    have hv := okv_head ho
    by_cases h1 : v.1 = 1
    · have he : enter (v :: r) = v :: vS :: enter r := by
        show (match v.1 with | 1 => v :: vS :: enter r | _ => v :: enter r) = _
        rw [h1]; rfl
      rw [he] at h ⊢
      have hc : (cv ad v).category = 2 := by rw [cv_cat]; unfold cat; rw [h1]; rfl
      show _ ∈ (i0, cv ad v) :: lv_args (if (cv ad v).category = 2 then i0 + 2 else i0 + 1) (r.map (cv ad))
      rw [if_pos hc]
      match i, h with
      | 0, _ => exact List.mem_cons_self
      | 1, h => exact absurd h (by simp [lok, lget, vS])
      | i + 2, h =>
        have := ih L A ad (i0 + 2) i (okv_tail ho) h
        rw [show i0 + (i + 2) = i0 + 2 + i by omega]
        exact List.mem_cons_of_mem _ this
    · have he : enter (v :: r) = v :: enter r := by
        show (match v.1 with | 1 => v :: vS :: enter r | _ => v :: enter r) = _
        split
        · rename_i q; exact absurd q h1
        · rfl
      rw [he] at h ⊢
      have hc : ¬ (cv ad v).category = 2 := by
        rw [cv_cat]; unfold cat
        split
        · rename_i q; exact absurd q h1
        · decide
      show _ ∈ (i0, cv ad v) :: lv_args (if (cv ad v).category = 2 then i0 + 2 else i0 + 1) (r.map (cv ad))
      rw [if_neg hc]
      match i, h with
      | 0, _ => exact List.mem_cons_self
      | i + 1, h =>
        have := ih L A ad (i0 + 1) i (okv_tail ho) h
        rw [show i0 + (i + 1) = i0 + 1 + i by omega]
        exact List.mem_cons_of_mem _ this
theorem ent_len : ∀ (av : List AV) (ad : Nat → Nat), (lg_sl (av.map (cv ad))).length = (enter av).length := by
  intro av ad
  induction av with
  | nil => rfl
  | cons v r ih =>
    have e1 : lg_sl ((v :: r).map (cv ad)) = (if (cv ad v).category = 2 then [.val (cv ad v), .second] else [.val (cv ad v)]) ++ lg_sl (r.map (cv ad)) := by
      unfold lg_sl; rw [List.map_cons, List.flatMap_cons]
    rw [e1, List.length_append, ih]
    by_cases h1 : v.1 = 1
    · have he : enter (v :: r) = v :: vS :: enter r := by
        show (match v.1 with | 1 => v :: vS :: enter r | _ => v :: enter r) = _
        rw [h1]; rfl
      have hc : (cv ad v).category = 2 := by rw [cv_cat]; unfold cat; rw [h1]; rfl
      rw [if_pos hc, he]
      simp only [List.length_cons, List.length_nil]; omega
    · have he : enter (v :: r) = v :: enter r := by
        show (match v.1 with | 1 => v :: vS :: enter r | _ => v :: enter r) = _
        split
        · rename_i q; exact absurd q h1
        · rfl
      have hc : ¬ (cv ad v).category = 2 := by
        rw [cv_cat]; unfold cat
        split
        · rename_i q; exact absurd q h1
        · decide
      rw [if_neg hc, he]
      simp only [List.length_cons, List.length_nil]; omega
theorem lget_pad {l : List AV} {n i : Nat} : lget (padU n l) i = lget l i := by
  unfold lget padU
  simp only [List.getD, List.getElem?_append]
  by_cases h : i < l.length
  · rw [if_pos h]
  · rw [if_neg h, List.getElem?_eq_none (Nat.le_of_not_lt h)]
    by_cases h2 : i - l.length < n - l.length
    · rw [List.getElem?_replicate, if_pos h2]; rfl
    · rw [List.getElem?_replicate, if_neg h2]
theorem okv_enter {L : Nat} {A : AH} : ∀ {av : List AV}, OKV L A av → OKV L A (enter av)
  | [], h => h
  | v :: r, h => by
    have ih := okv_enter (okv_tail h)
    show OKV L A (match v.1 with | 1 => v :: vS :: enter r | _ => v :: enter r)
    split
    · exact okv_cons (okv_head h) (okv_cons rfl ih)
    · exact okv_cons (okv_head h) ih
theorem okv_pad {L : Nat} {A : AH} {l : List AV} {n : Nat} (h : OKV L A l) : OKV L A (padU n l) := by
  intro v hv
  rcases List.mem_append.mp hv with q | q
  · exact h v q
  · rw [List.eq_of_mem_replicate q]; rfl
theorem lvi_entry {L : Nat} {A : AH} {av : List AV} {ad : Nat → Nat} {n : Nat} (ho : OKV L A av) (hn : (enter av).length ≤ n) : LVI n ad (padU n (enter av)) ((lg_sl (av.map (cv ad)) ++ List.replicate (n - (lg_sl (av.map (cv ad))).length) Slot.unset).toArray) := by
  have h := lv_entry (av.map (cv ad)) (n := n) (by rw [ent_len]; exact hn)
  refine ⟨by unfold padU; rw [List.length_append, List.length_replicate]; omega, h.1, h.2.1, fun q hq => h.2.2 q ?_⟩
  obtain ⟨q1, q2, q3⟩ := lvl_mem.mp hq
  have q4 : lok (enter av) q.1 = true := by
    unfold lok at q2 ⊢
    rw [lget_pad, lget_pad] at q2
    exact q2
  rw [lget_pad] at q3
  have := ent_get av L A ad 0 q.1 ho q4
  rw [Nat.zero_add, ← q3] at this
  exact this
