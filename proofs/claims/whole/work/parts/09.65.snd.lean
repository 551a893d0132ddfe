/-! instructions on the heap -/
def vfit (t : Nat) (v : AV) : Prop := match t with
  | 0 => v.1 = 0
  | 1 => v.1 = 1
  | 2 => v.1 = 0 ∧ (v.2.1 = 0 ∨ v.2.1 = 1)
  | _ => 10 ≤ v.1
theorem fit_ok {ty : FieldType} {t : Nat} {ad : Nat → Nat} {v : AV} (h : tyOK ty t = true) (hv : vfit t v) : narrow ty (cv ad v) = cv ad v ∧ fits ty (cv ad v) = true := by
  have href : 10 ≤ v.1 → (cv ad v = .null ∨ ∃ a, cv ad v = .ref a) := by
    intro h10
    rw [cv_r (by omega)]
    by_cases h0 : v.2.2.1 = 0
    · rw [h0]; exact Or.inl rfl
    · rw [rfv_n h0]; exact Or.inr ⟨_, rfl⟩
  cases ty with
  | int =>
    have h0 : t = 0 := by simpa [tyOK] using h
    subst h0
    rw [cv_0 hv]; exact ⟨rfl, rfl⟩
  | long =>
    have h0 : t = 1 := by simpa [tyOK] using h
    subst h0
    rw [cv_1 hv]; exact ⟨rfl, rfl⟩
  | boolean =>
    have h0 : t = 2 := by simpa [tyOK] using h
    subst h0
    rw [cv_0 hv.1]
    rcases hv.2 with h1 | h1 <;> rw [h1] <;> exact ⟨by decide, by decide⟩
  | object n =>
    have h0 : 10 ≤ t := Nat.le_of_ble_eq_true h
    have h1 : 10 ≤ v.1 := by
      clear h
      match t, h0, hv with
      | t' + 10, _, hv => exact hv
    rcases href h1 with e | ⟨a, e⟩ <;> rw [e] <;> exact ⟨rfl, rfl⟩
  | array n =>
    have h0 : 10 ≤ t := Nat.le_of_ble_eq_true h
    have h1 : 10 ≤ v.1 := by
      clear h
      match t, h0, hv with
      | t' + 10, _, hv => exact hv
    rcases href h1 with e | ⟨a, e⟩ <;> rw [e] <;> exact ⟨rfl, rfl⟩
  | _ => cases h
section SND3
variable {p : Program} {l : Launch} {e : Env} {R : Room} {s : State} {m : MethodId} {args : Array Value} {below : List Frame} {meth : Method} {c : Code} {Q : State → Prop}
variable {f : Bool} {D : va_G} {Z : CI4} {base L z0 u0 nL own : Nat} {xs : Nat → Int32} {adS adE : Nat → Nat} {cc : ByteArray} {pc : Nat} {ls st : List AV} {A : AH}
theorem s_getO {i k j a n : Nat} {z : Int} {V : AV} (C : CTX p R s m args c D Z base L xs adS nL own cc) (hdg : decode cc pc = .ok (.getfield i, 3)) (hk : k < 12) (hj : j < nf k) (hl : (own, i, k, j) ∈ ftT) (ha : a ≠ 0) (hV : ∀ ad, cv ad V = fld A ad (fty k j) a j) (hok : WF L xs A → 40 ≤ a → a < sz A → kd A a = k → okv L A V) (kk : Wok f p l e R s m args below meth c Q D Z base L xs adS adE z0 u0 nL (pc + 3) ls (V :: st) A) : Wok f p l e R s m args below meth c Q D Z base L xs adS adE z0 u0 nL pc ls ((10 + k, z, a, n) :: st) A := by
  intro ad H locs cells slots lsM hI hL ho hs
  obtain ⟨h40, hsz, hkd, -⟩ := ok_obj (okv_head hs) (Or.inl hk) ha
  have h := kk ad H locs cells slots lsM hI hL ho (okv_cons (hok hI.2.2.2.1.1 h40 hsz hkd) (okv_tail hs))
  rw [List.map_cons, hV] at h
  rw [List.map_cons, cv_r (show 2 ≤ 10 + k by omega), rfv_n (show (10 + k, z, a, n).2.2.1 ≠ 0 from ha)]
  have he := wd_at (Z := Z) (ad := ad) h40 hsz
  rw [wce_obj hkd hk] at he
  have hlk := C.2.2.2.2.1 _ (fl_in hl)
  rw [fdn_k hk] at hlk
  exact va_get (ref := ((vwc k).2.1 j).1) (own := cnm own) (C := (vwc k).1) (T := (vwc k).2.1) (N := (vwc k).2.2) C.1 C.2.1 C.2.2.2.2.1 (vw_in hk) C.2.2.2.1 C.2.2.2.2.2.1 hI.1 (a - 40) he (vw_at hk) j (by rw [vw_nf k hk]; exact hj) hlk (fun _ h9 => h9) (flds_at hj) hdg h
theorem wdf_in (s a : Nat) : in32 (wdf s a) := by
  have key : ∀ l : List Int, (∀ x ∈ l, in32 x) → ∀ i, in32 (l.getD i 0) := by
    intro l hl i
    by_cases hi : i < l.length
    · have : l.getD i 0 = l[i] := by simp [List.getD, hi]
      rw [this]; exact hl _ (List.getElem_mem hi)
    · have : l.getD i 0 = 0 := by simp [List.getD, List.getElem?_eq_none (Nat.le_of_not_lt hi)]
      rw [this]; exact in32_0
  unfold wdf
  split
  · exact key wK (by unfold in32; decide) _
  · exact key wF (by unfold in32; decide) _
  · exact key wO (by unfold in32; decide) _
theorem wdf_c (l : List Int) (i : Nat) : (l.map c32).getD i 0 = c32 (l.getD i 0) := by
  by_cases hi : i < l.length
  · simp [List.getD, hi]
  · simp [List.getD, List.getElem?_eq_none (Nat.le_of_not_lt hi)]; rfl
theorem s_getE {i j a n : Nat} {z : Int} (C : CTX p R s m args c D Z base L xs adS nL own cc) (hdg : decode cc pc = .ok (.getfield i, 3)) (hj : j < 3) (hl : (own, i, 12, j) ∈ ftT) (ha : a ≠ 0) (kk : Wok f p l e R s m args below meth c Q D Z base L xs adS adE z0 u0 nL (pc + 3) ls (vI (wdf j a) :: st) A) : Wok f p l e R s m args below meth c Q D Z base L xs adS adE z0 u0 nL pc ls ((22, z, a, n) :: st) A := by
  intro ad H locs cells slots lsM hI hL ho hs
  have h := kk ad H locs cells slots lsM hI hL ho (okv_cons (wdf_in j a) (okv_tail hs))
  rw [List.map_cons, cv_0 rfl] at h
  rw [List.map_cons, cv_r (show 2 ≤ 22 by omega), rfv_n (show (22, z, a, n).2.2.1 ≠ 0 from ha)]
  have hr := okr_22 (okv_head hs) rfl
  have h37 : 1 ≤ a ∧ a ≤ 37 := by omega
  have hlk := C.2.2.2.2.1 _ (fl_in hl)
  have had : ad a = (fun i => adS (i + 1)) (a - 1) := by
    show ad a = adS (a - 1 + 1)
    rw [show a - 1 + 1 = a by omega]
    exact hI.2.2.2.2.1 a (by omega)
  show W p l e R s m args below meth c H locs cells slots Q (F0 m pc lsM (.ref (ad a) :: st.map (cv ad)))
  rw [had]
  have hE := C.2.2.2.2.2.2.1.1
  have hlen : a - 1 < wN.length := by rw [show wN.length = 37 from rfl]; omega
  match j, hj with
  | 0, _ =>
    refine va_getE (ad := fun i => adS (i + 1)) (i := a - 1) (q := ("SilentCourt$Word", "key", "I", wK.map c32)) C.1 C.2.1 hE hlen hI.2.2.1 C.2.2.2.1 (by unfold wFl; exact List.mem_cons_self) hlk (fun _ h9 => h9) hdg ?_
    show W p l e R s m args below meth c H locs cells slots Q (F0 m (pc + 3) lsM (.int ((wK.map c32).getD (a - 1) 0) :: st.map (cv ad)))
    rw [wdf_c]; exact h
  | 1, _ =>
    refine va_getE (ad := fun i => adS (i + 1)) (i := a - 1) (q := ("SilentCourt$Word", "fact", "I", wF.map c32)) C.1 C.2.1 hE hlen hI.2.2.1 C.2.2.2.1 (by unfold wFl; exact List.mem_cons_of_mem _ List.mem_cons_self) hlk (fun _ h9 => h9) hdg ?_
    show W p l e R s m args below meth c H locs cells slots Q (F0 m (pc + 3) lsM (.int ((wF.map c32).getD (a - 1) 0) :: st.map (cv ad)))
    rw [wdf_c]; exact h
  | 2, _ =>
    refine va_getE (ad := fun i => adS (i + 1)) (i := a - 1) (q := ("SilentCourt$Word", "own", "Z", wO.map c32)) C.1 C.2.1 hE hlen hI.2.2.1 C.2.2.2.1 (by unfold wFl; exact List.mem_cons_of_mem _ (List.mem_cons_of_mem _ List.mem_cons_self)) hlk (fun _ h9 => h9) hdg ?_
    show W p l e R s m args below meth c H locs cells slots Q (F0 m (pc + 3) lsM (.int ((wO.map c32).getD (a - 1) 0) :: st.map (cv ad)))
    rw [wdf_c]; exact h
/-- a store into a field: A' is the heap behind it -/
theorem s_put {i k j a n : Nat} {z : Int} {v : AV} {A' : AH} (C : CTX p R s m args c D Z base L xs adS nL own cc) (hdg : decode cc pc = .ok (.putfield i, 3)) (hk : k < 12) (hj : j < nf k) (hl : (own, i, k, j) ∈ ftT) (ha : a ≠ 0)
    (hfin : ((vwc k).2.1 j).2.2.2 = true → meth.name = "<init>" ∧ own = k)
    (hv : vfit (fty k j) v)
    (hsh : A'.2.2 = A.2.2) (hfv : ∀ ad, fld A' ad (fty k j) a j = cv ad v) (hfo : ∀ ad i', i' ≠ j → fld A' ad (fty k i') a i' = fld A ad (fty k i') a i') (hb : ∀ ad b, b ≠ a → wce Z A' ad b = wce Z A ad b)
    (hwf : WF L xs A → 40 ≤ a → a < sz A → kd A a = k → okv L A v → WF L xs A') (hly : LayOK A → 40 ≤ a → kd A a = k → f = true → LayOK A') (kk : Wok f p l e R s m args below meth c Q D Z base L xs adS adE z0 u0 nL (pc + 3) ls st A') : Wok f p l e R s m args below meth c Q D Z base L xs adS adE z0 u0 nL pc ls (v :: (10 + k, z, a, n) :: st) A := by
  intro ad H locs cells slots lsM hI hL ho hs
  obtain ⟨h40, hsz, hkd, -⟩ := ok_obj (okv_head (okv_tail hs)) (Or.inl hk) ha
  have hz : sz A' = sz A := by unfold sz; rw [hsh]
  have hslA : sl A' = sl A := by unfold sl; rw [hsh]
  have hok : ∀ w, okv L A w → okv L A' w := by
    intro w hw
    have e1 : ∀ b, kd A' b = kd A b := fun b => by unfold kd; rw [hsh]
    have e2 : ∀ b, ln A' b = ln A b := fun b => by unfold ln; rw [hsh]
    unfold okv okref lenf at hw ⊢
    simp only [hz, e1, e2]
    exact hw
  have he := wd_at (Z := Z) (ad := ad) h40 hsz
  rw [wce_obj hkd hk] at he
  have hkd' : kd A' a = k := by unfold kd at hkd ⊢; rw [hsh]; exact hkd
  have hset : (wd Z A ad).set (a - 40) (ad a, .inr (k, (flds A ad k a).set j (cv ad v))) = wd Z A' ad := by
    rw [flds_set (A' := A') (fun _ => hfv ad) (hfo ad), ← wce_obj (Z := Z) hkd' hk]
    exact wd_set hsh (hb ad) h40
  have hlk := C.2.2.2.2.1 _ (fl_in hl)
  rw [fdn_k hk] at hlk
  obtain ⟨hp1, hp2⟩ := vw_pty k hk j hj
  obtain ⟨f1, f2⟩ := fit_ok (ad := ad) hp2 hv
  have fin : ∀ (H1 : Heap) (locs1 : List Loc), va_P D vwCl ((wd Z A ad).set (a - 40) (ad a, .inr (k, (flds A ad k a).set j (cv ad v)))) H1 → va_D (fun q => base ≤ q) ((wd Z A ad).set (a - 40) (ad a, .inr (k, (flds A ad k a).set j (cv ad v)))) → va_S (fun q => base ≤ q) s.heap H1 locs1 → W p l e R s m args below meth c H1 locs1 cells slots Q (F0 m (pc + 3) lsM (st.map (cv ad))) := by
    intro H1 locs1 q1 q2 q3
    rw [hset] at q1 q2
    exact kk ad H1 locs1 cells slots lsM ⟨q1, q2, q3, ⟨hwf hI.2.2.2.1.1 h40 hsz hkd (okv_head hs), fun q => hly (hI.2.2.2.1.2 q) h40 hkd q⟩, hI.2.2.2.2.1, hI.2.2.2.2.2.1, by rw [hz]; exact hI.2.2.2.2.2.2.1, by rw [hslA]; exact hI.2.2.2.2.2.2.2⟩ hL (fun w hw => hok w (ho w hw)) (fun w hw => hok w (okv_tail (okv_tail hs) w hw))
  have hst : (v :: (10 + k, z, a, n) :: st).map (cv ad) = cv ad v :: .ref (ad a) :: st.map (cv ad) := by
    rw [List.map_cons, List.map_cons, cv_r (v := (10 + k, z, a, n)) (show 2 ≤ 10 + k by omega), rfv_n (show (10 + k, z, a, n).2.2.1 ≠ 0 from ha)]
  rw [hst]
  have hnN : j < (flds A ad k a).length := by unfold flds; simp [hj]
  by_cases hf : ((vwc k).2.1 j).2.2.2 = true
  · exact va_putF (ref := ((vwc k).2.1 j).1) (own := cnm own) (C := (vwc k).1) (T := (vwc k).2.1) (N := (vwc k).2.2) C.1 C.2.1 C.2.2.2.2.1 (vw_in hk) (pty k) (fun q hq => (vw_pty k hk q (by rw [vw_nf k hk] at hq; exact hq)).1) (fun x hx y hy => vw_names k hk x (by rw [vw_nf k hk] at hx; exact hx) y (by rw [vw_nf k hk] at hy; exact hy)) C.2.2.2.1 C.2.2.2.2.2.1 hI.1 hI.2.1 hI.2.2.1 (a - 40) he (vw_at hk) j (by rw [vw_nf k hk]; exact hj) hlk (fun _ h9 => h9) hf (hfin hf).1 (by rw [(hfin hf).2]; exact vw_own k hk j hj) hp1 f1 f2 hnN hdg fin
  · exact va_put (ref := ((vwc k).2.1 j).1) (own := cnm own) (C := (vwc k).1) (T := (vwc k).2.1) (N := (vwc k).2.2) C.1 C.2.1 C.2.2.2.2.1 (vw_in hk) (pty k) (fun q hq => (vw_pty k hk q (by rw [vw_nf k hk] at hq; exact hq)).1) (fun x hx y hy => vw_names k hk x (by rw [vw_nf k hk] at hx; exact hx) y (by rw [vw_nf k hk] at hy; exact hy)) C.2.2.2.1 C.2.2.2.2.2.1 hI.1 hI.2.1 hI.2.2.1 (a - 40) he (vw_at hk) j (by rw [vw_nf k hk]; exact hj) hlk (fun _ h9 => h9) (by simpa using hf) hp1 f1 f2 hnN hdg fin
end SND3
