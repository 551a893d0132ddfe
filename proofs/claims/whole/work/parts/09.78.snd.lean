def R_law : String := "SilentCourtLaw"
def lw_P (b : Addr) (xs : List Int32) (args : Array Value) (s : State) : Prop := args = #[.ref b] ∧ s.IntsAt b xs ∧ xs.length ≤ 3072 ∧ (Jvm.Cond.and given_1 narrow_1).before args s = true
def lw_Q (_ : Array Value) (s : State) (o : Outcome) (t : State) : Prop := o = .returned (some (.int 1)) ∧ Framed s o t [] 600000 7302250
def lw_Z (below : List Frame) (a : Array Value) (s : State) : State → Prop := fun t => ∃ o, t.status = .running ∧ Ended t below o ∧ lw_Q a s o t
/-- the law's own end, with 1 on the stack, nothing written that was there before, its room as the claim has it -/
theorem lw_ret {p : Program} {l : Launch} {e : Env} {s : State} {m : MethodId} {below : List Frame} {meth : Method} {c : Code} {b : Nat} (hx : p.tables.exec = Jvm.exec) (hb : c.code = code) (hr : meth.sig.returnType = ret) (hlocks : meth.locks = false) {pc : Nat} {H : Heap} {ls : Array Slot} (hdg : decode code pc = .ok (.ireturn, 1)) : W p l e room_1 s m #[Value.ref b] below meth c H [] 600000 7302250 (lw_Z below #[Value.ref b] s) (F0 m pc ls [.int 1]) := by
  intro T hT X
  obtain ⟨fs, hret, hrun, hended, hW, hframe⟩ := X.leave (v := some (.int 1)) (hlocks := hlocks) (fun h => by rw [hr] at h; cases h)
  have hmeth' : T.vm.method? m = some meth := X.method'
  refine ⟨T.setFrames fs, ?_, .returned (some (.int 1)), hrun, hended, rfl, ⟨_, rfl⟩, hW, hframe⟩
  jvm_step X.here [X.here.top, hx, hb, hdg, hmeth', hr, ret, narrow_b1]
  (try refine ⟨rfl, ?_⟩); (try refine ⟨rfl, ?_⟩)
  first | (intro acts; rw [hret _ acts rfl rfl rfl]) | rw [hret _ _ rfl rfl rfl]
  exact Steps.refl _
/-- what holds at the law's entry: the machine, the code, the tables' words (any of lw_tbl by 'hts w (by decide +kernel)'), the script of L ints xs at the cell b, what the Statement gives of the start (any of its parts by flat_of_before) -/
def lw_At (p : Program) (s : State) (m : MethodId) (meth : Method) (c : Code) (b L : Nat) (xs : Nat → Int32) : Prop :=
  p.tables.exec = Jvm.exec ∧ c.code = code ∧ meth.sig.returnType = ret ∧ c.maxLocals = 4 ∧ s.vm.findClass R_law = some m.cls ∧ (∀ w ∈ lw_tbl, w.before #[Value.ref b] s = true) ∧ va_X b L xs s s.heap ∧ b < s.heap.size ∧ meth.locks = false ∧ (Jvm.Cond.and given_1 narrow_1).before #[Value.ref b] s = true
theorem sz_A0 (L : Nat) (xs : Nat → Int32) : sz (A0 L xs) = 40 := by unfold sz A0; rw [List.length_replicate]
theorem sl_A0 (L : Nat) (xs : Nat → Int32) : sl (A0 L xs) = 0 := by
  show ((List.replicate 40 ((99, 0) : Nat × Nat)).map (fun q => q.2)).sum = 0
  decide
theorem wf_A0 (L : Nat) (xs : Nat → Int32) : WF L xs (A0 L xs) := by
  refine ⟨by rw [sz_A0]; omega, fun a h1 h2 => ?_, fun a j h1 h2 => ?_, fun j hj => ?_⟩
  · rw [sz_A0] at h2; omega
  · rw [sz_A0] at h2; omega
  · show (if 39 = 39 ∧ j < L then (xs j).toInt else 0) = _
    rw [if_pos ⟨rfl, hj⟩]
set_option maxHeartbeats 4000000 in
theorem whole_of (hpure : PureLaw) {p : Program} {e : Env} {s : State} {m : MethodId} {below : List Frame} {meth : Method} {c : Code} (l : Launch) {b L : Nat} {xs : Nat → Int32} (hL : L ≤ 3072) (C0 : lw_At p s m meth c b L xs) : W p l e room_1 s m #[Value.ref b] below meth c s.heap [] 0 0 (lw_Z below #[Value.ref b] s) (entryFrame m ([Value.ref b] : List Value).toArray 4) := by
  obtain ⟨hx, hb, hr, hml, hown, hts, hX, hbl, hlocks, hgv⟩ := C0
  obtain ⟨d, n, A1, A', ls1, hd, hblk, hlay, hgo, hz1, hz2⟩ := hpure L xs hL
  obtain ⟨D, Z, hK⟩ := k_all hts
  obtain ⟨adS, hSt, hb39⟩ := sta_all hts hgv hX hbl hL
  have hck := chk_all 310 (by omega)
  unfold chkM at hck
  simp only [Bool.and_eq_true] at hck
  have hbs : okBs 16 false code (pbs 310) = true := hck.1.1.1
  have C : CTX p room_1 s m #[Value.ref b] c D Z s.heap.size L xs adS 4 16 code := ⟨hx, hb, hml, hown, fun w hw => hts w (List.mem_filter.mp hw).1, hK, hSt, by decide, by decide⟩
  have hwd : wd Z (A0 L xs) adS = [] := by unfold wd; rw [sz_A0]; rfl
  have ho : OKV L (A0 L xs) [vR 35 39 L] := fun w hw => by
    rw [List.mem_singleton.mp hw]
    exact okv_ref (t := 35) (by omega) (Or.inr rfl) (fun _ _ => rfl)
  have hent : [vR 35 39 L, vU, vU, vU] = padU 4 (enter [vR 35 39 L]) := rfl
  rw [hent] at hblk
  have hav : ([vR 35 39 L].map (cv adS)) = [Value.ref b] := by
    show [cv adS (vR 35 39 L)] = _
    rw [cv_r (show 2 ≤ 35 by omega), rfv_n (show (vR 35 39 L).2.2.1 ≠ 0 from (show (39 : Nat) ≠ 0 by decide))]
    show [Value.ref (adS 39)] = _
    rw [hb39]
  have hlv := lvi_entry (ad := adS) (n := 4) ho (show 1 ≤ 4 by decide)
  rw [hav] at hlv
  rw [lg_entry_eq]
  have hRm : d + 1 ≤ room_1.frames ∧ 60 * d + 60 ≤ room_1.locals := ⟨by show d + 1 ≤ 2048; omega, by show 60 * d + 60 ≤ 84000; omega⟩
  have hroom : sz (some (vI 1), A').2 ≤ 40 + room_1.cells ∧ sl (some (vI 1), A').2 ≤ 0 + room_1.slots := ⟨by show sz A' ≤ 40 + 600000; omega, by show sl A' ≤ 0 + 7302250; omega⟩
  have kI : ∀ (f : Bool) (pc : Nat) (ls : List AV) (A2 : AH) (x : Int) (w : Nat × Nat), ((2 : Nat) = 0 ∨ ((2 : Nat) = 2 ∧ (x = 0 ∨ x = 1))) → decode code pc = .ok (.ireturn, 1) → ((some (vI 1), A') : Option AV × AH) = (some (vI x), A2) → Wok f p l e room_1 s m #[Value.ref b] below meth c (lw_Z below #[Value.ref b] s) D Z s.heap.size L xs adS adS 40 0 4 pc ls [(0, x, w)] A2 := by
    intro f pc ls A2 x w _ hdg er ad' H locs cells slots lsM hI hLv ho1 hs
    cases er
    refine va_forget (fun q hq => hI.2.2.1.2.2 q hq) ?_
    have c1 := hI.2.2.2.2.2.2.1
    have c2 := hI.2.2.2.2.2.2.2
    refine W.widen (k := 600000) (n := 7302250) (by omega) (by omega) ?_
    exact lw_ret hx hb hr hlocks hdg
  have hloop : Wok true p l e room_1 s m #[Value.ref b] below meth c (lw_Z below #[Value.ref b] s) D Z s.heap.size L xs adS adS 40 0 4 18 ls1 [] A1 :=
    go_sound (f := true) (d := d) (own := 16) (ini := false) (r := (some (vI 1), A')) C hbs (fun h => by cases h) (fun mi av A v A' q => ⟨runF_pfx _ _ _ _ _ _ q, runF_sound chk_all hall_lay l d mi av A v A' q⟩) (fun mi av A v A' q => ⟨runN_pfx _ _ _ _ _ _ q, runN_sound chk_all l d mi av A v A' q⟩) (fun _ => hall_lay d) hRm hroom (kI true) (fun pc ls A1 x w q => by omega) (fun pc ls A1 v q => by omega) (fun pc ls A1 q => by omega) n 18 ls1 [] A1 hgo
  have hok0 := look_ok (own := 16) (ini := false) (cc := code) 0 hbs
  have hb1 := hblk (fun t ls st A => @ite _ (t = 18 ∧ ls = ls1 ∧ st = [] ∧ A = A1) (Classical.propDecidable _) (some (some (vI 1), A')) none)
  rw [if_pos ⟨rfl, rfl, rfl, rfl⟩] at hb1
  refine blk_sound (f := false) (d := d) (own := 16) (ini := false) (z0 := 40) (u0 := 0) (adE := adS) (r := (some (vI 1), A')) C (fun h => by cases h) (fun mi av A v A' q => ⟨run_pfx _ _ _ _ _ _ q, run_sound chk_all l d mi av A v A' q⟩) (fun mi av A v A' q => ⟨run_pfx _ _ _ _ _ _ q, run_sound chk_all l d mi av A v A' q⟩) (fun q => by cases q) hRm hroom ?_ ?_ (kI false) (fun pc ls A1 x w q => by omega) (fun pc ls A1 v q => by omega) (fun pc ls A1 q => by omega) _ 0 _ [] (A0 L xs) hok0 hb1 adS s.heap [] 0 0 _ ⟨by rw [hwd]; exact fun k q h => by simp at h, by rw [hwd]; exact ⟨fun i j p q h => by simp at h, fun k q h => by simp at h⟩, va_S.rf, ⟨wf_A0 L xs, fun q => by cases q⟩, fun _ _ => rfl, fun _ _ => rfl, by rw [sz_A0], by rw [sl_A0]⟩ hlv (okv_pad (okv_enter ho)) (fun w hw => by cases hw)
  · intro t ls st A q
    split at q
    · rename_i h4
      obtain ⟨-, -, -, rfl⟩ := h4
      exact go_pfx (f := true) (r := (some (vI 1), A')) (fun mi av A v A' q => runF_pfx _ _ _ _ _ _ q) (fun mi av A v A' q => runN_pfx _ _ _ _ _ _ q) _ _ _ _ _ hgo
    · cases q
  · intro t ls st A q
    split at q
    · rename_i h4
      obtain ⟨rfl, rfl, rfl, rfl⟩ := h4
      intro ad' H locs cells slots lsM hI hLv ho1 hs
      exact hloop ad' H locs cells slots lsM (inv_t hI (fun _ => hlay)) hLv ho1 hs
    · cases q
