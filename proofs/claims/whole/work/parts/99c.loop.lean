/-! the law's loop, over the machine -/
section LOOP
variable {p : Program} {l : Launch} {e : Env} {s : State} {m : MethodId} {below : List Frame} {meth : Method} {c : Code} {b L : Nat} {xs : Nat → Int32} {D : va_G} {Z : CI4} {adS : Nat → Nat}
theorem lw_kI (hx : p.tables.exec = Jvm.exec) (hb : c.code = code) (hr : meth.sig.returnType = ret) (hlocks : meth.locks = false) {A' : AH} (hz1 : sz A' ≤ 600040) (hz2 : sl A' ≤ 7302250) : ∀ (f : Bool) (pc : Nat) (ls : List AV) (A2 : AH) (x : Int) (w : Nat × Nat), ((2 : Nat) = 0 ∨ ((2 : Nat) = 2 ∧ (x = 0 ∨ x = 1))) → decode code pc = .ok (.ireturn, 1) → ((some (vI 1), A') : Option AV × AH) = (some (vI x), A2) → Wok f p l e room_1 s m #[Value.ref b] below meth c (lw_Z below #[Value.ref b] s) D Z s.heap.size L xs adS adS 40 0 4 pc ls [(0, x, w)] A2 := by
  intro f pc ls A2 x w _ hdg er ad' H locs cells slots lsM hI hLv ho1 hs
  cases er
  refine va_forget (fun q hq => hI.2.2.1.2.2 q hq) ?_
  have c1 := hI.2.2.2.2.2.2.1
  have c2 := hI.2.2.2.2.2.2.2
  refine W.widen (k := 600000) (n := 7302250) (by omega) (by omega) ?_
  exact lw_ret hx hb hr hlocks hdg
theorem lw_Rm : 100 + 1 ≤ room_1.frames ∧ 60 * 100 + 60 ≤ room_1.locals := ⟨by show 100 + 1 ≤ 2048; omega, by show 60 * 100 + 60 ≤ 84000; omega⟩
theorem lw_step (C : CTX p room_1 s m #[Value.ref b] c D Z s.heap.size L xs adS 4 16 code) (hx : p.tables.exec = Jvm.exec) (hb : c.code = code) (hr : meth.sig.returnType = ret) (hlocks : meth.locks = false) {A' : AH} (hz1 : sz A' ≤ 600040) (hz2 : sl A' ≤ 7302250) {es : List EI} {pc pc' : Nat} {ls st ls' st' : List AV} {A : AH} (hok : okB 16 false code pc es = true) (hblk : WF L xs A → ∀ jp : Nat → NX, blk true 2 (runF 100) (runN 100) jp es pc ls st A = jp pc' ls' st' A') (kW : Wok true p l e room_1 s m #[Value.ref b] below meth c (lw_Z below #[Value.ref b] s) D Z s.heap.size L xs adS adS 40 0 4 pc' ls' st' A') : Wok true p l e room_1 s m #[Value.ref b] below meth c (lw_Z below #[Value.ref b] s) D Z s.heap.size L xs adS adS 40 0 4 pc ls st A := by
  intro ad H locs cells slots lsM hI hLv ho hs
  have hb1 := hblk hI.2.2.2.1.1 (fun t ls st A => @ite _ (t = pc' ∧ ls = ls' ∧ st = st' ∧ A = A') (Classical.propDecidable _) (some (some (vI 1), A')) none)
  rw [if_pos ⟨rfl, rfl, rfl, rfl⟩] at hb1
  have hroom : sz (some (vI 1), A').2 ≤ 40 + room_1.cells ∧ sl (some (vI 1), A').2 ≤ 0 + room_1.slots := ⟨by show sz A' ≤ 40 + 600000; omega, by show sl A' ≤ 0 + 7302250; omega⟩
  refine blk_sound (f := true) (d := 100) (own := 16) (ini := false) (z0 := 40) (u0 := 0) (adE := adS) (r := (some (vI 1), A')) C (fun h => by cases h) (fun mi av A v A' q => ⟨runF_pfx _ _ _ _ _ _ q, runF_soundN chk_all hall_lay l 100 mi av A v A' q⟩) (fun mi av A v A' q => ⟨runN_pfx _ _ _ _ _ _ q, runN_soundN chk_all l 100 mi av A v A' q⟩) (fun _ => hall_lay 100) lw_Rm hroom ?_ ?_ (lw_kI hx hb hr hlocks hz1 hz2 true) (fun pc ls A1 x w q => by omega) (fun pc ls A1 v q => by omega) (fun pc ls A1 q => by omega) es pc ls st A hok hb1 ad H locs cells slots lsM hI hLv ho hs
  · intro t ls st A q
    split at q
    · rename_i h4
      obtain ⟨-, -, -, rfl⟩ := h4
      exact pfx_rf _
    · cases q
  · intro t ls st A q
    split at q
    · rename_i h4
      obtain ⟨rfl, rfl, rfl, rfl⟩ := h4
      exact kW
    · cases q
theorem lw_end (C : CTX p room_1 s m #[Value.ref b] c D Z s.heap.size L xs adS 4 16 code) (hx : p.tables.exec = Jvm.exec) (hb : c.code = code) (hr : meth.sig.returnType = ret) (hlocks : meth.locks = false) (hbs : okBs 16 false code (pbs 32) = true) {A : AH} (hz1 : sz A ≤ 600040) (hz2 : sl A ≤ 7302250) (i : Int) : Wok true p l e room_1 s m #[Value.ref b] below meth c (lw_Z below #[Value.ref b] s) D Z s.heap.size L xs adS adS 40 0 4 1061 [vR 35 39 L, vR 20 40 0, vR 21 190 0, vI i] [] A := by
  have hroom : sz (some (vI 1), A).2 ≤ 40 + room_1.cells ∧ sl (some (vI 1), A).2 ≤ 0 + room_1.slots := ⟨by show sz A ≤ 40 + 600000; omega, by show sl A ≤ 0 + 7302250; omega⟩
  exact go_sound (f := true) (d := 100) (own := 16) (ini := false) (r := (some (vI 1), A)) C hbs (fun h => by cases h) (fun mi av A v A' q => ⟨runF_pfx _ _ _ _ _ _ q, runF_soundN chk_all hall_lay l 100 mi av A v A' q⟩) (fun mi av A v A' q => ⟨runN_pfx _ _ _ _ _ _ q, runN_soundN chk_all l 100 mi av A v A' q⟩) (fun _ => hall_lay 100) lw_Rm hroom (lw_kI hx hb hr hlocks hz1 hz2 true) (fun pc ls A1 x w q => by omega) (fun pc ls A1 v q => by omega) (fun pc ls A1 q => by omega) 5 1061 _ [] A (q_L_law_1061 (runF 100) (runN 100) 4 L i A)
theorem x32 (x : Int32) : -2147483648 ≤ x.toInt ∧ x.toInt < 2147483648 := ⟨Int32.le_toInt x, Int32.toInt_lt x⟩
theorem REL_sz {n : Nat} {A : AH} (r : REL n A) (hn : n ≤ 1000) : sz A ≤ 600040 ∧ sl A ≤ 7302250 := by
  have := r.2.2.2.2.2.2.2.2.2.2.2.2
  unfold RM at this
  omega

theorem okw_18 : okB 16 false code 18 lw_18 = true := kkl_18

theorem okw_176 : okB 16 false code 176 lw1_176 = true ∧ okB 16 false code 205 lw2_176 = true := by
  have e : okB 16 false code 176 (lw1_176 ++ lw2_176) = true := kkl_176
  rw [okB_app, Bool.and_eq_true] at e
  exact e

theorem okw_239 : okB 16 false code 239 lw1_239 = true ∧ okB 16 false code 248 lw2_239 = true := by
  have e : okB 16 false code 239 (lw1_239 ++ lw2_239) = true := kkl_239
  rw [okB_app, Bool.and_eq_true] at e
  exact e

theorem okw_262 : okB 16 false code 262 lw1_262 = true ∧ okB 16 false code 266 lw2_262 = true := by
  have e : okB 16 false code 262 (lw1_262 ++ lw2_262) = true := kkl_262
  rw [okB_app, Bool.and_eq_true] at e
  exact e

theorem okw_275 : okB 16 false code 275 lw1_275 = true ∧ okB 16 false code 284 lw2_275 = true := by
  have e : okB 16 false code 275 (lw1_275 ++ lw2_275) = true := kkl_275
  rw [okB_app, Bool.and_eq_true] at e
  exact e

theorem okw_298 : okB 16 false code 298 lw1_298 = true ∧ okB 16 false code 307 lw2_298 = true := by
  have e : okB 16 false code 298 (lw1_298 ++ lw2_298) = true := kkl_298
  rw [okB_app, Bool.and_eq_true] at e
  exact e

theorem okw_321 : okB 16 false code 321 lw1_321 = true ∧ okB 16 false code 325 lw2_321 = true := by
  have e : okB 16 false code 321 (lw1_321 ++ lw2_321) = true := kkl_321
  rw [okB_app, Bool.and_eq_true] at e
  exact e

theorem okw_334 : okB 16 false code 334 lw1_334 = true ∧ okB 16 false code 353 lw2_334 = true := by
  have e : okB 16 false code 334 (lw1_334 ++ lw2_334) = true := kkl_334
  rw [okB_app, Bool.and_eq_true] at e
  exact e

theorem okw_377 : okB 16 false code 377 lw1_377 = true ∧ okB 16 false code 391 lw2_377 = true := by
  have e : okB 16 false code 377 (lw1_377 ++ lw2_377) = true := kkl_377
  rw [okB_app, Bool.and_eq_true] at e
  exact e

theorem okw_410 : okB 16 false code 410 lw1_410 = true ∧ okB 16 false code 419 lw2_410 = true := by
  have e : okB 16 false code 410 (lw1_410 ++ lw2_410) = true := kkl_410
  rw [okB_app, Bool.and_eq_true] at e
  exact e

theorem okw_433 : okB 16 false code 433 lw1_433 = true ∧ okB 16 false code 447 lw2_433 = true := by
  have e : okB 16 false code 433 (lw1_433 ++ lw2_433) = true := kkl_433
  rw [okB_app, Bool.and_eq_true] at e
  exact e

theorem okw_466 : okB 16 false code 466 lw1_466 = true ∧ okB 16 false code 480 lw2_466 = true := by
  have e : okB 16 false code 466 (lw1_466 ++ lw2_466) = true := kkl_466
  rw [okB_app, Bool.and_eq_true] at e
  exact e

theorem okw_499 : okB 16 false code 499 lw1_499 = true ∧ okB 16 false code 513 lw2_499 = true := by
  have e : okB 16 false code 499 (lw1_499 ++ lw2_499) = true := kkl_499
  rw [okB_app, Bool.and_eq_true] at e
  exact e

theorem okw_532 : okB 16 false code 532 lw1_532 = true ∧ okB 16 false code 541 lw2_532 = true := by
  have e : okB 16 false code 532 (lw1_532 ++ lw2_532) = true := kkl_532
  rw [okB_app, Bool.and_eq_true] at e
  exact e

theorem okw_556 : okB 16 false code 556 lw1_556 = true ∧ okB 16 false code 565 lw2_556 = true := by
  have e : okB 16 false code 556 (lw1_556 ++ lw2_556) = true := kkl_556
  rw [okB_app, Bool.and_eq_true] at e
  exact e

theorem okw_579 : okB 16 false code 579 lw1_579 = true ∧ okB 16 false code 603 lw2_579 = true := by
  have e : okB 16 false code 579 (lw1_579 ++ lw2_579) = true := kkl_579
  rw [okB_app, Bool.and_eq_true] at e
  exact e

theorem okw_632 : okB 16 false code 632 lw1_632 = true ∧ okB 16 false code 646 lw2_632 = true := by
  have e : okB 16 false code 632 (lw1_632 ++ lw2_632) = true := kkl_632
  rw [okB_app, Bool.and_eq_true] at e
  exact e

theorem okw_665 : okB 16 false code 665 lw1_665 = true ∧ okB 16 false code 679 lw2_665 = true := by
  have e : okB 16 false code 665 (lw1_665 ++ lw2_665) = true := kkl_665
  rw [okB_app, Bool.and_eq_true] at e
  exact e

theorem okw_699 : okB 16 false code 699 lw1_699 = true ∧ okB 16 false code 713 lw2_699 = true := by
  have e : okB 16 false code 699 (lw1_699 ++ lw2_699) = true := kkl_699
  rw [okB_app, Bool.and_eq_true] at e
  exact e

theorem okw_732 : okB 16 false code 732 lw1_732 = true ∧ okB 16 false code 746 lw2_732 = true := by
  have e : okB 16 false code 732 (lw1_732 ++ lw2_732) = true := kkl_732
  rw [okB_app, Bool.and_eq_true] at e
  exact e

theorem okw_765 : okB 16 false code 765 lw1_765 = true ∧ okB 16 false code 774 lw2_765 = true := by
  have e : okB 16 false code 765 (lw1_765 ++ lw2_765) = true := kkl_765
  rw [okB_app, Bool.and_eq_true] at e
  exact e

theorem okw_788 : okB 16 false code 788 lw1_788 = true ∧ okB 16 false code 797 lw2_788 = true := by
  have e : okB 16 false code 788 (lw1_788 ++ lw2_788) = true := kkl_788
  rw [okB_app, Bool.and_eq_true] at e
  exact e

theorem okw_811 : okB 16 false code 811 lw1_811 = true ∧ okB 16 false code 820 lw2_811 = true := by
  have e : okB 16 false code 811 (lw1_811 ++ lw2_811) = true := kkl_811
  rw [okB_app, Bool.and_eq_true] at e
  exact e

theorem okw_834 : okB 16 false code 834 lw1_834 = true ∧ okB 16 false code 848 lw2_834 = true := by
  have e : okB 16 false code 834 (lw1_834 ++ lw2_834) = true := kkl_834
  rw [okB_app, Bool.and_eq_true] at e
  exact e

theorem okw_867 : okB 16 false code 867 lw1_867 = true ∧ okB 16 false code 886 lw2_867 = true := by
  have e : okB 16 false code 867 (lw1_867 ++ lw2_867) = true := kkl_867
  rw [okB_app, Bool.and_eq_true] at e
  exact e

theorem okw_910 : okB 16 false code 910 lw1_910 = true ∧ okB 16 false code 919 lw2_910 = true := by
  have e : okB 16 false code 910 (lw1_910 ++ lw2_910) = true := kkl_910
  rw [okB_app, Bool.and_eq_true] at e
  exact e

theorem okw_933 : okB 16 false code 933 lw1_933 = true ∧ okB 16 false code 937 lw2_933 = true := by
  have e : okB 16 false code 933 (lw1_933 ++ lw2_933) = true := kkl_933
  rw [okB_app, Bool.and_eq_true] at e
  exact e

theorem okw_946 : okB 16 false code 946 lw1_946 = true ∧ okB 16 false code 955 lw2_946 = true := by
  have e : okB 16 false code 946 (lw1_946 ++ lw2_946) = true := kkl_946
  rw [okB_app, Bool.and_eq_true] at e
  exact e

theorem okw_969 : okB 16 false code 969 lw1_969 = true ∧ okB 16 false code 973 lw2_969 = true := by
  have e : okB 16 false code 969 (lw1_969 ++ lw2_969) = true := kkl_969
  rw [okB_app, Bool.and_eq_true] at e
  exact e

theorem okw_983 : okB 16 false code 983 lw1_983 = true ∧ okB 16 false code 987 lw2_983 = true := by
  have e : okB 16 false code 983 (lw1_983 ++ lw2_983) = true := kkl_983
  rw [okB_app, Bool.and_eq_true] at e
  exact e

theorem okw_996 : okB 16 false code 996 lw1_996 = true ∧ okB 16 false code 1005 lw2_996 = true := by
  have e : okB 16 false code 996 (lw1_996 ++ lw2_996) = true := kkl_996
  rw [okB_app, Bool.and_eq_true] at e
  exact e

theorem okw_1019 : okB 16 false code 1019 lw1_1019 = true ∧ okB 16 false code 1023 lw2_1019 = true := by
  have e : okB 16 false code 1019 (lw1_1019 ++ lw2_1019) = true := kkl_1019
  rw [okB_app, Bool.and_eq_true] at e
  exact e

theorem okw_1032 : okB 16 false code 1032 lw1_1032 = true ∧ okB 16 false code 1041 lw2_1032 = true := by
  have e : okB 16 false code 1032 (lw1_1032 ++ lw2_1032) = true := kkl_1032
  rw [okB_app, Bool.and_eq_true] at e
  exact e

theorem okw_1055 : okB 16 false code 1055 lw_1055 = true := kkl_1055

theorem okw_1061 : okB 16 false code 1061 lw_1061 = true := kkl_1061

theorem lw_c_176 (C : CTX p room_1 s m #[Value.ref b] c D Z s.heap.size L xs adS 4 16 code) (hx : p.tables.exec = Jvm.exec) (hb : c.code = code) (hr : meth.sig.returnType = ret) (hlocks : meth.locks = false) {k : Nat} (hk : k ≤ 900) {i : Int} (h0 : 0 ≤ i) (hL : i + 6 ≤ (L : Int)) (hL2 : L ≤ 3072) {A : AH} (r : REL k A) (kW : ∀ A2, REL (k + 1) A2 → Wok true p l e room_1 s m #[Value.ref b] below meth c (lw_Z below #[Value.ref b] s) D Z s.heap.size L xs adS adS 40 0 4 1055 [vR 35 39 L, vR 20 40 0, vR 21 190 0, vI i] [] A2) : Wok true p l e room_1 s m #[Value.ref b] below meth c (lw_Z below #[Value.ref b] s) D Z s.heap.size L xs adS adS 40 0 4 176 [vR 35 39 L, vR 20 40 0, vR 21 190 0, vI i] [] A := by
  have cp : CP 100 k 109 150 [vI ((xs (i + 1).toNat).toInt), vI ((xs (i + 2).toNat).toInt), vI ((xs (i + 3).toNat).toInt), vI ((xs (i + 4).toNat).toInt), vI ((xs (i + 5).toNat).toInt)] A := c_feed 97 k (by omega) ((xs (i + 1).toNat).toInt) ((xs (i + 2).toNat).toInt) ((xs (i + 3).toNat).toInt) ((xs (i + 4).toNat).toInt) ((xs (i + 5).toNat).toInt) A r
  obtain ⟨v, A1, A2, r1, r2, rel⟩ := cp
  obtain ⟨y, hy⟩ := runF_int (d := 99) r1 (by decide)
  injection hy with hy
  subst hy
  have pf := runF_pfx _ _ _ _ _ _ r2
  have q1 := pfx_sz pf
  have q2 := pfx_sl pf
  obtain ⟨z1, z2⟩ := REL_sz rel (by omega)
  have w1 : w32 (i + 1) = i + 1 := wid (by omega) (by omega)
  have w2 : w32 (i + 2) = i + 2 := wid (by omega) (by omega)
  have w3 : w32 (i + 3) = i + 3 := wid (by omega) (by omega)
  have w4 : w32 (i + 4) = i + 4 := wid (by omega) (by omega)
  have w5 : w32 (i + 5) = i + 5 := wid (by omega) (by omega)
  refine lw_step C hx hb hr hlocks (A' := A1) (ls' := [vR 35 39 L, vR 20 40 0, vR 21 190 0, vI i]) (st' := [vI y]) (by omega) (by omega) okw_176.1 (fun wf jp => ?_) (lw_step C hx hb hr hlocks (A' := A2) z1 z2 okw_176.2 (fun wf jp => ?_) (kW A2 rel))
  · rw [b1_176]
    simp only [w1, w2, w3, w4, w5]
    rw [if_pos ⟨by omega, by omega⟩, if_pos ⟨by omega, by omega⟩, if_pos ⟨by omega, by omega⟩, if_pos ⟨by omega, by omega⟩, if_pos ⟨by omega, by omega⟩, wf.2.2.2 (i + 1).toNat (by omega), wf.2.2.2 (i + 2).toNat (by omega), wf.2.2.2 (i + 3).toNat (by omega), wf.2.2.2 (i + 4).toNat (by omega), wf.2.2.2 (i + 5).toNat (by omega), r1, cI_v]
  · rw [b2_176]
    simp only [w1, w2, w3, w4, w5]
    rw [if_pos ⟨by omega, by omega⟩, if_pos ⟨by omega, by omega⟩, if_pos ⟨by omega, by omega⟩, if_pos ⟨by omega, by omega⟩, if_pos ⟨by omega, by omega⟩, wf.2.2.2 (i + 1).toNat (by omega), wf.2.2.2 (i + 2).toNat (by omega), wf.2.2.2 (i + 3).toNat (by omega), wf.2.2.2 (i + 4).toNat (by omega), wf.2.2.2 (i + 5).toNat (by omega), r2, cI_v, if_pos rfl]

theorem lw_c_239 (C : CTX p room_1 s m #[Value.ref b] c D Z s.heap.size L xs adS 4 16 code) (hx : p.tables.exec = Jvm.exec) (hb : c.code = code) (hr : meth.sig.returnType = ret) (hlocks : meth.locks = false) {k : Nat} (hk : k ≤ 900) {i : Int} (h0 : 0 ≤ i) (hL : i + 6 ≤ (L : Int)) (hL2 : L ≤ 3072) {A : AH} (r : REL k A) (kW : ∀ A2, REL (k + 1) A2 → Wok true p l e room_1 s m #[Value.ref b] below meth c (lw_Z below #[Value.ref b] s) D Z s.heap.size L xs adS adS 40 0 4 1055 [vR 35 39 L, vR 20 40 0, vR 21 190 0, vI i] [] A2) : Wok true p l e room_1 s m #[Value.ref b] below meth c (lw_Z below #[Value.ref b] s) D Z s.heap.size L xs adS adS 40 0 4 239 [vR 35 39 L, vR 20 40 0, vR 21 190 0, vI i] [] A := by
  have cp : CP 100 k 110 151 [vI ((xs (i + 1).toNat).toInt)] A := c_end 98 k (by omega) ((xs (i + 1).toNat).toInt) A r
  obtain ⟨v, A1, A2, r1, r2, rel⟩ := cp
  obtain ⟨y, hy⟩ := runF_int (d := 99) r1 (by decide)
  injection hy with hy
  subst hy
  have pf := runF_pfx _ _ _ _ _ _ r2
  have q1 := pfx_sz pf
  have q2 := pfx_sl pf
  obtain ⟨z1, z2⟩ := REL_sz rel (by omega)
  have w1 : w32 (i + 1) = i + 1 := wid (by omega) (by omega)
  refine lw_step C hx hb hr hlocks (A' := A1) (ls' := [vR 35 39 L, vR 20 40 0, vR 21 190 0, vI i]) (st' := [vI y]) (by omega) (by omega) okw_239.1 (fun wf jp => ?_) (lw_step C hx hb hr hlocks (A' := A2) z1 z2 okw_239.2 (fun wf jp => ?_) (kW A2 rel))
  · rw [b1_239]
    simp only [w1]
    rw [if_pos ⟨by omega, by omega⟩, wf.2.2.2 (i + 1).toNat (by omega), r1, cI_v]
  · rw [b2_239]
    simp only [w1]
    rw [if_pos ⟨by omega, by omega⟩, wf.2.2.2 (i + 1).toNat (by omega), r2, cI_v, if_pos rfl]

theorem lw_c_262 (C : CTX p room_1 s m #[Value.ref b] c D Z s.heap.size L xs adS 4 16 code) (hx : p.tables.exec = Jvm.exec) (hb : c.code = code) (hr : meth.sig.returnType = ret) (hlocks : meth.locks = false) {k : Nat} (hk : k ≤ 900) {i : Int} (h0 : 0 ≤ i) (hL : i + 6 ≤ (L : Int)) (hL2 : L ≤ 3072) {A : AH} (r : REL k A) (kW : ∀ A2, REL (k + 1) A2 → Wok true p l e room_1 s m #[Value.ref b] below meth c (lw_Z below #[Value.ref b] s) D Z s.heap.size L xs adS adS 40 0 4 1055 [vR 35 39 L, vR 20 40 0, vR 21 190 0, vI i] [] A2) : Wok true p l e room_1 s m #[Value.ref b] below meth c (lw_Z below #[Value.ref b] s) D Z s.heap.size L xs adS adS 40 0 4 262 [vR 35 39 L, vR 20 40 0, vR 21 190 0, vI i] [] A := by
  have cp : CP 100 k 111 177 [] A := c_hall 40 k (by omega) A r
  obtain ⟨v, A1, A2, r1, r2, rel⟩ := cp
  obtain ⟨y, hy⟩ := runF_int (d := 99) r1 (by decide)
  injection hy with hy
  subst hy
  have pf := runF_pfx _ _ _ _ _ _ r2
  have q1 := pfx_sz pf
  have q2 := pfx_sl pf
  obtain ⟨z1, z2⟩ := REL_sz rel (by omega)
  refine lw_step C hx hb hr hlocks (A' := A1) (ls' := [vR 35 39 L, vR 20 40 0, vR 21 190 0, vI i]) (st' := [vI y]) (by omega) (by omega) okw_262.1 (fun wf jp => ?_) (lw_step C hx hb hr hlocks (A' := A2) z1 z2 okw_262.2 (fun wf jp => ?_) (kW A2 rel))
  · rw [b1_262]
    rw [r1, cI_v]
  · rw [b2_262]
    rw [r2, cI_v, if_pos rfl]

theorem lw_c_275 (C : CTX p room_1 s m #[Value.ref b] c D Z s.heap.size L xs adS 4 16 code) (hx : p.tables.exec = Jvm.exec) (hb : c.code = code) (hr : meth.sig.returnType = ret) (hlocks : meth.locks = false) {k : Nat} (hk : k ≤ 900) {i : Int} (h0 : 0 ≤ i) (hL : i + 6 ≤ (L : Int)) (hL2 : L ≤ 3072) {A : AH} (r : REL k A) (kW : ∀ A2, REL (k + 1) A2 → Wok true p l e room_1 s m #[Value.ref b] below meth c (lw_Z below #[Value.ref b] s) D Z s.heap.size L xs adS adS 40 0 4 1055 [vR 35 39 L, vR 20 40 0, vR 21 190 0, vI i] [] A2) : Wok true p l e room_1 s m #[Value.ref b] below meth c (lw_Z below #[Value.ref b] s) D Z s.heap.size L xs adS adS 40 0 4 275 [vR 35 39 L, vR 20 40 0, vR 21 190 0, vI i] [] A := by
  have cp : CP 100 k 112 189 [vI ((xs (i + 1).toNat).toInt)] A := c_fault 99 k ((xs (i + 1).toNat).toInt) A r
  obtain ⟨v, A1, A2, r1, r2, rel⟩ := cp
  obtain ⟨y, hy⟩ := runF_int (d := 99) r1 (by decide)
  injection hy with hy
  subst hy
  have pf := runF_pfx _ _ _ _ _ _ r2
  have q1 := pfx_sz pf
  have q2 := pfx_sl pf
  obtain ⟨z1, z2⟩ := REL_sz rel (by omega)
  have w1 : w32 (i + 1) = i + 1 := wid (by omega) (by omega)
  refine lw_step C hx hb hr hlocks (A' := A1) (ls' := [vR 35 39 L, vR 20 40 0, vR 21 190 0, vI i]) (st' := [vI y]) (by omega) (by omega) okw_275.1 (fun wf jp => ?_) (lw_step C hx hb hr hlocks (A' := A2) z1 z2 okw_275.2 (fun wf jp => ?_) (kW A2 rel))
  · rw [b1_275]
    simp only [w1]
    rw [if_pos ⟨by omega, by omega⟩, wf.2.2.2 (i + 1).toNat (by omega), r1, cI_v]
  · rw [b2_275]
    simp only [w1]
    rw [if_pos ⟨by omega, by omega⟩, wf.2.2.2 (i + 1).toNat (by omega), r2, cI_v, if_pos rfl]

theorem lw_c_298 (C : CTX p room_1 s m #[Value.ref b] c D Z s.heap.size L xs adS 4 16 code) (hx : p.tables.exec = Jvm.exec) (hb : c.code = code) (hr : meth.sig.returnType = ret) (hlocks : meth.locks = false) {k : Nat} (hk : k ≤ 900) {i : Int} (h0 : 0 ≤ i) (hL : i + 6 ≤ (L : Int)) (hL2 : L ≤ 3072) {A : AH} (r : REL k A) (kW : ∀ A2, REL (k + 1) A2 → Wok true p l e room_1 s m #[Value.ref b] below meth c (lw_Z below #[Value.ref b] s) D Z s.heap.size L xs adS adS 40 0 4 1055 [vR 35 39 L, vR 20 40 0, vR 21 190 0, vI i] [] A2) : Wok true p l e room_1 s m #[Value.ref b] below meth c (lw_Z below #[Value.ref b] s) D Z s.heap.size L xs adS adS 40 0 4 298 [vR 35 39 L, vR 20 40 0, vR 21 190 0, vI i] [] A := by
  have cp : CP 100 k 113 217 [vI ((xs (i + 1).toNat).toInt)] A := c_has 96 k ((xs (i + 1).toNat).toInt) A r
  obtain ⟨v, A1, A2, r1, r2, rel⟩ := cp
  obtain ⟨y, hy⟩ := runF_int (d := 99) r1 (by decide)
  injection hy with hy
  subst hy
  have pf := runF_pfx _ _ _ _ _ _ r2
  have q1 := pfx_sz pf
  have q2 := pfx_sl pf
  obtain ⟨z1, z2⟩ := REL_sz rel (by omega)
  have w1 : w32 (i + 1) = i + 1 := wid (by omega) (by omega)
  refine lw_step C hx hb hr hlocks (A' := A1) (ls' := [vR 35 39 L, vR 20 40 0, vR 21 190 0, vI i]) (st' := [vI y]) (by omega) (by omega) okw_298.1 (fun wf jp => ?_) (lw_step C hx hb hr hlocks (A' := A2) z1 z2 okw_298.2 (fun wf jp => ?_) (kW A2 rel))
  · rw [b1_298]
    simp only [w1]
    rw [if_pos ⟨by omega, by omega⟩, wf.2.2.2 (i + 1).toNat (by omega), r1, cI_v]
  · rw [b2_298]
    simp only [w1]
    rw [if_pos ⟨by omega, by omega⟩, wf.2.2.2 (i + 1).toNat (by omega), r2, cI_v, if_pos rfl]

theorem lw_c_321 (C : CTX p room_1 s m #[Value.ref b] c D Z s.heap.size L xs adS 4 16 code) (hx : p.tables.exec = Jvm.exec) (hb : c.code = code) (hr : meth.sig.returnType = ret) (hlocks : meth.locks = false) {k : Nat} (hk : k ≤ 900) {i : Int} (h0 : 0 ≤ i) (hL : i + 6 ≤ (L : Int)) (hL2 : L ≤ 3072) {A : AH} (r : REL k A) (kW : ∀ A2, REL (k + 1) A2 → Wok true p l e room_1 s m #[Value.ref b] below meth c (lw_Z below #[Value.ref b] s) D Z s.heap.size L xs adS adS 40 0 4 1055 [vR 35 39 L, vR 20 40 0, vR 21 190 0, vI i] [] A2) : Wok true p l e room_1 s m #[Value.ref b] below meth c (lw_Z below #[Value.ref b] s) D Z s.heap.size L xs adS adS 40 0 4 321 [vR 35 39 L, vR 20 40 0, vR 21 190 0, vI i] [] A := by
  have cp : CP 100 k 114 218 [] A := c_scale 99 k A r
  obtain ⟨v, A1, A2, r1, r2, rel⟩ := cp
  obtain ⟨y, hy⟩ := runF_int (d := 99) r1 (by decide)
  injection hy with hy
  subst hy
  have pf := runF_pfx _ _ _ _ _ _ r2
  have q1 := pfx_sz pf
  have q2 := pfx_sl pf
  obtain ⟨z1, z2⟩ := REL_sz rel (by omega)
  refine lw_step C hx hb hr hlocks (A' := A1) (ls' := [vR 35 39 L, vR 20 40 0, vR 21 190 0, vI i]) (st' := [vI y]) (by omega) (by omega) okw_321.1 (fun wf jp => ?_) (lw_step C hx hb hr hlocks (A' := A2) z1 z2 okw_321.2 (fun wf jp => ?_) (kW A2 rel))
  · rw [b1_321]
    rw [r1, cI_v]
  · rw [b2_321]
    rw [r2, cI_v, if_pos rfl]

theorem lw_c_334 (C : CTX p room_1 s m #[Value.ref b] c D Z s.heap.size L xs adS 4 16 code) (hx : p.tables.exec = Jvm.exec) (hb : c.code = code) (hr : meth.sig.returnType = ret) (hlocks : meth.locks = false) {k : Nat} (hk : k ≤ 900) {i : Int} (h0 : 0 ≤ i) (hL : i + 6 ≤ (L : Int)) (hL2 : L ≤ 3072) {A : AH} (r : REL k A) (kW : ∀ A2, REL (k + 1) A2 → Wok true p l e room_1 s m #[Value.ref b] below meth c (lw_Z below #[Value.ref b] s) D Z s.heap.size L xs adS adS 40 0 4 1055 [vR 35 39 L, vR 20 40 0, vR 21 190 0, vI i] [] A2) : Wok true p l e room_1 s m #[Value.ref b] below meth c (lw_Z below #[Value.ref b] s) D Z s.heap.size L xs adS adS 40 0 4 334 [vR 35 39 L, vR 20 40 0, vR 21 190 0, vI i] [] A := by
  have cp : CP 100 k 115 219 [vI ((xs (i + 1).toNat).toInt), vI ((xs (i + 2).toNat).toInt), vI ((xs (i + 3).toNat).toInt)] A := c_letter 96 k ((xs (i + 1).toNat).toInt) ((xs (i + 2).toNat).toInt) ((xs (i + 3).toNat).toInt) A r
  obtain ⟨v, A1, A2, r1, r2, rel⟩ := cp
  obtain ⟨y, hy⟩ := runF_int (d := 99) r1 (by decide)
  injection hy with hy
  subst hy
  have pf := runF_pfx _ _ _ _ _ _ r2
  have q1 := pfx_sz pf
  have q2 := pfx_sl pf
  obtain ⟨z1, z2⟩ := REL_sz rel (by omega)
  have w1 : w32 (i + 1) = i + 1 := wid (by omega) (by omega)
  have w2 : w32 (i + 2) = i + 2 := wid (by omega) (by omega)
  have w3 : w32 (i + 3) = i + 3 := wid (by omega) (by omega)
  refine lw_step C hx hb hr hlocks (A' := A1) (ls' := [vR 35 39 L, vR 20 40 0, vR 21 190 0, vI i]) (st' := [vI y]) (by omega) (by omega) okw_334.1 (fun wf jp => ?_) (lw_step C hx hb hr hlocks (A' := A2) z1 z2 okw_334.2 (fun wf jp => ?_) (kW A2 rel))
  · rw [b1_334]
    simp only [w1, w2, w3]
    rw [if_pos ⟨by omega, by omega⟩, if_pos ⟨by omega, by omega⟩, if_pos ⟨by omega, by omega⟩, wf.2.2.2 (i + 1).toNat (by omega), wf.2.2.2 (i + 2).toNat (by omega), wf.2.2.2 (i + 3).toNat (by omega), r1, cI_v]
  · rw [b2_334]
    simp only [w1, w2, w3]
    rw [if_pos ⟨by omega, by omega⟩, if_pos ⟨by omega, by omega⟩, if_pos ⟨by omega, by omega⟩, wf.2.2.2 (i + 1).toNat (by omega), wf.2.2.2 (i + 2).toNat (by omega), wf.2.2.2 (i + 3).toNat (by omega), r2, cI_v, if_pos rfl]

theorem lw_c_377 (C : CTX p room_1 s m #[Value.ref b] c D Z s.heap.size L xs adS 4 16 code) (hx : p.tables.exec = Jvm.exec) (hb : c.code = code) (hr : meth.sig.returnType = ret) (hlocks : meth.locks = false) {k : Nat} (hk : k ≤ 900) {i : Int} (h0 : 0 ≤ i) (hL : i + 6 ≤ (L : Int)) (hL2 : L ≤ 3072) {A : AH} (r : REL k A) (kW : ∀ A2, REL (k + 1) A2 → Wok true p l e room_1 s m #[Value.ref b] below meth c (lw_Z below #[Value.ref b] s) D Z s.heap.size L xs adS adS 40 0 4 1055 [vR 35 39 L, vR 20 40 0, vR 21 190 0, vI i] [] A2) : Wok true p l e room_1 s m #[Value.ref b] below meth c (lw_Z below #[Value.ref b] s) D Z s.heap.size L xs adS adS 40 0 4 377 [vR 35 39 L, vR 20 40 0, vR 21 190 0, vI i] [] A := by
  have cp : CP 100 k 116 220 [vI ((xs (i + 1).toNat).toInt), vI ((xs (i + 2).toNat).toInt)] A := c_sits 92 k ((xs (i + 1).toNat).toInt) ((xs (i + 2).toNat).toInt) A r
  obtain ⟨v, A1, A2, r1, r2, rel⟩ := cp
  obtain ⟨y, hy⟩ := runF_int (d := 99) r1 (by decide)
  injection hy with hy
  subst hy
  have pf := runF_pfx _ _ _ _ _ _ r2
  have q1 := pfx_sz pf
  have q2 := pfx_sl pf
  obtain ⟨z1, z2⟩ := REL_sz rel (by omega)
  have w1 : w32 (i + 1) = i + 1 := wid (by omega) (by omega)
  have w2 : w32 (i + 2) = i + 2 := wid (by omega) (by omega)
  refine lw_step C hx hb hr hlocks (A' := A1) (ls' := [vR 35 39 L, vR 20 40 0, vR 21 190 0, vI i]) (st' := [vI y]) (by omega) (by omega) okw_377.1 (fun wf jp => ?_) (lw_step C hx hb hr hlocks (A' := A2) z1 z2 okw_377.2 (fun wf jp => ?_) (kW A2 rel))
  · rw [b1_377]
    simp only [w1, w2]
    rw [if_pos ⟨by omega, by omega⟩, if_pos ⟨by omega, by omega⟩, wf.2.2.2 (i + 1).toNat (by omega), wf.2.2.2 (i + 2).toNat (by omega), r1, cI_v]
  · rw [b2_377]
    simp only [w1, w2]
    rw [if_pos ⟨by omega, by omega⟩, if_pos ⟨by omega, by omega⟩, wf.2.2.2 (i + 1).toNat (by omega), wf.2.2.2 (i + 2).toNat (by omega), r2, cI_v, if_pos rfl]

theorem lw_c_410 (C : CTX p room_1 s m #[Value.ref b] c D Z s.heap.size L xs adS 4 16 code) (hx : p.tables.exec = Jvm.exec) (hb : c.code = code) (hr : meth.sig.returnType = ret) (hlocks : meth.locks = false) {k : Nat} (hk : k ≤ 900) {i : Int} (h0 : 0 ≤ i) (hL : i + 6 ≤ (L : Int)) (hL2 : L ≤ 3072) {A : AH} (r : REL k A) (kW : ∀ A2, REL (k + 1) A2 → Wok true p l e room_1 s m #[Value.ref b] below meth c (lw_Z below #[Value.ref b] s) D Z s.heap.size L xs adS adS 40 0 4 1055 [vR 35 39 L, vR 20 40 0, vR 21 190 0, vI i] [] A2) : Wok true p l e room_1 s m #[Value.ref b] below meth c (lw_Z below #[Value.ref b] s) D Z s.heap.size L xs adS adS 40 0 4 410 [vR 35 39 L, vR 20 40 0, vR 21 190 0, vI i] [] A := by
  have cp : CP 100 k 117 221 [vI ((xs (i + 1).toNat).toInt)] A := c_seat 96 k ((xs (i + 1).toNat).toInt) A r
  obtain ⟨v, A1, A2, r1, r2, rel⟩ := cp
  obtain ⟨y, hy⟩ := runF_int (d := 99) r1 (by decide)
  injection hy with hy
  subst hy
  have pf := runF_pfx _ _ _ _ _ _ r2
  have q1 := pfx_sz pf
  have q2 := pfx_sl pf
  obtain ⟨z1, z2⟩ := REL_sz rel (by omega)
  have w1 : w32 (i + 1) = i + 1 := wid (by omega) (by omega)
  refine lw_step C hx hb hr hlocks (A' := A1) (ls' := [vR 35 39 L, vR 20 40 0, vR 21 190 0, vI i]) (st' := [vI y]) (by omega) (by omega) okw_410.1 (fun wf jp => ?_) (lw_step C hx hb hr hlocks (A' := A2) z1 z2 okw_410.2 (fun wf jp => ?_) (kW A2 rel))
  · rw [b1_410]
    simp only [w1]
    rw [if_pos ⟨by omega, by omega⟩, wf.2.2.2 (i + 1).toNat (by omega), r1, cI_v]
  · rw [b2_410]
    simp only [w1]
    rw [if_pos ⟨by omega, by omega⟩, wf.2.2.2 (i + 1).toNat (by omega), r2, cI_v, if_pos rfl]

theorem lw_c_433 (C : CTX p room_1 s m #[Value.ref b] c D Z s.heap.size L xs adS 4 16 code) (hx : p.tables.exec = Jvm.exec) (hb : c.code = code) (hr : meth.sig.returnType = ret) (hlocks : meth.locks = false) {k : Nat} (hk : k ≤ 900) {i : Int} (h0 : 0 ≤ i) (hL : i + 6 ≤ (L : Int)) (hL2 : L ≤ 3072) {A : AH} (r : REL k A) (kW : ∀ A2, REL (k + 1) A2 → Wok true p l e room_1 s m #[Value.ref b] below meth c (lw_Z below #[Value.ref b] s) D Z s.heap.size L xs adS adS 40 0 4 1055 [vR 35 39 L, vR 20 40 0, vR 21 190 0, vI i] [] A2) : Wok true p l e room_1 s m #[Value.ref b] below meth c (lw_Z below #[Value.ref b] s) D Z s.heap.size L xs adS adS 40 0 4 433 [vR 35 39 L, vR 20 40 0, vR 21 190 0, vI i] [] A := by
  have cp : CP 100 k 118 222 [vI ((xs (i + 1).toNat).toInt), vI ((xs (i + 2).toNat).toInt)] A := c_mute 96 k ((xs (i + 1).toNat).toInt) ((xs (i + 2).toNat).toInt) A r
  obtain ⟨v, A1, A2, r1, r2, rel⟩ := cp
  obtain ⟨y, hy⟩ := runF_int (d := 99) r1 (by decide)
  injection hy with hy
  subst hy
  have pf := runF_pfx _ _ _ _ _ _ r2
  have q1 := pfx_sz pf
  have q2 := pfx_sl pf
  obtain ⟨z1, z2⟩ := REL_sz rel (by omega)
  have w1 : w32 (i + 1) = i + 1 := wid (by omega) (by omega)
  have w2 : w32 (i + 2) = i + 2 := wid (by omega) (by omega)
  refine lw_step C hx hb hr hlocks (A' := A1) (ls' := [vR 35 39 L, vR 20 40 0, vR 21 190 0, vI i]) (st' := [vI y]) (by omega) (by omega) okw_433.1 (fun wf jp => ?_) (lw_step C hx hb hr hlocks (A' := A2) z1 z2 okw_433.2 (fun wf jp => ?_) (kW A2 rel))
  · rw [b1_433]
    simp only [w1, w2]
    rw [if_pos ⟨by omega, by omega⟩, if_pos ⟨by omega, by omega⟩, wf.2.2.2 (i + 1).toNat (by omega), wf.2.2.2 (i + 2).toNat (by omega), r1, cI_v]
  · rw [b2_433]
    simp only [w1, w2]
    rw [if_pos ⟨by omega, by omega⟩, if_pos ⟨by omega, by omega⟩, wf.2.2.2 (i + 1).toNat (by omega), wf.2.2.2 (i + 2).toNat (by omega), r2, cI_v, if_pos rfl]

theorem lw_c_466 (C : CTX p room_1 s m #[Value.ref b] c D Z s.heap.size L xs adS 4 16 code) (hx : p.tables.exec = Jvm.exec) (hb : c.code = code) (hr : meth.sig.returnType = ret) (hlocks : meth.locks = false) {k : Nat} (hk : k ≤ 900) {i : Int} (h0 : 0 ≤ i) (hL : i + 6 ≤ (L : Int)) (hL2 : L ≤ 3072) {A : AH} (r : REL k A) (kW : ∀ A2, REL (k + 1) A2 → Wok true p l e room_1 s m #[Value.ref b] below meth c (lw_Z below #[Value.ref b] s) D Z s.heap.size L xs adS adS 40 0 4 1055 [vR 35 39 L, vR 20 40 0, vR 21 190 0, vI i] [] A2) : Wok true p l e room_1 s m #[Value.ref b] below meth c (lw_Z below #[Value.ref b] s) D Z s.heap.size L xs adS adS 40 0 4 466 [vR 35 39 L, vR 20 40 0, vR 21 190 0, vI i] [] A := by
  have cp : CP 100 k 119 223 [vI ((xs (i + 1).toNat).toInt), vI ((xs (i + 2).toNat).toInt)] A := c_noise 96 k ((xs (i + 1).toNat).toInt) ((xs (i + 2).toNat).toInt) A r
  obtain ⟨v, A1, A2, r1, r2, rel⟩ := cp
  obtain ⟨y, hy⟩ := runF_int (d := 99) r1 (by decide)
  injection hy with hy
  subst hy
  have pf := runF_pfx _ _ _ _ _ _ r2
  have q1 := pfx_sz pf
  have q2 := pfx_sl pf
  obtain ⟨z1, z2⟩ := REL_sz rel (by omega)
  have w1 : w32 (i + 1) = i + 1 := wid (by omega) (by omega)
  have w2 : w32 (i + 2) = i + 2 := wid (by omega) (by omega)
  refine lw_step C hx hb hr hlocks (A' := A1) (ls' := [vR 35 39 L, vR 20 40 0, vR 21 190 0, vI i]) (st' := [vI y]) (by omega) (by omega) okw_466.1 (fun wf jp => ?_) (lw_step C hx hb hr hlocks (A' := A2) z1 z2 okw_466.2 (fun wf jp => ?_) (kW A2 rel))
  · rw [b1_466]
    simp only [w1, w2]
    rw [if_pos ⟨by omega, by omega⟩, if_pos ⟨by omega, by omega⟩, wf.2.2.2 (i + 1).toNat (by omega), wf.2.2.2 (i + 2).toNat (by omega), r1, cI_v]
  · rw [b2_466]
    simp only [w1, w2]
    rw [if_pos ⟨by omega, by omega⟩, if_pos ⟨by omega, by omega⟩, wf.2.2.2 (i + 1).toNat (by omega), wf.2.2.2 (i + 2).toNat (by omega), r2, cI_v, if_pos rfl]

theorem lw_c_499 (C : CTX p room_1 s m #[Value.ref b] c D Z s.heap.size L xs adS 4 16 code) (hx : p.tables.exec = Jvm.exec) (hb : c.code = code) (hr : meth.sig.returnType = ret) (hlocks : meth.locks = false) {k : Nat} (hk : k ≤ 900) {i : Int} (h0 : 0 ≤ i) (hL : i + 6 ≤ (L : Int)) (hL2 : L ≤ 3072) {A : AH} (r : REL k A) (kW : ∀ A2, REL (k + 1) A2 → Wok true p l e room_1 s m #[Value.ref b] below meth c (lw_Z below #[Value.ref b] s) D Z s.heap.size L xs adS adS 40 0 4 1055 [vR 35 39 L, vR 20 40 0, vR 21 190 0, vI i] [] A2) : Wok true p l e room_1 s m #[Value.ref b] below meth c (lw_Z below #[Value.ref b] s) D Z s.heap.size L xs adS adS 40 0 4 499 [vR 35 39 L, vR 20 40 0, vR 21 190 0, vI i] [] A := by
  have cp : CP 100 k 120 224 [vI ((xs (i + 1).toNat).toInt), vI ((xs (i + 2).toNat).toInt)] A := c_kept 96 k (by omega) ((xs (i + 1).toNat).toInt) ((xs (i + 2).toNat).toInt) A r
  obtain ⟨v, A1, A2, r1, r2, rel⟩ := cp
  obtain ⟨y, hy⟩ := runF_int (d := 99) r1 (by decide)
  injection hy with hy
  subst hy
  have pf := runF_pfx _ _ _ _ _ _ r2
  have q1 := pfx_sz pf
  have q2 := pfx_sl pf
  obtain ⟨z1, z2⟩ := REL_sz rel (by omega)
  have w1 : w32 (i + 1) = i + 1 := wid (by omega) (by omega)
  have w2 : w32 (i + 2) = i + 2 := wid (by omega) (by omega)
  refine lw_step C hx hb hr hlocks (A' := A1) (ls' := [vR 35 39 L, vR 20 40 0, vR 21 190 0, vI i]) (st' := [vI y]) (by omega) (by omega) okw_499.1 (fun wf jp => ?_) (lw_step C hx hb hr hlocks (A' := A2) z1 z2 okw_499.2 (fun wf jp => ?_) (kW A2 rel))
  · rw [b1_499]
    simp only [w1, w2]
    rw [if_pos ⟨by omega, by omega⟩, if_pos ⟨by omega, by omega⟩, wf.2.2.2 (i + 1).toNat (by omega), wf.2.2.2 (i + 2).toNat (by omega), r1, cI_v]
  · rw [b2_499]
    simp only [w1, w2]
    rw [if_pos ⟨by omega, by omega⟩, if_pos ⟨by omega, by omega⟩, wf.2.2.2 (i + 1).toNat (by omega), wf.2.2.2 (i + 2).toNat (by omega), r2, cI_v, if_pos rfl]

theorem lw_c_532 (C : CTX p room_1 s m #[Value.ref b] c D Z s.heap.size L xs adS 4 16 code) (hx : p.tables.exec = Jvm.exec) (hb : c.code = code) (hr : meth.sig.returnType = ret) (hlocks : meth.locks = false) {k : Nat} (hk : k ≤ 900) {i : Int} (h0 : 0 ≤ i) (hL : i + 6 ≤ (L : Int)) (hL2 : L ≤ 3072) {A : AH} (r : REL k A) (kW : ∀ A2, REL (k + 1) A2 → Wok true p l e room_1 s m #[Value.ref b] below meth c (lw_Z below #[Value.ref b] s) D Z s.heap.size L xs adS adS 40 0 4 1055 [vR 35 39 L, vR 20 40 0, vR 21 190 0, vI i] [] A2) : Wok true p l e room_1 s m #[Value.ref b] below meth c (lw_Z below #[Value.ref b] s) D Z s.heap.size L xs adS adS 40 0 4 532 [vR 35 39 L, vR 20 40 0, vR 21 190 0, vI i] [] A := by
  have cp : CP 100 k 121 230 [vI ((xs (i + 1).toNat).toInt)] A := c_mean 91 k ((xs (i + 1).toNat).toInt) A r
  obtain ⟨v, A1, A2, r1, r2, rel⟩ := cp
  obtain ⟨y, hy⟩ := runF_long (d := 99) r1 (by decide)
  injection hy with hy
  subst hy
  have pf := runF_pfx _ _ _ _ _ _ r2
  have q1 := pfx_sz pf
  have q2 := pfx_sl pf
  obtain ⟨z1, z2⟩ := REL_sz rel (by omega)
  have w1 : w32 (i + 1) = i + 1 := wid (by omega) (by omega)
  refine lw_step C hx hb hr hlocks (A' := A1) (ls' := [vR 35 39 L, vR 20 40 0, vR 21 190 0, vI i]) (st' := [vL y]) (by omega) (by omega) okw_532.1 (fun wf jp => ?_) (lw_step C hx hb hr hlocks (A' := A2) z1 z2 okw_532.2 (fun wf jp => ?_) (kW A2 rel))
  · rw [b1_532]
    simp only [w1]
    rw [if_pos ⟨by omega, by omega⟩, wf.2.2.2 (i + 1).toNat (by omega), r1, cL_v]
  · rw [b2_532]
    simp only [w1]
    rw [if_pos ⟨by omega, by omega⟩, wf.2.2.2 (i + 1).toNat (by omega), r2, cL_v, if_pos (by rw [lcp_eq])]

theorem lw_c_556 (C : CTX p room_1 s m #[Value.ref b] c D Z s.heap.size L xs adS 4 16 code) (hx : p.tables.exec = Jvm.exec) (hb : c.code = code) (hr : meth.sig.returnType = ret) (hlocks : meth.locks = false) {k : Nat} (hk : k ≤ 900) {i : Int} (h0 : 0 ≤ i) (hL : i + 6 ≤ (L : Int)) (hL2 : L ≤ 3072) {A : AH} (r : REL k A) (kW : ∀ A2, REL (k + 1) A2 → Wok true p l e room_1 s m #[Value.ref b] below meth c (lw_Z below #[Value.ref b] s) D Z s.heap.size L xs adS adS 40 0 4 1055 [vR 35 39 L, vR 20 40 0, vR 21 190 0, vI i] [] A2) : Wok true p l e room_1 s m #[Value.ref b] below meth c (lw_Z below #[Value.ref b] s) D Z s.heap.size L xs adS adS 40 0 4 556 [vR 35 39 L, vR 20 40 0, vR 21 190 0, vI i] [] A := by
  have cp : CP 100 k 122 234 [vI ((xs (i + 1).toNat).toInt)] A := c_odds 91 k ((xs (i + 1).toNat).toInt) A r
  obtain ⟨v, A1, A2, r1, r2, rel⟩ := cp
  obtain ⟨y, hy⟩ := runF_int (d := 99) r1 (by decide)
  injection hy with hy
  subst hy
  have pf := runF_pfx _ _ _ _ _ _ r2
  have q1 := pfx_sz pf
  have q2 := pfx_sl pf
  obtain ⟨z1, z2⟩ := REL_sz rel (by omega)
  have w1 : w32 (i + 1) = i + 1 := wid (by omega) (by omega)
  refine lw_step C hx hb hr hlocks (A' := A1) (ls' := [vR 35 39 L, vR 20 40 0, vR 21 190 0, vI i]) (st' := [vI y]) (by omega) (by omega) okw_556.1 (fun wf jp => ?_) (lw_step C hx hb hr hlocks (A' := A2) z1 z2 okw_556.2 (fun wf jp => ?_) (kW A2 rel))
  · rw [b1_556]
    simp only [w1]
    rw [if_pos ⟨by omega, by omega⟩, wf.2.2.2 (i + 1).toNat (by omega), r1, cI_v]
  · rw [b2_556]
    simp only [w1]
    rw [if_pos ⟨by omega, by omega⟩, wf.2.2.2 (i + 1).toNat (by omega), r2, cI_v, if_pos rfl]

theorem lw_c_579 (C : CTX p room_1 s m #[Value.ref b] c D Z s.heap.size L xs adS 4 16 code) (hx : p.tables.exec = Jvm.exec) (hb : c.code = code) (hr : meth.sig.returnType = ret) (hlocks : meth.locks = false) {k : Nat} (hk : k ≤ 900) {i : Int} (h0 : 0 ≤ i) (hL : i + 6 ≤ (L : Int)) (hL2 : L ≤ 3072) {A : AH} (r : REL k A) (kW : ∀ A2, REL (k + 1) A2 → Wok true p l e room_1 s m #[Value.ref b] below meth c (lw_Z below #[Value.ref b] s) D Z s.heap.size L xs adS adS 40 0 4 1055 [vR 35 39 L, vR 20 40 0, vR 21 190 0, vI i] [] A2) : Wok true p l e room_1 s m #[Value.ref b] below meth c (lw_Z below #[Value.ref b] s) D Z s.heap.size L xs adS adS 40 0 4 579 [vR 35 39 L, vR 20 40 0, vR 21 190 0, vI i] [] A := by
  have cp : CP 100 k 123 240 [vI ((xs (i + 1).toNat).toInt), vI ((xs (i + 2).toNat).toInt), vI ((xs (i + 3).toNat).toInt), vI ((xs (i + 4).toNat).toInt)] A := c_hire 90 k ((xs (i + 1).toNat).toInt) ((xs (i + 2).toNat).toInt) ((xs (i + 3).toNat).toInt) ((xs (i + 4).toNat).toInt) (x32 _) A r
  obtain ⟨v, A1, A2, r1, r2, rel⟩ := cp
  obtain ⟨y, hy⟩ := runF_int (d := 99) r1 (by decide)
  injection hy with hy
  subst hy
  have pf := runF_pfx _ _ _ _ _ _ r2
  have q1 := pfx_sz pf
  have q2 := pfx_sl pf
  obtain ⟨z1, z2⟩ := REL_sz rel (by omega)
  have w1 : w32 (i + 1) = i + 1 := wid (by omega) (by omega)
  have w2 : w32 (i + 2) = i + 2 := wid (by omega) (by omega)
  have w3 : w32 (i + 3) = i + 3 := wid (by omega) (by omega)
  have w4 : w32 (i + 4) = i + 4 := wid (by omega) (by omega)
  refine lw_step C hx hb hr hlocks (A' := A1) (ls' := [vR 35 39 L, vR 20 40 0, vR 21 190 0, vI i]) (st' := [vI y]) (by omega) (by omega) okw_579.1 (fun wf jp => ?_) (lw_step C hx hb hr hlocks (A' := A2) z1 z2 okw_579.2 (fun wf jp => ?_) (kW A2 rel))
  · rw [b1_579]
    simp only [w1, w2, w3, w4]
    rw [if_pos ⟨by omega, by omega⟩, if_pos ⟨by omega, by omega⟩, if_pos ⟨by omega, by omega⟩, if_pos ⟨by omega, by omega⟩, wf.2.2.2 (i + 1).toNat (by omega), wf.2.2.2 (i + 2).toNat (by omega), wf.2.2.2 (i + 3).toNat (by omega), wf.2.2.2 (i + 4).toNat (by omega), r1, cI_v]
  · rw [b2_579]
    simp only [w1, w2, w3, w4]
    rw [if_pos ⟨by omega, by omega⟩, if_pos ⟨by omega, by omega⟩, if_pos ⟨by omega, by omega⟩, if_pos ⟨by omega, by omega⟩, wf.2.2.2 (i + 1).toNat (by omega), wf.2.2.2 (i + 2).toNat (by omega), wf.2.2.2 (i + 3).toNat (by omega), wf.2.2.2 (i + 4).toNat (by omega), r2, cI_v, if_pos rfl]

theorem lw_c_632 (C : CTX p room_1 s m #[Value.ref b] c D Z s.heap.size L xs adS 4 16 code) (hx : p.tables.exec = Jvm.exec) (hb : c.code = code) (hr : meth.sig.returnType = ret) (hlocks : meth.locks = false) {k : Nat} (hk : k ≤ 900) {i : Int} (h0 : 0 ≤ i) (hL : i + 6 ≤ (L : Int)) (hL2 : L ≤ 3072) {A : AH} (r : REL k A) (kW : ∀ A2, REL (k + 1) A2 → Wok true p l e room_1 s m #[Value.ref b] below meth c (lw_Z below #[Value.ref b] s) D Z s.heap.size L xs adS adS 40 0 4 1055 [vR 35 39 L, vR 20 40 0, vR 21 190 0, vI i] [] A2) : Wok true p l e room_1 s m #[Value.ref b] below meth c (lw_Z below #[Value.ref b] s) D Z s.heap.size L xs adS adS 40 0 4 632 [vR 35 39 L, vR 20 40 0, vR 21 190 0, vI i] [] A := by
  have cp : CP 100 k 124 242 [vI ((xs (i + 1).toNat).toInt), vI ((xs (i + 2).toNat).toInt)] A := c_change 91 k ((xs (i + 1).toNat).toInt) ((xs (i + 2).toNat).toInt) A r
  obtain ⟨v, A1, A2, r1, r2, rel⟩ := cp
  obtain ⟨y, hy⟩ := runF_int (d := 99) r1 (by decide)
  injection hy with hy
  subst hy
  have pf := runF_pfx _ _ _ _ _ _ r2
  have q1 := pfx_sz pf
  have q2 := pfx_sl pf
  obtain ⟨z1, z2⟩ := REL_sz rel (by omega)
  have w1 : w32 (i + 1) = i + 1 := wid (by omega) (by omega)
  have w2 : w32 (i + 2) = i + 2 := wid (by omega) (by omega)
  refine lw_step C hx hb hr hlocks (A' := A1) (ls' := [vR 35 39 L, vR 20 40 0, vR 21 190 0, vI i]) (st' := [vI y]) (by omega) (by omega) okw_632.1 (fun wf jp => ?_) (lw_step C hx hb hr hlocks (A' := A2) z1 z2 okw_632.2 (fun wf jp => ?_) (kW A2 rel))
  · rw [b1_632]
    simp only [w1, w2]
    rw [if_pos ⟨by omega, by omega⟩, if_pos ⟨by omega, by omega⟩, wf.2.2.2 (i + 1).toNat (by omega), wf.2.2.2 (i + 2).toNat (by omega), r1, cI_v]
  · rw [b2_632]
    simp only [w1, w2]
    rw [if_pos ⟨by omega, by omega⟩, if_pos ⟨by omega, by omega⟩, wf.2.2.2 (i + 1).toNat (by omega), wf.2.2.2 (i + 2).toNat (by omega), r2, cI_v, if_pos rfl]

theorem lw_c_665 (C : CTX p room_1 s m #[Value.ref b] c D Z s.heap.size L xs adS 4 16 code) (hx : p.tables.exec = Jvm.exec) (hb : c.code = code) (hr : meth.sig.returnType = ret) (hlocks : meth.locks = false) {k : Nat} (hk : k ≤ 900) {i : Int} (h0 : 0 ≤ i) (hL : i + 6 ≤ (L : Int)) (hL2 : L ≤ 3072) {A : AH} (r : REL k A) (kW : ∀ A2, REL (k + 1) A2 → Wok true p l e room_1 s m #[Value.ref b] below meth c (lw_Z below #[Value.ref b] s) D Z s.heap.size L xs adS adS 40 0 4 1055 [vR 35 39 L, vR 20 40 0, vR 21 190 0, vI i] [] A2) : Wok true p l e room_1 s m #[Value.ref b] below meth c (lw_Z below #[Value.ref b] s) D Z s.heap.size L xs adS adS 40 0 4 665 [vR 35 39 L, vR 20 40 0, vR 21 190 0, vI i] [] A := by
  have cp : CP 100 k 125 245 [vI ((xs (i + 1).toNat).toInt), vI ((xs (i + 2).toNat).toInt)] A := c_points 90 k ((xs (i + 1).toNat).toInt) ((xs (i + 2).toNat).toInt) A r
  obtain ⟨v, A1, A2, r1, r2, rel⟩ := cp
  obtain ⟨y, hy⟩ := runF_long (d := 99) r1 (by decide)
  injection hy with hy
  subst hy
  have pf := runF_pfx _ _ _ _ _ _ r2
  have q1 := pfx_sz pf
  have q2 := pfx_sl pf
  obtain ⟨z1, z2⟩ := REL_sz rel (by omega)
  have w1 : w32 (i + 1) = i + 1 := wid (by omega) (by omega)
  have w2 : w32 (i + 2) = i + 2 := wid (by omega) (by omega)
  refine lw_step C hx hb hr hlocks (A' := A1) (ls' := [vR 35 39 L, vR 20 40 0, vR 21 190 0, vI i]) (st' := [vL y]) (by omega) (by omega) okw_665.1 (fun wf jp => ?_) (lw_step C hx hb hr hlocks (A' := A2) z1 z2 okw_665.2 (fun wf jp => ?_) (kW A2 rel))
  · rw [b1_665]
    simp only [w1, w2]
    rw [if_pos ⟨by omega, by omega⟩, if_pos ⟨by omega, by omega⟩, wf.2.2.2 (i + 1).toNat (by omega), wf.2.2.2 (i + 2).toNat (by omega), r1, cL_v]
  · rw [b2_665]
    simp only [w1, w2]
    rw [if_pos ⟨by omega, by omega⟩, if_pos ⟨by omega, by omega⟩, wf.2.2.2 (i + 1).toNat (by omega), wf.2.2.2 (i + 2).toNat (by omega), r2, cL_v, if_pos (by rw [lcp_eq])]

theorem lw_c_699 (C : CTX p room_1 s m #[Value.ref b] c D Z s.heap.size L xs adS 4 16 code) (hx : p.tables.exec = Jvm.exec) (hb : c.code = code) (hr : meth.sig.returnType = ret) (hlocks : meth.locks = false) {k : Nat} (hk : k ≤ 900) {i : Int} (h0 : 0 ≤ i) (hL : i + 6 ≤ (L : Int)) (hL2 : L ≤ 3072) {A : AH} (r : REL k A) (kW : ∀ A2, REL (k + 1) A2 → Wok true p l e room_1 s m #[Value.ref b] below meth c (lw_Z below #[Value.ref b] s) D Z s.heap.size L xs adS adS 40 0 4 1055 [vR 35 39 L, vR 20 40 0, vR 21 190 0, vI i] [] A2) : Wok true p l e room_1 s m #[Value.ref b] below meth c (lw_Z below #[Value.ref b] s) D Z s.heap.size L xs adS adS 40 0 4 699 [vR 35 39 L, vR 20 40 0, vR 21 190 0, vI i] [] A := by
  have cp : CP 100 k 126 247 [vI ((xs (i + 1).toNat).toInt), vI ((xs (i + 2).toNat).toInt)] A := c_fell 91 k ((xs (i + 1).toNat).toInt) ((xs (i + 2).toNat).toInt) A r
  obtain ⟨v, A1, A2, r1, r2, rel⟩ := cp
  obtain ⟨y, hy⟩ := runF_int (d := 99) r1 (by decide)
  injection hy with hy
  subst hy
  have pf := runF_pfx _ _ _ _ _ _ r2
  have q1 := pfx_sz pf
  have q2 := pfx_sl pf
  obtain ⟨z1, z2⟩ := REL_sz rel (by omega)
  have w1 : w32 (i + 1) = i + 1 := wid (by omega) (by omega)
  have w2 : w32 (i + 2) = i + 2 := wid (by omega) (by omega)
  refine lw_step C hx hb hr hlocks (A' := A1) (ls' := [vR 35 39 L, vR 20 40 0, vR 21 190 0, vI i]) (st' := [vI y]) (by omega) (by omega) okw_699.1 (fun wf jp => ?_) (lw_step C hx hb hr hlocks (A' := A2) z1 z2 okw_699.2 (fun wf jp => ?_) (kW A2 rel))
  · rw [b1_699]
    simp only [w1, w2]
    rw [if_pos ⟨by omega, by omega⟩, if_pos ⟨by omega, by omega⟩, wf.2.2.2 (i + 1).toNat (by omega), wf.2.2.2 (i + 2).toNat (by omega), r1, cI_v]
  · rw [b2_699]
    simp only [w1, w2]
    rw [if_pos ⟨by omega, by omega⟩, if_pos ⟨by omega, by omega⟩, wf.2.2.2 (i + 1).toNat (by omega), wf.2.2.2 (i + 2).toNat (by omega), r2, cI_v, if_pos rfl]

theorem lw_c_732 (C : CTX p room_1 s m #[Value.ref b] c D Z s.heap.size L xs adS 4 16 code) (hx : p.tables.exec = Jvm.exec) (hb : c.code = code) (hr : meth.sig.returnType = ret) (hlocks : meth.locks = false) {k : Nat} (hk : k ≤ 900) {i : Int} (h0 : 0 ≤ i) (hL : i + 6 ≤ (L : Int)) (hL2 : L ≤ 3072) {A : AH} (r : REL k A) (kW : ∀ A2, REL (k + 1) A2 → Wok true p l e room_1 s m #[Value.ref b] below meth c (lw_Z below #[Value.ref b] s) D Z s.heap.size L xs adS adS 40 0 4 1055 [vR 35 39 L, vR 20 40 0, vR 21 190 0, vI i] [] A2) : Wok true p l e room_1 s m #[Value.ref b] below meth c (lw_Z below #[Value.ref b] s) D Z s.heap.size L xs adS adS 40 0 4 732 [vR 35 39 L, vR 20 40 0, vR 21 190 0, vI i] [] A := by
  have cp : CP 100 k 127 248 [vI ((xs (i + 1).toNat).toInt), vI ((xs (i + 2).toNat).toInt)] A := c_asked 92 k ((xs (i + 1).toNat).toInt) ((xs (i + 2).toNat).toInt) A r
  obtain ⟨v, A1, A2, r1, r2, rel⟩ := cp
  obtain ⟨y, hy⟩ := runF_int (d := 99) r1 (by decide)
  injection hy with hy
  subst hy
  have pf := runF_pfx _ _ _ _ _ _ r2
  have q1 := pfx_sz pf
  have q2 := pfx_sl pf
  obtain ⟨z1, z2⟩ := REL_sz rel (by omega)
  have w1 : w32 (i + 1) = i + 1 := wid (by omega) (by omega)
  have w2 : w32 (i + 2) = i + 2 := wid (by omega) (by omega)
  refine lw_step C hx hb hr hlocks (A' := A1) (ls' := [vR 35 39 L, vR 20 40 0, vR 21 190 0, vI i]) (st' := [vI y]) (by omega) (by omega) okw_732.1 (fun wf jp => ?_) (lw_step C hx hb hr hlocks (A' := A2) z1 z2 okw_732.2 (fun wf jp => ?_) (kW A2 rel))
  · rw [b1_732]
    simp only [w1, w2]
    rw [if_pos ⟨by omega, by omega⟩, if_pos ⟨by omega, by omega⟩, wf.2.2.2 (i + 1).toNat (by omega), wf.2.2.2 (i + 2).toNat (by omega), r1, cI_v]
  · rw [b2_732]
    simp only [w1, w2]
    rw [if_pos ⟨by omega, by omega⟩, if_pos ⟨by omega, by omega⟩, wf.2.2.2 (i + 1).toNat (by omega), wf.2.2.2 (i + 2).toNat (by omega), r2, cI_v, if_pos rfl]

theorem lw_c_765 (C : CTX p room_1 s m #[Value.ref b] c D Z s.heap.size L xs adS 4 16 code) (hx : p.tables.exec = Jvm.exec) (hb : c.code = code) (hr : meth.sig.returnType = ret) (hlocks : meth.locks = false) {k : Nat} (hk : k ≤ 900) {i : Int} (h0 : 0 ≤ i) (hL : i + 6 ≤ (L : Int)) (hL2 : L ≤ 3072) {A : AH} (r : REL k A) (kW : ∀ A2, REL (k + 1) A2 → Wok true p l e room_1 s m #[Value.ref b] below meth c (lw_Z below #[Value.ref b] s) D Z s.heap.size L xs adS adS 40 0 4 1055 [vR 35 39 L, vR 20 40 0, vR 21 190 0, vI i] [] A2) : Wok true p l e room_1 s m #[Value.ref b] below meth c (lw_Z below #[Value.ref b] s) D Z s.heap.size L xs adS adS 40 0 4 765 [vR 35 39 L, vR 20 40 0, vR 21 190 0, vI i] [] A := by
  have cp : CP 100 k 128 249 [vI ((xs (i + 1).toNat).toInt)] A := c_loudest 91 k ((xs (i + 1).toNat).toInt) A r
  obtain ⟨v, A1, A2, r1, r2, rel⟩ := cp
  obtain ⟨y, hy⟩ := runF_int (d := 99) r1 (by decide)
  injection hy with hy
  subst hy
  have pf := runF_pfx _ _ _ _ _ _ r2
  have q1 := pfx_sz pf
  have q2 := pfx_sl pf
  obtain ⟨z1, z2⟩ := REL_sz rel (by omega)
  have w1 : w32 (i + 1) = i + 1 := wid (by omega) (by omega)
  refine lw_step C hx hb hr hlocks (A' := A1) (ls' := [vR 35 39 L, vR 20 40 0, vR 21 190 0, vI i]) (st' := [vI y]) (by omega) (by omega) okw_765.1 (fun wf jp => ?_) (lw_step C hx hb hr hlocks (A' := A2) z1 z2 okw_765.2 (fun wf jp => ?_) (kW A2 rel))
  · rw [b1_765]
    simp only [w1]
    rw [if_pos ⟨by omega, by omega⟩, wf.2.2.2 (i + 1).toNat (by omega), r1, cI_v]
  · rw [b2_765]
    simp only [w1]
    rw [if_pos ⟨by omega, by omega⟩, wf.2.2.2 (i + 1).toNat (by omega), r2, cI_v, if_pos rfl]

theorem lw_c_788 (C : CTX p room_1 s m #[Value.ref b] c D Z s.heap.size L xs adS 4 16 code) (hx : p.tables.exec = Jvm.exec) (hb : c.code = code) (hr : meth.sig.returnType = ret) (hlocks : meth.locks = false) {k : Nat} (hk : k ≤ 900) {i : Int} (h0 : 0 ≤ i) (hL : i + 6 ≤ (L : Int)) (hL2 : L ≤ 3072) {A : AH} (r : REL k A) (kW : ∀ A2, REL (k + 1) A2 → Wok true p l e room_1 s m #[Value.ref b] below meth c (lw_Z below #[Value.ref b] s) D Z s.heap.size L xs adS adS 40 0 4 1055 [vR 35 39 L, vR 20 40 0, vR 21 190 0, vI i] [] A2) : Wok true p l e room_1 s m #[Value.ref b] below meth c (lw_Z below #[Value.ref b] s) D Z s.heap.size L xs adS adS 40 0 4 788 [vR 35 39 L, vR 20 40 0, vR 21 190 0, vI i] [] A := by
  have cp : CP 100 k 129 256 [vI ((xs (i + 1).toNat).toInt)] A := c_minutes 92 k (by omega) ((xs (i + 1).toNat).toInt) A r
  obtain ⟨v, A1, A2, r1, r2, rel⟩ := cp
  obtain ⟨y, hy⟩ := runF_int (d := 99) r1 (by decide)
  injection hy with hy
  subst hy
  have pf := runF_pfx _ _ _ _ _ _ r2
  have q1 := pfx_sz pf
  have q2 := pfx_sl pf
  obtain ⟨z1, z2⟩ := REL_sz rel (by omega)
  have w1 : w32 (i + 1) = i + 1 := wid (by omega) (by omega)
  refine lw_step C hx hb hr hlocks (A' := A1) (ls' := [vR 35 39 L, vR 20 40 0, vR 21 190 0, vI i]) (st' := [vI y]) (by omega) (by omega) okw_788.1 (fun wf jp => ?_) (lw_step C hx hb hr hlocks (A' := A2) z1 z2 okw_788.2 (fun wf jp => ?_) (kW A2 rel))
  · rw [b1_788]
    simp only [w1]
    rw [if_pos ⟨by omega, by omega⟩, wf.2.2.2 (i + 1).toNat (by omega), r1, cI_v]
  · rw [b2_788]
    simp only [w1]
    rw [if_pos ⟨by omega, by omega⟩, wf.2.2.2 (i + 1).toNat (by omega), r2, cI_v, if_pos rfl]

theorem lw_c_811 (C : CTX p room_1 s m #[Value.ref b] c D Z s.heap.size L xs adS 4 16 code) (hx : p.tables.exec = Jvm.exec) (hb : c.code = code) (hr : meth.sig.returnType = ret) (hlocks : meth.locks = false) {k : Nat} (hk : k ≤ 900) {i : Int} (h0 : 0 ≤ i) (hL : i + 6 ≤ (L : Int)) (hL2 : L ≤ 3072) {A : AH} (r : REL k A) (kW : ∀ A2, REL (k + 1) A2 → Wok true p l e room_1 s m #[Value.ref b] below meth c (lw_Z below #[Value.ref b] s) D Z s.heap.size L xs adS adS 40 0 4 1055 [vR 35 39 L, vR 20 40 0, vR 21 190 0, vI i] [] A2) : Wok true p l e room_1 s m #[Value.ref b] below meth c (lw_Z below #[Value.ref b] s) D Z s.heap.size L xs adS adS 40 0 4 811 [vR 35 39 L, vR 20 40 0, vR 21 190 0, vI i] [] A := by
  have cp : CP 100 k 130 258 [vI ((xs (i + 1).toNat).toInt)] A := c_point 95 k (by omega) ((xs (i + 1).toNat).toInt) A r
  obtain ⟨v, A1, A2, r1, r2, rel⟩ := cp
  obtain ⟨y, hy⟩ := runF_int (d := 99) r1 (by decide)
  injection hy with hy
  subst hy
  have pf := runF_pfx _ _ _ _ _ _ r2
  have q1 := pfx_sz pf
  have q2 := pfx_sl pf
  obtain ⟨z1, z2⟩ := REL_sz rel (by omega)
  have w1 : w32 (i + 1) = i + 1 := wid (by omega) (by omega)
  refine lw_step C hx hb hr hlocks (A' := A1) (ls' := [vR 35 39 L, vR 20 40 0, vR 21 190 0, vI i]) (st' := [vI y]) (by omega) (by omega) okw_811.1 (fun wf jp => ?_) (lw_step C hx hb hr hlocks (A' := A2) z1 z2 okw_811.2 (fun wf jp => ?_) (kW A2 rel))
  · rw [b1_811]
    simp only [w1]
    rw [if_pos ⟨by omega, by omega⟩, wf.2.2.2 (i + 1).toNat (by omega), r1, cI_v]
  · rw [b2_811]
    simp only [w1]
    rw [if_pos ⟨by omega, by omega⟩, wf.2.2.2 (i + 1).toNat (by omega), r2, cI_v, if_pos rfl]

theorem lw_c_834 (C : CTX p room_1 s m #[Value.ref b] c D Z s.heap.size L xs adS 4 16 code) (hx : p.tables.exec = Jvm.exec) (hb : c.code = code) (hr : meth.sig.returnType = ret) (hlocks : meth.locks = false) {k : Nat} (hk : k ≤ 900) {i : Int} (h0 : 0 ≤ i) (hL : i + 6 ≤ (L : Int)) (hL2 : L ≤ 3072) {A : AH} (r : REL k A) (kW : ∀ A2, REL (k + 1) A2 → Wok true p l e room_1 s m #[Value.ref b] below meth c (lw_Z below #[Value.ref b] s) D Z s.heap.size L xs adS adS 40 0 4 1055 [vR 35 39 L, vR 20 40 0, vR 21 190 0, vI i] [] A2) : Wok true p l e room_1 s m #[Value.ref b] below meth c (lw_Z below #[Value.ref b] s) D Z s.heap.size L xs adS adS 40 0 4 834 [vR 35 39 L, vR 20 40 0, vR 21 190 0, vI i] [] A := by
  have cp : CP 100 k 131 259 [vI ((xs (i + 1).toNat).toInt), vI ((xs (i + 2).toNat).toInt)] A := c_move 95 k (by omega) ((xs (i + 1).toNat).toInt) ((xs (i + 2).toNat).toInt) A r
  obtain ⟨v, A1, A2, r1, r2, rel⟩ := cp
  obtain ⟨y, hy⟩ := runF_int (d := 99) r1 (by decide)
  injection hy with hy
  subst hy
  have pf := runF_pfx _ _ _ _ _ _ r2
  have q1 := pfx_sz pf
  have q2 := pfx_sl pf
  obtain ⟨z1, z2⟩ := REL_sz rel (by omega)
  have w1 : w32 (i + 1) = i + 1 := wid (by omega) (by omega)
  have w2 : w32 (i + 2) = i + 2 := wid (by omega) (by omega)
  refine lw_step C hx hb hr hlocks (A' := A1) (ls' := [vR 35 39 L, vR 20 40 0, vR 21 190 0, vI i]) (st' := [vI y]) (by omega) (by omega) okw_834.1 (fun wf jp => ?_) (lw_step C hx hb hr hlocks (A' := A2) z1 z2 okw_834.2 (fun wf jp => ?_) (kW A2 rel))
  · rw [b1_834]
    simp only [w1, w2]
    rw [if_pos ⟨by omega, by omega⟩, if_pos ⟨by omega, by omega⟩, wf.2.2.2 (i + 1).toNat (by omega), wf.2.2.2 (i + 2).toNat (by omega), r1, cI_v]
  · rw [b2_834]
    simp only [w1, w2]
    rw [if_pos ⟨by omega, by omega⟩, if_pos ⟨by omega, by omega⟩, wf.2.2.2 (i + 1).toNat (by omega), wf.2.2.2 (i + 2).toNat (by omega), r2, cI_v, if_pos rfl]

theorem lw_c_867 (C : CTX p room_1 s m #[Value.ref b] c D Z s.heap.size L xs adS 4 16 code) (hx : p.tables.exec = Jvm.exec) (hb : c.code = code) (hr : meth.sig.returnType = ret) (hlocks : meth.locks = false) {k : Nat} (hk : k ≤ 900) {i : Int} (h0 : 0 ≤ i) (hL : i + 6 ≤ (L : Int)) (hL2 : L ≤ 3072) {A : AH} (r : REL k A) (kW : ∀ A2, REL (k + 1) A2 → Wok true p l e room_1 s m #[Value.ref b] below meth c (lw_Z below #[Value.ref b] s) D Z s.heap.size L xs adS adS 40 0 4 1055 [vR 35 39 L, vR 20 40 0, vR 21 190 0, vI i] [] A2) : Wok true p l e room_1 s m #[Value.ref b] below meth c (lw_Z below #[Value.ref b] s) D Z s.heap.size L xs adS adS 40 0 4 867 [vR 35 39 L, vR 20 40 0, vR 21 190 0, vI i] [] A := by
  have cp : CP 100 k 132 260 [vI ((xs (i + 1).toNat).toInt), vI ((xs (i + 2).toNat).toInt), vI ((xs (i + 3).toNat).toInt)] A := c_take 95 k (by omega) ((xs (i + 1).toNat).toInt) ((xs (i + 2).toNat).toInt) ((xs (i + 3).toNat).toInt) (x32 _).1 (x32 _).2 A r
  obtain ⟨v, A1, A2, r1, r2, rel⟩ := cp
  obtain ⟨y, hy⟩ := runF_int (d := 99) r1 (by decide)
  injection hy with hy
  subst hy
  have pf := runF_pfx _ _ _ _ _ _ r2
  have q1 := pfx_sz pf
  have q2 := pfx_sl pf
  obtain ⟨z1, z2⟩ := REL_sz rel (by omega)
  have w1 : w32 (i + 1) = i + 1 := wid (by omega) (by omega)
  have w2 : w32 (i + 2) = i + 2 := wid (by omega) (by omega)
  have w3 : w32 (i + 3) = i + 3 := wid (by omega) (by omega)
  refine lw_step C hx hb hr hlocks (A' := A1) (ls' := [vR 35 39 L, vR 20 40 0, vR 21 190 0, vI i]) (st' := [vI y]) (by omega) (by omega) okw_867.1 (fun wf jp => ?_) (lw_step C hx hb hr hlocks (A' := A2) z1 z2 okw_867.2 (fun wf jp => ?_) (kW A2 rel))
  · rw [b1_867]
    simp only [w1, w2, w3]
    rw [if_pos ⟨by omega, by omega⟩, if_pos ⟨by omega, by omega⟩, if_pos ⟨by omega, by omega⟩, wf.2.2.2 (i + 1).toNat (by omega), wf.2.2.2 (i + 2).toNat (by omega), wf.2.2.2 (i + 3).toNat (by omega), r1, cI_v]
  · rw [b2_867]
    simp only [w1, w2, w3]
    rw [if_pos ⟨by omega, by omega⟩, if_pos ⟨by omega, by omega⟩, if_pos ⟨by omega, by omega⟩, wf.2.2.2 (i + 1).toNat (by omega), wf.2.2.2 (i + 2).toNat (by omega), wf.2.2.2 (i + 3).toNat (by omega), r2, cI_v, if_pos rfl]

theorem lw_c_910 (C : CTX p room_1 s m #[Value.ref b] c D Z s.heap.size L xs adS 4 16 code) (hx : p.tables.exec = Jvm.exec) (hb : c.code = code) (hr : meth.sig.returnType = ret) (hlocks : meth.locks = false) {k : Nat} (hk : k ≤ 900) {i : Int} (h0 : 0 ≤ i) (hL : i + 6 ≤ (L : Int)) (hL2 : L ≤ 3072) {A : AH} (r : REL k A) (kW : ∀ A2, REL (k + 1) A2 → Wok true p l e room_1 s m #[Value.ref b] below meth c (lw_Z below #[Value.ref b] s) D Z s.heap.size L xs adS adS 40 0 4 1055 [vR 35 39 L, vR 20 40 0, vR 21 190 0, vI i] [] A2) : Wok true p l e room_1 s m #[Value.ref b] below meth c (lw_Z below #[Value.ref b] s) D Z s.heap.size L xs adS adS 40 0 4 910 [vR 35 39 L, vR 20 40 0, vR 21 190 0, vI i] [] A := by
  have cp : CP 100 k 133 261 [vI ((xs (i + 1).toNat).toInt)] A := c_dismiss 95 k (by omega) ((xs (i + 1).toNat).toInt) (x32 _).1 (x32 _).2 A r
  obtain ⟨v, A1, A2, r1, r2, rel⟩ := cp
  obtain ⟨y, hy⟩ := runF_int (d := 99) r1 (by decide)
  injection hy with hy
  subst hy
  have pf := runF_pfx _ _ _ _ _ _ r2
  have q1 := pfx_sz pf
  have q2 := pfx_sl pf
  obtain ⟨z1, z2⟩ := REL_sz rel (by omega)
  have w1 : w32 (i + 1) = i + 1 := wid (by omega) (by omega)
  refine lw_step C hx hb hr hlocks (A' := A1) (ls' := [vR 35 39 L, vR 20 40 0, vR 21 190 0, vI i]) (st' := [vI y]) (by omega) (by omega) okw_910.1 (fun wf jp => ?_) (lw_step C hx hb hr hlocks (A' := A2) z1 z2 okw_910.2 (fun wf jp => ?_) (kW A2 rel))
  · rw [b1_910]
    simp only [w1]
    rw [if_pos ⟨by omega, by omega⟩, wf.2.2.2 (i + 1).toNat (by omega), r1, cI_v]
  · rw [b2_910]
    simp only [w1]
    rw [if_pos ⟨by omega, by omega⟩, wf.2.2.2 (i + 1).toNat (by omega), r2, cI_v, if_pos rfl]

theorem lw_c_933 (C : CTX p room_1 s m #[Value.ref b] c D Z s.heap.size L xs adS 4 16 code) (hx : p.tables.exec = Jvm.exec) (hb : c.code = code) (hr : meth.sig.returnType = ret) (hlocks : meth.locks = false) {k : Nat} (hk : k ≤ 900) {i : Int} (h0 : 0 ≤ i) (hL : i + 6 ≤ (L : Int)) (hL2 : L ≤ 3072) {A : AH} (r : REL k A) (kW : ∀ A2, REL (k + 1) A2 → Wok true p l e room_1 s m #[Value.ref b] below meth c (lw_Z below #[Value.ref b] s) D Z s.heap.size L xs adS adS 40 0 4 1055 [vR 35 39 L, vR 20 40 0, vR 21 190 0, vI i] [] A2) : Wok true p l e room_1 s m #[Value.ref b] below meth c (lw_Z below #[Value.ref b] s) D Z s.heap.size L xs adS adS 40 0 4 933 [vR 35 39 L, vR 20 40 0, vR 21 190 0, vI i] [] A := by
  have cp : CP 100 k 134 251 [] A := c_undo 96 k (by omega) A r
  obtain ⟨v, A1, A2, r1, r2, rel⟩ := cp
  obtain ⟨y, hy⟩ := runF_int (d := 99) r1 (by decide)
  injection hy with hy
  subst hy
  have pf := runF_pfx _ _ _ _ _ _ r2
  have q1 := pfx_sz pf
  have q2 := pfx_sl pf
  obtain ⟨z1, z2⟩ := REL_sz rel (by omega)
  refine lw_step C hx hb hr hlocks (A' := A1) (ls' := [vR 35 39 L, vR 20 40 0, vR 21 190 0, vI i]) (st' := [vI y]) (by omega) (by omega) okw_933.1 (fun wf jp => ?_) (lw_step C hx hb hr hlocks (A' := A2) z1 z2 okw_933.2 (fun wf jp => ?_) (kW A2 rel))
  · rw [b1_933]
    rw [r1, cI_v]
  · rw [b2_933]
    rw [r2, cI_v, if_pos rfl]

theorem lw_c_946 (C : CTX p room_1 s m #[Value.ref b] c D Z s.heap.size L xs adS 4 16 code) (hx : p.tables.exec = Jvm.exec) (hb : c.code = code) (hr : meth.sig.returnType = ret) (hlocks : meth.locks = false) {k : Nat} (hk : k ≤ 900) {i : Int} (h0 : 0 ≤ i) (hL : i + 6 ≤ (L : Int)) (hL2 : L ≤ 3072) {A : AH} (r : REL k A) (kW : ∀ A2, REL (k + 1) A2 → Wok true p l e room_1 s m #[Value.ref b] below meth c (lw_Z below #[Value.ref b] s) D Z s.heap.size L xs adS adS 40 0 4 1055 [vR 35 39 L, vR 20 40 0, vR 21 190 0, vI i] [] A2) : Wok true p l e room_1 s m #[Value.ref b] below meth c (lw_Z below #[Value.ref b] s) D Z s.heap.size L xs adS adS 40 0 4 946 [vR 35 39 L, vR 20 40 0, vR 21 190 0, vI i] [] A := by
  have cp : CP 100 k 135 252 [vI ((xs (i + 1).toNat).toInt)] A := c_seed 98 k (by omega) ((xs (i + 1).toNat).toInt) (x32 _).2 A r
  obtain ⟨v, A1, A2, r1, r2, rel⟩ := cp
  obtain ⟨y, hy⟩ := runF_int (d := 99) r1 (by decide)
  injection hy with hy
  subst hy
  have pf := runF_pfx _ _ _ _ _ _ r2
  have q1 := pfx_sz pf
  have q2 := pfx_sl pf
  obtain ⟨z1, z2⟩ := REL_sz rel (by omega)
  have w1 : w32 (i + 1) = i + 1 := wid (by omega) (by omega)
  refine lw_step C hx hb hr hlocks (A' := A1) (ls' := [vR 35 39 L, vR 20 40 0, vR 21 190 0, vI i]) (st' := [vI y]) (by omega) (by omega) okw_946.1 (fun wf jp => ?_) (lw_step C hx hb hr hlocks (A' := A2) z1 z2 okw_946.2 (fun wf jp => ?_) (kW A2 rel))
  · rw [b1_946]
    simp only [w1]
    rw [if_pos ⟨by omega, by omega⟩, wf.2.2.2 (i + 1).toNat (by omega), r1, cI_v]
  · rw [b2_946]
    simp only [w1]
    rw [if_pos ⟨by omega, by omega⟩, wf.2.2.2 (i + 1).toNat (by omega), r2, cI_v, if_pos rfl]

theorem lw_c_969 (C : CTX p room_1 s m #[Value.ref b] c D Z s.heap.size L xs adS 4 16 code) (hx : p.tables.exec = Jvm.exec) (hb : c.code = code) (hr : meth.sig.returnType = ret) (hlocks : meth.locks = false) {k : Nat} (hk : k ≤ 900) {i : Int} (h0 : 0 ≤ i) (hL : i + 6 ≤ (L : Int)) (hL2 : L ≤ 3072) {A : AH} (r : REL k A) (kW : ∀ A2, REL (k + 1) A2 → Wok true p l e room_1 s m #[Value.ref b] below meth c (lw_Z below #[Value.ref b] s) D Z s.heap.size L xs adS adS 40 0 4 1055 [vR 35 39 L, vR 20 40 0, vR 21 190 0, vI i] [] A2) : Wok true p l e room_1 s m #[Value.ref b] below meth c (lw_Z below #[Value.ref b] s) D Z s.heap.size L xs adS adS 40 0 4 969 [vR 35 39 L, vR 20 40 0, vR 21 190 0, vI i] [] A := by
  have cp : CP 100 k 136 290 [] A := c_ask 38 k (by omega) A r
  obtain ⟨v, A1, A2, r1, r2, rel⟩ := cp
  obtain ⟨y, hy⟩ := runF_long (d := 99) r1 (by decide)
  injection hy with hy
  subst hy
  have pf := runF_pfx _ _ _ _ _ _ r2
  have q1 := pfx_sz pf
  have q2 := pfx_sl pf
  obtain ⟨z1, z2⟩ := REL_sz rel (by omega)
  refine lw_step C hx hb hr hlocks (A' := A1) (ls' := [vR 35 39 L, vR 20 40 0, vR 21 190 0, vI i]) (st' := [vL y]) (by omega) (by omega) okw_969.1 (fun wf jp => ?_) (lw_step C hx hb hr hlocks (A' := A2) z1 z2 okw_969.2 (fun wf jp => ?_) (kW A2 rel))
  · rw [b1_969]
    rw [r1, cL_v]
  · rw [b2_969]
    rw [r2, cL_v, if_pos (by rw [lcp_eq])]

theorem lw_c_983 (C : CTX p room_1 s m #[Value.ref b] c D Z s.heap.size L xs adS 4 16 code) (hx : p.tables.exec = Jvm.exec) (hb : c.code = code) (hr : meth.sig.returnType = ret) (hlocks : meth.locks = false) {k : Nat} (hk : k ≤ 900) {i : Int} (h0 : 0 ≤ i) (hL : i + 6 ≤ (L : Int)) (hL2 : L ≤ 3072) {A : AH} (r : REL k A) (kW : ∀ A2, REL (k + 1) A2 → Wok true p l e room_1 s m #[Value.ref b] below meth c (lw_Z below #[Value.ref b] s) D Z s.heap.size L xs adS adS 40 0 4 1055 [vR 35 39 L, vR 20 40 0, vR 21 190 0, vI i] [] A2) : Wok true p l e room_1 s m #[Value.ref b] below meth c (lw_Z below #[Value.ref b] s) D Z s.heap.size L xs adS adS 40 0 4 983 [vR 35 39 L, vR 20 40 0, vR 21 190 0, vI i] [] A := by
  have cp : CP 100 k 137 293 [] A := c_image 97 k A r
  obtain ⟨v, A1, A2, r1, r2, rel⟩ := cp
  obtain ⟨y, hy⟩ := runF_int (d := 99) r1 (by decide)
  injection hy with hy
  subst hy
  have pf := runF_pfx _ _ _ _ _ _ r2
  have q1 := pfx_sz pf
  have q2 := pfx_sl pf
  obtain ⟨z1, z2⟩ := REL_sz rel (by omega)
  refine lw_step C hx hb hr hlocks (A' := A1) (ls' := [vR 35 39 L, vR 20 40 0, vR 21 190 0, vI i]) (st' := [vI y]) (by omega) (by omega) okw_983.1 (fun wf jp => ?_) (lw_step C hx hb hr hlocks (A' := A2) z1 z2 okw_983.2 (fun wf jp => ?_) (kW A2 rel))
  · rw [b1_983]
    rw [r1, cI_v]
  · rw [b2_983]
    rw [r2, cI_v, if_pos rfl]

theorem lw_c_996 (C : CTX p room_1 s m #[Value.ref b] c D Z s.heap.size L xs adS 4 16 code) (hx : p.tables.exec = Jvm.exec) (hb : c.code = code) (hr : meth.sig.returnType = ret) (hlocks : meth.locks = false) {k : Nat} (hk : k ≤ 900) {i : Int} (h0 : 0 ≤ i) (hL : i + 6 ≤ (L : Int)) (hL2 : L ≤ 3072) {A : AH} (r : REL k A) (kW : ∀ A2, REL (k + 1) A2 → Wok true p l e room_1 s m #[Value.ref b] below meth c (lw_Z below #[Value.ref b] s) D Z s.heap.size L xs adS adS 40 0 4 1055 [vR 35 39 L, vR 20 40 0, vR 21 190 0, vI i] [] A2) : Wok true p l e room_1 s m #[Value.ref b] below meth c (lw_Z below #[Value.ref b] s) D Z s.heap.size L xs adS adS 40 0 4 996 [vR 35 39 L, vR 20 40 0, vR 21 190 0, vI i] [] A := by
  have cp : CP 100 k 138 294 [vI ((xs (i + 1).toNat).toInt)] A := c_octet 99 k ((xs (i + 1).toNat).toInt) A r
  obtain ⟨v, A1, A2, r1, r2, rel⟩ := cp
  obtain ⟨y, hy⟩ := runF_int (d := 99) r1 (by decide)
  injection hy with hy
  subst hy
  have pf := runF_pfx _ _ _ _ _ _ r2
  have q1 := pfx_sz pf
  have q2 := pfx_sl pf
  obtain ⟨z1, z2⟩ := REL_sz rel (by omega)
  have w1 : w32 (i + 1) = i + 1 := wid (by omega) (by omega)
  refine lw_step C hx hb hr hlocks (A' := A1) (ls' := [vR 35 39 L, vR 20 40 0, vR 21 190 0, vI i]) (st' := [vI y]) (by omega) (by omega) okw_996.1 (fun wf jp => ?_) (lw_step C hx hb hr hlocks (A' := A2) z1 z2 okw_996.2 (fun wf jp => ?_) (kW A2 rel))
  · rw [b1_996]
    simp only [w1]
    rw [if_pos ⟨by omega, by omega⟩, wf.2.2.2 (i + 1).toNat (by omega), r1, cI_v]
  · rw [b2_996]
    simp only [w1]
    rw [if_pos ⟨by omega, by omega⟩, wf.2.2.2 (i + 1).toNat (by omega), r2, cI_v, if_pos rfl]

theorem lw_c_1019 (C : CTX p room_1 s m #[Value.ref b] c D Z s.heap.size L xs adS 4 16 code) (hx : p.tables.exec = Jvm.exec) (hb : c.code = code) (hr : meth.sig.returnType = ret) (hlocks : meth.locks = false) {k : Nat} (hk : k ≤ 900) {i : Int} (h0 : 0 ≤ i) (hL : i + 6 ≤ (L : Int)) (hL2 : L ≤ 3072) {A : AH} (r : REL k A) (kW : ∀ A2, REL (k + 1) A2 → Wok true p l e room_1 s m #[Value.ref b] below meth c (lw_Z below #[Value.ref b] s) D Z s.heap.size L xs adS adS 40 0 4 1055 [vR 35 39 L, vR 20 40 0, vR 21 190 0, vI i] [] A2) : Wok true p l e room_1 s m #[Value.ref b] below meth c (lw_Z below #[Value.ref b] s) D Z s.heap.size L xs adS adS 40 0 4 1019 [vR 35 39 L, vR 20 40 0, vR 21 190 0, vI i] [] A := by
  have cp : CP 100 k 139 299 [] A := c_on 94 k (by omega) A r
  obtain ⟨v, A1, A2, r1, r2, rel⟩ := cp
  obtain ⟨y, hy⟩ := runF_int (d := 99) r1 (by decide)
  injection hy with hy
  subst hy
  have pf := runF_pfx _ _ _ _ _ _ r2
  have q1 := pfx_sz pf
  have q2 := pfx_sl pf
  obtain ⟨z1, z2⟩ := REL_sz rel (by omega)
  refine lw_step C hx hb hr hlocks (A' := A1) (ls' := [vR 35 39 L, vR 20 40 0, vR 21 190 0, vI i]) (st' := [vI y]) (by omega) (by omega) okw_1019.1 (fun wf jp => ?_) (lw_step C hx hb hr hlocks (A' := A2) z1 z2 okw_1019.2 (fun wf jp => ?_) (kW A2 rel))
  · rw [b1_1019]
    rw [r1, cI_v]
  · rw [b2_1019]
    rw [r2, cI_v, if_pos rfl]

theorem lw_c_1032 (C : CTX p room_1 s m #[Value.ref b] c D Z s.heap.size L xs adS 4 16 code) (hx : p.tables.exec = Jvm.exec) (hb : c.code = code) (hr : meth.sig.returnType = ret) (hlocks : meth.locks = false) {k : Nat} (hk : k ≤ 900) {i : Int} (h0 : 0 ≤ i) (hL : i + 6 ≤ (L : Int)) (hL2 : L ≤ 3072) {A : AH} (r : REL k A) (kW : ∀ A2, REL (k + 1) A2 → Wok true p l e room_1 s m #[Value.ref b] below meth c (lw_Z below #[Value.ref b] s) D Z s.heap.size L xs adS adS 40 0 4 1055 [vR 35 39 L, vR 20 40 0, vR 21 190 0, vI i] [] A2) : Wok true p l e room_1 s m #[Value.ref b] below meth c (lw_Z below #[Value.ref b] s) D Z s.heap.size L xs adS adS 40 0 4 1032 [vR 35 39 L, vR 20 40 0, vR 21 190 0, vI i] [] A := by
  have cp : CP 100 k 140 300 [vI ((xs (i + 1).toNat).toInt)] A := c_status 98 k ((xs (i + 1).toNat).toInt) A r
  obtain ⟨v, A1, A2, r1, r2, rel⟩ := cp
  obtain ⟨y, hy⟩ := runF_int (d := 99) r1 (by decide)
  injection hy with hy
  subst hy
  have pf := runF_pfx _ _ _ _ _ _ r2
  have q1 := pfx_sz pf
  have q2 := pfx_sl pf
  obtain ⟨z1, z2⟩ := REL_sz rel (by omega)
  have w1 : w32 (i + 1) = i + 1 := wid (by omega) (by omega)
  refine lw_step C hx hb hr hlocks (A' := A1) (ls' := [vR 35 39 L, vR 20 40 0, vR 21 190 0, vI i]) (st' := [vI y]) (by omega) (by omega) okw_1032.1 (fun wf jp => ?_) (lw_step C hx hb hr hlocks (A' := A2) z1 z2 okw_1032.2 (fun wf jp => ?_) (kW A2 rel))
  · rw [b1_1032]
    simp only [w1]
    rw [if_pos ⟨by omega, by omega⟩, wf.2.2.2 (i + 1).toNat (by omega), r1, cI_v]
  · rw [b2_1032]
    simp only [w1]
    rw [if_pos ⟨by omega, by omega⟩, wf.2.2.2 (i + 1).toNat (by omega), r2, cI_v, if_pos rfl]

theorem lw_loop (C : CTX p room_1 s m #[Value.ref b] c D Z s.heap.size L xs adS 4 16 code) (hx : p.tables.exec = Jvm.exec) (hb : c.code = code) (hr : meth.sig.returnType = ret) (hlocks : meth.locks = false) (hbs : okBs 16 false code (pbs 32) = true) (hL2 : L ≤ 3072) : ∀ (mm k : Nat) (i : Int) (A : AH), i = 6 * (k : Int) → (L : Int) ≤ i + 6 * mm → k + mm ≤ 800 → REL k A → Wok true p l e room_1 s m #[Value.ref b] below meth c (lw_Z below #[Value.ref b] s) D Z s.heap.size L xs adS adS 40 0 4 18 [vR 35 39 L, vR 20 40 0, vR 21 190 0, vI i] [] A := by
  intro mm
  have wL : w32 ((L : Int) - 6) = (L : Int) - 6 := wid (by omega) (by omega)
  have ex : ∀ (k : Nat) (i : Int) (A : AH), k ≤ 800 → REL k A → (L : Int) - 6 < i → Wok true p l e room_1 s m #[Value.ref b] below meth c (lw_Z below #[Value.ref b] s) D Z s.heap.size L xs adS adS 40 0 4 18 [vR 35 39 L, vR 20 40 0, vR 21 190 0, vI i] [] A := by
    intro k i A hk r hc
    obtain ⟨z1, z2⟩ := REL_sz r (by omega)
    refine lw_step C hx hb hr hlocks (A' := A) z1 z2 okw_18 (fun wf jp => ?_) (lw_end C hx hb hr hlocks hbs z1 z2 i)
    rw [b_18, wL, if_pos hc]
  induction mm with
  | zero =>
    intro k i A hi h1 h2 r
    exact ex k i A (by omega) r (by omega)
  | succ mm ih =>
    intro k i A hi h1 h2 r
    by_cases hc : (L : Int) - 6 < i
    · exact ex k i A (by omega) r hc
    obtain ⟨z1, z2⟩ := REL_sz r (by omega)
    have kW : ∀ A2, REL (k + 1) A2 → Wok true p l e room_1 s m #[Value.ref b] below meth c (lw_Z below #[Value.ref b] s) D Z s.heap.size L xs adS adS 40 0 4 1055 [vR 35 39 L, vR 20 40 0, vR 21 190 0, vI i] [] A2 := fun A2 rel => by
      obtain ⟨y1, y2⟩ := REL_sz rel (by omega)
      refine lw_step C hx hb hr hlocks (A' := A2) y1 y2 okw_1055 (fun wf jp => ?_) (ih (k + 1) (i + 6) A2 (by omega) (by omega) (by omega) rel)
      rw [b_1055, wid (by omega) (by omega)]
    have h18 : ∀ pc', (∀ jp : Nat → NX, blk true 2 (runF 100) (runN 100) jp lw_18 18 [vR 35 39 L, vR 20 40 0, vR 21 190 0, vI i] [] A = jp pc' [vR 35 39 L, vR 20 40 0, vR 21 190 0, vI i] [] A) → Wok true p l e room_1 s m #[Value.ref b] below meth c (lw_Z below #[Value.ref b] s) D Z s.heap.size L xs adS adS 40 0 4 pc' [vR 35 39 L, vR 20 40 0, vR 21 190 0, vI i] [] A → Wok true p l e room_1 s m #[Value.ref b] below meth c (lw_Z below #[Value.ref b] s) D Z s.heap.size L xs adS adS 40 0 4 18 [vR 35 39 L, vR 20 40 0, vR 21 190 0, vI i] [] A := fun pc' hb' kk => lw_step C hx hb hr hlocks (A' := A) z1 z2 okw_18 (fun wf jp => hb' jp) kk
    by_cases d0 : band (gi A 39 i.toNat) 31 = 0
    · exact h18 176 (fun jp => by rw [b_18, wL, if_neg hc, if_pos ⟨by omega, by omega⟩, if_pos d0]) (lw_c_176 C hx hb hr hlocks (by omega) (by omega) (by omega) hL2 r kW)
    by_cases d1 : band (gi A 39 i.toNat) 31 = 1
    · exact h18 239 (fun jp => by rw [b_18, wL, if_neg hc, if_pos ⟨by omega, by omega⟩, if_neg d0, if_pos d1]) (lw_c_239 C hx hb hr hlocks (by omega) (by omega) (by omega) hL2 r kW)
    by_cases d2 : band (gi A 39 i.toNat) 31 = 2
    · exact h18 262 (fun jp => by rw [b_18, wL, if_neg hc, if_pos ⟨by omega, by omega⟩, if_neg d0, if_neg d1, if_pos d2]) (lw_c_262 C hx hb hr hlocks (by omega) (by omega) (by omega) hL2 r kW)
    by_cases d3 : band (gi A 39 i.toNat) 31 = 3
    · exact h18 275 (fun jp => by rw [b_18, wL, if_neg hc, if_pos ⟨by omega, by omega⟩, if_neg d0, if_neg d1, if_neg d2, if_pos d3]) (lw_c_275 C hx hb hr hlocks (by omega) (by omega) (by omega) hL2 r kW)
    by_cases d4 : band (gi A 39 i.toNat) 31 = 4
    · exact h18 298 (fun jp => by rw [b_18, wL, if_neg hc, if_pos ⟨by omega, by omega⟩, if_neg d0, if_neg d1, if_neg d2, if_neg d3, if_pos d4]) (lw_c_298 C hx hb hr hlocks (by omega) (by omega) (by omega) hL2 r kW)
    by_cases d5 : band (gi A 39 i.toNat) 31 = 5
    · exact h18 321 (fun jp => by rw [b_18, wL, if_neg hc, if_pos ⟨by omega, by omega⟩, if_neg d0, if_neg d1, if_neg d2, if_neg d3, if_neg d4, if_pos d5]) (lw_c_321 C hx hb hr hlocks (by omega) (by omega) (by omega) hL2 r kW)
    by_cases d6 : band (gi A 39 i.toNat) 31 = 6
    · exact h18 334 (fun jp => by rw [b_18, wL, if_neg hc, if_pos ⟨by omega, by omega⟩, if_neg d0, if_neg d1, if_neg d2, if_neg d3, if_neg d4, if_neg d5, if_pos d6]) (lw_c_334 C hx hb hr hlocks (by omega) (by omega) (by omega) hL2 r kW)
    by_cases d7 : band (gi A 39 i.toNat) 31 = 7
    · exact h18 377 (fun jp => by rw [b_18, wL, if_neg hc, if_pos ⟨by omega, by omega⟩, if_neg d0, if_neg d1, if_neg d2, if_neg d3, if_neg d4, if_neg d5, if_neg d6, if_pos d7]) (lw_c_377 C hx hb hr hlocks (by omega) (by omega) (by omega) hL2 r kW)
    by_cases d8 : band (gi A 39 i.toNat) 31 = 8
    · exact h18 410 (fun jp => by rw [b_18, wL, if_neg hc, if_pos ⟨by omega, by omega⟩, if_neg d0, if_neg d1, if_neg d2, if_neg d3, if_neg d4, if_neg d5, if_neg d6, if_neg d7, if_pos d8]) (lw_c_410 C hx hb hr hlocks (by omega) (by omega) (by omega) hL2 r kW)
    by_cases d9 : band (gi A 39 i.toNat) 31 = 9
    · exact h18 433 (fun jp => by rw [b_18, wL, if_neg hc, if_pos ⟨by omega, by omega⟩, if_neg d0, if_neg d1, if_neg d2, if_neg d3, if_neg d4, if_neg d5, if_neg d6, if_neg d7, if_neg d8, if_pos d9]) (lw_c_433 C hx hb hr hlocks (by omega) (by omega) (by omega) hL2 r kW)
    by_cases d10 : band (gi A 39 i.toNat) 31 = 10
    · exact h18 466 (fun jp => by rw [b_18, wL, if_neg hc, if_pos ⟨by omega, by omega⟩, if_neg d0, if_neg d1, if_neg d2, if_neg d3, if_neg d4, if_neg d5, if_neg d6, if_neg d7, if_neg d8, if_neg d9, if_pos d10]) (lw_c_466 C hx hb hr hlocks (by omega) (by omega) (by omega) hL2 r kW)
    by_cases d11 : band (gi A 39 i.toNat) 31 = 11
    · exact h18 499 (fun jp => by rw [b_18, wL, if_neg hc, if_pos ⟨by omega, by omega⟩, if_neg d0, if_neg d1, if_neg d2, if_neg d3, if_neg d4, if_neg d5, if_neg d6, if_neg d7, if_neg d8, if_neg d9, if_neg d10, if_pos d11]) (lw_c_499 C hx hb hr hlocks (by omega) (by omega) (by omega) hL2 r kW)
    by_cases d12 : band (gi A 39 i.toNat) 31 = 12
    · exact h18 532 (fun jp => by rw [b_18, wL, if_neg hc, if_pos ⟨by omega, by omega⟩, if_neg d0, if_neg d1, if_neg d2, if_neg d3, if_neg d4, if_neg d5, if_neg d6, if_neg d7, if_neg d8, if_neg d9, if_neg d10, if_neg d11, if_pos d12]) (lw_c_532 C hx hb hr hlocks (by omega) (by omega) (by omega) hL2 r kW)
    by_cases d13 : band (gi A 39 i.toNat) 31 = 13
    · exact h18 556 (fun jp => by rw [b_18, wL, if_neg hc, if_pos ⟨by omega, by omega⟩, if_neg d0, if_neg d1, if_neg d2, if_neg d3, if_neg d4, if_neg d5, if_neg d6, if_neg d7, if_neg d8, if_neg d9, if_neg d10, if_neg d11, if_neg d12, if_pos d13]) (lw_c_556 C hx hb hr hlocks (by omega) (by omega) (by omega) hL2 r kW)
    by_cases d14 : band (gi A 39 i.toNat) 31 = 14
    · exact h18 579 (fun jp => by rw [b_18, wL, if_neg hc, if_pos ⟨by omega, by omega⟩, if_neg d0, if_neg d1, if_neg d2, if_neg d3, if_neg d4, if_neg d5, if_neg d6, if_neg d7, if_neg d8, if_neg d9, if_neg d10, if_neg d11, if_neg d12, if_neg d13, if_pos d14]) (lw_c_579 C hx hb hr hlocks (by omega) (by omega) (by omega) hL2 r kW)
    by_cases d15 : band (gi A 39 i.toNat) 31 = 15
    · exact h18 632 (fun jp => by rw [b_18, wL, if_neg hc, if_pos ⟨by omega, by omega⟩, if_neg d0, if_neg d1, if_neg d2, if_neg d3, if_neg d4, if_neg d5, if_neg d6, if_neg d7, if_neg d8, if_neg d9, if_neg d10, if_neg d11, if_neg d12, if_neg d13, if_neg d14, if_pos d15]) (lw_c_632 C hx hb hr hlocks (by omega) (by omega) (by omega) hL2 r kW)
    by_cases d16 : band (gi A 39 i.toNat) 31 = 16
    · exact h18 665 (fun jp => by rw [b_18, wL, if_neg hc, if_pos ⟨by omega, by omega⟩, if_neg d0, if_neg d1, if_neg d2, if_neg d3, if_neg d4, if_neg d5, if_neg d6, if_neg d7, if_neg d8, if_neg d9, if_neg d10, if_neg d11, if_neg d12, if_neg d13, if_neg d14, if_neg d15, if_pos d16]) (lw_c_665 C hx hb hr hlocks (by omega) (by omega) (by omega) hL2 r kW)
    by_cases d17 : band (gi A 39 i.toNat) 31 = 17
    · exact h18 699 (fun jp => by rw [b_18, wL, if_neg hc, if_pos ⟨by omega, by omega⟩, if_neg d0, if_neg d1, if_neg d2, if_neg d3, if_neg d4, if_neg d5, if_neg d6, if_neg d7, if_neg d8, if_neg d9, if_neg d10, if_neg d11, if_neg d12, if_neg d13, if_neg d14, if_neg d15, if_neg d16, if_pos d17]) (lw_c_699 C hx hb hr hlocks (by omega) (by omega) (by omega) hL2 r kW)
    by_cases d18 : band (gi A 39 i.toNat) 31 = 18
    · exact h18 732 (fun jp => by rw [b_18, wL, if_neg hc, if_pos ⟨by omega, by omega⟩, if_neg d0, if_neg d1, if_neg d2, if_neg d3, if_neg d4, if_neg d5, if_neg d6, if_neg d7, if_neg d8, if_neg d9, if_neg d10, if_neg d11, if_neg d12, if_neg d13, if_neg d14, if_neg d15, if_neg d16, if_neg d17, if_pos d18]) (lw_c_732 C hx hb hr hlocks (by omega) (by omega) (by omega) hL2 r kW)
    by_cases d19 : band (gi A 39 i.toNat) 31 = 19
    · exact h18 765 (fun jp => by rw [b_18, wL, if_neg hc, if_pos ⟨by omega, by omega⟩, if_neg d0, if_neg d1, if_neg d2, if_neg d3, if_neg d4, if_neg d5, if_neg d6, if_neg d7, if_neg d8, if_neg d9, if_neg d10, if_neg d11, if_neg d12, if_neg d13, if_neg d14, if_neg d15, if_neg d16, if_neg d17, if_neg d18, if_pos d19]) (lw_c_765 C hx hb hr hlocks (by omega) (by omega) (by omega) hL2 r kW)
    by_cases d20 : band (gi A 39 i.toNat) 31 = 20
    · exact h18 788 (fun jp => by rw [b_18, wL, if_neg hc, if_pos ⟨by omega, by omega⟩, if_neg d0, if_neg d1, if_neg d2, if_neg d3, if_neg d4, if_neg d5, if_neg d6, if_neg d7, if_neg d8, if_neg d9, if_neg d10, if_neg d11, if_neg d12, if_neg d13, if_neg d14, if_neg d15, if_neg d16, if_neg d17, if_neg d18, if_neg d19, if_pos d20]) (lw_c_788 C hx hb hr hlocks (by omega) (by omega) (by omega) hL2 r kW)
    by_cases d21 : band (gi A 39 i.toNat) 31 = 21
    · exact h18 811 (fun jp => by rw [b_18, wL, if_neg hc, if_pos ⟨by omega, by omega⟩, if_neg d0, if_neg d1, if_neg d2, if_neg d3, if_neg d4, if_neg d5, if_neg d6, if_neg d7, if_neg d8, if_neg d9, if_neg d10, if_neg d11, if_neg d12, if_neg d13, if_neg d14, if_neg d15, if_neg d16, if_neg d17, if_neg d18, if_neg d19, if_neg d20, if_pos d21]) (lw_c_811 C hx hb hr hlocks (by omega) (by omega) (by omega) hL2 r kW)
    by_cases d22 : band (gi A 39 i.toNat) 31 = 22
    · exact h18 834 (fun jp => by rw [b_18, wL, if_neg hc, if_pos ⟨by omega, by omega⟩, if_neg d0, if_neg d1, if_neg d2, if_neg d3, if_neg d4, if_neg d5, if_neg d6, if_neg d7, if_neg d8, if_neg d9, if_neg d10, if_neg d11, if_neg d12, if_neg d13, if_neg d14, if_neg d15, if_neg d16, if_neg d17, if_neg d18, if_neg d19, if_neg d20, if_neg d21, if_pos d22]) (lw_c_834 C hx hb hr hlocks (by omega) (by omega) (by omega) hL2 r kW)
    by_cases d23 : band (gi A 39 i.toNat) 31 = 23
    · exact h18 867 (fun jp => by rw [b_18, wL, if_neg hc, if_pos ⟨by omega, by omega⟩, if_neg d0, if_neg d1, if_neg d2, if_neg d3, if_neg d4, if_neg d5, if_neg d6, if_neg d7, if_neg d8, if_neg d9, if_neg d10, if_neg d11, if_neg d12, if_neg d13, if_neg d14, if_neg d15, if_neg d16, if_neg d17, if_neg d18, if_neg d19, if_neg d20, if_neg d21, if_neg d22, if_pos d23]) (lw_c_867 C hx hb hr hlocks (by omega) (by omega) (by omega) hL2 r kW)
    by_cases d24 : band (gi A 39 i.toNat) 31 = 24
    · exact h18 910 (fun jp => by rw [b_18, wL, if_neg hc, if_pos ⟨by omega, by omega⟩, if_neg d0, if_neg d1, if_neg d2, if_neg d3, if_neg d4, if_neg d5, if_neg d6, if_neg d7, if_neg d8, if_neg d9, if_neg d10, if_neg d11, if_neg d12, if_neg d13, if_neg d14, if_neg d15, if_neg d16, if_neg d17, if_neg d18, if_neg d19, if_neg d20, if_neg d21, if_neg d22, if_neg d23, if_pos d24]) (lw_c_910 C hx hb hr hlocks (by omega) (by omega) (by omega) hL2 r kW)
    by_cases d25 : band (gi A 39 i.toNat) 31 = 25
    · exact h18 933 (fun jp => by rw [b_18, wL, if_neg hc, if_pos ⟨by omega, by omega⟩, if_neg d0, if_neg d1, if_neg d2, if_neg d3, if_neg d4, if_neg d5, if_neg d6, if_neg d7, if_neg d8, if_neg d9, if_neg d10, if_neg d11, if_neg d12, if_neg d13, if_neg d14, if_neg d15, if_neg d16, if_neg d17, if_neg d18, if_neg d19, if_neg d20, if_neg d21, if_neg d22, if_neg d23, if_neg d24, if_pos d25]) (lw_c_933 C hx hb hr hlocks (by omega) (by omega) (by omega) hL2 r kW)
    by_cases d26 : band (gi A 39 i.toNat) 31 = 26
    · exact h18 946 (fun jp => by rw [b_18, wL, if_neg hc, if_pos ⟨by omega, by omega⟩, if_neg d0, if_neg d1, if_neg d2, if_neg d3, if_neg d4, if_neg d5, if_neg d6, if_neg d7, if_neg d8, if_neg d9, if_neg d10, if_neg d11, if_neg d12, if_neg d13, if_neg d14, if_neg d15, if_neg d16, if_neg d17, if_neg d18, if_neg d19, if_neg d20, if_neg d21, if_neg d22, if_neg d23, if_neg d24, if_neg d25, if_pos d26]) (lw_c_946 C hx hb hr hlocks (by omega) (by omega) (by omega) hL2 r kW)
    by_cases d27 : band (gi A 39 i.toNat) 31 = 27
    · exact h18 969 (fun jp => by rw [b_18, wL, if_neg hc, if_pos ⟨by omega, by omega⟩, if_neg d0, if_neg d1, if_neg d2, if_neg d3, if_neg d4, if_neg d5, if_neg d6, if_neg d7, if_neg d8, if_neg d9, if_neg d10, if_neg d11, if_neg d12, if_neg d13, if_neg d14, if_neg d15, if_neg d16, if_neg d17, if_neg d18, if_neg d19, if_neg d20, if_neg d21, if_neg d22, if_neg d23, if_neg d24, if_neg d25, if_neg d26, if_pos d27]) (lw_c_969 C hx hb hr hlocks (by omega) (by omega) (by omega) hL2 r kW)
    by_cases d28 : band (gi A 39 i.toNat) 31 = 28
    · exact h18 983 (fun jp => by rw [b_18, wL, if_neg hc, if_pos ⟨by omega, by omega⟩, if_neg d0, if_neg d1, if_neg d2, if_neg d3, if_neg d4, if_neg d5, if_neg d6, if_neg d7, if_neg d8, if_neg d9, if_neg d10, if_neg d11, if_neg d12, if_neg d13, if_neg d14, if_neg d15, if_neg d16, if_neg d17, if_neg d18, if_neg d19, if_neg d20, if_neg d21, if_neg d22, if_neg d23, if_neg d24, if_neg d25, if_neg d26, if_neg d27, if_pos d28]) (lw_c_983 C hx hb hr hlocks (by omega) (by omega) (by omega) hL2 r kW)
    by_cases d29 : band (gi A 39 i.toNat) 31 = 29
    · exact h18 996 (fun jp => by rw [b_18, wL, if_neg hc, if_pos ⟨by omega, by omega⟩, if_neg d0, if_neg d1, if_neg d2, if_neg d3, if_neg d4, if_neg d5, if_neg d6, if_neg d7, if_neg d8, if_neg d9, if_neg d10, if_neg d11, if_neg d12, if_neg d13, if_neg d14, if_neg d15, if_neg d16, if_neg d17, if_neg d18, if_neg d19, if_neg d20, if_neg d21, if_neg d22, if_neg d23, if_neg d24, if_neg d25, if_neg d26, if_neg d27, if_neg d28, if_pos d29]) (lw_c_996 C hx hb hr hlocks (by omega) (by omega) (by omega) hL2 r kW)
    by_cases d30 : band (gi A 39 i.toNat) 31 = 30
    · exact h18 1019 (fun jp => by rw [b_18, wL, if_neg hc, if_pos ⟨by omega, by omega⟩, if_neg d0, if_neg d1, if_neg d2, if_neg d3, if_neg d4, if_neg d5, if_neg d6, if_neg d7, if_neg d8, if_neg d9, if_neg d10, if_neg d11, if_neg d12, if_neg d13, if_neg d14, if_neg d15, if_neg d16, if_neg d17, if_neg d18, if_neg d19, if_neg d20, if_neg d21, if_neg d22, if_neg d23, if_neg d24, if_neg d25, if_neg d26, if_neg d27, if_neg d28, if_neg d29, if_pos d30]) (lw_c_1019 C hx hb hr hlocks (by omega) (by omega) (by omega) hL2 r kW)
    by_cases d31 : band (gi A 39 i.toNat) 31 = 31
    · exact h18 1032 (fun jp => by rw [b_18, wL, if_neg hc, if_pos ⟨by omega, by omega⟩, if_neg d0, if_neg d1, if_neg d2, if_neg d3, if_neg d4, if_neg d5, if_neg d6, if_neg d7, if_neg d8, if_neg d9, if_neg d10, if_neg d11, if_neg d12, if_neg d13, if_neg d14, if_neg d15, if_neg d16, if_neg d17, if_neg d18, if_neg d19, if_neg d20, if_neg d21, if_neg d22, if_neg d23, if_neg d24, if_neg d25, if_neg d26, if_neg d27, if_neg d28, if_neg d29, if_neg d30, if_pos d31]) (lw_c_1032 C hx hb hr hlocks (by omega) (by omega) (by omega) hL2 r kW)
    exact h18 1055 (fun jp => by rw [b_18, wL, if_neg hc, if_pos ⟨by omega, by omega⟩, if_neg d0, if_neg d1, if_neg d2, if_neg d3, if_neg d4, if_neg d5, if_neg d6, if_neg d7, if_neg d8, if_neg d9, if_neg d10, if_neg d11, if_neg d12, if_neg d13, if_neg d14, if_neg d15, if_neg d16, if_neg d17, if_neg d18, if_neg d19, if_neg d20, if_neg d21, if_neg d22, if_neg d23, if_neg d24, if_neg d25, if_neg d26, if_neg d27, if_neg d28, if_neg d29, if_neg d30, if_neg d31]) (kW A (REL_sc (sc_refl A) r))

end LOOP
