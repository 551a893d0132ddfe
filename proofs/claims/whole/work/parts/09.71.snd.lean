/-! one instruction -/
theorem okv_def {L : Nat} {A : AH} {t a n : Nat} {z : Int} (h0 : t ≠ 0) (h1 : t ≠ 1) (h8 : t ≠ 8) (h9 : t ≠ 9) : okv L A (t, z, a, n) ↔ (10 ≤ t ∧ okref A t a ∧ (30 ≤ t → a ≠ 0 → n = lenf L A t a)) := by
  unfold okv
  dsimp only
  split <;> first | contradiction | exact Iff.rfl
theorem okv_z {L : Nat} {A : AH} {t a n : Nat} {z : Int} (h0 : t ≠ 0) (h1 : t ≠ 1) (h : okv L A (t, z, a, n)) : okv L A (vR t a n) := by
  by_cases h8 : t = 8
  · subst h8; exact h
  · by_cases h9 : t = 9
    · subst h9; exact h
    · exact (okv_def h0 h1 h8 h9).mpr ((okv_def h0 h1 h8 h9).mp h)
theorem ret_inv {q : Nat} {x : RS} {st : List AV} {nx : List AV → AH → RS} {r : Option AV × AH} (h : i_ret q x st nx = some r) : ∃ (v : Option AV) (A' : AH) (w : List AV), x = some (v, A') ∧ nx w A' = some r ∧ (∀ ad, (v.toList ++ st).map (cv ad) = w.map (cv ad)) ∧ ∀ L A, OKV L A (v.toList ++ st) → OKV L A w := by
  unfold i_ret at h
  split at h
  · unfold cI at h
    split at h
    · rename_i y w A'
      refine ⟨_, _, _, rfl, h, fun ad => rfl, fun L A ho => ?_⟩
      exact okv_cons (show in32 y from okv_head ho) (okv_tail ho)
    · cases h
  · unfold cL at h
    split at h
    · rename_i y w A'
      refine ⟨_, _, _, rfl, h, fun ad => rfl, fun L A ho => ?_⟩
      exact okv_cons (show in64 y from okv_head ho) (okv_tail ho)
    · cases h
  · unfold cV at h
    split at h
    · exact ⟨_, _, _, rfl, h, fun ad => rfl, fun L A ho => ho⟩
    · cases h
  · rename_i q0 q1 q3
    unfold cR at h
    split at h
    · rename_i t' z a n A'
      split at h
      · rename_i ht
        have ht : t' = q := by simpa using ht
        subst ht
        have a0 : t' ≠ 0 := q0
        have a1 : t' ≠ 1 := q1
        refine ⟨_, _, _, rfl, h, fun ad => ?_, fun L A ho => ?_⟩
        · show cv ad (t', z, a, n) :: st.map (cv ad) = cv ad (vR t' a n) :: st.map (cv ad)
          rw [cv_r (v := (t', z, a, n)) (show 2 ≤ t' by omega), cv_r (v := vR t' a n) (show 2 ≤ t' by omega)]
          rfl
        · refine okv_cons ?_ (okv_tail ho)
          have h9 : okv L A (t', z, a, n) := okv_head ho
          exact okv_z a0 a1 h9
      · cases h
    · cases h
section SND8
variable {p : Program} {l : Launch} {e : Env} {R : Room} {s : State} {m : MethodId} {args : Array Value} {below : List Frame} {meth : Method} {c : Code} {Q : State → Prop}
variable {f : Bool} {D : va_G} {Z : CI4} {base L z0 u0 nL own : Nat} {xs : Nat → Int32} {adS adE : Nat → Nat} {cc : ByteArray} {pc : Nat} {ls st : List AV} {A : AH}
theorem wk_cong {st' : List AV} (h1 : ∀ ad, st.map (cv ad) = st'.map (cv ad)) (h2 : OKV L A st → OKV L A st') (kk : Wok f p l e R s m args below meth c Q D Z base L xs adS adE z0 u0 nL pc ls st' A) : Wok f p l e R s m args below meth c Q D Z base L xs adS adE z0 u0 nL pc ls st A := by
  intro ad H locs cells slots lsM hI hL ho hs
  rw [h1 ad]
  exact kk ad H locs cells slots lsM hI hL ho (h2 hs)
/-- a stack cut at n: the call's values, the rest -/
theorem cut_st {n : Nat} (h : n ≤ st.length) : st = (st.take n).reverse.reverse ++ st.drop n := by rw [List.reverse_reverse, List.take_append_drop]
theorem cut_recv {n : Nat} (h : n + 1 ≤ st.length) : (st.take (n + 1)).reverse = lget st n :: (st.take n).reverse := by
  have hn : n < st.length := by omega
  have : st.take (n + 1) = st.take n ++ [st[n]] := by rw [List.take_succ_eq_append_getElem hn]
  rw [this, List.reverse_append]
  have e1 : lget st n = st[n] := by unfold lget; rw [List.getD_eq_getElem?_getD, List.getElem?_eq_getElem hn]; rfl
  rw [e1]; rfl
set_option maxHeartbeats 4000000 in
theorem call_inv {vt : Bool} {k mi n q : Nat} {S : SX} {nx : NX} {r : Option AV × AH} (h : i_call vt k mi n q S ls st A nx = some r) : n ≤ st.length ∧ cats (st.drop n) ≤ 8 ∧ (vt = true → (lget st (n - 1)).1 = 10 + k ∧ (lget st (n - 1)).2.2.1 ≠ 0) ∧ i_ret q (S mi (st.take n).reverse A) (st.drop n) (nx ls) = some r := by
  unfold i_call at h
  split at h
  · rename_i hc
    rw [Bool.and_eq_true, Bool.and_eq_true] at hc
    obtain ⟨⟨h1, h2⟩, h3⟩ := hc
    refine ⟨Nat.le_of_ble_eq_true h1, Nat.le_of_ble_eq_true h2, fun hv => ?_, ?_⟩
    · subst hv
      simp only [Bool.not_true, Bool.false_or, beq_iff_eq] at h3
      refine ⟨h3, fun h0 => ?_⟩
      simp only [h0, if_true] at h
      cases h
    · cases vt
      · exact h
      · simp only at h
        split at h
        · cases h
        · exact h
  · cases h
end SND8
