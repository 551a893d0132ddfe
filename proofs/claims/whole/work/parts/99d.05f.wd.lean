/-! the words -/
def wdB (r : Nat) : Bool := (List.range (wl (wo r)).length).all (fun i => EB r i == 96 + (wl (wo r)).getD i 0)
theorem wdB_193 : (List.range 8).all (fun i => wdB (193 + i)) = true := by decide +kernel
theorem wdB_201 : (List.range 8).all (fun i => wdB (201 + i)) = true := by decide +kernel
theorem wdB_209 : (List.range 8).all (fun i => wdB (209 + i)) = true := by decide +kernel
theorem wdB_217 : (List.range 7).all (fun i => wdB (217 + i)) = true := by decide +kernel
theorem wdB_244 : (List.range 8).all (fun i => wdB (244 + i)) = true := by decide +kernel
theorem wdB_252 : (List.range 8).all (fun i => wdB (252 + i)) = true := by decide +kernel
theorem wdB_260 : (List.range 7).all (fun i => wdB (260 + i)) = true := by decide +kernel
theorem wd_of {a n r : Nat} (h : (List.range n).all (fun i => wdB (a + i)) = true) (h1 : a ≤ r) (h2 : r < a + n) {i : Nat} (hi : i < (wl (wo r)).length) : EI0 r i = 96 + (wl (wo r)).getD i 0 := by
  have e := List.all_eq_true.mp h (r - a) (List.mem_range.mpr (by omega))
  rw [show a + (r - a) = r by omega] at e
  unfold wdB at e
  have e2 := List.all_eq_true.mp e i (List.mem_range.mpr hi)
  rw [EB_eq] at e2
  exact eq_of_beq e2
theorem e_wd (r : Nat) (hr : (193 ≤ r ∧ r ≤ 223) ∨ (244 ≤ r ∧ r ≤ 266)) (i : Nat) (hi : i < (wl (wo r)).length) : EI0 r i = 96 + (wl (wo r)).getD i 0 := by
  by_cases c1 : r < 201
  · exact wd_of wdB_193 (by omega) (by omega) hi
  by_cases c2 : r < 209
  · exact wd_of wdB_201 (by omega) (by omega) hi
  by_cases c3 : r < 217
  · exact wd_of wdB_209 (by omega) (by omega) hi
  by_cases c4 : r < 224
  · exact wd_of wdB_217 (by omega) (by omega) hi
  by_cases c5 : r < 252
  · exact wd_of wdB_244 (by omega) (by omega) hi
  by_cases c6 : r < 260
  · exact wd_of wdB_252 (by omega) (by omega) hi
  · exact wd_of wdB_260 (by omega) (by omega) hi
