/-! how both stand at the start -/
theorem sit_I (L : Nat) (xs : Nat → Int32) (row : Nat → Int) (x : Int) : sit (hv (AI L xs)) row x = false := by
  obtain ⟨n1, n2, n3, n4, n5, n6⟩ := n_I L xs
  unfold sit
  rw [n2, n3, decide_eq_false (by omega), decide_eq_false (show ¬ (10 ≤ x ∧ x < 10 + 0) by omega)]
  rfl
theorem rel_I (L : Nat) (xs : Nat → Int32) : REL 0 (AI L xs) := by
  obtain ⟨n1, n2, n3, n4, n5, n6⟩ := n_I L xs
  obtain ⟨s1, s2, s3, s4, s5, s6, s7, s8, s9, s10, s11⟩ := e_sit
  obtain ⟨o1, o2, o3, ⟨o4, o5, o6, o7, o8, o9, o10⟩, ⟨o11, o12, o13, o14, o15, o16, o17⟩, ⟨o18, o19, o20, o21⟩, ⟨o22, o23, o24, o25, o26⟩, o27, o28⟩ := e_one
  obtain ⟨h1, h2⟩ := hv_231 L xs
  have G : ∀ a j, 40 ≤ a → gi (AI L xs) a j = EI0 a j := fun a j h => gi_I L xs a j h
  have R : ∀ a j, gr (AI L xs) a j = ER0 a j := gr_I L xs
  have nvE : ∀ j, nv (AI L xs) j = EI0 237 j := fun j => G 237 j (by omega)
  have sI := sit_I L xs (nv (AI L xs))
  have ex : ∀ x, ¬ exi (hv (AI L xs)) x := fun x => by unfold exi; rw [n2, n3]; omega
  unfold REL
  refine ⟨⟨?_, ?_, ?_⟩, ?_, ?_, ?_, ?_, ?_, ?_, ?_, ?_, ?_, ?_, ?_, ?_⟩
  · unfold cok; rw [n1, n2, n3, n4, n5, n6]; omega
  · unfold hok
    refine ⟨fun j _ _ => ?_, fun j _ => ?_, fun j _ _ => ?_, fun j _ _ => ?_, fun j _ _ => ?_, fun j _ _ => ?_, fun j _ _ => ?_⟩ <;> rw [hv_I L xs _ _ (by omega)] <;> omega
  · exact ⟨Or.inl h1, Or.inl h2⟩
  · refine ⟨⟨by omega, ⟨by rw [G 68 0 (by omega), nvE]; exact s4.1, by rw [G 68 1 (by omega), nvE]; exact s4.2.1, by rw [G 68 2 (by omega), nvE]; exact s4.2.2⟩, fun x x1 x2 => ?_, fun x x1 x2 => ?_, fun z z1 z2 => ?_⟩, ⟨by rw [G 68 7 (by omega), s5]; omega, by rw [G 68 7 (by omega), s5, nvE, s6]; rfl, fun k k1 k2 => by rw [nvE, s6] at k2; omega⟩, ⟨fun j j1 j2 => by rw [nvE]; exact s7 j j2 j1, fun j j1 j2 => ?_, ?_⟩, ⟨(fun x hx => absurd hx (by rw [sI x]; decide)), (fun x y hx => absurd hx (by rw [sI x]; decide))⟩, by rw [nvE, s9]; omega, by rw [nvE, s10]; omega⟩
    · rw [sI x, if_neg (by simp), G 69 _ (by omega)]; exact s1 _ (by omega)
    · rw [sI x, if_neg (by simp), G 70 _ (by omega)]; exact s2 _ (by omega)
    · have ew : whoF (hv (AI L xs)) (nv (AI L xs)) z = -1 := by
        unfold whoF
        rw [show (fun i => sit (hv (AI L xs)) (nv (AI L xs)) i && decide (seatR (nv (AI L xs)) i = z)) = fun _ => false by funext i; rw [sI i]; rfl]
        decide
      rw [ew, G 71 _ (by omega)]; exact s3 _ (by omega)
    · rw [nvE, s8 j j2 j1]; exact ⟨by omega, by omega, fun _ => rfl⟩
    · rw [nvE, s11, n4]; omega
  · rw [R, o1]
    refine ⟨by omega, ?_, fun x hx => absurd hx (ex x), fun x x1 x2 _ => z_row L xs 61 _ (by simp), fun k k1 k2 => by rw [n2] at k2; omega, fun k k1 k2 => by rw [n3] at k2; omega, fun k k1 k2 => by rw [n4] at k2; omega, fun k k1 k2 => by rw [n5] at k2; omega, fun k k1 k2 => ?_, fun k k1 k2 => by rw [n2] at k2; omega, fun k k1 k2 => by rw [n3] at k2; omega, fun k k1 k2 => by rw [n4] at k2; omega, Or.inl ⟨h1, by rw [R]; exact o2⟩, Or.inl ⟨h2, by rw [R]; exact o3⟩, Or.inl (by rw [G 58 18 (by omega)]; exact o10), fun _ => ?_⟩
    · rw [G 58 1 (by omega), G 58 2 (by omega), G 58 3 (by omega), G 58 4 (by omega), G 58 5 (by omega), G 58 6 (by omega), n1, n2, n3, n4, n5, n6]
      exact ⟨o4, o5, o6, o7, o8, o9⟩
    · rw [z_row L xs 67 _ (by simp), hv_I L xs _ _ (by omega)]
    · intro w w1 w2 hw
      have : w = 0 ∨ w = 1 := by omega
      rcases this with z | z
      · rw [z] at hw; exact absurd h1 hw
      · rw [z] at hw; exact absurd h2 hw
  · rw [G 190 65 (by omega)]; exact o11
  · refine ⟨by rw [G 190 1 (by omega), G 40 1 (by omega), o12, o13], by rw [G 40 1 (by omega), o13]; omega, fun j hj => ?_⟩
    rw [z_row L xs 191 _ (by simp), z_row L xs 41 _ (by simp)]
    omega
  · rw [G 190 7 (by omega), G 190 8 (by omega), G 42 11 (by omega), G 42 12 (by omega), o14, o15, o16, o17]
    exact ⟨rfl, rfl⟩
  · intro j hj
    rw [z_row L xs 192 _ (by simp), z_row L xs 189 _ (by simp)]
    omega
  · rw [G 190 75 (by omega), G 40 14 (by omega), o18, o19]; omega
  · refine ⟨by rw [G 190 110 (by omega), G 187 1 (by omega), o20, o21], by rw [G 187 1 (by omega), o21]; omega, fun j hj => by rw [G 187 1 (by omega), o21] at hj; omega⟩
  · refine ⟨by rw [G 78 2 (by omega), o22]; omega, by rw [G 190 73 (by omega), G 78 2 (by omega), o22, o23], by rw [G 78 1 (by omega), o24]; omega, by rw [G 190 74 (by omega), o25]; omega, fun i hi => by rw [R]; exact o27 i hi, fun i i1 i2 => by rw [G 78 2 (by omega), o22] at i2; omega⟩
  · refine ⟨fun j _ => ?_, fun j _ => ?_, fun j _ => ?_, fun j _ => ?_, fun j _ => ?_, fun j _ => ?_⟩
    · rw [z_row L xs 226 _ (by simp)]; omega
    · rw [z_row L xs 226 _ (by simp)]; omega
    · rw [z_row L xs 227 _ (by simp)]; omega
    · rw [z_row L xs 228 _ (by simp)]; omega
    · rw [z_row L xs 229 _ (by simp)]; omega
    · rw [z_row L xs 225 _ (by simp)]; omega
  · refine ⟨Or.inr ⟨by rw [G 190 53 (by omega)]; exact o26, n1⟩, by rw [ln_I]; exact o28, fun r hr i hi => ?_⟩
    rw [G r i (by omega)]
    exact e_wd r hr i hi
  · have hsl := sl_I L xs
    unfold RM
    rw [sz_I, R, o1, R, R, o2, o3]
    omega
