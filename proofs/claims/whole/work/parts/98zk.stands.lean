/-! a hall stands: the reference has taken it over -/
def hz0 (a j : Nat) : Prop := (a = 224 ∧ 6 ≤ j) ∨ (a = 225 ∧ 24 ≤ j) ∨ (a = 226 ∧ 32 ≤ j) ∨ (a = 227 ∧ 12 ≤ j) ∨ (a = 228 ∧ 8 ≤ j) ∨ (a = 229 ∧ 18 ≤ j) ∨ (a = 230 ∧ 16 ≤ j) ∨ (a = 231 ∧ 2 ≤ j) ∨ (a = 232 ∧ 2 ≤ j) ∨ (a = 233 ∧ 1600 ≤ j)
theorem hv_in {A : AH} {a j : Nat} (h : hz0 a j) : hv A a j = gi A a j := by unfold hv; exact if_pos h
theorem hv_out {A : AH} {a j : Nat} (h : ¬ hz0 a j) : hv A a j = 0 := by unfold hv; exact if_neg h
theorem rg_hz {cd a j : Nat} (h : rg cd a j) : hz0 a j := by unfold rg at h; unfold hz0; omega
/-- the row of a sitting that begins -/
def row0 (H : Nat → Nat → Int) (r : Nat → Int) : Prop := r 0 = 0 ∧ r 1 = 0 ∧ r 2 = -1 ∧ (∀ p : Nat, (p : Int) < nPe H → r (3 + p) = H 226 (35 + 4 * p)) ∧ (∀ i : Nat, i < 6 → r (13 + i) = -1) ∧ (∀ j : Nat, 3 ≤ j → j < 146 → nPe H + 3 ≤ (j : Int) → ¬ (13 ≤ j ∧ j < 19) → r j = 0)
set_option maxRecDepth 100000 in
theorem s_stands (d : Nat) (C : AH) {H : Nat → Nat → Int} {cd : Nat} (mr : MR C H cd) (hc : cok H) (hcd : cd ≤ 1600) (ko : KO (hv C) H cd) : ∃ B, runF (d + 1) 178 [vR 21 190 0] C = some (none, B) ∧ hv B = H ∧ row0 H (nv B) ∧ gi B 190 73 = 0 ∧ gi B 190 53 = 1 ∧ (∀ a j, ¬ hz0 a j → a ≠ 237 → ¬ (a = 190 ∧ (j = 53 ∨ j = 73)) → gi B a j = gi C a j) ∧ (∀ a j, gr B a j = gr C a j) ∧ B.2.2 = C.2.2 := by
  obtain ⟨m1, m2, m3, m4, m5, m6, m7, m8, m9, m10, m11⟩ := mr
  have hF := fu_ge
  unfold cok at hc
  obtain ⟨n1, B1, z1, e1, v1, f1, r1, s1⟩ := l_sd224 d 6 (fu + 199) 0 (wi C 190 53 1) (by omega) (by omega)
  obtain ⟨n2, B2, z2, e2, v2, f2, r2, s2⟩ := l_sd225 d 24 n1 0 B1 (by omega) (by omega)
  obtain ⟨n3, B3, z3, e3, v3, f3, r3, s3⟩ := l_sd226 d 32 n2 0 B2 (by omega) (by omega)
  obtain ⟨n4, B4, z4, e4, v4, f4, r4, s4⟩ := l_sd227 d 12 n3 0 B3 (by omega) (by omega)
  obtain ⟨n5, B5, z5, e5, v5, f5, r5, s5⟩ := l_sd228 d 8 n4 0 B4 (by omega) (by omega)
  obtain ⟨n6, B6, z6, e6, v6, f6, r6, s6⟩ := l_sd229 d 18 n5 0 B5 (by omega) (by omega)
  obtain ⟨n7, B7, z7, e7, v7, f7, r7, s7⟩ := l_sd230 d 16 n6 0 B6 (by omega) (by omega)
  obtain ⟨n8, B8, z8, e8, v8, f8, r8, s8⟩ := l_sd231 d 2 n7 0 B7 (by omega) (by omega)
  have c55 : gi B8 190 55 = cd := by rw [f8 190 55 (by omega), f7 190 55 (by omega), f6 190 55 (by omega), f5 190 55 (by omega), f4 190 55 (by omega), f3 190 55 (by omega), f2 190 55 (by omega), f1 190 55 (by omega), gi_wi, if_neg (by omega)]; exact m11
  obtain ⟨n9, B9, z9, e9, v9, f9, r9, s9⟩ := l_sd233 d cd hcd cd n8 0 B8 (by omega) c55 (by omega)
  obtain ⟨n10, B10, z10, e10, v10, f10, r10, s10⟩ := l_sd237 d 146 n9 0 B9 (by omega) (by omega)
  have h40 : gi (wi B10 237 2 (-1)) 224 0 = ((nPe H).toNat : Int) := by rw [gi_wi, if_neg (by omega), f10 224 0 (by omega), f9 224 0 (by omega), f8 224 0 (by omega), f7 224 0 (by omega), f6 224 0 (by omega), f5 224 0 (by omega), f4 224 0 (by omega), f3 224 0 (by omega), f2 224 0 (by omega), f1 224 0 (by omega), gi_wi, if_neg (by omega), m1 0 (by omega)]; show nPe H = _; omega
  obtain ⟨n11, B11, z11, e11, v11, f11, r11, s11⟩ := l_sdP d (nPe H).toNat (by omega) (nPe H).toNat n10 0 (wi B10 237 2 (-1)) (by omega) h40 (by omega)
  obtain ⟨B12, e12, v12, f12, r12, s12⟩ := l_sdM d 6 n11 0 B11 (by omega) (by omega)
  rw [show ((0 : Nat) : Int) = 0 from rfl] at e1 e2 e3 e4 e5 e6 e7 e8 e9 e10 e11 e12
  have L9 : ∀ a j, a ≠ 237 → a ≠ 190 → gi (wi B12 190 73 0) a j = gi B9 a j := fun a j q1 q2 => by rw [gi_wi, if_neg (by omega), f12 a j (by omega), f11 a j (by omega), gi_wi, if_neg (by omega), f10 a j (by omega)]
  have K0 : ∀ a j, ¬ rg cd a j → a ≠ 237 → a ≠ 190 → gi (wi B12 190 73 0) a j = gi C a j := fun a j q1 q2 q3 => by
    clear z1 z2 z3 z4 z5 z6 z7 z8 z9 z10 z11 hF
    rw [L9 a j q2 q3, f9 a j (fun y => q1 (by unfold rg; right; right; right; right; right; right; right; right; omega)), f8 a j (fun y => q1 (by unfold rg; right; right; right; right; right; right; right; left; omega)), f7 a j (fun y => q1 (by unfold rg; right; right; right; right; right; right; left; omega)), f6 a j (fun y => q1 (by unfold rg; right; right; right; right; right; left; omega)), f5 a j (fun y => q1 (by unfold rg; right; right; right; right; left; omega)), f4 a j (fun y => q1 (by unfold rg; right; right; right; left; omega)), f3 a j (fun y => q1 (by unfold rg; right; right; left; omega)), f2 a j (fun y => q1 (by unfold rg; right; left; omega)), f1 a j (fun y => q1 (by unfold rg; left; omega)), gi_wi, if_neg (fun y => q3 y.1)]
  have eH : hv (wi B12 190 73 0) = H := by
    funext a j
    by_cases c0 : hz0 a j
    · rw [hv_in c0]
      by_cases c1 : rg cd a j
      · clear z1 z2 z3 z4 z5 z6 z7 z8 z9 z10 z11 c0 hF K0 ko
        unfold rg at c1
        rcases c1 with ⟨rfl, y⟩ | ⟨rfl, y⟩ | ⟨rfl, y⟩ | ⟨rfl, y⟩ | ⟨rfl, y⟩ | ⟨rfl, y⟩ | ⟨rfl, y⟩ | ⟨y0, y⟩ | ⟨rfl, y⟩
        · obtain ⟨i, rfl⟩ : ∃ i, j = 6 + i := ⟨j - 6, by omega⟩
          rw [L9 224 _ (by omega) (by omega), f9 224 _ (by omega), f8 224 _ (by omega), f7 224 _ (by omega), f6 224 _ (by omega), f5 224 _ (by omega), f4 224 _ (by omega), f3 224 _ (by omega), f2 224 _ (by omega), v1 i (by omega) (by omega), gi_wi, if_neg (by omega)]; exact m1 i (by omega)
        · obtain ⟨i, rfl⟩ : ∃ i, j = 24 + i := ⟨j - 24, by omega⟩
          rw [L9 225 _ (by omega) (by omega), f9 225 _ (by omega), f8 225 _ (by omega), f7 225 _ (by omega), f6 225 _ (by omega), f5 225 _ (by omega), f4 225 _ (by omega), f3 225 _ (by omega), v2 i (by omega) (by omega), f1 225 i (by omega), gi_wi, if_neg (by omega)]; exact m2 i (by omega)
        · obtain ⟨i, rfl⟩ : ∃ i, j = 32 + i := ⟨j - 32, by omega⟩
          rw [L9 226 _ (by omega) (by omega), f9 226 _ (by omega), f8 226 _ (by omega), f7 226 _ (by omega), f6 226 _ (by omega), f5 226 _ (by omega), f4 226 _ (by omega), v3 i (by omega) (by omega), f2 226 i (by omega), f1 226 i (by omega), gi_wi, if_neg (by omega)]; exact m3 i (by omega)
        · obtain ⟨i, rfl⟩ : ∃ i, j = 12 + i := ⟨j - 12, by omega⟩
          rw [L9 227 _ (by omega) (by omega), f9 227 _ (by omega), f8 227 _ (by omega), f7 227 _ (by omega), f6 227 _ (by omega), f5 227 _ (by omega), v4 i (by omega) (by omega), f3 227 i (by omega), f2 227 i (by omega), f1 227 i (by omega), gi_wi, if_neg (by omega)]; exact m4 i (by omega)
        · obtain ⟨i, rfl⟩ : ∃ i, j = 8 + i := ⟨j - 8, by omega⟩
          rw [L9 228 _ (by omega) (by omega), f9 228 _ (by omega), f8 228 _ (by omega), f7 228 _ (by omega), f6 228 _ (by omega), v5 i (by omega) (by omega), f4 228 i (by omega), f3 228 i (by omega), f2 228 i (by omega), f1 228 i (by omega), gi_wi, if_neg (by omega)]; exact m5 i (by omega)
        · obtain ⟨i, rfl⟩ : ∃ i, j = 18 + i := ⟨j - 18, by omega⟩
          rw [L9 229 _ (by omega) (by omega), f9 229 _ (by omega), f8 229 _ (by omega), f7 229 _ (by omega), v6 i (by omega) (by omega), f5 229 i (by omega), f4 229 i (by omega), f3 229 i (by omega), f2 229 i (by omega), f1 229 i (by omega), gi_wi, if_neg (by omega)]; exact m6 i (by omega)
        · obtain ⟨i, rfl⟩ : ∃ i, j = 16 + i := ⟨j - 16, by omega⟩
          rw [L9 230 _ (by omega) (by omega), f9 230 _ (by omega), f8 230 _ (by omega), v7 i (by omega) (by omega), f6 230 i (by omega), f5 230 i (by omega), f4 230 i (by omega), f3 230 i (by omega), f2 230 i (by omega), f1 230 i (by omega), gi_wi, if_neg (by omega)]; exact m7 i (by omega)
        · obtain ⟨i, rfl⟩ : ∃ i, j = 2 + i := ⟨j - 2, by omega⟩
          rcases y0 with rfl | rfl
          · rw [L9 231 _ (by omega) (by omega), f9 231 _ (by omega), (v8 i (by omega) (by omega)).1, f7 231 i (by omega), f6 231 i (by omega), f5 231 i (by omega), f4 231 i (by omega), f3 231 i (by omega), f2 231 i (by omega), f1 231 i (by omega), gi_wi, if_neg (by omega)]; exact m8 i (by omega)
          · rw [L9 232 _ (by omega) (by omega), f9 232 _ (by omega), (v8 i (by omega) (by omega)).2, f7 232 i (by omega), f6 232 i (by omega), f5 232 i (by omega), f4 232 i (by omega), f3 232 i (by omega), f2 232 i (by omega), f1 232 i (by omega), gi_wi, if_neg (by omega)]; exact m9 i (by omega)
        · obtain ⟨i, rfl⟩ : ∃ i, j = 1600 + i := ⟨j - 1600, by omega⟩
          rw [L9 233 _ (by omega) (by omega), v9 i (by omega) (by omega), f8 233 i (by omega), f7 233 i (by omega), f6 233 i (by omega), f5 233 i (by omega), f4 233 i (by omega), f3 233 i (by omega), f2 233 i (by omega), f1 233 i (by omega), gi_wi, if_neg (by omega)]; exact m10 i (by omega)
      · rw [K0 a j c1 (by unfold hz0 at c0; omega) (by unfold hz0 at c0; omega), ko a j c1, hv_in c0]
    · rw [hv_out c0, ko a j (fun y => c0 (rg_hz y)), hv_out c0]
  have R0 : ∀ j, ¬ (13 ≤ j ∧ j < 19) → ¬ (3 ≤ j ∧ j < 3 + (nPe H).toNat) → j ≠ 2 → j < 146 → gi (wi B12 190 73 0) 237 j = 0 := fun j q1 q2 q3 q4 => by
    rw [gi_wi, if_neg (by omega), f12 237 j (by omega), f11 237 j (by omega), gi_wi, if_neg (by omega), v10 j (by omega) q4]
  refine ⟨wi B12 190 73 0, ?_, eH, ⟨R0 0 (by omega) (by omega) (by omega) (by omega), R0 1 (by omega) (by omega) (by omega) (by omega), ?_, fun p hp => ?_, fun i hi => ?_, fun j q1 q2 q3 q4 => R0 j q4 (by omega) (by omega) q2⟩, by rw [gi_wi, if_pos ⟨rfl, rfl⟩], ?_, fun a j q1 q2 q3 => ?_, fun a j => ?_, ?_⟩
  · rw [r_X12_stands, q_X12_stands_0]
    exact (e1.trans (e2.trans (e3.trans (e4.trans (e5.trans (e6.trans (e7.trans (e8.trans (e9.trans (e10.trans (e11.trans e12)))))))))))
  · show gi (wi B12 190 73 0) 237 2 = -1
    rw [gi_wi, if_neg (by omega), f12 237 2 (by omega), f11 237 2 (by omega), gi_wi, if_pos ⟨rfl, rfl⟩]
  · show gi (wi B12 190 73 0) 237 (3 + p) = _
    rw [gi_wi, if_neg (by omega), f12 237 _ (by omega), v11 p (by omega) (by omega), gi_wi, if_neg (by omega), f10 226 _ (by omega), f9 226 _ (by omega), f8 226 _ (by omega), f7 226 _ (by omega), f6 226 _ (by omega), f5 226 _ (by omega), f4 226 _ (by omega), f3 226 _ (by omega), f2 226 _ (by omega), f1 226 _ (by omega), gi_wi, if_neg (by omega), m3 _ (by omega), show 32 + (4 * p + 3) = 35 + 4 * p by omega]
  · show gi (wi B12 190 73 0) 237 (13 + i) = _
    rw [gi_wi, if_neg (by omega)]; exact v12 i (by omega) hi
  · rw [gi_wi, if_neg (by omega), f12 190 53 (by omega), f11 190 53 (by omega), gi_wi, if_neg (by omega), f10 190 53 (by omega), f9 190 53 (by omega), f8 190 53 (by omega), f7 190 53 (by omega), f6 190 53 (by omega), f5 190 53 (by omega), f4 190 53 (by omega), f3 190 53 (by omega), f2 190 53 (by omega), f1 190 53 (by omega), gi_wi, if_pos ⟨rfl, rfl⟩]
  · by_cases c : a = 190
    · rw [c] at q3 ⊢
      rw [gi_wi, if_neg (by omega), f12 190 j (by omega), f11 190 j (by omega), gi_wi, if_neg (by omega), f10 190 j (by omega), f9 190 j (by omega), f8 190 j (by omega), f7 190 j (by omega), f6 190 j (by omega), f5 190 j (by omega), f4 190 j (by omega), f3 190 j (by omega), f2 190 j (by omega), f1 190 j (by omega), gi_wi, if_neg (by omega)]
    · exact K0 a j (fun y => q1 (rg_hz y)) q2 c
  · rw [gr_wi, r12, r11, gr_wi, r10, r9, r8, r7, r6, r5, r4, r3, r2, r1, gr_wi]
  · exact s12.trans (s11.trans (s10.trans (s9.trans (s8.trans (s7.trans (s6.trans (s5.trans (s4.trans (s3.trans (s2.trans s1))))))))))
