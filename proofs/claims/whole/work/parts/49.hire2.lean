/-! the call hire -/
def hvF (p : Int) (H : Nat → Nat → Int) (row : Nat → Int) (N : Nat) : Int := if p = 0 then 100 * row 1 + mnS H row (row 0) (row 2) (-1) N else -(100 * row 1 + mnS H row (row 0) (row 2) (-1) N)
def enF (H : Nat → Nat → Int) (row : Nat → Int) (p : Int) (N : Nat) (least t : Int) : Bool := match saF H p t (nMu H).toNat 0 row with
  | none => false
  | some r => decide (least ≤ hvF p H r N)
def hiF (H : Nat → Nat → Int) (row : Nat → Int) (p : Int) (N : Nat) (least : Int) : Nat → Int → Int → Int
  | 0, _, b => b
  | n + 1, t, b => hiF H row p N least n (t + 1) (if (b = -1 ∨ chpF H t b = true) ∧ hdF H row t (nMu H).toNat 0 = false ∧ enF H row p N least t = true then t else b)
set_option maxRecDepth 100000 in
theorem l_hiC (d : Nat) (p N least : Int) (hp : 0 ≤ p ∧ p ≤ 1) (hN : 1 ≤ N ∧ N ≤ 50) (h32 : -2147483648 ≤ least ∧ least < 2147483648) {h : Nat} {H : Nat → Nat → Int} {row : Nat → Int} (A : AH) (b6 : HR A h H) (b7 : SR A 68 H row) (g : gok H row) (hm : 0 ≤ row 0 ∧ row 0 + N ≤ 999) (hs1 : -99999 ≤ row 1 ∧ row 1 ≤ 99999) : ∀ (j n : Nat) (t b : Int) (u8 u9 : AV) (B : AH), sc A B → 0 ≤ t → t + j = ((2 ^ (nMu H).toNat : Nat) : Int) → -1 ≤ b → b < 64 → 20 * j + 20 ≤ n → ∃ A', go true 0 (runF (d + 8)) (runN (d + 8)) pb_X1_hired n 6 [vR 11 185 0, vR 13 h 0, vR 19 68 0, vI p, vI N, vI least, vI b, vI t, u8, u9] [] B = some (some (vI (hiF H row p N.toNat least j t b)), A') ∧ sc A A' := by
  have hh0 : h ≠ 0 := by have := b6.1; omega
  have hhr := b6.1
  have hc := g.1
  unfold cok at hc
  have p6 : 2 ^ (nMu H).toNat ≤ 2 ^ 6 := Nat.pow_le_pow_right (by omega) (by omega)
  have esh : bshl 1 (nMu H) = ((2 ^ (nMu H).toNat : Nat) : Int) := bshl_1 (by omega) (by omega)
  have ha := g.2.2.2.1.2.2
  intro j
  induction j with
  | zero =>
    intro n t b u8 u9 B f h1 h2 h3 h4 hn
    obtain ⟨n, rfl⟩ : ∃ e, n = e + 2 := ⟨n - 2, by omega⟩
    have hB := HR_sc f b6
    refine ⟨B, ?_, f⟩
    rw [q_X1_hired_6 _ _ _ _ _ _ _ _ _ _ _ _ _ hh0 (by omega), hB.2.1.2.2.2.2.1, esh, if_neg (by omega), hiF]
  | succ j ih =>
    intro n t b u8 u9 B f h1 h2 h3 h4 hn
    obtain ⟨n, rfl⟩ : ∃ e, n = e + 20 := ⟨n - 20, by omega⟩
    have hB := HR_sc f b6
    have s68 : SR B 68 H row := SR_fr (fun a j q1 q2 => f.1 a j (by unfold scr; omega)) b7
    have nxt : ∀ (m : Nat) (b' : Int) (u8' u9' : AV) (C : AH), go true 0 (runF (d + 8)) (runN (d + 8)) pb_X1_hired (m + 1) 97 [vR 11 185 0, vR 13 h 0, vR 19 68 0, vI p, vI N, vI least, vI b', vI t, u8', u9'] [] C = go true 0 (runF (d + 8)) (runN (d + 8)) pb_X1_hired m 6 [vR 11 185 0, vR 13 h 0, vR 19 68 0, vI p, vI N, vI least, vI b', vI (t + 1), u8', u9'] [] C := fun m b' u8' u9' C => by
      rw [q_X1_hired_97 _ _ _ _ _ _ _ _ _ _ _ _ _ hh0 (by omega), wid (by omega) (by omega), Nat.add_zero m]
    rw [q_X1_hired_6 _ _ _ _ _ _ _ _ _ _ _ _ _ hh0 (by omega), hB.2.1.2.2.2.2.1, esh, if_pos (by omega)]
    have main : (b = -1 ∨ chpF H t b = true) → ∃ A', go true 0 (runF (d + 8)) (runN (d + 8)) pb_X1_hired (n + 19) 34 [vR 11 185 0, vR 13 h 0, vR 19 68 0, vI p, vI N, vI least, vI b, vI t, u8, u9] [] B = some (some (vI (hiF H row p N.toNat least (j + 1) t b)), A') ∧ sc A A' := by
      intro hb
      obtain ⟨C0, a1, a2, a3⟩ := s_copyP (d + 6) 73 68 B (by omega) (by omega) (by omega)
      have sC : SR C0 73 H row := SR_cp (by omega) a2 s68
      have h73 : HR C0 h H := HR_sc (frW_sc a3) hB
      have s68' : SR C0 68 H row := SR_fr (fun a j q1 q2 => a3.1 a j (by omega)) s68
      have cal : runF (d + 8) 22 [vR 11 185 0, vR 13 h 0, vR 19 68 0, vI p, vI t] B = go true 2 (runF (d + 7)) (runN (d + 7)) pb_X1_seatAside (fu + 199) 11 [vR 11 185 0, vR 13 h 0, vR 19 68 0, vI p, vI t, vI 0, vU] [] C0 := by
        rw [r_X1_seatAside, q_X1_seatAside_0 _ _ _ _ _ _ _ _ hh0 (by omega), a1, cV_v]
      rcases l_asideC (d + 5) p t hp h1 (by omega) C0 h73 s68' g (nMu H).toNat (fu + 199) 0 vU row C0 (frW_refl 73 C0) sC g (fun _ _ _ => rfl) ⟨rfl, rfl, rfl⟩ (by omega) (by omega) (by have := fu_ge; omega) with ⟨C1, r, e1, e2, e3, e4, e5, e6, e7⟩ | ⟨C1, e1, e2, e3⟩
      · have f1 : sc A C1 := sc_trans f (sc_trans (frW_sc a3) (frW_sc e4))
        have h1C : HR C1 h H := HR_sc (frW_sc e4) h73
        obtain ⟨C2, l1, l2, l3⟩ := s_look (d + 6) h 73 C1 h1C e5 (by omega)
        rw [e7.1, e7.2.2] at l2
        obtain ⟨C3, m1, m2, m3⟩ := s_meanOfC (d + 1) N C2 l2 e6 ha.1 ha.2 (by omega) (by omega) (by omega) (by rw [e7.2.1]; omega) (by rw [e7.2.1]; omega)
        have f3 : sc A C3 := sc_trans f1 (sc_trans (frL_sc l3) (frS_sc m3))
        have bd := mnS_bd (row := r) g.1 g.2.1 (row 0) (row 2) (-1) N.toNat
        have ev : enF H row p N.toNat least t = decide (least ≤ hvF p H r N.toNat) := by unfold enF; rw [e3]
        have hv : hvF p H r N.toNat = if p = 0 then 100 * r 1 + mnS H r (row 0) (row 2) (-1) N.toNat else -(100 * r 1 + mnS H r (row 0) (row 2) (-1) N.toNat) := by unfold hvF; rw [e7.1, e7.2.2]
        obtain ⟨V, hV⟩ : ∃ V, V = 100 * r 1 + mnS H r (row 0) (row 2) (-1) N.toNat := ⟨_, rfl⟩
        rw [← hV] at m1 hv
        have rb : -99999 ≤ r 1 ∧ r 1 ≤ 99999 := by rw [e7.2.1]; exact hs1
        have fin : ∀ m, n ≤ m → ∃ A', go true 0 (runF (d + 8)) (runN (d + 8)) pb_X1_hired (m + 5) 81 [vR 11 185 0, vR 13 h 0, vR 19 68 0, vI p, vI N, vI least, vI b, vI t, vL V, vS] [vL (hvF p H r N.toNat)] C3 = some (some (vI (hiF H row p N.toNat least (j + 1) t b)), A') ∧ sc A A' := by
          intro m hm'
          rw [q_X1_hired_81 _ _ _ _ _ _ _ _ _ _ _ _ _ hh0 (by omega)]
          simp only [lcp_lt]
          by_cases c : hvF p H r N.toNat < least
          · obtain ⟨A', u1, u2⟩ := ih (m + 1) (t + 1) b (vL V) vS C3 f3 (by omega) (by omega) h3 h4 (by omega)
            refine ⟨A', ?_, u2⟩
            rw [if_pos c, q_X1_hired_95 _ _ _ _ _ _ _ _ _ _ _ _ _ hh0 (by omega), nxt, hiF, if_neg (fun q => by rw [ev, decide_eq_false (by omega)] at q; exact absurd q.2.2 (by simp))]
            exact u1
          · obtain ⟨A', u1, u2⟩ := ih (m + 2) (t + 1) t (vL V) vS C3 f3 (by omega) (by omega) (by omega) (by omega) (by omega)
            refine ⟨A', ?_, u2⟩
            rw [if_neg c, q_X1_hired_95 _ _ _ _ _ _ _ _ _ _ _ _ _ hh0 (by omega), nxt, hiF, if_pos ⟨hb, e2, by rw [ev, decide_eq_true (by omega)]⟩]
            exact u1
        rw [q_X1_hired_34 _ _ _ _ _ _ _ _ _ _ _ _ _ hh0 (by omega), cal, e1, cI_v, if_neg (by omega), l1, cV_v, m1, cL_v]
        by_cases cp : p = 0
        · rw [if_pos cp] at hv
          rw [if_pos cp, ← hv]
          rw [← hv] at fin
          exact fin (n + 13) (by omega)
        · rw [if_neg cp] at hv
          rw [if_neg cp, wid64 (by omega) (by omega), ← hv]
          exact fin (n + 12) (by omega)
      · have f1 : sc A C1 := sc_trans f (sc_trans (frW_sc a3) (frW_sc e3))
        obtain ⟨A', u1, u2⟩ := ih (n + 17) (t + 1) b u8 u9 C1 f1 (by omega) (by omega) h3 h4 (by omega)
        refine ⟨A', ?_, u2⟩
        rw [q_X1_hired_34 _ _ _ _ _ _ _ _ _ _ _ _ _ hh0 (by omega), cal, e1, cI_v, if_pos rfl, nxt, hiF, if_neg (fun q => by
          rcases e2 with e2 | e2
          · rw [e2] at q; exact absurd q.2.1 (by simp)
          · have : enF H row p N.toNat least t = false := by unfold enF; rw [e2]
            rw [this] at q; exact absurd q.2.2 (by simp))]
        exact u1
    by_cases cb : b = -1
    · rw [if_pos cb]; exact main (Or.inl cb)
    · rw [if_neg cb, s_isCheaper _ B g.1 g.2.1 hB t b h1 (by omega) (by omega) (by omega), cI_v]
      by_cases ch : chpF H t b = true
      · rw [ch, bI_t, if_neg (by omega)]; exact main (Or.inr ch)
      · obtain ⟨A', u1, u2⟩ := ih (n + 18) (t + 1) b u8 u9 B f (by omega) (by omega) h3 h4 (by omega)
        refine ⟨A', ?_, u2⟩
        rw [show chpF H t b = false by simpa using ch, bI_f, if_pos rfl, nxt, hiF, if_neg (fun q => by
          rcases q.1 with q | q
          · exact cb q
          · exact ch q)]
        exact u1
