/-! the call hire: both -/
set_option maxRecDepth 100000 in
theorem s_isEnough (d : Nat) (t p N least : Int) (hp : 0 ≤ p ∧ p ≤ 1) (ht1 : 0 ≤ t) (ht2 : t < 256) (hN : 1 ≤ N ∧ N ≤ 50) (h32 : -2147483648 ≤ least ∧ least < 2147483648) (A B : AH) (f : sc A B) (g : gok (hv A) (nv A)) (hm : 0 ≤ nv A 0 ∧ nv A 0 + N ≤ 999) (hs1 : -99999 ≤ nv A 1 ∧ nv A 1 ≤ 99999) (hq : gi A 190 65 = -1) (h8 : ∀ i : Nat, i < 146 → gi B 238 i = gi A 237 i) (hd : hdF (hv A) (nv A) t (nMu (hv A)).toNat 0 = false) : ∃ A', runF (d + 9) 239 [vR 21 190 0, vI t, vI p, vI N, vI least] B = some (some (vI (bI (enF (hv A) (nv A) p N.toNat least t))), A') ∧ sc A A' ∧ (∀ i : Nat, i < 146 → gi A' 238 i = gi A 237 i) := by
  have hc := g.1
  unfold cok at hc
  have eh := sc_hv f
  have en := sc_nv f
  obtain ⟨B1, v, a1, a2, a3, a4, a5, a6⟩ := l_asideM (d + 3) p t hp ht1 ht2 B (row0 := nv A) (by rw [eh]; exact g) (nMu (hv B)).toNat (fu + 199) 0 vU (nv A) B (fun _ _ _ => rfl) (fun _ _ => rfl) (fun _ _ => rfl) rfl en (by rw [eh]; exact g) (fun _ _ _ => rfl) ⟨rfl, rfl, rfl⟩ (by rw [eh]; exact hd) (by omega) (by rw [eh]; omega) (by rw [eh]; have := fu_ge; omega)
  rw [eh] at a6
  have call : runF (d + 8) 236 [vR 21 190 0, vI t, vI p] B = some (some (vI v), B1) := by
    rw [r_X12_areSeated, q_X12_areSeated_0]; exact a1
  have back : ∀ (C : AH) (x : Int) (m : Nat) (u5 : AV), (∀ a i, a ≠ 237 → ¬ scrM a i → gi C a i = gi B a i) → (∀ i, 146 ≤ i → gi C 237 i = gi B 237 i) → (∀ a i, a ≠ 180 → gr C a i = gr B a i) → C.2.2 = B.2.2 → (x = 0 ∨ x = 1) → ∃ A', go true 2 (runF (d + 8)) (runN (d + 8)) pb_X12_isEnough (m + 1) 39 [vR 21 190 0, vI t, vI p, vI N, vI least, u5] [vI x] C = some (some (vI x), A') ∧ sc A A' ∧ (∀ i : Nat, i < 146 → gi A' 238 i = gi A 237 i) := by
    intro C x m u5 c1 c2 c3 c4 hx
    obtain ⟨D, e1, e2, e3, e4, e5⟩ := l_takes (d + 7) C 146 (fu + 199) 0 C (by omega) (by omega) (fun _ _ _ => rfl) (fun i => by rw [if_neg (by omega)]) (fun _ _ => rfl) rfl (by have := fu_ge; omega)
    have e238 : ∀ i : Nat, i < 146 → gi C 238 i = gi A 237 i := fun i hi => by rw [c1 238 i (by omega) (by unfold scrM; omega)]; exact h8 i hi
    refine ⟨D, ?_, ⟨fun a i q => ?_, fun a i q => ?_, ?_⟩, fun i hi => by rw [e2 238 i (by omega)]; exact e238 i hi⟩
    · rw [q_X12_isEnough_39, r_X12_takesBack, q_X12_takesBack_0, Nat.add_zero (fu + 199), e1, cV_v, if_pos hx]
    · by_cases ca : a = 237
      · subst ca
        rw [e3]
        by_cases ci : i < 146
        · rw [if_pos ci]; exact e238 i ci
        · rw [if_neg ci, c2 i (by omega)]; exact f.1 237 i q
      · rw [e2 a i ca, c1 a i ca (by unfold scr at q; unfold scrM; omega)]; exact f.1 a i q
    · rw [e4, c3 a i q]; exact f.2.1 a i q
    · rw [e5, c4]; exact f.2.2
  rw [r_X12_isEnough, q_X12_isEnough_0, call, cI_v]
  rcases a6 with ⟨v0, sa⟩ | ⟨v1, sa, gr1, r0⟩
  · have ev : enF (hv A) (nv A) p N.toNat least t = false := by unfold enF; rw [sa]
    rw [v0, if_pos rfl, q_X12_isEnough_38, ev, bI_f]
    exact back B1 0 _ _ (fun a i q _ => a2 a i q) (fun i q => a3 i (by omega)) (fun a i _ => a4 a i) a5 (by omega)
  · have ev : enF (hv A) (nv A) p N.toNat least t = decide (least ≤ hvF p (hv A) (nv B1) N.toNat) := by unfold enF; rw [sa]
    have h1 : hv B1 = hv A := by rw [hv_fr (A := B) (B := B1) (fun a j q1 q2 => a2 a j (by omega))]; exact eh
    have q1 : gi B1 190 65 = -1 := by rw [a2 190 65 (by omega), sc_q f]; exact hq
    have mB : mok B1 := by unfold mok; rw [h1, r0.1]; exact ⟨gr1.1, gr1.2.1, gr1.2.2.1, gr1.2.2.2.1, hm.1, by omega⟩
    obtain ⟨B2, m1, m2⟩ := s_meanOfM d N B1 mB (by rw [r0.1]; omega) (by omega) (by rw [r0.2.1]; omega) (by rw [r0.2.1]; omega)
    rw [h1, q1] at m1
    have bd := mnS_bd (row := nv B1) g.1 g.2.1 (nv B1 0) (nv B1 2) (-1) N.toNat
    have rb : -99999 ≤ nv B1 1 ∧ nv B1 1 ≤ 99999 := by rw [r0.2.1]; exact hs1
    obtain ⟨V, hV⟩ : ∃ V, V = 100 * nv B1 1 + mnS (hv A) (nv B1) (nv B1 0) (nv B1 2) (-1) N.toNat := ⟨_, rfl⟩
    rw [← hV] at m1
    have hv' : hvF p (hv A) (nv B1) N.toNat = if p = 0 then V else -V := by unfold hvF; rw [hV]
    have fin : ∀ m u5, ∃ A', go true 2 (runF (d + 8)) (runN (d + 8)) pb_X12_isEnough (m + 3) 27 [vR 21 190 0, vI t, vI p, vI N, vI least, u5] [vL (hvF p (hv A) (nv B1) N.toNat)] B2 = some (some (vI (bI (enF (hv A) (nv A) p N.toNat least t))), A') ∧ sc A A' ∧ (∀ i : Nat, i < 146 → gi A' 238 i = gi A 237 i) := by
      intro m u5
      have hb := fun x m' => back B2 x m' u5 (fun a i q z => by rw [m2.1 a i z]; exact a2 a i q) (fun i q => by rw [m2.1 237 i (by unfold scrM; omega)]; exact a3 i (by omega)) (fun a i q => by rw [m2.2.1 a i q]; exact a4 a i) (by rw [m2.2.2]; exact a5)
      rw [q_X12_isEnough_27, ev]
      simp only [lcp_lt]
      by_cases c : hvF p (hv A) (nv B1) N.toNat < least
      · rw [if_pos c, q_X12_isEnough_38, decide_eq_false (by omega), bI_f]
        exact hb 0 _ (by omega)
      · rw [if_neg c, decide_eq_true (by omega), bI_t]
        exact hb 1 _ (by omega)
    rw [v1, if_neg (by omega), m1, cL_v, cL_v]
    by_cases cp : p = 0
    · rw [if_pos cp] at hv'
      rw [if_pos cp, ← hv']
      exact fin _ _
    · rw [if_neg cp] at hv'
      rw [if_neg cp, wid64 (by omega) (by omega), ← hv']
      exact fin _ _
set_option maxRecDepth 100000 in
theorem l_maskM (d : Nat) (p N least w : Int) (A : AH) (hc : cok (hv A)) : ∀ (j n : Nat) (k v : Int) (u7 : AV) , 0 ≤ k → k + j = nMu (hv A) → 0 ≤ v → v < ((2 ^ k.toNat : Nat) : Int) → 10 * j + 10 ≤ n → ∃ n', go true 0 (runF (d + 2)) (runN (d + 2)) pb_X12_hire n 46 [vR 21 190 0, vI p, vI N, vI least, vI w, vI v, vI k, u7] [] A = go true 0 (runF (d + 2)) (runN (d + 2)) pb_X12_hire n' 88 [vR 21 190 0, vI p, vI N, vI least, vI w, vI (bsF (fun k => sit (hv A) (nv A) (10 + k)) j k v), vI (-1), vI 0] [] A ∧ n - 10 * j - 5 ≤ n' := by
  have hc' := hc
  unfold cok at hc'
  intro j
  induction j with
  | zero =>
    intro n k v u7 h1 h2 h3 h4 hn
    obtain ⟨n, rfl⟩ : ∃ e, n = e + 2 := ⟨n - 2, by omega⟩
    refine ⟨n, ?_, by omega⟩
    rw [q_X12_hire_46, s_muteMany, cI_v, if_neg (by omega), Nat.add_zero n, bsF]
  | succ j ih =>
    intro n k v u7 h1 h2 h3 h4 hn
    obtain ⟨n, rfl⟩ : ∃ e, n = e + 10 := ⟨n - 10, by omega⟩
    rw [q_X12_hire_46, s_muteMany, cI_v, if_pos (by omega), wid (x := 10 + k) (by omega) (by omega), s_doesSit d _ A hc, cI_v, bsF]
    by_cases c : sit (hv A) (nv A) (10 + k) = true
    · have b := bor_bit h3 h4 h1 (by omega)
      obtain ⟨n', u1, u2⟩ := ih (n + 8) (k + 1) (bor v (bshl 1 k)) u7 (by omega) (by omega) b.1 b.2 (by omega)
      refine ⟨n', ?_, by omega⟩
      rw [c, bI_t, if_neg (by omega), q_X12_hire_76, wid (by omega) (by omega), if_pos rfl]
      exact u1
    · obtain ⟨n', u1, u2⟩ := ih (n + 8) (k + 1) v u7 (by omega) (by omega) h3 (pow_up h4) (by omega)
      refine ⟨n', ?_, by omega⟩
      rw [show sit (hv A) (nv A) (10 + k) = false by simpa using c, bI_f, if_pos rfl, q_X12_hire_76, wid (by omega) (by omega), if_neg (by simp)]
      exact u1
set_option maxRecDepth 100000 in
theorem l_hiM (d : Nat) (p N least w : Int) (hp : 0 ≤ p ∧ p ≤ 1) (hN : 1 ≤ N ∧ N ≤ 50) (h32 : -2147483648 ≤ least ∧ least < 2147483648) (hw : 0 ≤ w ∧ w ≤ 2) (A : AH) (g : gok (hv A) (nv A)) (hm : 0 ≤ nv A 0 ∧ nv A 0 + N ≤ 999) (hs1 : -99999 ≤ nv A 1 ∧ nv A 1 ≤ 99999) (hq : gi A 190 65 = -1) : ∀ (j n : Nat) (t b : Int) (B : AH), sc A B → (∀ i : Nat, i < 146 → gi B 238 i = gi A 237 i) → 0 ≤ t → t + j = ((2 ^ (nMu (hv A)).toNat : Nat) : Int) → -1 ≤ b → b < 64 → 20 * j + 20 ≤ n → ∃ A', go true 0 (runF (d + 9)) (runN (d + 9)) pb_X12_hire n 88 [vR 21 190 0, vI p, vI N, vI least, vI w, vI (bsF (fun k => sit (hv A) (nv A) (10 + k)) (nMu (hv A)).toNat 0 0), vI b, vI t] [] B = some (some (vI (if hiF (hv A) (nv A) p N.toNat least j t b = -1 then -1 else if w = 0 then bcF (hiF (hv A) (nv A) p N.toNat least j t b) else if w = 1 then hiF (hv A) (nv A) p N.toNat least j t b else cstF (hv A) (hiF (hv A) (nv A) p N.toNat least j t b))), A') ∧ sc A A' := by
  have hc := g.1
  unfold cok at hc
  have p6 : 2 ^ (nMu (hv A)).toNat ≤ 2 ^ 6 := Nat.pow_le_pow_right (by omega) (by omega)
  have esh : bshl 1 (nMu (hv A)) = ((2 ^ (nMu (hv A)).toNat : Nat) : Int) := bshl_1 (by omega) (by omega)
  intro j
  induction j with
  | zero =>
    intro n t b B f h8 h1 h2 h3 h4 hn
    obtain ⟨n, rfl⟩ : ∃ e, n = e + 10 := ⟨n - 10, by omega⟩
    have hcB : cok (hv B) := sc_f f g.1
    refine ⟨B, ?_, f⟩
    rw [q_X12_hire_88, s_muteMany, cI_v, sc_hv f, esh, if_neg (by omega), hiF]
    by_cases cb : b = -1
    · rw [if_pos cb, if_pos cb]
    · rw [if_neg cb, if_neg cb, q_X12_hire_189]
      by_cases w0 : w = 0
      · rw [if_pos w0, if_pos w0, s_bitsM _ b B (by omega) (by omega), cI_v]
      · rw [if_neg w0, if_neg w0]
        by_cases w1 : w = 1
        · rw [if_pos w1, if_pos w1]
        · rw [if_neg w1, if_neg w1, s_costM _ B hcB (by rw [sc_hv f]; exact g.2.1) b (by omega) (by omega), sc_hv f, cI_v]
  | succ j ih =>
    intro n t b B f h8 h1 h2 h3 h4 hn
    obtain ⟨n, rfl⟩ : ∃ e, n = e + 20 := ⟨n - 20, by omega⟩
    have hcB : cok (hv B) := sc_f f g.1
    have hhB : hok (hv B) := by rw [sc_hv f]; exact g.2.1
    have nxt : ∀ (m : Nat) (b' : Int) (C : AH), go true 0 (runF (d + 9)) (runN (d + 9)) pb_X12_hire (m + 1) 173 [vR 21 190 0, vI p, vI N, vI least, vI w, vI (bsF (fun k => sit (hv A) (nv A) (10 + k)) (nMu (hv A)).toNat 0 0), vI b', vI t] [] C = go true 0 (runF (d + 9)) (runN (d + 9)) pb_X12_hire m 88 [vR 21 190 0, vI p, vI N, vI least, vI w, vI (bsF (fun k => sit (hv A) (nv A) (10 + k)) (nMu (hv A)).toNat 0 0), vI b', vI (t + 1)] [] C := fun m b' C => by
      rw [q_X12_hire_173, wid (by omega) (by omega), Nat.add_zero m]
    have skip : ¬ ((b = -1 ∨ chpF (hv A) t b = true) ∧ hdF (hv A) (nv A) t (nMu (hv A)).toNat 0 = false ∧ enF (hv A) (nv A) p N.toNat least t = true) → ∀ m, n ≤ m → ∀ C, sc A C → (∀ i : Nat, i < 146 → gi C 238 i = gi A 237 i) → ∃ A', go true 0 (runF (d + 9)) (runN (d + 9)) pb_X12_hire (m + 1) 173 [vR 21 190 0, vI p, vI N, vI least, vI w, vI (bsF (fun k => sit (hv A) (nv A) (10 + k)) (nMu (hv A)).toNat 0 0), vI b, vI t] [] C = some (some (vI (if hiF (hv A) (nv A) p N.toNat least (j + 1) t b = -1 then -1 else if w = 0 then bcF (hiF (hv A) (nv A) p N.toNat least (j + 1) t b) else if w = 1 then hiF (hv A) (nv A) p N.toNat least (j + 1) t b else cstF (hv A) (hiF (hv A) (nv A) p N.toNat least (j + 1) t b))), A') ∧ sc A A' := by
      intro hno m hm' C fC h8C
      obtain ⟨A', u1, u2⟩ := ih m (t + 1) b C fC h8C (by omega) (by omega) h3 h4 (by omega)
      refine ⟨A', ?_, u2⟩
      rw [nxt, hiF, if_neg hno]
      exact u1
    rw [q_X12_hire_88, s_muteMany, cI_v, sc_hv f, esh, if_pos (by omega)]
    by_cases chd : hdF (hv A) (nv A) t (nMu (hv A)).toNat 0 = false
    · rw [if_pos ((hd_mask g.1 h1 (by omega)).mpr chd)]
      have main : (b = -1 ∨ chpF (hv A) t b = true) → ∃ A', go true 0 (runF (d + 9)) (runN (d + 9)) pb_X12_hire (n + 17 + 2) 157 [vR 21 190 0, vI p, vI N, vI least, vI w, vI (bsF (fun k => sit (hv A) (nv A) (10 + k)) (nMu (hv A)).toNat 0 0), vI b, vI t] [] B = some (some (vI (if hiF (hv A) (nv A) p N.toNat least (j + 1) t b = -1 then -1 else if w = 0 then bcF (hiF (hv A) (nv A) p N.toNat least (j + 1) t b) else if w = 1 then hiF (hv A) (nv A) p N.toNat least (j + 1) t b else cstF (hv A) (hiF (hv A) (nv A) p N.toNat least (j + 1) t b))), A') ∧ sc A A' := by
        intro hb
        obtain ⟨C, i1, i2, i3⟩ := s_isEnough d t p N least hp h1 (by omega) hN h32 A B f g hm hs1 hq h8 chd
        rw [q_X12_hire_157, i1, cI_v]
        by_cases ce : enF (hv A) (nv A) p N.toNat least t = true
        · obtain ⟨A', u1, u2⟩ := ih (n + 17) (t + 1) t C i2 i3 (by omega) (by omega) (by omega) (by omega) (by omega)
          refine ⟨A', ?_, u2⟩
          rw [ce, bI_t, if_neg (by omega)]
          have e := nxt (n + 17) t C
          have hi : hiF (hv A) (nv A) p N.toNat least (j + 1) t b = hiF (hv A) (nv A) p N.toNat least j (t + 1) t := by rw [hiF, if_pos ⟨hb, chd, ce⟩]
          rw [show n + 17 + 1 + 0 = n + 17 + 1 from rfl, e, hi]
          exact u1
        · rw [show enF (hv A) (nv A) p N.toNat least t = false by simpa using ce, bI_f, if_pos rfl]
          exact skip (fun q => ce q.2.2) (n + 17) (by omega) C i2 i3
      by_cases cb : b = -1
      · rw [if_pos cb]; exact main (Or.inl cb)
      · have bt := bc_bd t
        have bb := bc_bd b
        rw [if_neg cb, s_bitsM _ t B h1 (by omega), cI_v, s_bitsM _ b B (by omega) (by omega), cI_v]
        by_cases c1 : bcF b < bcF t
        · have nch : ¬ chpF (hv A) t b = true := by unfold chpF; rw [decide_eq_false (by omega), decide_eq_false (p := bcF t = bcF b) (by omega)]; simp
          rw [if_pos c1]
          exact skip (fun q => by rcases q.1 with q | q; exact cb q; exact nch q) (n + 18) (by omega) B f h8
        · rw [if_neg c1, s_bitsM _ t B h1 (by omega), cI_v, s_bitsM _ b B (by omega) (by omega), cI_v]
          by_cases c2 : bcF t = bcF b
          · rw [if_pos c2, s_costM _ B hcB hhB t h1 (by omega), cI_v, s_costM _ B hcB hhB b (by omega) (by omega), cI_v, sc_hv f]
            by_cases c3 : cstF (hv A) t < cstF (hv A) b
            · rw [if_pos c3]
              exact main (Or.inr (by unfold chpF; rw [decide_eq_true c2, decide_eq_true c3]; simp))
            · have nch : ¬ chpF (hv A) t b = true := by unfold chpF; rw [decide_eq_false (p := bcF t < bcF b) (by omega), decide_eq_false c3]; simp
              rw [if_neg c3]
              exact skip (fun q => by rcases q.1 with q | q; exact cb q; exact nch q) (n + 18) (by omega) B f h8
          · rw [if_neg c2]
            exact main (Or.inr (by unfold chpF; rw [decide_eq_true (p := bcF t < bcF b) (by omega)]; rfl))
    · rw [if_neg (fun q => chd ((hd_mask g.1 h1 (by omega)).mp q))]
      exact skip (fun q => chd q.2.1) (n + 18) (by omega) B f h8
theorem hi_rng (H : Nat → Nat → Int) (row : Nat → Int) (p : Int) (N : Nat) (least : Int) : ∀ (j : Nat) (t b : Int), 0 ≤ t → t + j ≤ 64 → -1 ≤ b ∧ b < 64 → -1 ≤ hiF H row p N least j t b ∧ hiF H row p N least j t b < 64
  | 0, _, _, _, _, h => h
  | j + 1, t, b, h1, h2, h => by
    unfold hiF
    refine hi_rng H row p N least j (t + 1) _ (by omega) (by omega) ?_
    split <;> omega
theorem c_hire (d n : Nat) (p N least w : Int) (h32 : -2147483648 ≤ least ∧ least < 2147483648) (A : AH) (r : REL n A) : CP (d + 10) n 123 240 [vI p, vI N, vI least, vI w] A := by
  have g := REL_g r
  have b6 := r.2.2.1
  have b7 := r.2.1.1
  have hm := r.2.1.2.2.2.2.1
  have hs1 := r.2.1.2.2.2.2.2
  have hh0 : gr A 40 5 ≠ 0 := by have := b6.1; omega
  have hc := g.1
  unfold cok at hc
  have p6 : 2 ^ (nMu (hv A)).toNat ≤ 2 ^ 6 := Nat.pow_le_pow_right (by omega) (by omega)
  by_cases c : (0 ≤ p ∧ p ≤ 1) ∧ (1 ≤ N ∧ N ≤ 50 ∧ nv A 0 + N ≤ 999) ∧ (0 ≤ w ∧ w ≤ 2)
  · obtain ⟨B, u1, u2⟩ := l_hiC d p N least c.1 ⟨c.2.1.1, c.2.1.2.1⟩ h32 A b6 b7 g ⟨hm.1, by omega⟩ hs1 (2 ^ (nMu (hv A)).toNat) (fu + 199) 0 (-1) vU vU A (sc_refl A) (by omega) (by omega) (by omega) (by omega) (by have := fu_ge; omega)
    obtain ⟨E, hE⟩ : ∃ E, E = hiF (hv A) (nv A) p N.toNat least (2 ^ (nMu (hv A)).toNat) 0 (-1) := ⟨_, rfl⟩
    have er := hi_rng (hv A) (nv A) p N.toNat least (2 ^ (nMu (hv A)).toNat) 0 (-1) (by omega) (by omega) (by omega)
    rw [← hE] at u1 er
    have hB := HR_sc u2 b6
    refine CP_q r (vI (if E = -1 then -1 else if w = 0 then bcF E else if w = 1 then E else cstF (hv A) E)) ⟨B, ?_, u2⟩ (fun A3 f => ?_)
    · have call : runF (d + 9) 20 [vR 11 185 0, vR 13 (gr A 40 5) 0, vR 19 68 0, vI p, vI N, vI least] A = some (some (vI E), B) := by
        rw [r_X1_hired, q_X1_hired_0 _ _ _ _ _ _ _ _ _ hh0 (by omega)]; exact u1
      have gr5 : gr B 40 5 = gr A 40 5 := u2.2.1 40 5 (by omega)
      rw [r_X11_hire, q_X11_hire_0, s_isSide, cI_v, decide_eq_true c.1, bI_t, if_neg (by omega), if_neg (by omega), if_neg (by omega), b7.2.1.1, wid (by omega) (by omega), if_neg (by omega), if_neg (by omega), if_neg (by omega), call, cI_v]
      by_cases ce : E = -1
      · rw [if_pos ce, if_pos ce, ce]
      · rw [if_neg ce, if_neg ce]
        by_cases w1 : w = 1
        · rw [if_pos w1, if_neg (by omega), if_pos w1]
        · rw [if_neg w1, if_neg w1, q_X11_hire_81]
          by_cases w0 : w = 0
          · rw [if_pos w0, if_pos w0, s_bitCount _ E B (by omega) (by omega), cI_v]
          · rw [if_neg w0, if_neg w0, gr5, if_neg hh0, s_costC _ B g.1 g.2.1 hB E (by omega) (by omega), cI_v]
    · have eh := sc_hv f
      have en := sc_nv f
      have g3 : gok (hv A3) (nv A3) := by rw [eh, en]; exact g
      obtain ⟨A4, e1, e2, e3, e4, e5⟩ := l_puts (d + 8) A3 146 (fu + 199) 0 A3 (by omega) (by omega) (fun _ _ _ => rfl) (fun i hi => by omega) (fun _ _ => rfl) rfl (by have := fu_ge; omega)
      have f4 : sc A3 A4 := ⟨fun a i q => e2 a i (by unfold scr at q; omega), fun a i _ => e4 a i, e5⟩
      obtain ⟨n5, m1, m2⟩ := l_maskM (d + 7) p N least w A4 (sc_f f4 g3.1) (nMu (hv A4)).toNat (fu + 198) 0 0 vU (by omega) (by rw [sc_hv f4, eh]; omega) (by omega) (by decide) (by rw [sc_hv f4, eh]; have := fu_ge; omega)
      rw [sc_hv f4, sc_nv f4] at m1
      obtain ⟨A5, v1, v2⟩ := l_hiM d p N least w c.1 ⟨c.2.1.1, c.2.1.2.1⟩ h32 c.2.2 A3 g3 (by rw [en]; omega) (by rw [en]; exact hs1) (by rw [sc_q f]; exact r.2.2.2.1) (2 ^ (nMu (hv A3)).toNat) n5 0 (-1) A4 f4 e3 (by omega) (by omega) (by omega) (by omega) (by rw [sc_hv f4, eh] at m2; rw [eh]; have := fu_ge; omega)
      refine ⟨A5, ?_, v2⟩
      rw [r_X12_hire, q_X12_hire_0, s_isIn, cI_v, decide_eq_true c.1, bI_t, if_neg (by omega), s_isAhead _ N 1 50 A3 (by rw [en]; omega) (by rw [en]; omega) (by omega) (by omega), cI_v, en, decide_eq_true (by omega), bI_t, if_neg (by omega), s_isIn, cI_v, decide_eq_true c.2.2, bI_t, if_neg (by omega), r_X12_putsAside, q_X12_putsAside_0, Nat.add_zero (fu + 199), e1, cV_v, Nat.add_zero (fu + 198), m1, v1, eh, en, ← hE]
  · refine CP_q r (vI (-1)) ⟨A, ?_, sc_refl A⟩ (fun A1 f => ⟨A1, ?_, sc_refl A1⟩)
    · rw [r_X11_hire, q_X11_hire_0, s_isSide, cI_v]
      by_cases c1 : 0 ≤ p ∧ p ≤ 1
      · rw [decide_eq_true c1, bI_t, if_neg (by omega)]
        by_cases c2 : N < 1
        · rw [if_pos c2]
        · rw [if_neg c2]
          by_cases c3 : 50 < N
          · rw [if_pos c3]
          · rw [if_neg c3, b7.2.1.1, wid (by omega) (by omega)]
            by_cases c4 : 999 < nv A 0 + N
            · rw [if_pos c4]
            · rw [if_neg c4]
              by_cases c5 : w < 0
              · rw [if_pos c5]
              · rw [if_neg c5, if_pos (by omega)]
      · rw [decide_eq_false c1, bI_f, if_pos rfl]
    · have en := sc_nv f
      rw [r_X12_hire, q_X12_hire_0, s_isIn, cI_v]
      by_cases c1 : 0 ≤ p ∧ p ≤ 1
      · rw [decide_eq_true c1, bI_t, if_neg (by omega), s_isAhead _ N 1 50 A1 (by rw [en]; omega) (by rw [en]; omega) (by omega) (by omega), cI_v, en]
        by_cases c2 : 1 ≤ N ∧ N ≤ 50 ∧ nv A 0 + N ≤ 999
        · rw [decide_eq_true c2, bI_t, if_neg (by omega), s_isIn, cI_v, decide_eq_false (by omega), bI_f, if_pos rfl]
        · rw [decide_eq_false c2, bI_f, if_pos rfl]
      · rw [decide_eq_false c1, bI_f, if_pos rfl]
