/-! the call minutes -/
theorem sm_split (f : Int → Int) : ∀ (m n : Nat) (k : Int), sm f (m + n) k = sm f m k + sm f n (k + m)
  | 0, n, k => by simp [sm]
  | m + 1, n, k => by
    rw [show m + 1 + n = (m + n) + 1 by omega]
    show f k + sm f (m + n) (k + 1) = f k + sm f m (k + 1) + sm f n (k + ((m + 1 : Nat) : Int))
    rw [sm_split f m n (k + 1), show k + 1 + (m : Int) = k + ((m + 1 : Nat) : Int) by omega]; omega
theorem bc_16 {t : Int} (h1 : 0 ≤ t) (h2 : t < 256) : sm (fun x => bI (tb t x)) 16 0 = bcF t := by
  rw [show (16 : Nat) = 8 + 8 from rfl, sm_split, sm_zero 8 (0 + (8 : Nat)) (fun j j1 j2 => by rw [tb_big h1 h2 (by omega)]; rfl), Int.add_zero]; rfl
set_option maxRecDepth 100000 in
theorem s_minuteGoes (d : Nat) (A : AH) {H : Nat → Nat → Int} {row : Nat → Int} {s : Int} (hH : hv A = H) (hR : nv A = row) (g : gok H row) (hm : 0 ≤ row 0 ∧ row 0 ≤ 999) (hs1 : -99999 ≤ row 1 ∧ row 1 ≤ 99999) (hq : gi A 190 65 = -1) (hs : 0 ≤ s ∧ s < 2147483648) (hs7 : gi A 190 75 = s) (r25 : 0 ≤ row 25 ∧ row 25 ≤ 40) : ∃ A', runF (d + 7) 255 [vR 21 190 0] A = some (some (vI (bcF (cbF H s (nPe H).toNat))), A') ∧ nv A' = mgR H row s ∧ gi A' 190 75 = sdF H s (nPe H).toNat ∧ frG A A' := by
  have hc := g.1
  unfold cok at hc
  have p8 : 2 ^ (nPe H).toNat ≤ 2 ^ 8 := Nat.pow_le_pow_right (by omega) (by omega)
  have cbs := cb_sp H s (nPe H).toNat (by omega)
  obtain ⟨A1, n1, u4, u1, u2, u3, u5, u6⟩ := l_mgM d A hH g hm hq hs r25 16 0 (fu + 199) (row 1) 0 vU A (by omega) (frG_refl A) (by rw [Nat.zero_min]; exact hR) (by rw [Nat.zero_min]; exact hs7) (by omega) (by omega) (by omega) (by omega) (by have := fu_ge; omega)
  have sb := sw_bd (row := row) g.1 g.2.1 (row 0) (row 2) (-1) (cbF H s (nPe H).toNat)
  have es : sm (fun x => if sit H row x = true then movesF H row (row 0) (row 2) (-1) x (tb (cbF H s (nPe H).toNat) x) else 0) 16 ((0 : Nat) : Int) = swF H row (row 0) (row 2) (-1) (cbF H s (nPe H).toNat) := by unfold swF; rfl
  have eb : sm (fun x => bI (tb (cbF H s (nPe H).toNat) x)) 16 ((0 : Nat) : Int) = bcF (cbF H s (nPe H).toNat) := bc_16 cbs.1.1 (by have := cbs.1.2; omega)
  rw [es, eb, Int.zero_add] at u1
  obtain ⟨n2, rfl⟩ : ∃ e, n1 = e + 6 := ⟨n1 - 6, by have := fu_ge; omega⟩
  have z0 : nv A1 0 = row 0 := by rw [u3]; exact rw_lo2 r25 _ (by omega)
  obtain ⟨V, hV⟩ : ∃ V, V = cutF (row 1 + swF H row (row 0) (row 2) (-1) (cbF H s (nPe H).toNat)) (-99999) 99999 := ⟨_, rfl⟩
  have r1 : gi A 237 1 = row 1 := by rw [← hR]; rfl
  refine ⟨wi (wi A1 237 1 V) 237 0 (row 0 + 1), ?_, ?_, ?_, ?_⟩
  · rw [r_X12_minuteGoes, q_X12_minuteGoes_0, r1]
    have u1' : go true 0 (runF (d + 6)) (runN (d + 6)) pb_X12_minuteGoes (fu + 199) 11 [vR 21 190 0, vI (row 1), vI 0, vI 0, vU] [] A = _ := u1
    rw [Nat.add_zero (fu + 199), u1', q_X12_minuteGoes_94]
    have fin : ∀ n, go true 0 (runF (d + 6)) (runN (d + 6)) pb_X12_minuteGoes (n + 2) 126 [vR 21 190 0, vI (row 1 + swF H row (row 0) (row 2) (-1) (cbF H s (nPe H).toNat)), vI (bcF (cbF H s (nPe H).toNat)), vI 16, u4] [vI V, vI 1, vR 30 237 146] A1 = some (some (vI (bcF (cbF H s (nPe H).toNat))), wi (wi A1 237 1 V) 237 0 (row 0 + 1)) := fun n => by
      have e0 : gi (wi A1 237 1 V) 237 0 = row 0 := by rw [gi_wi, if_neg (by omega)]; exact z0
      rw [q_X12_minuteGoes_126, if_pos (by omega), show (1 : Int).toNat = 1 from rfl, e0, wid (by omega) (by omega), q_X12_minuteGoes_137]
    by_cases c1 : 99999 < row 1 + swF H row (row 0) (row 2) (-1) (cbF H s (nPe H).toNat)
    · have e : V = 99999 := by rw [hV]; unfold cutF; rw [if_neg (by omega), if_pos c1]
      rw [if_pos c1, ← e]; exact fin _
    · rw [if_neg c1, q_X12_minuteGoes_112]
      by_cases c2 : row 1 + swF H row (row 0) (row 2) (-1) (cbF H s (nPe H).toNat) < -99999
      · have e : V = -99999 := by rw [hV]; unfold cutF; rw [if_pos c2]
        rw [if_pos c2, ← e]; exact fin _
      · have e : V = row 1 + swF H row (row 0) (row 2) (-1) (cbF H s (nPe H).toNat) := by rw [hV]; unfold cutF; rw [if_neg c2, if_neg c1]
        have f := fin (n2 + 1)
        rw [if_neg c2]
        rw [e] at f ⊢
        exact f
  · rw [nv_up, nv_up, u3]
    funext j
    unfold upR mgR
    by_cases c0 : j = 0
    · rw [if_pos c0, if_pos c0]
    · rw [if_neg c0, if_neg c0]
      by_cases c1 : j = 1
      · rw [if_pos c1, if_pos c1, hV]
      · rw [if_neg c1, if_neg c1]
  · rw [gi_wi, if_neg (by omega), gi_wi, if_neg (by omega)]; exact u5
  · exact frG_trans u2 ⟨fun a j q _ _ => by rw [gi_wi, if_neg (by omega), gi_wi, if_neg (by omega)], fun _ _ _ => rfl, rfl⟩
/-- after k minutes: the row, the seed; how many coughs -/
noncomputable def rI (H : Nat → Nat → Int) : Nat → (Nat → Int) → Int → Nat → Int
  | 0, row, _ => row
  | k + 1, row, s => rI H k (mgR H row s) (sdF H s (nPe H).toNat)
def sI (H : Nat → Nat → Int) : Nat → Int → Int
  | 0, s => s
  | k + 1, s => sI H k (sdF H s (nPe H).toNat)
noncomputable def nI' (H : Nat → Nat → Int) : Nat → Int → Int
  | 0, _ => 0
  | k + 1, s => bcF (cbF H s (nPe H).toNat) + nI' H k (sdF H s (nPe H).toNat)
theorem bc_bd (t : Int) : 0 ≤ bcF t ∧ bcF t ≤ 8 := by
  have := sm_bd (f := fun k => bI (tb t k)) (lo := 0) (hi := 1) 8 0 (fun j _ _ => bI_bd _)
  unfold bcF; omega
theorem cut_bd {x lo hi : Int} (h : lo ≤ hi) : lo ≤ cutF x lo hi ∧ cutF x lo hi ≤ hi := by
  unfold cutF
  split
  · omega
  · split <;> omega
theorem mg_ok {H : Nat → Nat → Int} {row : Nat → Int} {s : Int} (r25 : 0 ≤ row 25 ∧ row 25 ≤ 40) : (0 ≤ mgR H row s 25 ∧ mgR H row s 25 ≤ 40) ∧ mgR H row s 0 = row 0 + 1 ∧ (-99999 ≤ mgR H row s 1 ∧ mgR H row s 1 ≤ 99999) ∧ mgR H row s 2 = row 2 := by
  refine ⟨?_, ?_, ?_, ?_⟩
  · have e : mgR H row s 25 = rwF H row s (nPe H).toNat 25 := by unfold mgR; rw [if_neg (by omega), if_neg (by omega)]
    rw [e]; exact rw_25 r25 _
  · unfold mgR; rw [if_pos rfl]
  · have e : mgR H row s 1 = cutF (row 1 + swF H row (row 0) (row 2) (-1) (cbF H s (nPe H).toNat)) (-99999) 99999 := by unfold mgR; rw [if_neg (by omega), if_pos rfl]
    rw [e]; exact cut_bd (by omega)
  · unfold mgR; rw [if_neg (by omega), if_neg (by omega)]; exact rw_lo2 r25 _ (by omega)
set_option maxRecDepth 100000 in
theorem l_minC (d : Nat) {h : Nat} {H : Nat → Nat → Int} (N : Int) : ∀ (j n : Nat) (k x : Int) (row : Nat → Int) (s b0 m0 : Int) (A : AH), BI A h 68 H row m0 (row 2) (-1) → gok H row → (0 ≤ row 0 ∧ row 0 + j ≤ 999) → (-99999 ≤ row 1 ∧ row 1 ≤ 99999) → gr A 40 5 = h → b0 + 8 * j ≤ 1900000 → gi A 40 14 = s → KRb b0 A 68 row → 0 ≤ k → k + j = N → N ≤ 100 → 0 ≤ x → x ≤ 8 * k → 10 * j + 10 ≤ n → ∃ A', go true 0 (runF (d + 7)) (runN (d + 7)) pb_X11_minutes n 74 [vR 20 40 0, vI N, vI x, vI k] [] A = some (some (vI (x + nI' H j s)), A') ∧ SR A' 68 H (rI H j row s) ∧ gok H (rI H j row s) ∧ gi A' 40 14 = sI H j s ∧ KRb (b0 + 8 * j) A' 68 (rI H j row s) ∧ frM A A' ∧ rI H j row s 0 = row 0 + j ∧ (-99999 ≤ rI H j row s 1 ∧ rI H j row s 1 ≤ 99999) := by
  intro j
  induction j with
  | zero =>
    intro n k x row s b0 m0 A bi g hm hs1 h40 hb hs hk h1 h2 h3 h4 h5 hn
    obtain ⟨n, rfl⟩ : ∃ e, n = e + 2 := ⟨n - 2, by omega⟩
    refine ⟨A, ?_, bi.1.2.2.2.1, g, hs, ?_, ⟨fun _ _ _ _ _ => rfl, fun _ _ => rfl, rfl⟩, ?_, hs1⟩
    · rw [q_X11_minutes_74, if_neg (by omega), nI', Int.add_zero]
    · show KRb (b0 + 8 * ((0 : Nat) : Int)) A 68 row
      rw [show b0 + 8 * ((0 : Nat) : Int) = b0 by omega]; exact hk
    · show row 0 = row 0 + ((0 : Nat) : Int); omega
  | succ j ih =>
    intro n k x row s b0 m0 A bi g hm hs1 h40 hb hs hk h1 h2 h3 h4 h5 hn
    obtain ⟨n, rfl⟩ : ∃ e, n = e + 2 := ⟨n - 2, by omega⟩
    have hc := g.1
    unfold cok at hc
    have r25 : 0 ≤ row 25 ∧ row 25 ≤ 40 := by have := hk.2.1; have := hk.1; omega
    obtain ⟨A1, e1, e2, e3, e4, e5, e6⟩ := s_passC d A bi g ⟨hm.1, by omega⟩ hs1 h40 (by omega) hs hk
    have mo := mg_ok (H := H) (s := s) r25
    have bb := bc_bd (cbF H s (nPe H).toNat)
    obtain ⟨A', u1, u2, u3, u4, u5, u6, u7, u8⟩ := ih (n + 1) (k + 1) (x + bcF (cbF H s (nPe H).toNat)) (mgR H row s) (sdF H s (nPe H).toNat) (b0 + 8) (row 0) A1 e2 e3 (by rw [mo.2.1]; omega) mo.2.2.1 (by rw [e6.2.1]; exact h40) (by omega) e4 ⟨⟨e5.1.1, by have := e5.1.2; omega⟩, e5.2⟩ (by omega) (by omega) h3 (by omega) (by omega) (by omega)
    refine ⟨A', ?_, u2, u3, u4, ?_, frM_trans e6 u6, ?_, u8⟩
    · rw [q_X11_minutes_74, if_pos (by omega), e1, cI_v, wid (by omega) (by omega), wid (by omega) (by omega), u1, nI', Int.add_assoc]
    · rw [show b0 + 8 * ((j + 1 : Nat) : Int) = b0 + 8 + 8 * (j : Int) by omega]; exact u5
    · show rI H j (mgR H row s) (sdF H s (nPe H).toNat) 0 = row 0 + ((j + 1 : Nat) : Int)
      rw [u7, mo.2.1]; omega
set_option maxRecDepth 100000 in
theorem l_minM (d : Nat) (N : Int) {H : Nat → Nat → Int} : ∀ (j n : Nat) (k x : Int) (row : Nat → Int) (s : Int) (A : AH), hv A = H → nv A = row → gok H row → (0 ≤ row 0 ∧ row 0 + j ≤ 999) → (-99999 ≤ row 1 ∧ row 1 ≤ 99999) → gi A 190 65 = -1 → (0 ≤ s ∧ s < 2147483648) → gi A 190 75 = s → (0 ≤ row 25 ∧ row 25 ≤ 40) → 0 ≤ k → k + j = N → N ≤ 100 → 0 ≤ x → x ≤ 8 * k → 10 * j + 10 ≤ n → ∃ A', go true 0 (runF (d + 7)) (runN (d + 7)) pb_X12_minutes n 38 [vR 21 190 0, vI N, vI x, vI k] [] A = some (some (vI (x + nI' H j s)), A') ∧ nv A' = rI H j row s ∧ gi A' 190 75 = sI H j s ∧ frG A A' := by
  intro j
  induction j with
  | zero =>
    intro n k x row s A hH hR g hm hs1 hq hs hs7 r25 h1 h2 h3 h4 h5 hn
    obtain ⟨n, rfl⟩ : ∃ e, n = e + 2 := ⟨n - 2, by omega⟩
    refine ⟨A, ?_, hR, hs7, frG_refl A⟩
    rw [q_X12_minutes_38, if_neg (by omega), nI', Int.add_zero]
  | succ j ih =>
    intro n k x row s A hH hR g hm hs1 hq hs hs7 r25 h1 h2 h3 h4 h5 hn
    obtain ⟨n, rfl⟩ : ∃ e, n = e + 2 := ⟨n - 2, by omega⟩
    obtain ⟨A1, e1, e2, e3, e4⟩ := s_minuteGoes d A hH hR g ⟨hm.1, by omega⟩ hs1 hq hs hs7 r25
    have mo := mg_ok (H := H) (s := s) r25
    have bb := bc_bd (cbF H s (nPe H).toNat)
    obtain ⟨A', u1, u2, u3, u4⟩ := ih (n + 1) (k + 1) (x + bcF (cbF H s (nPe H).toNat)) (mgR H row s) (sdF H s (nPe H).toNat) A1 (by rw [frG_hv e4]; exact hH) e2 (gok_row (mg_row r25) mo.2.2.2 g) (by rw [mo.2.1]; omega) mo.2.2.1 (by rw [frG_q e4]; exact hq) (sd_bd H hs _) e3 mo.1 (by omega) (by omega) h3 (by omega) (by omega) (by omega)
    refine ⟨A', ?_, u2, u3, frG_trans e4 u4⟩
    rw [q_X12_minutes_38, if_pos (by omega), e1, cI_v, wid (by omega) (by omega), wid (by omega) (by omega), u1, nI', Int.add_assoc]
theorem sI_bd (H : Nat → Nat → Int) : ∀ (k : Nat) {s : Int}, (0 ≤ s ∧ s < 2147483648) → 0 ≤ sI H k s ∧ sI H k s < 2147483648
  | 0, _, h => h
  | k + 1, _, h => sI_bd H k (sd_bd H h _)
set_option maxRecDepth 100000 in
theorem s_isToldC (d : Nat) (h : Nat) (A : AH) (H : Nat → Nat → Int) (r : HR A h H) : runF (d + 1) 43 [vR 13 h 0] A = some (some (vI (bI (decide (0 < nSe H)))), A) := by
  have h0 : h ≠ 0 := by have := r.1; omega
  rw [r_X3_isTold, q_X3_isTold_0 _ _ _ _ _ h0, r.2.1.1]
  by_cases c : 0 < nSe H
  · rw [if_pos c, decide_eq_true c]; rfl
  · rw [if_neg c, decide_eq_false c]; rfl
theorem c_minutes (d n : Nat) (hn : n ≤ 2000) (x : Int) (A : AH) (r : REL n A) : CP (d + 8) n 129 256 [vI x] A := by
  have g := REL_g r
  have b6 := r.2.2.1
  have b7 := r.2.1.1
  have sk := r.2.1
  have hm := sk.2.2.2.2.1
  have hs1 := sk.2.2.2.2.2
  have hc := g.1
  unfold cok at hc
  have hh0 : gr A 40 5 ≠ 0 := by have := b6.1; omega
  have pr := r.2.2.2.2.2.2.2.2.2.1
  have td := r.2.2.2.2.2.2.2.2.2.2.2.1
  have sd := r.2.2.2.2.2.2.2.1
  have p20 := pr.2.2.1
  by_cases c : 0 < nSe (hv A) ∧ 1 ≤ x ∧ x ≤ 100 ∧ nv A 0 + x ≤ 999
  · have told : gi A 190 53 = 1 := by unfold TD at td; omega
    obtain ⟨B1, e1, e2, e3, e4, e5⟩ := s_keepC (d + 5) A pr.2.2.1 pr.1 pr.2.2.2.2.1
    have sB : SR B1 68 (hv A) (nv A) := SR_fr (fun a j h1 h2 => e3.1 a j (by omega) (by omega)) b7
    have hB : HR B1 (gr A 40 5) (hv A) := HR_fr (fun a j q => e3.1 a j (by omega) (by omega)) (fun a j _ => e3.2.1 a j) e3.2.2 b6
    obtain ⟨B2, l1, l2, l3⟩ := s_look (d + 5) (gr A 40 5) 68 B1 hB sB (by omega)
    have kr : KRb (800 * n) B2 68 (nv A) := by
      obtain ⟨k1, k2, k3⟩ := sk.2.1
      have q : ∀ a j, 68 ≤ a → a ≤ 72 → gi B2 a j = gi A a j := fun a j h1 h2 => by rw [l3.1 a j (by omega), e3.1 a j (by omega) (by omega)]
      unfold KRb
      rw [q 68 7 (by omega) (by omega)]
      exact ⟨k1, k2, fun k a1 a2 => by rw [q _ _ (by omega) (by omega)]; exact k3 k a1 a2⟩
    have hg40 : gr B2 40 5 = gr A 40 5 := by rw [l3.2.1 40 5 (by omega), e3.2.1]
    have hs40 : gi B2 40 14 = gi A 40 14 := by rw [l3.1 40 14 (by omega), e3.1 40 14 (by omega) (by omega)]
    obtain ⟨A1, u1, u2, u3, u4, u5, u6, u7, u8⟩ := l_minC d x x.toNat (fu + 198) 0 0 (nv A) (gi A 40 14) (800 * n) (nv A 0) B2 l2 g (by omega) hs1 hg40 (by omega) hs40 kr (by omega) (by omega) (by omega) (by omega) (by omega) (by have := fu_ge; omega)
    have fB1 : ∀ a j, ¬ (68 ≤ a ∧ a ≤ 72) → ¬ (180 ≤ a ∧ a ≤ 184) → ¬ (a = 40 ∧ j = 14) → gi A1 a j = gi B1 a j := fun a j h1 h2 h3 => by rw [u6.1 a j h1 h2 h3, l3.1 a j (by omega)]
    have rB1 : ∀ a j, a ≠ 180 → gr A1 a j = gr B1 a j := fun a j h1 => by rw [u6.2.1, l3.2.1 a j h1]
    have fAA : ∀ a j, ¬ (68 ≤ a ∧ a ≤ 184) → ¬ (a = 40 ∧ j = 14) → gi A1 a j = gi A a j := fun a j h1 h2 => by rw [fB1 a j (by omega) (by omega) h2, e3.1 a j (by omega) (by omega)]
    obtain ⟨C1, k1, k2, k3, k4, k5, k6, k7, k8⟩ := s_keepsM (d + 6) A1 (by rw [fAA 190 74 (by omega) (by omega)]; exact pr.2.2.2.1) (by rw [fAA 190 73 (by omega) (by omega), pr.2.1]; exact pr.1)
    have base : ∀ a j, ¬ (68 ≤ a ∧ a ≤ 184) → ¬ (a = 40 ∧ j = 14) → a ≠ 243 → ¬ (a = 190 ∧ (j = 73 ∨ j = 74)) → gi C1 a j = gi A a j := fun a j h1 h2 h3 h4 => by rw [k4 a j h3 h4, fAA a j h1 h2]
    have hvA1 : hv A1 = hv A := hv_fr (fun a j h1 h2 => fAA a j (by omega) (by omega))
    have nvA1 : nv A1 = nv A := by funext j; exact fAA 237 j (by omega) (by omega)
    have hvC1 : hv C1 = hv A := hv_fr (fun a j h1 h2 => base a j (by omega) (by omega) (by omega) (by omega))
    have nvC1 : nv C1 = nv A := by funext j; exact base 237 j (by omega) (by omega) (by omega) (by omega)
    have r25 : 0 ≤ nv A 25 ∧ nv A 25 ≤ 40 := by have := sk.2.1.2.1; have := sk.2.1.1; omega
    obtain ⟨A2, w1, w2, w3, w4⟩ := l_minM d x x.toNat (fu + 198) 0 0 (nv A) (gi A 40 14) C1 hvC1 nvC1 g (by omega) hs1 (by rw [base 190 65 (by omega) (by omega) (by omega) (by omega)]; exact r.2.2.2.1) sd.2 (by rw [base 190 75 (by omega) (by omega) (by omega) (by omega)]; exact sd.1) r25 (by omega) (by omega) (by omega) (by omega) (by omega) (by have := fu_ge; omega)
    refine ⟨vI (0 + nI' (hv A) x.toNat (gi A 40 14)), A1, A2, ?_, ?_, ?_⟩
    · rw [r_X11_minutes, q_X11_minutes_0, if_neg hh0, s_isToldC _ _ A _ b6, cI_v, decide_eq_true c.1, bI_t, if_neg (by omega), if_neg (by omega), if_neg (by omega), b7.2.1.1, wid (by omega) (by omega), if_neg (by omega), e1, cV_v, e3.2.1, l1, cV_v]
      exact u1
    · rw [r_X12_minutes, q_X12_minutes_0, fAA 190 53 (by omega) (by omega), told, if_neg (by omega), s_isAhead _ x 1 100 A1 (by rw [nvA1]; omega) (by rw [nvA1]; omega) (by omega) (by omega), cI_v, nvA1, decide_eq_true (by omega), bI_t, if_neg (by omega), k1, cV_v]
      exact w1
    · have cc : ∀ a j, 68 ≤ a → a ≤ 72 → gi A2 a j = gi A1 a j := fun a j h1 h2 => by rw [w4.1 a j (by omega) (by omega) (by unfold scrM; omega), k4 a j (by omega) (by omega)]
      refine REL_act (A1 := A1) (C1 := C1) r e2 e3 e4 e5 (fun a j h1 h2 h3 => fB1 a j h1 (by unfold scr at h3; omega) h2) rB1 (by rw [u6.2.2, l3.2.2]) k2 k3 k4 k5 k6 k7 k8 (fun a i h1 h2 h3 => w4.1 a i h1 h2 (by unfold scr at h3; unfold scrM; omega)) w4.2.1 w4.2.2 ?_ ?_
      · rw [w2]
        refine ⟨SR_fr (fun a j h1 h2 => cc a j (by omega) (by omega)) u2, ?_, u3.2.2.2.1, u3.2.2.2.2, by rw [u7]; omega, u8⟩
        obtain ⟨q1, q2, q3⟩ := u5
        unfold KR
        rw [cc 68 7 (by omega) (by omega)]
        exact ⟨by omega, q2, fun k a1 a2 => by rw [cc _ _ (by omega) (by omega)]; exact q3 k a1 a2⟩
      · have z : gi A2 40 14 = sI (hv A) x.toNat (gi A 40 14) := by rw [w4.1 40 14 (by omega) (by omega) (by unfold scrM; omega), k4 40 14 (by omega) (by omega)]; exact u4
        rw [z, w3]
        exact ⟨rfl, sI_bd (hv A) _ sd.2⟩
  · have q := r.2.2.2.2.2.2.1 2 (by omega)
    have q3 := q.2.2
    refine ⟨vI (-1), wi A 189 2 (gi A 189 2 + 1), wi (wi A 189 2 (gi A 189 2 + 1)) 192 2 (gi A 189 2 + 1), ?_, ?_, REL_ref r 2 (by omega)⟩
    · have fin : ∀ m u2 u3, go true 0 (runF (d + 7)) (runN (d + 7)) pb_X11_minutes (m + 1) 36 [vR 20 40 0, vI x, u2, u3] [] A = some (some (vI (-1)), wi A 189 2 (gi A 189 2 + 1)) := fun m u2 u3 => by
        rw [q_X11_minutes_36, s_refuse _ 2 A (by omega) (by omega) q.2.1 (show gi A 189 2 ≤ 100000 by omega), cI_v]; rfl
      rw [r_X11_minutes, q_X11_minutes_0, if_neg hh0, s_isToldC _ _ A _ b6, cI_v]
      by_cases c0 : 0 < nSe (hv A)
      · rw [decide_eq_true c0, bI_t, if_neg (by omega)]
        by_cases c1 : x < 1
        · rw [if_pos c1]; exact fin _ _ _
        · rw [if_neg c1]
          by_cases c2 : 100 < x
          · rw [if_pos c2]; exact fin _ _ _
          · rw [if_neg c2, b7.2.1.1, wid (by omega) (by omega), if_pos (by omega)]; exact fin _ _ _
      · rw [decide_eq_false c0, bI_f, if_pos rfl]; exact fin _ _ _
    · have sr := sc_ref A 2 (gi A 189 2 + 1)
      have e : gi (wi A 189 2 (gi A 189 2 + 1)) 192 2 = gi A 189 2 := by rw [gi_wi, if_neg (by omega)]; exact q.1
      have e53 : gi (wi A 189 2 (gi A 189 2 + 1)) 190 53 = gi A 190 53 := by rw [gi_wi, if_neg (by omega)]
      have fin : ∀ m u2 u3, go true 0 (runF (d + 7)) (runN (d + 7)) pb_X12_minutes (m + 2) 18 [vR 21 190 0, vI x, u2, u3] [] (wi A 189 2 (gi A 189 2 + 1)) = some (some (vI (-1)), wi (wi A 189 2 (gi A 189 2 + 1)) 192 2 (gi A 189 2 + 1)) := fun m u2 u3 => by
        rw [q_X12_minutes_18, e, wid (by omega) (by omega), q_X12_minutes_28]
      rw [r_X12_minutes, q_X12_minutes_0, e53]
      by_cases c0 : gi A 190 53 = 0
      · rw [if_pos c0]; exact fin _ _ _
      · have c1 : 0 < nSe (hv A) := by unfold TD at td; omega
        rw [if_neg c0, s_isAhead _ x 1 100 _ (by rw [sr.2]; omega) (by rw [sr.2]; omega) (by omega) (by omega), cI_v, sr.2, decide_eq_false (by omega), bI_f, if_pos rfl]
        exact fin _ _ _
