/-! the reference's reading of tests: rules -/
def NgT (d : Nat) (T : Nat → Int) (L : Nat) (Ast : AH) (Φ : RS → Prop) : SP := fun W C o p t => gT W → NpT d T L Ast Φ W C o p t
def AgT (d : Nat) (T : Nat → Int) (L : Nat) (Ast : AH) (Φ : RS → Prop) : SP := fun W C o p t => gT W → ApT d T L Ast Φ W C o p t
def EgT (d : Nat) (T : Nat → Int) (L : Nat) (Ast : AH) (Φ : RS → Prop) : SP := fun W C o p t => gT W → EpT d T L Ast Φ W C o p t
theorem RtE_g (d : Nat) {T : Nat → Int} {L : Nat} {Ast : AH} {Φ : RS → Prop} (tx : TX T L) : RtE (EgT d T L Ast Φ) (AgT d T L Ast Φ) := ⟨fun W C o p t h g => (RtE_T d tx).1 W C o p t (h (gT_t g)), fun W C o p t h1 h2 g => (RtE_T d tx).2 W C o p t h1 (h2 g)⟩
/-- behind a fact -/
theorem T_fact {d : Nat} {T : Nat → Int} {L p : Nat} {t : Bool} {Ast : AH} {Φ : RS → Prop} {W C : List Int} {o : Nat} (h : EpT d T L Ast Φ W C o p t) (B : AH) (r : RpQ T L 0 0 Ast B W C o p t) (A : AH) (e : runF (d + 8) 276 [vR 21 190 0] A = some (none, B)) (n : Nat) (x2 : Int) (hn : 10 * (L - p) + 6000 ≤ n) : Φ (go true 3 (runF (d + 8)) (runN (d + 8)) pb_X12_qTest (n + 1) 79 [vR 21 190 0, vI 1, vI x2] [] A) := by
  have ho := r.2.2.2.2
  have hl := r.2.2.2.1
  have hp := r.1.2.1
  have tL := r.1.1.2.2.1.1
  obtain ⟨D, d1, d2, d3⟩ := h B (d + 3) r
  have e1 : runF (d + 8) 278 [vR 21 190 0] B = some (none, D) := by rw [r_X12_qDropsNots]; exact d1 _ (by have := fu_ge; omega)
  rw [q_X12_qTest_79, e, cV_v, e1, cV_v, if_pos d2, r_X12_qGoesOnTest]
  exact d3 _ n x2 (by have := fu_ge; omega) hn
theorem T_factB {d : Nat} {Ast : AH} {Φ : RS → Prop} {k s : Int} (hB : BdT Ast Φ k s) (B : AH) (f : frJq Ast B) (h5 : gi B 190 5 = k) (h6 : gi B 190 6 = s) (hk : k ≠ 0) (A : AH) (e : runF (d + 8) 276 [vR 21 190 0] A = some (none, B)) (n : Nat) (x2 : Int) (hn : 100 ≤ n) : Φ (go true 3 (runF (d + 8)) (runN (d + 8)) pb_X12_qTest (n + 1) 79 [vR 21 190 0, vI 1, vI x2] [] A) := by
  have hb : gi B 190 5 ≠ 0 := by rw [h5]; exact hk
  have e1 : runF (d + 8) 278 [vR 21 190 0] B = some (none, B) := by rw [r_X12_qDropsNots, q_X12_qDropsNots_0, if_neg hb]
  have := (T_bad (d := d) hB B f h5 h6 hk n hn).2 x2
  unfold kT at this
  rw [if_pos rfl] at this
  rw [q_X12_qTest_79, e, cV_v, e1, cV_v, if_neg hb]
  exact this
/-- neither a bracket nor a 'not': a fact follows -/
theorem tst79 (d : Nat) {T : Nat → Int} {L p : Nat} {t : Bool} (A : AH) (m : MdS A T L p t) (n : Nat) (u2 : AV) (h1 : sgn T L p t ≠ 91) (h2 : wrd T L p t ≠ 27) : go true 3 (runF (d + 8)) (runN (d + 8)) pb_X12_qTest (n + 2) 2 [vR 21 190 0, vI 1, u2] [] A = go true 3 (runF (d + 8)) (runN (d + 8)) pb_X12_qTest n 79 [vR 21 190 0, vI 1, vI (ch T L (bl T L p))] [] (wi A 190 2 (bl T L p : Int)) := by
  obtain ⟨k1, k2, k3⟩ := s_lookM (d + 7) A m
  have hc : ch T L (bl T L p) ≠ 91 := fun y => h1 ((ch_sgn m.1.2.2.1 (by decide) (by decide) (by decide)).mp y)
  rw [q_X12_qTest_2, if_neg (by omega), if_pos m.2.2.1, k1, cI_v, if_neg hc, s_isHereL (d + 6) 250 3 27 _ k2 (by omega) (by decide) (by decide), cI_v, decide_eq_false h2, bI_f, if_pos rfl]
  all_goals rfl
theorem RtN_fact (d : Nat) {T : Nat → Int} {L : Nat} (Ast : AH) (Φ : RS → Prop) (tx : TX T L) : (∀ W C o p t, p ≤ L → o ≤ 6 → wrd T L p t = 28 → EgT d T L Ast Φ W (C ++ [13]) o (stp T L p) true → NgT d T L Ast Φ W C o p t)
  ∧ (∀ W C o p t cs p' t', p ≤ L → o ≤ 6 → wrd T L p t ≠ 27 → sgn T L p t ≠ 91 → wrd T L p t ≠ 28 → cmpG T L (partG T L true (6 - o)) p t = .ok (cs, p', t') → EgT d T L Ast Φ W (C ++ cs.map (mcF true)) o p' t' → NgT d T L Ast Φ W C o p t)
  ∧ (∀ W C o p t k s, p ≤ L → o ≤ 6 → wrd T L p t ≠ 27 → sgn T L p t ≠ 91 → wrd T L p t ≠ 28 → cmpG T L (partG T L true (6 - o)) p t = .error (k, s) → BdT Ast Φ k s → NgT d T L Ast Φ W C o p t) := by
  have tL := tx.1
  have rr : ∀ {A : AH} {W C : List Int} {o p : Nat} {t : Bool}, RpQ T L 0 0 Ast A W C o p t → RpQ T L 0 0 Ast (wi A 190 2 (bl T L p : Int)) W C o p t := fun {A W C o p t} r => by
    obtain ⟨_, k2, k3⟩ := s_lookM 0 A r.1
    exact Rp_oQ r (frZ_V k3) k2.1 (StR_Z (by omega) k3 r.2.1) r.2.2.2.1 r.2.2.2.2
  refine ⟨?_, ?_, ?_⟩
  · intro W C o p t hp ho hw hE g A n u2 r hn
    obtain ⟨n, rfl⟩ : ∃ e, n = e + 1 + 2 := ⟨n - 3, by omega⟩
    have kk := wrd_k (T := T) (L := L) (p := p) (t := t) (by omega)
    have hs : sgn T L p t ≠ 91 := fun y => by have := (sgn_stp y (by decide)).2.1; omega
    have w1 := wrd_1 (T := T) (L := L) (p := p) (t := t) (by omega) tx
    have sL := stp_L tx hp
    obtain ⟨B, b1, b2⟩ := (s_qFact d tx g (rr r)).1 hw
    rw [tst79 d A r.1 (n + 1) u2 hs (by omega)]
    exact T_fact (hE g) B b2 _ b1 n _ (by omega)
  · intro W C o p t cs p' t' hp ho h27 hs h28 e hE g A n u2 r hn
    obtain ⟨n, rfl⟩ : ∃ e, n = e + 1 + 2 := ⟨n - 3, by omega⟩
    obtain ⟨B, b1, b2⟩ := ((s_qFact d tx g (rr r)).2 h28).2 cs p' t' e
    have l1 : p + 1 ≤ p' := by
      obtain ⟨c1, p1, t1, c2, h1, h2, h3, h4⟩ := cmp_ok e
      have q1 := GP_sum tx (GP_partG tx true (6 - o)) p t c1 p1 t1 hp h1
      have q2 := GP_sum tx (GP_partG tx true (6 - o)) (stp T L p1) false c2 p' t' (stp_L tx q1.2.2) h3
      have q3 := sgn_1 ((op_ch (p := p1) (t := t1) tx).2 h2).1.1 ((op_ch (p := p1) (t := t1) tx).2 h2).1.2 tx
      omega
    have pL := b2.1.2.1
    rw [tst79 d A r.1 (n + 1) u2 hs h27]
    exact T_fact (hE g) B b2 _ b1 n _ (by omega)
  · intro W C o p t k s hp ho h27 hs h28 e hB g A n u2 r hn
    obtain ⟨n, rfl⟩ : ∃ e, n = e + 1 + 2 := ⟨n - 3, by omega⟩
    obtain ⟨B, b1, b2, b3, b4, b5⟩ := ((s_qFact d tx g (rr r)).2 h28).1 k s e
    rw [tst79 d A r.1 (n + 1) u2 hs h27]
    exact T_factB hB B b5 b2 b3 b4 _ b1 n _ (by omega)
theorem RtN_not (d : Nat) {T : Nat → Int} {L : Nat} (Ast : AH) (Φ : RS → Prop) (tx : TX T L) : (∀ W C o p t, p ≤ L → o < 6 → wrd T L p t = 27 → NgT d T L Ast Φ (12 :: W) C (o + 1) (stp T L p) true → NgT d T L Ast Φ W C o p t)
  ∧ (∀ W C p t, p ≤ L → wrd T L p t = 27 → BdT Ast Φ 4 (bl T L p) → NgT d T L Ast Φ W C 6 p t) := by
  have tL := tx.1
  have pre : ∀ (A : AH) (p : Nat) (t : Bool) (n : Nat) (u2 : AV), MdS A T L p t → wrd T L p t = 27 → go true 3 (runF (d + 8)) (runN (d + 8)) pb_X12_qTest (n + 2) 2 [vR 21 190 0, vI 1, u2] [] A = (cV (runF (d + 8) 263 [vR 21 190 0, vI 12, vI (bl T L p : Int)] (wi A 190 2 (bl T L p : Int))) fun A6 =>
      cV (runF (d + 8) 158 [vR 21 190 0, vR 32 250 3] A6) fun A7 =>
      go true 3 (runF (d + 8)) (runN (d + 8)) pb_X12_qTest n 2 [vR 21 190 0, vI 1, vI (ch T L (bl T L p))] [] A7) := by
    intro A p t n u2 m hw
    obtain ⟨k1, k2, k3⟩ := s_lookM (d + 7) A m
    have kk := wrd_k (T := T) (L := L) (p := p) (t := t) (by omega)
    have hs : sgn T L p t ≠ 91 := fun y => by have := (sgn_stp y (by decide)).2.1; omega
    have hc : ch T L (bl T L p) ≠ 91 := fun y => hs ((ch_sgn m.1.2.2.1 (by decide) (by decide) (by decide)).mp y)
    rw [q_X12_qTest_2, if_neg (by omega), if_pos m.2.2.1, k1, cI_v, if_neg hc, s_isHereL (d + 6) 250 3 27 _ k2 (by omega) (by decide) (by decide), cI_v, decide_eq_true hw, bI_t, if_neg (by omega), k2.2]
    rfl
  constructor
  · intro W C o p t hp ho hw hN g A n u2 r hn
    obtain ⟨n, rfl⟩ : ∃ e, n = e + 2 := ⟨n - 2, by omega⟩
    obtain ⟨k1, k2, k3⟩ := s_lookM (d + 7) A r.1
    have hl := r.2.2.2.1
    have w1 := wrd_1 (T := T) (L := L) (p := p) (t := t) (by omega) tx
    have sL := stp_L tx hp
    obtain ⟨B, b1, b2, b3, b4, b5⟩ := (s_opensQ (d + 6) 12 (bl T L p : Int) _ W C o (StR_Z (by omega) k3 r.2.1) k2.1 (by omega)).1 ho
    have ka := s_asks (d + 4) 250 3 27 B b3 (by omega) (by decide) (by decide)
    rw [show tkW T L p t 27 = .ok (stp T L p, true) by unfold tkW; rw [if_pos hw]] at ka
    obtain ⟨D, d1, d2, d3⟩ := ka
    rw [pre A p t n u2 r.1 hw, b1, cV_v, d1, cV_v]
    exact hN (gT_c (by omega) g) D n _ (Rp_oQ r (frV_trans (frZ_V k3) (frV_trans b4 (frZ_V d3))) d2 (StR_Z (by omega) d3 b2) (by simp; omega) (by omega)) (by omega)
  · intro W C p t hp hw hB g A n u2 r hn
    obtain ⟨n, rfl⟩ : ∃ e, n = e + 2 := ⟨n - 2, by omega⟩
    obtain ⟨k1, k2, k3⟩ := s_lookM (d + 7) A r.1
    have hl := r.2.2.2.1
    have b1 := (s_opensQ (d + 6) 12 (bl T L p : Int) _ W C 6 (StR_Z (by omega) k3 r.2.1) k2.1 (by omega)).2 rfl
    generalize hD : wi (wi (wi A 190 2 (bl T L p : Int)) 190 5 4) 190 6 (bl T L p : Int) = D at b1
    have D5 : gi D 190 5 = 4 := by rw [← hD]; simp -implicitDefEqProofs (disch := omega) only [gi_wi, ↓reduceIte, Int.reduceEq, cI_v, cL_v, cV_v, cR_v, wid, wid64, if_pos, if_neg, Nat.add_zero, if_true, if_false, and_self, and_true, true_and, and_false, false_and, or_true, true_or, or_false, false_or]
    have D6 : gi D 190 6 = bl T L p := by rw [← hD]; simp -implicitDefEqProofs (disch := omega) only [gi_wi, ↓reduceIte, Int.reduceEq, cI_v, cL_v, cV_v, cR_v, wid, wid64, if_pos, if_neg, Nat.add_zero, if_true, if_false, and_self, and_true, true_and, and_false, false_and, or_true, true_or, or_false, false_or]
    have fD : frJq Ast D := by rw [← hD]; exact frV_Jq (frV_trans r.2.2.1 (frV_i _ _ (by omega) (frV_i _ _ (by omega) (frZ_V k3))))
    rw [pre A p t n u2 r.1 hw, b1, cV_v, s_asksB _ _ _ _ (by omega) (by rw [D5]; omega), cV_v]
    exact (T_bad (d := d) hB D fD D5 D6 (by omega) n (by omega)).1 _ _
theorem RtN_sq (d : Nat) {T : Nat → Int} {L : Nat} (Ast : AH) (Φ : RS → Prop) (tx : TX T L) : (∀ W C o p t, p ≤ L → o < 6 → sgn T L p t = 91 → NgT d T L Ast Φ (25 :: W) C (o + 1) (stp T L p) false → NgT d T L Ast Φ W C o p t)
  ∧ (∀ W C p t, p ≤ L → sgn T L p t = 91 → BdT Ast Φ 4 (bl T L p) → NgT d T L Ast Φ W C 6 p t) := by
  have tL := tx.1
  constructor
  · intro W C o p t hp ho hs hN g A n u2 r hn
    obtain ⟨n, rfl⟩ : ∃ e, n = e + 2 := ⟨n - 2, by omega⟩
    obtain ⟨es, ek, eT⟩ := sgn_stp hs (by decide)
    have lt := knd3 tx ek
    have hbl := bl_le T L p
    obtain ⟨k1, k2, k3⟩ := s_lookM (d + 7) A r.1
    have hl := r.2.2.2.1
    obtain ⟨B, b1, b2, b3, b4, b5⟩ := (s_opensQ (d + 6) 25 (bl T L p : Int) _ W C o (StR_Z (by omega) k3 r.2.1) k2.1 (by omega)).1 ho
    have b2e : gi B 190 2 = (bl T L p : Int) := b5.trans k2.2
    have fW : frZ B (wi B 190 2 ((bl T L p + 1 : Nat) : Int)) := frZ_wi _ (by omega) (frZ_refl B)
    have mW : MdS (wi B 190 2 ((bl T L p + 1 : Nat) : Int)) T L (bl T L p + 1) false := MdS_sg b3 fW (by simp -implicitDefEqProofs (disch := omega) only [gi_wi, ↓reduceIte, Int.reduceEq, cI_v, cL_v, cV_v, cR_v, wid, wid64, if_pos, if_neg, Nat.add_zero, if_true, if_false, and_self, and_true, true_and, and_false, false_and, or_true, true_or, or_false, false_or]; exact b3.2.2.1) (by simp -implicitDefEqProofs (disch := omega) only [gi_wi, ↓reduceIte, Int.reduceEq, cI_v, cL_v, cV_v, cR_v, wid, wid64, if_pos, if_neg, Nat.add_zero, if_true, if_false, and_self, and_true, true_and, and_false, false_and, or_true, true_or, or_false, false_or]) (by simp -implicitDefEqProofs (disch := omega) only [gi_wi, ↓reduceIte, Int.reduceEq, cI_v, cL_v, cV_v, cR_v, wid, wid64, if_pos, if_neg, Nat.add_zero, if_true, if_false, and_self, and_true, true_and, and_false, false_and, or_true, true_or, or_false, false_or]) (by simp -implicitDefEqProofs (disch := omega) only [gi_wi, ↓reduceIte, Int.reduceEq, cI_v, cL_v, cV_v, cR_v, wid, wid64, if_pos, if_neg, Nat.add_zero, if_true, if_false, and_self, and_true, true_and, and_false, false_and, or_true, true_or, or_false, false_or]) lt
    rw [q_X12_qTest_2, if_neg (by omega), if_pos r.1.2.2.1, k1, cI_v, if_pos ((ch_sgn tx (by decide) (by decide) (by decide)).mpr hs), k2.2, b1, cV_v, b2e, wid (by omega) (by omega), show (bl T L p : Int) + 1 = ((bl T L p + 1 : Nat) : Int) by omega, q_X12_qTest_44]
    rw [es] at hN
    exact hN (gT_c (by omega) g) _ n _ (Rp_oQ r (frV_trans (frZ_V k3) (frV_trans b4 (frZ_V fW))) mW (StR_Z (by omega) fW b2) (by simp; omega) (by omega)) (by omega)
  · intro W C p t hp hs hB g A n u2 r hn
    obtain ⟨n, rfl⟩ : ∃ e, n = e + 2 := ⟨n - 2, by omega⟩
    obtain ⟨k1, k2, k3⟩ := s_lookM (d + 7) A r.1
    have hl := r.2.2.2.1
    have b1 := (s_opensQ (d + 6) 25 (bl T L p : Int) _ W C 6 (StR_Z (by omega) k3 r.2.1) k2.1 (by omega)).2 rfl
    rw [q_X12_qTest_2, if_neg (by omega), if_pos r.1.2.2.1, k1, cI_v, if_pos ((ch_sgn tx (by decide) (by decide) (by decide)).mpr hs), k2.2, b1, cV_v, q_X12_qTest_44]
    generalize hD : wi (wi (wi (wi A 190 2 (bl T L p : Int)) 190 5 4) 190 6 (bl T L p : Int)) 190 2 _ = D
    have D5 : gi D 190 5 = 4 := by rw [← hD]; simp -implicitDefEqProofs (disch := omega) only [gi_wi, ↓reduceIte, Int.reduceEq, cI_v, cL_v, cV_v, cR_v, wid, wid64, if_pos, if_neg, Nat.add_zero, if_true, if_false, and_self, and_true, true_and, and_false, false_and, or_true, true_or, or_false, false_or]
    have D6 : gi D 190 6 = bl T L p := by rw [← hD]; simp -implicitDefEqProofs (disch := omega) only [gi_wi, ↓reduceIte, Int.reduceEq, cI_v, cL_v, cV_v, cR_v, wid, wid64, if_pos, if_neg, Nat.add_zero, if_true, if_false, and_self, and_true, true_and, and_false, false_and, or_true, true_or, or_false, false_or]
    have fD : frJq Ast D := by rw [← hD]; exact frV_Jq (frV_trans r.2.2.1 (frV_i _ _ (by omega) (frV_i _ _ (by omega) (frV_i _ _ (by omega) (frZ_V k3)))))
    exact (T_bad (d := d) hB D fD D5 D6 (by omega) n (by omega)).1 _ _
theorem RtN_T (d : Nat) {T : Nat → Int} {L : Nat} (Ast : AH) (Φ : RS → Prop) (tx : TX T L) : RtN T L (NgT d T L Ast Φ) (EgT d T L Ast Φ) (BdT Ast Φ) := ⟨(RtN_not d Ast Φ tx).1, (RtN_not d Ast Φ tx).2, (RtN_sq d Ast Φ tx).1, (RtN_sq d Ast Φ tx).2, (RtN_fact d Ast Φ tx).1, (RtN_fact d Ast Φ tx).2.1, (RtN_fact d Ast Φ tx).2.2⟩
