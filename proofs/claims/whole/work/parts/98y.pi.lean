/-! the text of a hall: what is told keeps its bounds -/
theorem tellG_ok {T : Nat → Int} {L p : Nat} {t : Bool} {w : Nat} {lo hi v : Int} {pl p' : Nat} {t' : Bool} (tx : TX T L) (hp : p ≤ L) (hw : w ≠ 0) (h : tellG T L p t w lo hi = .ok (v, pl, p', t')) : lo ≤ v ∧ v ≤ hi ∧ p + 2 ≤ p' ∧ p' ≤ L := by
  unfold tellG at h
  cases h1 : tkW T L p t w with
  | error y => rw [h1] at h; cases h
  | ok y =>
    obtain ⟨p1, t1⟩ := y
    rw [h1] at h; simp only at h
    obtain ⟨a1, a2, a3⟩ := tkW_ok h1
    cases h2 : tkN T L p1 t1 lo hi with
    | error y => rw [h2] at h; cases h
    | ok y =>
      obtain ⟨p2, t2⟩ := y
      rw [h2] at h; simp only at h
      injection h with h; injection h with q1 q2; injection q2 with q2 q3; injection q3 with q3 q4
      obtain ⟨b1, b2, b3, b4, b5⟩ := tkN_ok h2
      have x1 := wrd_1 (T := T) (L := L) (p := p) (t := t) (by omega) tx
      have x2 := stp_L tx hp
      have x3 := stp_1 (T := T) (L := L) (p := p1) (t := t1) (Or.inr (Or.inl b1)) tx
      have x4 := stp_L (T := T) (L := L) (p := p1) tx (by omega)
      omega
theorem giveG_ok {T : Nat → Int} {L p : Nat} {t : Bool} {H : Nat → Nat → Int} {v : Int} {p' : Nat} {t' : Bool} (tx : TX T L) (hp : p ≤ L) (h : giveG T L H p t = .ok (v, p', t')) : 0 ≤ v ∧ v < 387420489 ∧ p + 1 ≤ p' ∧ p' ≤ L := by
  unfold giveG at h
  cases h1 : tkA T L p t with
  | error y => rw [h1] at h; cases h
  | ok y =>
    obtain ⟨p1, t1⟩ := y
    rw [h1] at h; simp only at h
    obtain ⟨a1, a2, a3, a4⟩ := tkA_ok h1
    by_cases c : fnd H (nameV T L p) = -1
    · rw [if_pos c] at h
      injection h with h; injection h with q1 q2; injection q2 with q2 q3
      have k := key_pad a1 a2
      have x1 := stp_1 (T := T) (L := L) (p := p) (t := t) (Or.inl a1) tx
      have x2 := stp_L tx hp
      omega
    · rw [if_neg c] at h; cases h
/-- each has a seat of his own, and it is there -/
def SEA (H : Nat → Nat → Int) : Prop := (∀ k : Int, 0 ≤ k → k < nPe H → 0 ≤ H 226 (35 + 4 * k).toNat ∧ H 226 (35 + 4 * k).toNat < nSe H) ∧ (∀ k l : Int, 0 ≤ k → k < nPe H → 0 ≤ l → l < nPe H → H 226 (35 + 4 * k).toNat = H 226 (35 + 4 * l).toNat → k = l)
def PI (H : Nat → Nat → Int) (cd : Nat) : Prop := cok H ∧ hok H ∧ sok H ∧ CDK H cd ∧ SEA H ∧ 2 ≤ nSe H
theorem sok_fr {H H' : Nat → Nat → Int} (e1 : ∀ j, H' 231 j = H 231 j) (e2 : ∀ j, H' 232 j = H 232 j) (e3 : ∀ j, H' 233 j = H 233 j) (s : sok H) : sok H' := by
  have ec : codF H' = codF H := by funext k; unfold codF; exact e3 _
  unfold sok sok1 at *
  simp only [e1, e2, ec]
  exact s
theorem CDK_fr {H H' : Nat → Nat → Int} {cd : Nat} (e1 : ∀ j, H' 231 j = H 231 j) (e2 : ∀ j, H' 232 j = H 232 j) (s : CDK H cd) : CDK H' cd := by
  intro w hw h
  rw [e1] at h ⊢
  rw [e2]
  exact s w hw h
theorem SEA_fr {H H' : Nat → Nat → Int} (e1 : nPe H' = nPe H) (e2 : nSe H' = nSe H) (e3 : ∀ j, H' 226 j = H 226 j) (s : SEA H) : SEA H' := by
  unfold SEA at *
  simp only [e1, e2, e3]
  exact s
theorem ex_f {p : Int → Bool} : ∀ (n : Nat) (k : Int), ex p n k = false → ∀ j, k ≤ j → j < k + n → p j = false
  | 0, k, _, j, h1, h2 => by omega
  | n + 1, k, h, j, h1, h2 => by
    have h' : (p k || ex p n (k + 1)) = false := h
    rw [Bool.or_eq_false_iff] at h'
    by_cases c : j = k
    · rw [c]; exact h'.1
    · exact ex_f n (k + 1) h'.2 j (by omega) (by omega)
theorem PI_pers {H : Nat → Nat → Int} {cd P : Nat} {v ke it pa se : Int} (i : PI H cd) (hP : nPe H = P) (hP8 : P < 8) (hv : 0 ≤ v ∧ v < 387420489) (hke : 0 ≤ ke ∧ ke ≤ 100) (hit : 0 ≤ it ∧ it ≤ 100) (hpa : 0 ≤ pa ∧ pa ≤ 2) (hse : 0 ≤ se ∧ se < nSe H) (hx : ex (fun k => decide (H 226 (35 + 4 * k).toNat = se)) P 0 = false) : PI (persH H P v ke it pa se) cd := by
  obtain ⟨i1, i2, i3, i4, i5, i6⟩ := i
  have o := persH_o H P v ke it pa se
  obtain ⟨q1, q2, q3, q4, q5, q6⟩ := persH_v H P v ke it pa se
  have i1' := i1
  unfold cok at i1'
  have nS' : nSe (persH H P v ke it pa se) = nSe H := o 224 11 (by omega) (by omega) (by omega)
  have nP' : nPe (persH H P v ke it pa se) = ((P + 1 : Nat) : Int) := q1
  have nM' : nMu (persH H P v ke it pa se) = nMu H := o 224 7 (by omega) (by omega) (by omega)
  have nO' : nPo (persH H P v ke it pa se) = nPo H := o 224 8 (by omega) (by omega) (by omega)
  have nN' : nNo (persH H P v ke it pa se) = nNo H := o 224 9 (by omega) (by omega) (by omega)
  have nH' : nHa (persH H P v ke it pa se) = nHa H := o 224 10 (by omega) (by omega) (by omega)
  obtain ⟨y1, y2, y3, y4, y5, y6, y7⟩ := i2
  have xf := ex_f P 0 hx
  refine ⟨?_, ⟨fun j h1 h2 => ?_, fun j h1 => ?_, fun j h1 h2 => ?_, fun j h1 h2 => ?_, fun j h1 h2 => ?_, fun j h1 h2 => ?_, fun j h1 h2 => ?_⟩, sok_fr (fun j => o 231 j (by omega) (by omega) (by omega)) (fun j => o 232 j (by omega) (by omega) (by omega)) (fun j => o 233 j (by omega) (by omega) (by omega)) i3, CDK_fr (fun j => o 231 j (by omega) (by omega) (by omega)) (fun j => o 232 j (by omega) (by omega) (by omega)) i4, ⟨fun k h1 h2 => ?_, fun k l h1 h2 h3 h4 h5 => ?_⟩, by rw [nS']; exact i6⟩
  · unfold cok; rw [nS', nP', nM', nO', nN', nH']; omega
  · by_cases c1 : j = 32 + 4 * P
    · rw [c1, q3]; omega
    · by_cases c2 : j = 33 + 4 * P
      · rw [c2, q4]; omega
      · by_cases c3 : j = 34 + 4 * P
        · rw [c3, q5]; omega
        · by_cases c4 : j = 35 + 4 * P
          · rw [c4, q6]; omega
          · rw [o 226 j (by omega) (by omega) (by omega)]; exact y1 j h1 h2
  · by_cases c3 : j = P
    · rw [c3, q5]; omega
    · rw [o 226 _ (by omega) (by omega) (by omega)]; exact y2 j h1
  · rw [o 227 j (by omega) (by omega) (by omega)]; exact y3 j h1 h2
  · rw [o 228 j (by omega) (by omega) (by omega)]; exact y4 j h1 h2
  · rw [o 229 j (by omega) (by omega) (by omega)]; exact y5 j h1 h2
  · rw [o 230 j (by omega) (by omega) (by omega)]; exact y6 j h1 h2
  · by_cases c1 : j = 24 + P
    · rw [c1, q2]; omega
    · rw [o 225 j (by omega) (by omega) (by omega)]; exact y7 j h1 h2
  · rw [nP'] at h2
    rw [nS']
    by_cases c : k = P
    · rw [c, show (35 + 4 * (P : Int)).toNat = 35 + 4 * P by omega, q6]; omega
    · rw [o 226 _ (by omega) (by omega) (by omega)]; exact i5.1 k h1 (by omega)
  · rw [nP'] at h2 h4
    have nw : ∀ m : Int, 0 ≤ m → m < P → H 226 (35 + 4 * m).toNat ≠ se := fun m a b => of_decide_eq_false (xf m a (by omega))
    by_cases c : k = P
    · by_cases c2 : l = P
      · omega
      · rw [c, show (35 + 4 * (P : Int)).toNat = 35 + 4 * P by omega, q6, o 226 _ (by omega) (by omega) (by omega)] at h5
        exact absurd h5.symm (nw l h3 (by omega))
    · by_cases c2 : l = P
      · rw [c2, show (35 + 4 * (P : Int)).toNat = 35 + 4 * P by omega, q6, o 226 _ (by omega) (by omega) (by omega)] at h5
        exact absurd h5 (nw k h1 (by omega))
      · rw [o 226 _ (by omega) (by omega) (by omega), o 226 _ (by omega) (by omega) (by omega)] at h5
        exact i5.2 k l h1 (by omega) h3 (by omega) h5
theorem PI_mute {H : Nat → Nat → Int} {cd M : Nat} {v x y : Int} (i : PI H cd) (hM : nMu H = M) (hM6 : M < 6) (hv : 0 ≤ v ∧ v < 387420489) (hx : 0 ≤ x ∧ x ≤ 99) (hy : 0 ≤ y ∧ y ≤ 99) : PI (muteH H M v x y) cd := by
  obtain ⟨i1, i2, i3, i4, i5, i6⟩ := i
  have o := muteH_o H M v x y
  obtain ⟨q0, q1, q2, q3⟩ := muteH_v H M v x y
  have i1' := i1
  unfold cok at i1'
  have nS' : nSe (muteH H M v x y) = nSe H := o 224 11 (by omega) (by omega) (by omega) (by omega)
  have nP' : nPe (muteH H M v x y) = nPe H := o 224 6 (by omega) (by omega) (by omega) (by omega)
  have nM' : nMu (muteH H M v x y) = ((M + 1 : Nat) : Int) := q3
  have nO' : nPo (muteH H M v x y) = nPo H := o 224 8 (by omega) (by omega) (by omega) (by omega)
  have nN' : nNo (muteH H M v x y) = nNo H := o 224 9 (by omega) (by omega) (by omega) (by omega)
  have nH' : nHa (muteH H M v x y) = nHa H := o 224 10 (by omega) (by omega) (by omega) (by omega)
  obtain ⟨y1, y2, y3, y4, y5, y6, y7⟩ := i2
  refine ⟨?_, ⟨fun j h1 h2 => ?_, fun j h1 => ?_, fun j h1 h2 => ?_, fun j h1 h2 => ?_, fun j h1 h2 => ?_, fun j h1 h2 => ?_, fun j h1 h2 => ?_⟩, sok_fr (fun j => o 231 j (by omega) (by omega) (by omega) (by omega)) (fun j => o 232 j (by omega) (by omega) (by omega) (by omega)) (fun j => o 233 j (by omega) (by omega) (by omega) (by omega)) i3, CDK_fr (fun j => o 231 j (by omega) (by omega) (by omega) (by omega)) (fun j => o 232 j (by omega) (by omega) (by omega) (by omega)) i4, SEA_fr nP' nS' (fun j => o 226 j (by omega) (by omega) (by omega) (by omega)) i5, by rw [nS']; exact i6⟩
  · unfold cok; rw [nS', nP', nM', nO', nN', nH']; omega
  · rw [o 226 j (by omega) (by omega) (by omega) (by omega)]; exact y1 j h1 h2
  · rw [o 226 _ (by omega) (by omega) (by omega) (by omega)]; exact y2 j h1
  · by_cases c1 : j = 12 + 2 * M
    · rw [c1, q1]; omega
    · by_cases c2 : j = 13 + 2 * M
      · rw [c2, q2]; omega
      · rw [o 227 j (by omega) (by omega) (by omega) (by omega)]; exact y3 j h1 h2
  · rw [o 228 j (by omega) (by omega) (by omega) (by omega)]; exact y4 j h1 h2
  · rw [o 229 j (by omega) (by omega) (by omega) (by omega)]; exact y5 j h1 h2
  · rw [o 230 j (by omega) (by omega) (by omega) (by omega)]; exact y6 j h1 h2
  · by_cases c1 : j = 32 + M
    · rw [c1, q0]; omega
    · rw [o 225 j (by omega) (by omega) (by omega) (by omega)]; exact y7 j h1 h2
theorem PI_pnt {H : Nat → Nat → Int} {cd K : Nat} {v x y : Int} (i : PI H cd) (hK : nPo H = K) (hK4 : K < 4) (hv : 0 ≤ v ∧ v < 387420489) (hx : 0 ≤ x ∧ x ≤ 99) (hy : 0 ≤ y ∧ y ≤ 99) : PI (pntH H K v x y) cd := by
  obtain ⟨i1, i2, i3, i4, i5, i6⟩ := i
  have o := pntH_o H K v x y
  obtain ⟨q0, q1, q2, q3⟩ := pntH_v H K v x y
  have i1' := i1
  unfold cok at i1'
  have nS' : nSe (pntH H K v x y) = nSe H := o 224 11 (by omega) (by omega) (by omega) (by omega)
  have nP' : nPe (pntH H K v x y) = nPe H := o 224 6 (by omega) (by omega) (by omega) (by omega)
  have nM' : nMu (pntH H K v x y) = nMu H := o 224 7 (by omega) (by omega) (by omega) (by omega)
  have nO' : nPo (pntH H K v x y) = ((K + 1 : Nat) : Int) := q3
  have nN' : nNo (pntH H K v x y) = nNo H := o 224 9 (by omega) (by omega) (by omega) (by omega)
  have nH' : nHa (pntH H K v x y) = nHa H := o 224 10 (by omega) (by omega) (by omega) (by omega)
  obtain ⟨y1, y2, y3, y4, y5, y6, y7⟩ := i2
  refine ⟨?_, ⟨fun j h1 h2 => ?_, fun j h1 => ?_, fun j h1 h2 => ?_, fun j h1 h2 => ?_, fun j h1 h2 => ?_, fun j h1 h2 => ?_, fun j h1 h2 => ?_⟩, sok_fr (fun j => o 231 j (by omega) (by omega) (by omega) (by omega)) (fun j => o 232 j (by omega) (by omega) (by omega) (by omega)) (fun j => o 233 j (by omega) (by omega) (by omega) (by omega)) i3, CDK_fr (fun j => o 231 j (by omega) (by omega) (by omega) (by omega)) (fun j => o 232 j (by omega) (by omega) (by omega) (by omega)) i4, SEA_fr nP' nS' (fun j => o 226 j (by omega) (by omega) (by omega) (by omega)) i5, by rw [nS']; exact i6⟩
  · unfold cok; rw [nS', nP', nM', nO', nN', nH']; omega
  · rw [o 226 j (by omega) (by omega) (by omega) (by omega)]; exact y1 j h1 h2
  · rw [o 226 _ (by omega) (by omega) (by omega) (by omega)]; exact y2 j h1
  · rw [o 227 j (by omega) (by omega) (by omega) (by omega)]; exact y3 j h1 h2
  · by_cases c1 : j = 8 + 2 * K
    · rw [c1, q1]; omega
    · by_cases c2 : j = 9 + 2 * K
      · rw [c2, q2]; omega
      · rw [o 228 j (by omega) (by omega) (by omega) (by omega)]; exact y4 j h1 h2
  · rw [o 229 j (by omega) (by omega) (by omega) (by omega)]; exact y5 j h1 h2
  · rw [o 230 j (by omega) (by omega) (by omega) (by omega)]; exact y6 j h1 h2
  · by_cases c1 : j = 40 + K
    · rw [c1, q0]; omega
    · rw [o 225 j (by omega) (by omega) (by omega) (by omega)]; exact y7 j h1 h2
theorem PI_noi {H : Nat → Nat → Int} {cd K : Nat} {x y z : Int} (i : PI H cd) (hK : nNo H = K) (hK4 : K < 6) (hx : 0 ≤ x ∧ x ≤ 99) (hy : 0 ≤ y ∧ y ≤ 99) (hz : 0 ≤ z ∧ z ≤ 99) : PI (noiH H K x y z) cd := by
  obtain ⟨i1, i2, i3, i4, i5, i6⟩ := i
  have o := noiH_o H K x y z
  obtain ⟨q0, q1, q2, q3⟩ := noiH_v H K x y z
  have i1' := i1
  unfold cok at i1'
  have nS' : nSe (noiH H K x y z) = nSe H := o 224 11 (by omega) (by omega) (by omega) (by omega)
  have nP' : nPe (noiH H K x y z) = nPe H := o 224 6 (by omega) (by omega) (by omega) (by omega)
  have nM' : nMu (noiH H K x y z) = nMu H := o 224 7 (by omega) (by omega) (by omega) (by omega)
  have nO' : nPo (noiH H K x y z) = nPo H := o 224 8 (by omega) (by omega) (by omega) (by omega)
  have nN' : nNo (noiH H K x y z) = ((K + 1 : Nat) : Int) := q3
  have nH' : nHa (noiH H K x y z) = nHa H := o 224 10 (by omega) (by omega) (by omega) (by omega)
  obtain ⟨y1, y2, y3, y4, y5, y6, y7⟩ := i2
  refine ⟨?_, ⟨fun j h1 h2 => ?_, fun j h1 => ?_, fun j h1 h2 => ?_, fun j h1 h2 => ?_, fun j h1 h2 => ?_, fun j h1 h2 => ?_, fun j h1 h2 => ?_⟩, sok_fr (fun j => o 231 j (by omega) (by omega) (by omega) (by omega)) (fun j => o 232 j (by omega) (by omega) (by omega) (by omega)) (fun j => o 233 j (by omega) (by omega) (by omega) (by omega)) i3, CDK_fr (fun j => o 231 j (by omega) (by omega) (by omega) (by omega)) (fun j => o 232 j (by omega) (by omega) (by omega) (by omega)) i4, SEA_fr nP' nS' (fun j => o 226 j (by omega) (by omega) (by omega) (by omega)) i5, by rw [nS']; exact i6⟩
  · unfold cok; rw [nS', nP', nM', nO', nN', nH']; omega
  · rw [o 226 j (by omega) (by omega) (by omega) (by omega)]; exact y1 j h1 h2
  · rw [o 226 _ (by omega) (by omega) (by omega) (by omega)]; exact y2 j h1
  · rw [o 227 j (by omega) (by omega) (by omega) (by omega)]; exact y3 j h1 h2
  · rw [o 228 j (by omega) (by omega) (by omega) (by omega)]; exact y4 j h1 h2
  · by_cases c1 : j = 18 + 3 * K
    · rw [c1, q0]; omega
    · by_cases c2 : j = 19 + 3 * K
      · rw [c2, q1]; omega
      · by_cases c3 : j = 20 + 3 * K
        · rw [c3, q2]; omega
        · rw [o 229 j (by omega) (by omega) (by omega) (by omega)]; exact y5 j h1 h2
  · rw [o 230 j (by omega) (by omega) (by omega) (by omega)]; exact y6 j h1 h2
  · rw [o 225 j (by omega) (by omega) (by omega) (by omega)]; exact y7 j h1 h2
theorem PI_hat {H : Nat → Nat → Int} {cd K N : Nat} {x : Int} (i : PI H cd) (hK : K < 16) (hN : nHa H = N) (hN12 : N < 12) (hx : 0 ≤ x ∧ x < 65536) : PI (hatH H K N x) cd := by
  obtain ⟨i1, i2, i3, i4, i5, i6⟩ := i
  have o := hatH_o H K N x
  obtain ⟨q0, q1⟩ := hatH_v H K N x
  have i1' := i1
  unfold cok at i1'
  have nS' : nSe (hatH H K N x) = nSe H := o 224 11 (by omega) (by omega)
  have nP' : nPe (hatH H K N x) = nPe H := o 224 6 (by omega) (by omega)
  have nM' : nMu (hatH H K N x) = nMu H := o 224 7 (by omega) (by omega)
  have nO' : nPo (hatH H K N x) = nPo H := o 224 8 (by omega) (by omega)
  have nN' : nNo (hatH H K N x) = nNo H := o 224 9 (by omega) (by omega)
  have nH' : nHa (hatH H K N x) = ((N + 1 : Nat) : Int) := q1
  obtain ⟨y1, y2, y3, y4, y5, y6, y7⟩ := i2
  refine ⟨?_, ⟨fun j h1 h2 => ?_, fun j h1 => ?_, fun j h1 h2 => ?_, fun j h1 h2 => ?_, fun j h1 h2 => ?_, fun j h1 h2 => ?_, fun j h1 h2 => ?_⟩, sok_fr (fun j => o 231 j (by omega) (by omega)) (fun j => o 232 j (by omega) (by omega)) (fun j => o 233 j (by omega) (by omega)) i3, CDK_fr (fun j => o 231 j (by omega) (by omega)) (fun j => o 232 j (by omega) (by omega)) i4, SEA_fr nP' nS' (fun j => o 226 j (by omega) (by omega)) i5, by rw [nS']; exact i6⟩
  · unfold cok; rw [nS', nP', nM', nO', nN', nH']; omega
  · rw [o 226 j (by omega) (by omega)]; exact y1 j h1 h2
  · rw [o 226 _ (by omega) (by omega)]; exact y2 j h1
  · rw [o 227 j (by omega) (by omega)]; exact y3 j h1 h2
  · rw [o 228 j (by omega) (by omega)]; exact y4 j h1 h2
  · rw [o 229 j (by omega) (by omega)]; exact y5 j h1 h2
  · by_cases c1 : j = 16 + K
    · rw [c1, q0]; omega
    · rw [o 230 j (by omega) (by omega)]; exact y6 j h1 h2
  · rw [o 225 j (by omega) (by omega)]; exact y7 j h1 h2
theorem wfc_cong {c c' : Int → Int} : ∀ (n : Nat) (k : Int) (dp : Nat), (∀ j, k ≤ j → j < k + n → c' j = c j) → wfc c n k dp → wfc c' n k dp
  | 0, _, _, _, h => h
  | n + 1, k, dp, e, h => by
    have e0 := e k (by omega) (by omega)
    have ih : ∀ dp, wfc c n (k + 1) dp → wfc c' n (k + 1) dp := fun dp w => wfc_cong n (k + 1) dp (fun j h1 h2 => e j (by omega) (by omega)) w
    rcases h with ⟨h1, h2, h3⟩ | ⟨h1, h2, h3⟩
    · exact Or.inl ⟨by rw [e0]; exact h1, h2, ih _ h3⟩
    · exact Or.inr ⟨by rw [e0]; exact h1, h2, ih _ h3⟩
theorem PI_wor {H : Nat → Nat → Int} {cd w : Nat} {cs : List Int} (i : PI H cd) (hw : w ≤ 1) (hcs : wfL false cs []) (hcd : cd + cs.length ≤ 1600) : PI (worH H cd w cs) (cd + cs.length) := by
  obtain ⟨i1, i2, i3, i4, i5, i6⟩ := i
  have o := worH_o H cd w cs
  obtain ⟨v1, v2, v3⟩ := worH_v H cd w cs
  have c224 : ∀ j, worH H cd w cs 224 j = H 224 j := fun j => o 224 j (by omega) (by omega)
  have nPe' : nPe (worH H cd w cs) = nPe H := c224 6
  have nSe' : nSe (worH H cd w cs) = nSe H := c224 11
  obtain ⟨y1, y2, y3, y4, y5, y6, y7⟩ := i2
  have new : sok1 (worH H cd w cs) w := by
    unfold sok1
    rw [show ((2 : Int) + (w : Int)).toNat = 2 + w by omega, v1, v2]
    refine ⟨by omega, by omega, by omega, ?_⟩
    rw [show (((cd + cs.length : Nat) : Int) - (cd : Int)).toNat = cs.length by omega]
    refine wfL_c cs _ cd [] (fun k hk => ?_) hcs
    unfold codF
    rw [show (1600 + ((cd : Int) + (k : Int))).toNat = 1600 + cd + k by omega]
    exact v3 k hk
  have old : ∀ u : Nat, u ≤ 1 → u ≠ w → (H 231 (2 + u) = -1 ∨ sok1 H u) → (worH H cd w cs 231 (2 + u) = -1 ∨ sok1 (worH H cd w cs) u) := by
    intro u hu hne hs
    have e1 : worH H cd w cs 231 (2 + u) = H 231 (2 + u) := o 231 _ (by omega) (by omega)
    have e2 : worH H cd w cs 232 (2 + u) = H 232 (2 + u) := o 232 _ (by omega) (by omega)
    by_cases c : H 231 (2 + u) = -1
    · exact Or.inl (e1.trans c)
    · right
      rcases hs with hs | hs
      · exact absurd hs c
      · have cc := i4 u hu c
        unfold sok1 at *
        rw [show ((2 : Int) + (u : Int)).toNat = 2 + u by omega] at *
        rw [e1, e2]
        refine ⟨hs.1, hs.2.1, hs.2.2.1, wfc_cong _ _ _ (fun j h1 h2 => ?_) hs.2.2.2⟩
        unfold codF
        exact o 233 _ (by omega) (by omega)
  refine ⟨?_, ⟨fun j h1 h2 => ?_, fun j h1 => ?_, fun j h1 h2 => ?_, fun j h1 h2 => ?_, fun j h1 h2 => ?_, fun j h1 h2 => ?_, fun j h1 h2 => ?_⟩, ?_, ?_, SEA_fr nPe' nSe' (fun j => o 226 j (by omega) (by omega)) i5, by rw [nSe']; exact i6⟩
  · unfold cok nSe nPe nMu nPo nNo nHa at *
    simp only [c224]
    exact i1
  · rw [o 226 j (by omega) (by omega)]; exact y1 j h1 h2
  · rw [o 226 _ (by omega) (by omega)]; exact y2 j h1
  · rw [o 227 j (by omega) (by omega)]; exact y3 j h1 h2
  · rw [o 228 j (by omega) (by omega)]; exact y4 j h1 h2
  · rw [o 229 j (by omega) (by omega)]; exact y5 j h1 h2
  · rw [o 230 j (by omega) (by omega)]; exact y6 j h1 h2
  · rw [o 225 j (by omega) (by omega)]; exact y7 j h1 h2
  · rcases (show w = 0 ∨ w = 1 by omega) with rfl | rfl
    · exact ⟨Or.inr new, old 1 (by omega) (by omega) i3.2⟩
    · exact ⟨old 0 (by omega) (by omega) i3.1, Or.inr new⟩
  · intro u hu hne
    by_cases c : u = w
    · rw [c, v1, v2]; omega
    · rw [o 231 _ (by omega) (by omega)] at hne ⊢
      rw [o 232 _ (by omega) (by omega)]
      have := i4 u hu hne
      omega
