/-! the reference's waiting signs and codes, as lists -/
def stkR (A : AH) (rw b : Nat) : List Int → Prop
  | [] => True
  | x :: r => gi A rw (b + r.length) = x ∧ stkR A rw b r
theorem stkR_fr {A B : AH} {rw b : Nat} : ∀ {W : List Int}, (∀ j, b ≤ j → j < b + W.length → gi B rw j = gi A rw j) → stkR A rw b W → stkR B rw b W
  | [], _, _ => trivial
  | x :: r, h, p => ⟨(h (b + r.length) (by omega) (by simp)).trans p.1, stkR_fr (fun j h1 h2 => h j h1 (by simp; omega)) p.2⟩
def StR (kc kw ko kb rc rw b c0 : Nat) (A : AH) (W C : List Int) (o : Nat) : Prop := (gi A 190 kc = ((c0 + C.length : Nat) : Int) ∧ ∀ i, i < C.length → gi A rc (c0 + i) = C.getD i 0) ∧ (gi A 190 kw = ((b + W.length : Nat) : Int) ∧ stkR A rw b W) ∧ gi A 190 ko = (o : Int) ∧ gi A 190 kb = (b : Int) ∧ (0 < b → ¬ (1 ≤ gi A rw (b - 1) ∧ gi A rw (b - 1) ≤ 4))
def frV (kc kw ko rc rw b c0 : Nat) (A B : AH) : Prop := (∀ a j, ¬ (a = 190 ∧ (j = 2 ∨ j = 4 ∨ j = 5 ∨ j = 6 ∨ j = 10 ∨ j = 42 ∨ j = kc ∨ j = kw ∨ j = ko)) → ¬ (a = rc ∧ c0 ≤ j ∧ j < 1600) → ¬ (a = rw ∧ b ≤ j) → gi B a j = gi A a j) ∧ (∀ a j, gr B a j = gr A a j) ∧ B.2.2 = A.2.2
theorem frV_refl (kc kw ko rc rw b c0 : Nat) (A : AH) : frV kc kw ko rc rw b c0 A A := ⟨fun _ _ _ _ _ => rfl, fun _ _ => rfl, rfl⟩
theorem frV_trans {kc kw ko rc rw b c0 : Nat} {A B C : AH} (h1 : frV kc kw ko rc rw b c0 A B) (h2 : frV kc kw ko rc rw b c0 B C) : frV kc kw ko rc rw b c0 A C := ⟨fun a j r s u => (h2.1 a j r s u).trans (h1.1 a j r s u), fun a j => (h2.2.1 a j).trans (h1.2.1 a j), h2.2.2.trans h1.2.2⟩
theorem frZ_V {kc kw ko rc rw b c0 : Nat} {A B : AH} (f : frZ A B) : frV kc kw ko rc rw b c0 A B := ⟨fun a j h _ _ => f.1 a j (by omega), f.2.1, f.2.2⟩
theorem frV_i {kc kw ko rc rw b c0 : Nat} {A B : AH} (j : Nat) (v : Int) (h : j = 2 ∨ j = 4 ∨ j = 5 ∨ j = 6 ∨ j = 10 ∨ j = 42 ∨ j = kc ∨ j = kw ∨ j = ko) (f : frV kc kw ko rc rw b c0 A B) : frV kc kw ko rc rw b c0 A (wi B 190 j v) := frV_trans f ⟨fun a i h1 _ _ => by rw [gi_wi, if_neg (by omega)], fun _ _ => rfl, rfl⟩
theorem frV_c {kc kw ko rc rw b c0 : Nat} {A B : AH} (j : Nat) (v : Int) (h : c0 ≤ j ∧ j < 1600) (f : frV kc kw ko rc rw b c0 A B) : frV kc kw ko rc rw b c0 A (wi B rc j v) := frV_trans f ⟨fun a i _ h1 _ => by rw [gi_wi, if_neg (by omega)], fun _ _ => rfl, rfl⟩
theorem frV_w {kc kw ko rc rw b c0 : Nat} {A B : AH} (j : Nat) (v : Int) (h : b ≤ j) (f : frV kc kw ko rc rw b c0 A B) : frV kc kw ko rc rw b c0 A (wi B rw j v) := frV_trans f ⟨fun a i _ _ h1 => by rw [gi_wi, if_neg (by omega)], fun _ _ => rfl, rfl⟩
theorem MdS_fr {A B : AH} {T : Nat → Int} {L p : Nat} {t : Bool} (h2 : gi B 190 2 = gi A 190 2) (h3 : gi B 190 3 = gi A 190 3) (h4 : gi B 190 4 = gi A 190 4) (h5 : gi B 190 5 = gi A 190 5) (h7 : gi B 190 6 = gi A 190 6) (h6 : ∀ a j, 191 ≤ a → a ≤ 223 ∨ (244 ≤ a ∧ a ≤ 266) → gi B a j = gi A a j) (m : MdS A T L p t) : MdS B T L p t := by
  obtain ⟨⟨m1, m2, m3, m4⟩, m5, m6, m7, m8⟩ := m
  unfold MdS MdT
  rw [h2, h3, h4, h5, h7]
  exact ⟨⟨m1, fun j hj => (h6 191 j (by omega) (by omega)).trans (m2 j hj), m3, WC_fr (fun a j h => h6 a j (by omega) (by omega)) m4⟩, m5, m6, m7, m8⟩
theorem StR_Z {kc kw ko kb rc rw b c0 : Nat} {A B : AH} {W C : List Int} {o : Nat} (hc : 55 ≤ kc ∧ 55 ≤ kw ∧ 55 ≤ ko ∧ 55 ≤ kb ∧ rc ≠ 190 ∧ rw ≠ 190) (f : frZ A B) (s : StR kc kw ko kb rc rw b c0 A W C o) : StR kc kw ko kb rc rw b c0 B W C o := by
  obtain ⟨⟨s1, s2⟩, ⟨s3, s4⟩, s5, s6, s7⟩ := s
  unfold StR
  rw [f.1 190 kc (by omega), f.1 190 kw (by omega), f.1 190 ko (by omega), f.1 190 kb (by omega), f.1 rw _ (by omega)]
  exact ⟨⟨s1, fun i hi => by rw [f.1 rc _ (by omega)]; exact s2 i hi⟩, ⟨s3, stkR_fr (fun j _ _ => f.1 rw j (by omega)) s4⟩, s5, s6, s7⟩
/-- the last mark that waits -/
def lmF : List Int → Int
  | [] => -1
  | x :: r => if 20 ≤ x ∧ x ≤ 24 then x else lmF r
theorem lmF_p {W : List Int} {m : Int} (hm : 20 ≤ m ∧ m ≤ 24) : ∀ {pend : List Int}, (∀ x ∈ pend, 1 ≤ x ∧ x ≤ 4) → lmF (pend ++ m :: W) = m
  | [], _ => by show (if 20 ≤ m ∧ m ≤ 24 then m else lmF W) = m; rw [if_pos hm]
  | x :: r, h => by
    show (if 20 ≤ x ∧ x ≤ 24 then x else lmF (r ++ m :: W)) = m
    rw [if_neg (by have := h x (by simp); omega)]
    exact lmF_p hm (fun y hy => h y (by simp [hy]))
theorem lmF_n : ∀ {pend : List Int}, (∀ x ∈ pend, 1 ≤ x ∧ x ≤ 4) → lmF pend = -1
  | [], _ => rfl
  | x :: r, h => by
    show (if 20 ≤ x ∧ x ≤ 24 then x else lmF r) = -1
    rw [if_neg (by have := h x (by simp); omega)]
    exact lmF_n (fun y hy => h y (by simp [hy]))
