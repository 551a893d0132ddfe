/-! heaps: reads behind writes; the layout; what is owed -/
def ftyT : List (List Nat) := [[13, 19, 2, 2, 0, 0, 0, 30, 30, 30, 30, 0], [10, 19], [18, 2, 2, 30, 0], [0, 0, 0, 0, 0, 0, 0, 30, 30, 30, 30, 30, 30, 30, 30, 30, 30, 30, 2], [18, 12, 30, 13], [30, 0], [33, 0, 0], [18, 12, 10, 22], [30, 0, 0, 0, 0, 0, 0, 22, 0, 0, 0, 0, 0], [0, 0, 0, 30, 30, 30, 30, 0], [30, 0, 18, 12, 14, 13, 19, 19, 16, 10, 11, 17, 15, 30, 0], [30, 0, 0, 0, 0, 0, 0, 0, 0, 30, 0, 32, 32, 32, 32, 32, 32, 32, 32, 32, 32, 32, 32, 32, 32, 32, 32, 32, 32, 32, 32, 32, 32, 32, 32, 32, 32, 32, 32, 32, 32, 32, 0, 30, 31, 30, 30, 30, 30, 30, 30, 30, 0, 2, 30, 0, 30, 0, 0, 0, 31, 0, 30, 30, 30, 0, 30, 30, 30, 0, 0, 31, 30, 0, 0, 1, 32, 32, 32, 32, 32, 32, 32, 32, 32, 32, 32, 32, 32, 32, 32, 32, 32, 32, 32, 32, 32, 32, 32, 30, 0, 30, 0, 0, 0, 31, 0, 1, 2, 30, 0]]
def fty (k j : Nat) : Nat := (ftyT.getD k []).getD j 0
def nf (k : Nat) : Nat := (ftyT.getD k []).length
theorem gi_wi (A : AH) (a k : Nat) (v : Int) (b j : Nat) : gi (wi A a k v) b j = if b = a ∧ j = k then v else gi A b j := rfl
theorem gr_wi (A : AH) (a k : Nat) (v : Int) (b j : Nat) : gr (wi A a k v) b j = gr A b j := rfl
theorem gi_wr (A : AH) (a k v : Nat) (b j : Nat) : gi (wr A a k v) b j = gi A b j := rfl
theorem gr_wr (A : AH) (a k v : Nat) (b j : Nat) : gr (wr A a k v) b j = if b = a ∧ j = k then v else gr A b j := rfl
theorem gi_cpa (A : AH) (s sp d dp n b j : Nat) : gi (cpa A s sp d dp n) b j = if b = d ∧ (dp ≤ j ∧ j < dp + n) then gi A s (sp + (j - dp)) else gi A b j := rfl
theorem gr_cpa (A : AH) (s sp d dp n b j : Nat) : gr (cpa A s sp d dp n) b j = gr A b j := rfl
theorem kd_wi (A : AH) (a k : Nat) (v : Int) (b : Nat) : kd (wi A a k v) b = kd A b := rfl
theorem kd_wr (A : AH) (a k v b : Nat) : kd (wr A a k v) b = kd A b := rfl
theorem ln_wi (A : AH) (a k : Nat) (v : Int) (b : Nat) : ln (wi A a k v) b = ln A b := rfl
theorem ln_wr (A : AH) (a k v b : Nat) : ln (wr A a k v) b = ln A b := rfl
theorem sz_wi (A : AH) (a k : Nat) (v : Int) : sz (wi A a k v) = sz A := rfl
theorem sz_wr (A : AH) (a k v : Nat) : sz (wr A a k v) = sz A := rfl
theorem sz_nw (A : AH) (k n : Nat) : sz (nw A k n) = sz A + 1 := by simp [sz, nw]
theorem sh_nw (A : AH) (k n b : Nat) : (nw A k n).2.2.getD b (99, 0) = if b = sz A then (k, n) else A.2.2.getD b (99, 0) := by
  unfold nw sz
  simp only [List.getD, List.getElem?_append]
  by_cases h : b < A.2.2.length
  · rw [if_pos h, if_neg (by omega)]
  · rw [if_neg h]
    by_cases h2 : b = A.2.2.length
    · rw [if_pos h2, h2]; simp
    · rw [if_neg h2, List.getElem?_eq_none (by simp; omega), List.getElem?_eq_none (by omega)]
theorem kd_nw (A : AH) (k n b : Nat) : kd (nw A k n) b = if b = sz A then k else kd A b := by
  unfold kd; rw [sh_nw]; split <;> rfl
theorem ln_nw (A : AH) (k n b : Nat) : ln (nw A k n) b = if b = sz A then n else ln A b := by
  unfold ln; rw [sh_nw]; split <;> rfl
theorem gi_nw (A : AH) (k n b j : Nat) : gi (nw A k n) b j = if b = sz A then 0 else gi A b j := rfl
theorem gr_nw (A : AH) (k n b j : Nat) : gr (nw A k n) b j = if b = sz A then 0 else gr A b j := rfl
def sl (A : AH) : Nat := (A.2.2.map (fun q => q.2)).sum
theorem sl_wi (A : AH) (a k : Nat) (v : Int) : sl (wi A a k v) = sl A := rfl
theorem sl_wr (A : AH) (a k v : Nat) : sl (wr A a k v) = sl A := rfl
theorem sl_nw (A : AH) (k n : Nat) : sl (nw A k n) = sl A + n := by simp [sl, nw]
def lyoT : List (List (Nat × Nat × Nat)) := [[(0, 0, 0), (0, 0, 0), (0, 0, 0), (0, 0, 0), (0, 0, 0), (0, 0, 0), (0, 0, 0), (181, 10, 1), (182, 16, 1), (183, 16, 1), (184, 64, 1), (0, 0, 0)], [(180, 0, 1), (73, 0, 1)], [(42, 0, 1), (0, 0, 0), (0, 0, 0), (45, 1600, 1), (0, 0, 0)], [(0, 0, 0), (0, 0, 0), (0, 0, 0), (0, 0, 0), (0, 0, 0), (0, 0, 0), (0, 0, 0), (1, 20, 0), (2, 16, 0), (3, 16, 0), (4, 8, 0), (5, 8, 0), (6, 6, 0), (7, 8, 0), (8, 18, 0), (9, 16, 0), (0, 0, 0), (0, 0, 0), (0, 0, 0)], [(42, 0, 1), (44, 0, 1), (47, 3, 1), (0, 0, 0)], [(188, 27, 1), (0, 0, 0)], [(79, 20, 1), (0, 0, 0), (0, 0, 0)], [(42, 0, 1), (44, 0, 1), (180, 0, 1), (0, 0, 0)], [(0, 0, 0), (0, 0, 0), (0, 0, 0), (0, 0, 0), (0, 0, 0), (0, 0, 0), (0, 0, 0), (0, 0, 0), (0, 0, 0), (0, 0, 0), (0, 0, 0), (0, 0, 0), (0, 0, 0)], [(0, 0, 0), (0, 0, 0), (0, 0, 0), (1, 16, 0), (2, 16, 0), (3, 9, 0), (4, 40, 0), (0, 0, 0)], [(41, 1600, 1), (0, 0, 0), (42, 0, 1), (44, 0, 1), (46, 0, 1), (0, 0, 0), (68, 0, 1), (73, 0, 1), (78, 0, 1), (180, 0, 1), (185, 0, 1), (186, 0, 1), (187, 0, 1), (189, 6, 1), (0, 0, 0)], [(191, 1600, 1), (0, 0, 0), (0, 0, 0), (0, 0, 0), (0, 0, 0), (0, 0, 0), (0, 0, 0), (0, 0, 0), (0, 0, 0), (192, 6, 1), (0, 0, 0), (193, 4, 1), (194, 6, 1), (195, 5, 1), (196, 6, 1), (197, 3, 1), (198, 5, 1), (199, 5, 1), (200, 6, 1), (201, 2, 1), (202, 5, 1), (203, 5, 1), (204, 5, 1), (205, 4, 1), (206, 4, 1), (207, 4, 1), (208, 5, 1), (209, 5, 1), (210, 5, 1), (211, 4, 1), (212, 5, 1), (213, 5, 1), (214, 6, 1), (215, 6, 1), (216, 5, 1), (217, 2, 1), (218, 3, 1), (219, 3, 1), (220, 3, 1), (221, 3, 1), (222, 3, 1), (223, 6, 1), (0, 0, 0), (224, 12, 1), (225, 48, 1), (226, 64, 1), (227, 24, 1), (228, 16, 1), (229, 36, 1), (230, 32, 1), (231, 4, 1), (232, 4, 1), (0, 0, 0), (0, 0, 0), (233, 3200, 1), (0, 0, 0), (234, 1700, 1), (0, 0, 0), (0, 0, 0), (0, 0, 0), (235, 1700, 1), (0, 0, 0), (236, 8, 1), (237, 146, 1), (238, 146, 1), (0, 0, 0), (239, 8, 1), (240, 8, 1), (241, 8, 1), (0, 0, 0), (0, 0, 0), (242, 12, 1), (243, 2920, 1), (0, 0, 0), (0, 0, 0), (0, 0, 0), (244, 5, 1), (245, 4, 1), (246, 5, 1), (247, 5, 1), (248, 4, 1), (249, 5, 1), (250, 3, 1), (251, 3, 1), (252, 2, 1), (253, 3, 1), (254, 3, 1), (255, 3, 1), (256, 5, 1), (257, 6, 1), (258, 4, 1), (259, 5, 1), (260, 5, 1), (261, 5, 1), (262, 4, 1), (263, 6, 1), (264, 6, 1), (265, 5, 1), (266, 6, 1), (267, 1700, 1), (0, 0, 0), (268, 1700, 1), (0, 0, 0), (0, 0, 0), (0, 0, 0), (269, 1700, 1), (0, 0, 0), (0, 0, 0), (0, 0, 0), (270, 27, 1), (0, 0, 0)]]
def lyo (k j : Nat) : Nat × Nat × Nat := (lyoT.getD k []).getD j (0, 0, 0)
def lad (k j a : Nat) : Nat := match (lyo k j).2.2 with
  | 1 => (lyo k j).1
  | _ => a + (lyo k j).1
def LayOK (A : AH) : Prop := ∀ a, 40 ≤ a → a < sz A → ∀ j, (lyo (kd A a) j).1 ≠ 0 → gr A a j = lad (kd A a) j a ∧ gr A a j < sz A ∧ (30 ≤ fty (kd A a) j → ln A (gr A a j) = (lyo (kd A a) j).2.1)
def A0 (L : Nat) (xs : Nat → Int32) : AH := (fun a j => if a = 39 ∧ j < L then (xs j).toInt else 0, fun _ _ => 0, List.replicate 40 (99, 0))
/-- what is owed of the abstract machine: the law's first stretch makes both objects, in plain mode; then its loop, where what is final lies as the layout says -/
def PureLaw : Prop := ∀ (L : Nat) (xs : Nat → Int32), L ≤ 3072 → ∃ (d n : Nat) (A1 A' : AH) (ls : List AV), d ≤ 1000 ∧ (∀ jp : Nat → NX, blk false 2 (run d) (run d) jp (look (pbs 32) 0) 0 [vR 35 39 L, vU, vU, vU] [] (A0 L xs) = jp 18 ls [] A1) ∧ LayOK A1 ∧ go true 2 (runF d) (runN d) (pbs 32) n 18 ls [] A1 = some (some (vI 1), A') ∧ sz A' ≤ 600040 ∧ sl A' ≤ 7302250
