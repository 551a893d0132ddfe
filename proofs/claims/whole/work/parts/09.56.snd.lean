/-! classes by their numbers -/
def isAC (w : Cond) : Bool := match w with
  | .arrayClass _ => true
  | _ => false
def gtb : List Cond := lw_tbl.filter (fun w => (w.onTables && w.keeps) || isAC w)
theorem vw_at {k : Nat} (hk : k < 12) : vwCl[k]? = some (vwc k) := by
  have h : k < vwCl.length := hk
  unfold vwc
  rw [List.getD_eq_getElem?_getD, List.getElem?_eq_getElem h]
  rfl
theorem vw_nf : ∀ k, k < 12 → (vwc k).2.2 = nf k := by decide +kernel
theorem vw_nm0 : ∀ k, k < 12 → (vwc k).1 = cnm k := by decide +kernel
theorem vw_lay : ∀ k, k < 12 → ∀ j, j < nf k → (k, j) ∈ layT := by decide +kernel
def pty (k j : Nat) : FieldType := (parseFieldDescriptor ((vwc k).2.1 j).2.2.1).getD .int
def tyOK (ty : FieldType) (t : Nat) : Bool := match ty with
  | .int => t == 0
  | .long => t == 1
  | .boolean => t == 2
  | .object _ => Nat.ble 10 t
  | .array _ => Nat.ble 10 t
  | _ => false
theorem vw_pty : ∀ k, k < 12 → ∀ j, j < nf k → (parseFieldDescriptor ((vwc k).2.1 j).2.2.1 = some (pty k j) ∧ tyOK (pty k j) (fty k j) = true) := by decide +kernel
theorem vw_own : ∀ k, k < 12 → ∀ j, j < nf k → ((vwc k).2.1 j).1 = cnm k := by decide +kernel
theorem vw_names : ∀ k, k < 12 → ∀ a, a < nf k → ∀ b, b < nf k → a ≠ b → ((vwc k).2.1 a).2.1 ≠ ((vwc k).2.1 b).2.1 := by
  intro k hk
  match k, hk with
  | 0, _ => exact nmX0
  | 1, _ => exact nmX1
  | 2, _ => exact nmX2
  | 3, _ => exact nmX3
  | 4, _ => exact nmX4
  | 5, _ => exact nmX5
  | 6, _ => exact nmX6
  | 7, _ => exact nmX7
  | 8, _ => exact nmX8
  | 9, _ => exact nmX9
  | 10, _ => exact nmX11
  | 11, _ => exact nmX12
theorem fdn_k {k j : Nat} (hk : k < 12) : fdn k j = (((vwc k).2.1 j).1, ((vwc k).2.1 j).2.1, ((vwc k).2.1 j).2.2.1) := by
  unfold fdn
  split
  · omega
  · omega
  · rfl
theorem in_gtb {w : Cond} (h : w ∈ lw_tbl) (hg : ((w.onTables && w.keeps) || isAC w) = true) : w ∈ gtb := List.mem_filter.mpr ⟨h, hg⟩
theorem gtb_good {w : Cond} (h : w ∈ gtb) : (w.onTables && w.keeps) = true ∨ ∃ ty, w = .arrayClass ty := by
  have h1 := (List.mem_filter.mp h).2
  rw [Bool.or_eq_true] at h1
  rcases h1 with h1 | h1
  · exact Or.inl h1
  · refine Or.inr ?_
    unfold isAC at h1
    split at h1
    · exact ⟨_, rfl⟩
    · cases h1
theorem lay_in {k j : Nat} (hk : k < 12) (hj : j < nf k) : u_lay (vwc k).1 (vwc k).2.1 j ∈ gtb := by
  refine in_gtb (tb_in (layT_in (vw_lay k hk j hj))) ?_
  unfold u_lay
  split <;> rfl
theorem vw_in {k : Nat} (hk : k < 12) : ∀ w ∈ u_ws (vwc k).1 (vwc k).2.1 (vwc k).2.2, w ∈ gtb := by
  intro w hw
  unfold u_ws at hw
  obtain ⟨j, hj, rfl⟩ := List.mem_map.mp hw
  have hj := List.mem_range.mp hj
  rw [vw_nf k hk] at hj
  exact lay_in hk hj
theorem fl_in {own i k j : Nat} (hl : (own, i, k, j) ∈ ftT) : Cond.fieldLink (cnm own) i (fdn k j).1 (fdn k j).2.1 (fdn k j).2.2 ∈ gtb := in_gtb (tb_in (ftT_in hl)) rfl
theorem ml_in {own i y : Nat} (hl : (own, i, y) ∈ mtT) : Cond.methodLink (cnm own) i (ynm y) ∈ gtb := in_gtb (tb_in (mtT_in hl)) rfl
theorem im_in {y : Nat} (hl : y ∈ imT) : Cond.instanceMethod (ynm y) ∈ gtb := in_gtb (tb_in (imT_in hl)) rfl
theorem st_in {y : Nat} (hl : y ∈ stT) : Cond.static (ynm y) ∈ gtb := in_gtb (tb_in (stT_in hl)) rfl
theorem ini_in {k : Nat} (hl : k ∈ inT) : Cond.initialized (cnm k) ∈ gtb := in_gtb (tb_in (inT_in hl)) rfl
theorem co_in {y : Nat} (hl : y ∈ coT) : Cond.code (ynm y) (cod y) (mxl y) (rtt y) ∈ gtb := in_gtb (tb_in (coT_in hl)) rfl
theorem is_in {q : Nat × Nat} (hl : q ∈ isT) : Cond.instantiable (cnm q.1) q.2 ∈ gtb := in_gtb (tb_in (isT_in hl)) rfl
theorem ct_in {own i k : Nat} (hl : (own, i, k) ∈ ctT) : Cond.classLink (cnm own) i (cnm k) ∈ gtb := in_gtb (tb_in (ctT_in hl)) rfl
theorem kt_in {own i : Nat} {z : Int} (hl : (own, i, z) ∈ ktT) : Cond.constant (cnm own) i (c32 z) ∈ gtb := in_gtb (tb_in (ktT_in hl)) rfl
theorem k2_in {own i : Nat} {z : Int} (hl : (own, i, z) ∈ k2T) : Cond.constantLong (cnm own) i (c64 z) ∈ gtb := in_gtb (tb_in (k2T_in hl)) rfl
theorem se_in {y : Nat} (hl : (y, y) ∈ seT ∨ y ∈ pvT) : Cond.selects (ynm y).cls (ynm y) (ynm y) ∈ gtb := by
  rcases hl with hl | hl
  · exact in_gtb (tb_in (seT_in hl)) rfl
  · exact in_gtb (pv_in hl) rfl
theorem ac_in : Cond.arrayClass .int ∈ gtb ∧ Cond.arrayClass .long ∈ gtb ∧ Cond.arrayClass .char ∈ gtb := by
  refine ⟨in_gtb (tb_in ?_) rfl, in_gtb (tb_in ?_) rfl, in_gtb (tb_in ?_) rfl⟩ <;> decide +kernel
