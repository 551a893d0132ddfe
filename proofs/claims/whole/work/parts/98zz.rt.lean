/-! what a method answers is of its kind -/
section RTV
variable {P : Prop} {r : Option AV × AH} {ls st : List AV} {A : AH} {nx : NX} {jp : Nat → NX} {S SN : SX} {f : Bool}
theorem rt_cI {x : RS} {kk : Int → AH → RS} (kn : ∀ x A', kk x A' = some r → P) (h : cI x kk = some r) : P := by
  unfold cI at h
  split at h
  · exact (kn _ _ h)
  · cases h
theorem rt_cL {x : RS} {kk : Int → AH → RS} (kn : ∀ x A', kk x A' = some r → P) (h : cL x kk = some r) : P := by
  unfold cL at h
  split at h
  · exact (kn _ _ h)
  · cases h
theorem rt_cV {x : RS} {kk : AH → RS} (kn : ∀ A', kk A' = some r → P) (h : cV x kk = some r) : P := by
  unfold cV at h
  split at h
  · exact (kn _ h)
  · cases h
theorem rt_cR {t : Nat} {x : RS} {kk : Nat → Nat → AH → RS} (kn : ∀ a n A', kk a n A' = some r → P) (h : cR t x kk = some r) : P := by
  unfold cR at h
  split at h
  · split at h
    · exact (kn _ _ _ h)
    · cases h
  · cases h
theorem rt_ret {q : Nat} {x : RS} {st : List AV} {nx : List AV → AH → RS} (kn : ∀ st A', nx st A' = some r → P) (h : i_ret q x st nx = some r) : P := by
  unfold i_ret at h
  split at h
  · exact rt_cI (fun _ _ q => kn _ _ q) h
  · exact rt_cL (fun _ _ q => kn _ _ q) h
  · exact rt_cV (fun _ q => kn _ _ q) h
  · exact rt_cR (fun _ _ _ q => kn _ _ q) h
theorem rt_call {vt : Bool} {k mi n q : Nat} (kn : ∀ ls st A', nx ls st A' = some r → P) (h : i_call vt k mi n q S ls st A nx = some r) : P := by
  unfold i_call at h
  split at h
  · split at h
    · split at h
      · cases h
      · exact rt_ret (fun _ _ q => kn _ _ _ q) h
    · exact rt_ret (fun _ _ q => kn _ _ _ q) h
  · cases h
theorem rt_cmp {c : ClassFile.Cond} {x y : Int} {a b : RS} (ha : a = some r → P) (hb : b = some r → P) (h : cmpI c x y a b = some r) : P := by
  unfold cmpI at h
  split at h <;> split at h <;> first | exact ha h | exact hb h
theorem rt_swt {pc : Nat} {x d : Int} (kj : ∀ t ls st A', jp t ls st A' = some r → P) : ∀ (os : List Int) (lo : Int), i_swt pc x ls st A d jp lo os = some r → P
  | [], _, h => kj _ _ _ _ h
  | o :: os, lo, h => by
    unfold i_swt at h
    split at h
    · exact kj _ _ _ _ h
    · exact rt_swt kj os _ h
theorem ins_rt {rz pc : Nat} {e : EI} (hI : ∀ x, rz = 0 ∨ rz = 2 → r.1 = some (vI x) → P) (hL : ∀ x, rz = 1 → r.1 = some (vL x) → P) (hA : ∀ v, (Nat.ble 10 rz && (v.1 == rz)) = true → r.1 = some v → P) (hV : rz = 3 → r.1 = none → P) (kn : ∀ ls st A', nx ls st A' = some r → P) (kj : ∀ t ls st A', jp t ls st A' = some r → P) (h : ins f rz S SN e pc ls st A nx jp = some r) : P := by
  obtain ⟨i, n, t, b, k, fl, q, z⟩ := e
  cases i with
  | aload k | aload_n k => simp only [ins, i_lda] at h; split at h; exact kn _ _ _ h; cases h
  | iload k | iload_n k => simp only [ins, i_ld] at h; split at h; exact kn _ _ _ h; cases h
  | lload k | lload_n k => simp only [ins, i_ldl] at h; split at h; exact kn _ _ _ h; cases h
  | astore k | astore_n k => simp only [ins, i_sta] at h; split at h; split at h; exact kn _ _ _ h; cases h; cases h
  | istore k | istore_n k | lstore k | lstore_n k => simp only [ins, i_st] at h; split at h; split at h; exact kn _ _ _ h; cases h; cases h
  | iconst z | bipush z | sipush z | lconst z | ldc z | ldc_w z | ldc2_w z | aconst_null | getstatic z => simp only [ins] at h; exact kn _ _ _ h
  | iinc a c => simp only [ins] at h; split at h; exact kn _ _ _ h; cases h
  | iadd | isub | imul | iand | ior | ixor | ishl | ishr | iushr => simp only [ins, i_b2] at h; split at h; exact kn _ _ _ h; cases h
  | ladd | lsub | lmul => simp only [ins, i_l2] at h; split at h; exact kn _ _ _ h; cases h
  | idiv | irem => simp only [ins, i_b2z] at h; split at h; split at h; cases h; exact kn _ _ _ h; cases h
  | ldiv | lrem => simp only [ins, i_l2z] at h; split at h; split at h; cases h; exact kn _ _ _ h; cases h
  | ineg | lneg | i2l | l2i | lcmp => simp only [ins] at h; split at h; exact kn _ _ _ h; cases h
  | dup | dup2 | pop => simp only [ins] at h; split at h; split at h; exact kn _ _ _ h; cases h; cases h
  | if_icmp c o => simp only [ins, i_ic] at h; split at h; exact rt_cmp (kj _ _ _ _) (kn _ _ _) h; cases h
  | ifCond c o => simp only [ins, i_if] at h; split at h; exact rt_cmp (kj _ _ _ _) (kn _ _ _) h; cases h
  | if_acmp c o =>
    cases c <;> simp only [ins, i_ac] at h <;> split at h <;> first | (cases h; done) | (split at h <;> first | exact kn _ _ _ h | exact kj _ _ _ _ h)
  | ifnull o | ifnonnull o =>
    simp only [ins, i_nl] at h; split at h
    · split at h
      · split at h <;> first | exact kn _ _ _ h | exact kj _ _ _ _ h
      · cases h
    · cases h
  | goto o => simp only [ins] at h; exact kj _ _ _ _ h
  | tableswitch d lo hi os => simp only [ins] at h; split at h; exact rt_swt kj _ _ h; cases h
  | lookupswitch d ps =>
    simp only [ins] at h; split at h
    · split at h
      · exact kj _ _ _ _ h
      · cases h
    · cases h
  | getfield i =>
    simp only [ins, i_gf] at h
    repeat' split at h
    all_goals first | exact kn _ _ _ h | cases h
  | putfield i =>
    simp only [ins, i_pf] at h
    repeat' split at h
    all_goals first | (cases h; done) | (have := kn _ _ _ h; exact this)
  | iaload | laload | caload =>
    simp only [ins, i_al] at h
    repeat' split at h
    all_goals first | exact kn _ _ _ h | cases h
  | aaload =>
    cases t <;> simp only [ins, i_al] at h
    all_goals repeat' split at h
    all_goals first | exact kn _ _ _ h | cases h
  | iastore | lastore =>
    simp only [ins, i_as] at h
    repeat' split at h
    all_goals first | (cases h; done) | (have := kn _ _ _ h; exact this)
  | castore =>
    simp only [ins, i_as] at h
    repeat' split at h
    all_goals first | (cases h; done) | (have := kn _ _ _ h; exact this)
  | aastore =>
    simp only [ins, i_aas] at h
    repeat' split at h
    all_goals first | (cases h; done) | (have := kn _ _ _ h; exact this)
  | arraylength =>
    simp only [ins] at h
    repeat' split at h
    all_goals first | exact kn _ _ _ h | cases h
  | newarray a =>
    cases a with
    | int | long | char =>
      simp only [ins, i_na] at h
      split at h
      · split at h
        · exact kn _ _ _ h
        · cases h
      · cases h
    | _ => simp only [ins] at h; cases h
  | anewarray i =>
    simp only [ins, i_na] at h
    repeat' split at h
    all_goals first | exact kn _ _ _ h | cases h
  | new i =>
    cases k <;> simp only [ins] at h
    · split at h
      · exact kn _ _ _ h
      · cases h
    · split at h
      · exact rt_cV (fun _ q => kn _ _ _ q) h
      · cases h
  | invokevirtual i => simp only [ins] at h; exact rt_call kn h
  | invokespecial i =>
    simp only [ins] at h
    split at h
    · repeat' split at h
      all_goals first | exact kn _ _ _ h | cases h
    · exact rt_call kn h
  | invokestatic i =>
    simp only [ins] at h
    split at h
    · unfold i_cp at h
      repeat' split at h
      all_goals first | (cases h; done) | (have := kn _ _ _ h; exact this)
    · exact rt_call kn h
  | ireturn =>
    simp only [ins] at h
    split at h
    · split at h
      · exact hI _ (Or.inl rfl) (by injection h with h; rw [← h])
      · split at h
        · exact hI _ (Or.inr rfl) (by injection h with h; rw [← h])
        · cases h
      · cases h
    · cases h
  | lreturn =>
    simp only [ins] at h
    split at h
    · split at h
      · exact hL _ rfl (by injection h with h; rw [← h])
      · cases h
    · cases h
  | areturn =>
    simp only [ins] at h
    split at h
    · split at h
      · rename_i q
        exact hA _ q (by injection h with h; rw [← h])
      · cases h
    · cases h
  | return_ =>
    simp only [ins] at h
    split at h
    · split at h
      · exact hV rfl (by injection h with h; rw [← h])
      · cases h
    · cases h
  | _ => simp only [ins] at h; cases h
theorem blk_rt {rz : Nat} (hI : ∀ x, rz = 0 ∨ rz = 2 → r.1 = some (vI x) → P) (hL : ∀ x, rz = 1 → r.1 = some (vL x) → P) (hA : ∀ v, (Nat.ble 10 rz && (v.1 == rz)) = true → r.1 = some v → P) (hV : rz = 3 → r.1 = none → P) (kj : ∀ t ls st A', jp t ls st A' = some r → P) : ∀ (es : List EI) (pc : Nat) (ls st : List AV) (A : AH), blk f rz S SN jp es pc ls st A = some r → P
  | [], _, _, _, _, h => kj _ _ _ _ h
  | e :: es, pc, ls, st, A, h => ins_rt hI hL hA hV (fun ls st A' q => blk_rt hI hL hA hV kj es _ ls st A' q) kj h
theorem go_rt {rz : Nat} {bs : List (Nat × List EI)} (hI : ∀ x, rz = 0 ∨ rz = 2 → r.1 = some (vI x) → P) (hL : ∀ x, rz = 1 → r.1 = some (vL x) → P) (hA : ∀ v, (Nat.ble 10 rz && (v.1 == rz)) = true → r.1 = some v → P) (hV : rz = 3 → r.1 = none → P) : ∀ (n pc : Nat) (ls st : List AV) (A : AH), go f rz S SN bs n pc ls st A = some r → P
  | 0, _, _, _, _, h => by cases h
  | n + 1, pc, ls, st, A, h => by
    unfold go at h
    split at h
    · cases h
    · exact blk_rt hI hL hA hV (fun t ls st A' q => go_rt hI hL hA hV n t ls st A' q) _ _ _ _ _ h
end RTV
theorem runF_int {d mi : Nat} {av : List AV} {A : AH} {v : Option AV} {A' : AH} (h : runF (d + 1) mi av A = some (v, A')) (hz : rzs mi = 0 ∨ rzs mi = 2) : ∃ x, v = some (vI x) := by
  unfold runF at h
  split at h
  · exact go_rt (P := ∃ x, v = some (vI x)) (r := (v, A')) (fun x _ q => ⟨x, q⟩) (fun x q _ => by omega) (fun w q _ => by
      rw [Bool.and_eq_true] at q
      have := Nat.le_of_ble_eq_true q.1
      omega) (fun q _ => by omega) _ _ _ _ _ h
  · cases h
theorem runF_long {d mi : Nat} {av : List AV} {A : AH} {v : Option AV} {A' : AH} (h : runF (d + 1) mi av A = some (v, A')) (hz : rzs mi = 1) : ∃ x, v = some (vL x) := by
  unfold runF at h
  split at h
  · exact go_rt (P := ∃ x, v = some (vL x)) (r := (v, A')) (fun x q _ => by omega) (fun x _ q => ⟨x, q⟩) (fun w q _ => by
      rw [Bool.and_eq_true] at q
      have := Nat.le_of_ble_eq_true q.1
      omega) (fun q _ => by omega) _ _ _ _ _ h
  · cases h
