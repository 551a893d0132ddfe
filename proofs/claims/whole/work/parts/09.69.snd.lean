/-! a heap only grows -/
section PFX
variable {r : Option AV × AH} {ls st : List AV} {A : AH} {nx : NX} {jp : Nat → NX} {S SN : SX} {f : Bool}
theorem pf_nw {A : AH} {k n : Nat} {r : Option AV × AH} (h : pfx (nw A k n) r.2) : pfx A r.2 := pfx_tr ⟨[(k, n)], rfl⟩ h
theorem pf_cI {x : RS} {kk : Int → AH → RS} (hx : ∀ v A', x = some (v, A') → pfx A A') (kn : ∀ x A', kk x A' = some r → pfx A' r.2) (h : cI x kk = some r) : pfx A r.2 := by
  unfold cI at h
  split at h
  · exact pfx_tr (hx _ _ rfl) (kn _ _ h)
  · cases h
theorem pf_cL {x : RS} {kk : Int → AH → RS} (hx : ∀ v A', x = some (v, A') → pfx A A') (kn : ∀ x A', kk x A' = some r → pfx A' r.2) (h : cL x kk = some r) : pfx A r.2 := by
  unfold cL at h
  split at h
  · exact pfx_tr (hx _ _ rfl) (kn _ _ h)
  · cases h
theorem pf_cV {x : RS} {kk : AH → RS} (hx : ∀ v A', x = some (v, A') → pfx A A') (kn : ∀ A', kk A' = some r → pfx A' r.2) (h : cV x kk = some r) : pfx A r.2 := by
  unfold cV at h
  split at h
  · exact pfx_tr (hx _ _ rfl) (kn _ h)
  · cases h
theorem pf_cR {t : Nat} {x : RS} {kk : Nat → Nat → AH → RS} (hx : ∀ v A', x = some (v, A') → pfx A A') (kn : ∀ a n A', kk a n A' = some r → pfx A' r.2) (h : cR t x kk = some r) : pfx A r.2 := by
  unfold cR at h
  split at h
  · split at h
    · exact pfx_tr (hx _ _ rfl) (kn _ _ _ h)
    · cases h
  · cases h
theorem pf_ret {q : Nat} {x : RS} {st : List AV} {nx : List AV → AH → RS} (hx : ∀ v A', x = some (v, A') → pfx A A') (kn : ∀ st A', nx st A' = some r → pfx A' r.2) (h : i_ret q x st nx = some r) : pfx A r.2 := by
  unfold i_ret at h
  split at h
  · exact pf_cI hx (fun _ _ q => kn _ _ q) h
  · exact pf_cL hx (fun _ _ q => kn _ _ q) h
  · exact pf_cV hx (fun _ q => kn _ _ q) h
  · exact pf_cR hx (fun _ _ _ q => kn _ _ q) h
theorem pf_call {vt : Bool} {k mi n q : Nat} (hS : ∀ mi av A v A', S mi av A = some (v, A') → pfx A A') (kn : ∀ ls st A', nx ls st A' = some r → pfx A' r.2) (h : i_call vt k mi n q S ls st A nx = some r) : pfx A r.2 := by
  unfold i_call at h
  split at h
  · split at h
    · split at h
      · cases h
      · exact pf_ret (hS _ _ _) (fun _ _ q => kn _ _ _ q) h
    · exact pf_ret (hS _ _ _) (fun _ _ q => kn _ _ _ q) h
  · cases h
theorem pf_cmp {c : ClassFile.Cond} {x y : Int} {a b : RS} (ha : a = some r → pfx A r.2) (hb : b = some r → pfx A r.2) (h : cmpI c x y a b = some r) : pfx A r.2 := by
  unfold cmpI at h
  split at h <;> split at h <;> first | exact ha h | exact hb h
theorem pf_swt {pc : Nat} {x d : Int} (kj : ∀ t ls st A', jp t ls st A' = some r → pfx A' r.2) : ∀ (os : List Int) (lo : Int), i_swt pc x ls st A d jp lo os = some r → pfx A r.2
  | [], _, h => kj _ _ _ _ h
  | o :: os, lo, h => by
    unfold i_swt at h
    split at h
    · exact kj _ _ _ _ h
    · exact pf_swt kj os _ h
theorem ins_pfx {rz pc : Nat} {e : EI} (hS : ∀ mi av A v A', S mi av A = some (v, A') → pfx A A') (hSN : ∀ mi av A v A', SN mi av A = some (v, A') → pfx A A') (kn : ∀ ls st A', nx ls st A' = some r → pfx A' r.2) (kj : ∀ t ls st A', jp t ls st A' = some r → pfx A' r.2) (h : ins f rz S SN e pc ls st A nx jp = some r) : pfx A r.2 := by
  have hret : ∀ {v : Option AV}, some (v, A) = some r → pfx A r.2 := fun q => by cases q; exact pfx_rf A
  obtain ⟨i, n, t, b, k, fl, q, z⟩ := e
  cases i with
  | aload k | aload_n k => simp only [ins, i_lda] at h; split at h; exact kn _ _ _ h; cases h
  | iload k | iload_n k => simp only [ins, i_ld] at h; split at h; exact kn _ _ _ h; cases h
  | lload k | lload_n k => simp only [ins, i_ldl] at h; split at h; exact kn _ _ _ h; cases h
  | astore k | astore_n k => simp only [ins, i_sta] at h; split at h; split at h; exact kn _ _ _ h; cases h; cases h
  | istore k | istore_n k | lstore k | lstore_n k => simp only [ins, i_st] at h; split at h; split at h; exact kn _ _ _ h; cases h; cases h
  | iconst z | bipush z | sipush z | lconst z | ldc z | ldc_w z | ldc2_w z | aconst_null | getstatic z => simp only [ins] at h; exact kn _ _ _ h
  | iinc a c => simp only [ins] at h; split at h; exact kn _ _ _ h; cases h
  | iadd | isub | imul | iand | ior | ixor | ishl | ishr | iushr => simp only [ins, i_b2] at h; split at h; exact kn _ _ _ h; cases h
  | ladd | lsub | lmul => simp only [ins, i_l2] at h; split at h; exact kn _ _ _ h; cases h
  | idiv | irem => simp only [ins, i_b2z] at h; split at h; split at h; cases h; exact kn _ _ _ h; cases h
  | ldiv | lrem => simp only [ins, i_l2z] at h; split at h; split at h; cases h; exact kn _ _ _ h; cases h
  | ineg | lneg | i2l | l2i | lcmp => simp only [ins] at h; split at h; exact kn _ _ _ h; cases h
  | dup | dup2 | pop => simp only [ins] at h; split at h; split at h; exact kn _ _ _ h; cases h; cases h
  | if_icmp c o => simp only [ins, i_ic] at h; split at h; exact pf_cmp (kj _ _ _ _) (kn _ _ _) h; cases h
  | ifCond c o => simp only [ins, i_if] at h; split at h; exact pf_cmp (kj _ _ _ _) (kn _ _ _) h; cases h
  | if_acmp c o =>
    cases c <;> simp only [ins, i_ac] at h <;> split at h <;> first | (cases h; done) | (split at h <;> first | exact kn _ _ _ h | exact kj _ _ _ _ h)
  | ifnull o | ifnonnull o =>
    simp only [ins, i_nl] at h; split at h
    · split at h
      · split at h <;> first | exact kn _ _ _ h | exact kj _ _ _ _ h
      · cases h
    · cases h
  | goto o => simp only [ins] at h; exact kj _ _ _ _ h
  | tableswitch d lo hi os => simp only [ins] at h; split at h; exact pf_swt kj _ _ h; cases h
  | lookupswitch d ps =>
    simp only [ins] at h; split at h
    · split at h
      · exact kj _ _ _ _ h
      · cases h
    · cases h
  | getfield i =>
    simp only [ins, i_gf] at h
    repeat' split at h
    all_goals first | exact kn _ _ _ h | cases h
  | putfield i =>
    simp only [ins, i_pf] at h
    repeat' split at h
    all_goals first | (cases h; done) | (have := kn _ _ _ h; exact this)
  | iaload | laload | caload =>
    simp only [ins, i_al] at h
    repeat' split at h
    all_goals first | exact kn _ _ _ h | cases h
  | aaload =>
    cases t <;> simp only [ins, i_al] at h
    all_goals repeat' split at h
    all_goals first | exact kn _ _ _ h | cases h
  | iastore | lastore =>
    simp only [ins, i_as] at h
    repeat' split at h
    all_goals first | (cases h; done) | (have := kn _ _ _ h; exact this)
  | castore =>
    simp only [ins, i_as] at h
    repeat' split at h
    all_goals first | (cases h; done) | (have := kn _ _ _ h; exact this)
  | aastore =>
    simp only [ins, i_aas] at h
    repeat' split at h
    all_goals first | (cases h; done) | (have := kn _ _ _ h; exact this)
  | arraylength =>
    simp only [ins] at h
    repeat' split at h
    all_goals first | exact kn _ _ _ h | cases h
  | newarray a =>
    cases a with
    | int | long | char =>
      simp only [ins, i_na] at h
      split at h
      · split at h
        · exact pf_nw (kn _ _ _ h)
        · cases h
      · cases h
    | _ => simp only [ins] at h; cases h
  | anewarray i =>
    simp only [ins, i_na] at h
    repeat' split at h
    all_goals first | exact pf_nw (kn _ _ _ h) | cases h
  | new i =>
    cases k <;> simp only [ins] at h
    · split at h
      · exact pf_nw (kn _ _ _ h)
      · cases h
    · split at h
      · exact pf_nw (pf_cV (A := nw A t b) (hSN _ _ _) (fun _ q => kn _ _ _ q) h)
      · cases h
  | invokevirtual i => simp only [ins] at h; exact pf_call hS kn h
  | invokespecial i =>
    simp only [ins] at h
    split at h
    · repeat' split at h
      all_goals first | exact kn _ _ _ h | cases h
    · exact pf_call hS kn h
  | invokestatic i =>
    simp only [ins] at h
    split at h
    · unfold i_cp at h
      repeat' split at h
      all_goals first | (cases h; done) | (have := kn _ _ _ h; exact this)
    · exact pf_call hS kn h
  | ireturn | lreturn | areturn | return_ =>
    simp only [ins] at h
    repeat' split at h
    all_goals first | exact hret h | cases h
  | _ => simp only [ins] at h; cases h
theorem blk_pfx {rz : Nat} (hS : ∀ mi av A v A', S mi av A = some (v, A') → pfx A A') (hSN : ∀ mi av A v A', SN mi av A = some (v, A') → pfx A A') (kj : ∀ t ls st A', jp t ls st A' = some r → pfx A' r.2) : ∀ (es : List EI) (pc : Nat) (ls st : List AV) (A : AH), blk f rz S SN jp es pc ls st A = some r → pfx A r.2
  | [], _, _, _, _, h => kj _ _ _ _ h
  | e :: es, pc, ls, st, A, h => ins_pfx hS hSN (fun ls st A' q => blk_pfx hS hSN kj es _ ls st A' q) kj h
theorem go_pfx {rz : Nat} {bs : List (Nat × List EI)} (hS : ∀ mi av A v A', S mi av A = some (v, A') → pfx A A') (hSN : ∀ mi av A v A', SN mi av A = some (v, A') → pfx A A') : ∀ (n pc : Nat) (ls st : List AV) (A : AH), go f rz S SN bs n pc ls st A = some r → pfx A r.2
  | 0, _, _, _, _, h => by cases h
  | n + 1, pc, ls, st, A, h => by
    unfold go at h
    split at h
    · cases h
    · exact blk_pfx hS hSN (fun t ls st A' q => go_pfx hS hSN n t ls st A' q) _ _ _ _ _ h
end PFX
theorem run_pfx : ∀ (d mi : Nat) (av : List AV) (A : AH) (v : Option AV) (A' : AH), run d mi av A = some (v, A') → pfx A A'
  | 0, _, _, _, _, _, h => by cases h
  | d + 1, mi, av, A, v, A', h => by
    unfold run at h
    split at h
    · exact go_pfx (r := (v, A')) (run_pfx d) (run_pfx d) _ _ _ _ _ h
    · cases h
theorem runN_pfx (d mi : Nat) (av : List AV) (A : AH) (v : Option AV) (A' : AH) (h : runN d mi av A = some (v, A')) : pfx A A' := by
  unfold runN at h
  split at h
  · exact run_pfx _ _ _ _ _ _ h
  · cases h
theorem runF_pfx : ∀ (d mi : Nat) (av : List AV) (A : AH) (v : Option AV) (A' : AH), runF d mi av A = some (v, A') → pfx A A'
  | 0, _, _, _, _, _, h => by cases h
  | d + 1, mi, av, A, v, A', h => by
    unfold runF at h
    split at h
    · exact go_pfx (r := (v, A')) (runF_pfx d) (runN_pfx d) _ _ _ _ _ h
    · cases h
