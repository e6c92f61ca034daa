
/-- the script that the law reads, as cell 99 -/
def mmXs (S : mmScr) (ad : Nat → Nat) (A : Nat → Prop) (s : State) : Prop := ∀ (L : Nat) (xs : Nat → Int32), S = some (L, xs) → va_X (ad 99) L xs s s.heap ∧ ad 99 < s.heap.size ∧ ¬ A (ad 99)
theorem mmLd_spec {ls ls' st st' : List Value} {M M' : mmM} {i pc len pc' : Nat} {ok : Value → Bool} (h : mmLd ls i pc len st M ok = some (pc', ls', st', M')) : ∃ v, ls[i]? = some v ∧ ok v = true ∧ pc' = pc + len ∧ ls' = ls ∧ st' = v :: st ∧ M' = M := by
  unfold mmLd at h
  split at h
  · rename_i v hv
    split at h
    · rename_i hok
      cases h
      exact ⟨v, hv, hok, rfl, rfl, rfl, rfl⟩
    · cases h
  · cases h
theorem mmSt1_lt {ls ls' : List Value} {i : Nat} {v : Value} (h : mmSt1 ls i v = some ls') : i < ls.length := by
  unfold mmSt1 at h
  split at h
  · rename_i hc
    exact hc.1
  · cases h
theorem mmSt2_lt {ls ls' : List Value} {i : Nat} {v : Value} (h : mmSt2 ls i v = some ls') : i + 1 < ls.length := by
  unfold mmSt2 at h
  split at h
  · rename_i hc
    exact hc.1
  · cases h
theorem mmSt1_len {ls ls' : List Value} {i : Nat} {v : Value} (h : mmSt1 ls i v = some ls') : ls'.length = ls.length := by
  unfold mmSt1 at h
  split at h
  · cases h
    simp
  · cases h
theorem mmSt2_len {ls ls' : List Value} {i : Nat} {v : Value} (h : mmSt2 ls i v = some ls') : ls'.length = ls.length := by
  unfold mmSt2 at h
  split at h
  · cases h
    simp
  · cases h
theorem mmIsI_of {v : Value} (h : mmIsI v = true) : ∃ x, v = .int x := by cases v <;> first | exact ⟨_, rfl⟩ | cases h
theorem mmIsJ_of {v : Value} (h : mmIsJ v = true) : ∃ x, v = .long x := by cases v <;> first | exact ⟨_, rfl⟩ | cases h
theorem mmIsD_of {v : Value} (h : mmIsD v = true) : ∃ x, v = .double x := by cases v <;> first | exact ⟨_, rfl⟩ | cases h
theorem mmIsR_of {v : Value} (h : mmIsR v = true) : ∃ x, v = .ref x := by cases v <;> first | exact ⟨_, rfl⟩ | cases h
theorem mmW_I {G : Nat → ClassId} {ad : Nat → Nat} {M : mmM} {n k i m : Nat} {v : Int32} (h : mmLay[k]? = some (.inl (0, m))) : (mmW G ad M n).set k (ad k, .inl (G 0, m, .inl (upd (M.1 k) i v))) = mmW G ad (mmI M k i v) n := by
  rw [← mmW_set (M' := mmI M k i v) (fun j hj _ => mmCe_ne hj), mmCe_int h]
  simp [mmI, uC]
theorem mmW_Z {G : Nat → ClassId} {ad : Nat → Nat} {M : mmM} {n k i m : Nat} {v : Int32} (h : mmLay[k]? = some (.inl (1, m))) : (mmW G ad M n).set k (ad k, .inl (G 1, m, .inl (upd (M.1 k) i v))) = mmW G ad (mmI M k i v) n := by
  rw [← mmW_set (M' := mmI M k i v) (fun j hj _ => mmCe_ne hj), mmCe_bool h]
  simp [mmI, uC]
theorem mmW_F {G : Nat → ClassId} {ad : Nat → Nat} {M : mmM} {n k i c : Nat} {fs : List (Option Nat)} {v : Int32} (h : mmLay[k]? = some (.inr (c, fs))) (hf : fs[i]? = some none) : (mmW G ad M n).set k (ad k, .inr (c, (mmFs ad (M.1 k) 0 fs).set i (.int v))) = mmW G ad (mmI M k i v) n := by
  rw [← mmW_set (M' := mmI M k i v) (fun j hj _ => mmCe_ne hj), mmCe_obj h, mmFs_set _ _ _ _ _ hf]
  simp [mmI, uC]
theorem mmW_J {G : Nat → ClassId} {ad : Nat → Nat} {M : mmM} {n k i m : Nat} {v : Int64} (hn : n ≤ 35) (hk : k < n) (h : mmLay[k]? = some (.inl (2, m))) : (mmW G ad M n).set k (ad k, .inl (G 2, m, .inr (.inl (vp_updL M.2.1 i v)))) = mmW G ad (mmJ M i v) n := by
  have h47 := mmLay_long k (by omega) 0 m h
  rw [← mmW_set (k := k) (M' := mmJ M i v) (fun j hj hjn => mmCe_neJ (by omega) (by omega)), mmCe_long h]
  simp [mmJ]
section MM
variable {p : Program} {l : Launch} {e : Env} {R : Room} {s : State} {m : MethodId} {args : Array Value} {below : List Frame} {meth : Method} {c : Code} {H : Heap} {locs : List Loc} {cells slots : Nat} {Q : State → Prop}
set_option maxHeartbeats 4000000 in
set_option maxRecDepth 100000 in
theorem mm_step {D : va_G} {G : Nat → ClassId} {ad : Nat → Nat} {n o : Nat} {M M' : mmM} {cc : ByteArray} {own : String} {w : Bool} {A : Nat → Prop} {S : mmScr} {pc pc' len : Nat} {ins : Instr} {ls ls' st st' : List Value} {lsR : Array Slot}
    (hx : p.tables.exec = Jvm.exec) (hb : c.code = cc) (hml : c.maxLocals = ls.length) (hn : n ≤ 35) (how : mmOwn[o]? = some own) (hown : s.vm.findClass own = some m.cls)
    (hts : ∀ w ∈ mmBW, w.before args s = true) (hK : va_K D mmCls (mmTy G n) s) (hX : mmXs S ad A s) (hw : w = true → 1 ≤ R.frames ∧ 21 ≤ R.locals) (hcs : cells ≤ R.cells ∧ slots ≤ R.slots)
    (hP : va_P D mmCls (mmW G ad M n) H) (hD : va_D A (mmW G ad M n)) (hS : va_S A s.heap H locs) (hL : mmLR ad lsR ls)
    (hd : decode cc pc = .ok (ins, len)) (hln : mmLn ins len = true) (hs : mmS S n o w pc ins len ls st M = some (pc', ls', st', M'))
    (kk : ∀ (lsR' : Array Slot) (H' : Heap) (locs' : List Loc), mmLR ad lsR' ls' → va_P D mmCls (mmW G ad M' n) H' → va_D A (mmW G ad M' n) → va_S A s.heap H' locs' → W p l e R s m args below meth c H' locs' cells slots Q (F0 m pc' lsR' (st'.map (mmV ad)))) :
    W p l e R s m args below meth c H locs cells slots Q (F0 m pc lsR (st.map (mmV ad))) := by
  have k0 : ∀ (pc' : Nat) (ls' st' : List Value), (∀ (lsR' : Array Slot) (H' : Heap) (locs' : List Loc), mmLR ad lsR' ls' → va_P D mmCls (mmW G ad M n) H' → va_D A (mmW G ad M n) → va_S A s.heap H' locs' → W p l e R s m args below meth c H' locs' cells slots Q (F0 m pc' lsR' (st'.map (mmV ad)))) → ls' = ls → W p l e R s m args below meth c H locs cells slots Q (F0 m pc' lsR (st'.map (mmV ad))) := by
    intro pc' ls' st' h he
    subst he
    exact h lsR H locs hL hP hD hS
  have k1 : ∀ (lsR' : Array Slot) (pc' : Nat) (ls' st' : List Value), (∀ (lsR' : Array Slot) (H' : Heap) (locs' : List Loc), mmLR ad lsR' ls' → va_P D mmCls (mmW G ad M n) H' → va_D A (mmW G ad M n) → va_S A s.heap H' locs' → W p l e R s m args below meth c H' locs' cells slots Q (F0 m pc' lsR' (st'.map (mmV ad)))) → mmLR ad lsR' ls' → W p l e R s m args below meth c H locs cells slots Q (F0 m pc' lsR' (st'.map (mmV ad))) := by
    intro lsR' pc' ls' st' h he
    exact h lsR' H locs he hP hD hS
  cases ins with
  | iconst k =>
    have hl : len = 1 := by simpa [mmLn] using hln
    subst hl
    simp only [mmS] at hs
    cases hs
    exact lv_iconst hx hb hd rfl (k0 _ _ _ kk rfl)
  | bipush k =>
    have hl : len = 2 := by simpa [mmLn] using hln
    subst hl
    simp only [mmS] at hs
    cases hs
    exact lv_bipush hx hb hd rfl (k0 _ _ _ kk rfl)
  | lconst k =>
    have hl : len = 1 := by simpa [mmLn] using hln
    subst hl
    simp only [mmS] at hs
    cases hs
    exact lv_lconst hx hb hd rfl (k0 _ _ _ kk rfl)
  | dconst k =>
    have hl : len = 1 := by simpa [mmLn] using hln
    subst hl
    simp only [mmS] at hs
    split at hs
    · rename_i hk0
      subst hk0
      cases hs
      exact lv_dconst0 hx hb hd (k0 _ _ _ kk rfl)
    · cases hs
  | iload_n k =>
    have hl : len = 1 := by simpa [mmLn] using hln
    subst hl
    simp only [mmS] at hs
    obtain ⟨v, hv, hok, rfl, rfl, rfl, rfl⟩ := mmLd_spec hs
    obtain ⟨x, rfl⟩ := mmIsI_of hok
    exact lv_iload_n hx hb hd rfl (hL.at hv (by simp)) (k0 _ _ _ kk rfl)
  | iload k =>
    have hl : len = 2 := by simpa [mmLn] using hln
    subst hl
    simp only [mmS] at hs
    obtain ⟨v, hv, hok, rfl, rfl, rfl, rfl⟩ := mmLd_spec hs
    obtain ⟨x, rfl⟩ := mmIsI_of hok
    exact lv_iload hx hb hd (hL.at hv (by simp)) (k0 _ _ _ kk rfl)
  | lload_n k =>
    have hl : len = 1 := by simpa [mmLn] using hln
    subst hl
    simp only [mmS] at hs
    obtain ⟨v, hv, hok, rfl, rfl, rfl, rfl⟩ := mmLd_spec hs
    obtain ⟨x, rfl⟩ := mmIsJ_of hok
    exact lv_lload_n hx hb hd rfl (hL.at hv (by simp)) (k0 _ _ _ kk rfl)
  | dload k =>
    have hl : len = 2 := by simpa [mmLn] using hln
    subst hl
    simp only [mmS] at hs
    obtain ⟨v, hv, hok, rfl, rfl, rfl, rfl⟩ := mmLd_spec hs
    obtain ⟨x, rfl⟩ := mmIsD_of hok
    exact lv_dload hx hb hd (hL.at hv (by simp)) (k0 _ _ _ kk rfl)
  | aload_n k =>
    have hl : len = 1 := by simpa [mmLn] using hln
    subst hl
    simp only [mmS] at hs
    obtain ⟨v, hv, hok, rfl, rfl, rfl, rfl⟩ := mmLd_spec hs
    obtain ⟨x, rfl⟩ := mmIsR_of hok
    exact lv_aload_n hx hb hd rfl (hL.at hv (by simp)) (k0 _ _ _ kk rfl)
  | aload k =>
    have hl : len = 2 := by simpa [mmLn] using hln
    subst hl
    simp only [mmS] at hs
    obtain ⟨v, hv, hok, rfl, rfl, rfl, rfl⟩ := mmLd_spec hs
    obtain ⟨x, rfl⟩ := mmIsR_of hok
    exact lv_aload hx hb hd (hL.at hv (by simp)) (k0 _ _ _ kk rfl)
  | istore_n k =>
    have hl : len = 1 := by simpa [mmLn] using hln
    subst hl
    simp only [mmS] at hs
    split at hs
    · rename_i v r
      obtain ⟨l2, hl2, he⟩ := Option.map_eq_some_iff.mp hs
      cases he
      exact lv_istore_n hx hb hd rfl hL (mmSt1_lt hl2) rfl (fun lsR' h' => k1 _ _ _ _ kk (mmLR.st1 hl2 (fun _ => rfl) h'))
    · cases hs
  | istore k =>
    have hl : len = 2 := by simpa [mmLn] using hln
    subst hl
    simp only [mmS] at hs
    split at hs
    · rename_i v r
      obtain ⟨l2, hl2, he⟩ := Option.map_eq_some_iff.mp hs
      cases he
      exact lv_istore hx hb hd hL (mmSt1_lt hl2) rfl (fun lsR' h' => k1 _ _ _ _ kk (mmLR.st1 hl2 (fun _ => rfl) h'))
    · cases hs
  | lstore_n k =>
    have hl : len = 1 := by simpa [mmLn] using hln
    subst hl
    simp only [mmS] at hs
    split at hs
    · rename_i v r
      obtain ⟨l2, hl2, he⟩ := Option.map_eq_some_iff.mp hs
      cases he
      exact lv_lstore_n hx hb hd rfl hL (mmSt2_lt hl2) rfl (fun lsR' h' => k1 _ _ _ _ kk (mmLR.st2 hl2 rfl h'))
    · cases hs
  | dstore k =>
    have hl : len = 2 := by simpa [mmLn] using hln
    subst hl
    simp only [mmS] at hs
    split at hs
    · rename_i v r
      obtain ⟨l2, hl2, he⟩ := Option.map_eq_some_iff.mp hs
      cases he
      exact lv_dstore hx hb hd hL (mmSt2_lt hl2) rfl (fun lsR' h' => k1 _ _ _ _ kk (mmLR.st2 hl2 rfl h'))
    · cases hs
  | iinc k i =>
    have hl : len = 3 := by simpa [mmLn] using hln
    subst hl
    simp only [mmS, if_true] at hs
    split at hs
    · rename_i v hv
      obtain ⟨l2, hl2, he⟩ := Option.map_eq_some_iff.mp hs
      cases he
      obtain ⟨j, hj⟩ := List.getElem?_of_mem (mmK_mem (ad := ad) (q := (k, Value.int v)).mpr ⟨.int v, hv, by simp, rfl⟩)
      exact lv_iinc hx hb hd hL hj rfl (mmSt1_lt hl2) rfl (fun lsR' h' => k1 _ _ _ _ kk (mmLR.st1 hl2 (fun _ => rfl) h'))
    · cases hs
  | iadd =>
    have hl : len = 1 := by simpa [mmLn] using hln
    subst hl
    simp only [mmS] at hs
    split at hs
    · cases hs
      exact lv_iadd hx hb hd (k0 _ _ _ kk rfl)
    · cases hs
  | isub =>
    have hl : len = 1 := by simpa [mmLn] using hln
    subst hl
    simp only [mmS] at hs
    split at hs
    · cases hs
      exact lv_isub hx hb hd (k0 _ _ _ kk rfl)
    · cases hs
  | imul =>
    have hl : len = 1 := by simpa [mmLn] using hln
    subst hl
    simp only [mmS] at hs
    split at hs
    · cases hs
      exact lv_imul hx hb hd (k0 _ _ _ kk rfl)
    · cases hs
  | iand =>
    have hl : len = 1 := by simpa [mmLn] using hln
    subst hl
    simp only [mmS] at hs
    split at hs
    · cases hs
      exact lv_iand hx hb hd (k0 _ _ _ kk rfl)
    · cases hs
  | ior =>
    have hl : len = 1 := by simpa [mmLn] using hln
    subst hl
    simp only [mmS] at hs
    split at hs
    · cases hs
      exact lv_ior hx hb hd (k0 _ _ _ kk rfl)
    · cases hs
  | ixor =>
    have hl : len = 1 := by simpa [mmLn] using hln
    subst hl
    simp only [mmS] at hs
    split at hs
    · cases hs
      exact lv_ixor hx hb hd (k0 _ _ _ kk rfl)
    · cases hs
  | ishl =>
    have hl : len = 1 := by simpa [mmLn] using hln
    subst hl
    simp only [mmS] at hs
    split at hs
    · cases hs
      exact lv_ishl hx hb hd (k0 _ _ _ kk rfl)
    · cases hs
  | ishr =>
    have hl : len = 1 := by simpa [mmLn] using hln
    subst hl
    simp only [mmS] at hs
    split at hs
    · cases hs
      exact lv_ishr hx hb hd (k0 _ _ _ kk rfl)
    · cases hs
  | ladd =>
    have hl : len = 1 := by simpa [mmLn] using hln
    subst hl
    simp only [mmS] at hs
    split at hs
    · cases hs
      exact lv_ladd hx hb hd (k0 _ _ _ kk rfl)
    · cases hs
  | lmul =>
    have hl : len = 1 := by simpa [mmLn] using hln
    subst hl
    simp only [mmS] at hs
    split at hs
    · cases hs
      exact lv_lmul hx hb hd (k0 _ _ _ kk rfl)
    · cases hs
  | idiv =>
    have hl : len = 1 := by simpa [mmLn] using hln
    subst hl
    simp only [mmS] at hs
    split at hs
    · split at hs
      · cases hs
      · rename_i hne
        cases hs
        exact lv_idiv hx hb hd hne (k0 _ _ _ kk rfl)
    · cases hs
  | iushr =>
    have hl : len = 1 := by simpa [mmLn] using hln
    subst hl
    simp only [mmS] at hs
    split at hs
    · cases hs
      exact lv_iushr hx hb hd rfl (k0 _ _ _ kk rfl)
    · cases hs
  | i2l =>
    have hl : len = 1 := by simpa [mmLn] using hln
    subst hl
    simp only [mmS] at hs
    split at hs
    · cases hs
      exact lv_i2l hx hb hd rfl (k0 _ _ _ kk rfl)
    · cases hs
  | i2d =>
    have hl : len = 1 := by simpa [mmLn] using hln
    subst hl
    simp only [mmS] at hs
    split at hs
    · cases hs
      exact lv_i2d hx hb hd (k0 _ _ _ kk rfl)
    · cases hs
  | lcmp =>
    have hl : len = 1 := by simpa [mmLn] using hln
    subst hl
    simp only [mmS] at hs
    split at hs
    · cases hs
      exact W.lcmp hx hb hd (k0 _ _ _ kk rfl)
    · cases hs
  | ddiv =>
    have hl : len = 1 := by simpa [mmLn] using hln
    subst hl
    simp only [mmS] at hs
    split at hs
    · split at hs
      · rename_i hne
        cases hs
        exact lv_ddiv hx hb hd hne (k0 _ _ _ kk rfl)
      · cases hs
    · cases hs
  | dcmp op =>
    have hl : len = 1 := by simpa [mmLn] using hln
    subst hl
    simp only [mmS] at hs
    split at hs
    · cases hs
      exact lv_dcmp hx hb hd (k0 _ _ _ kk rfl)
    · cases hs
  | dup =>
    have hl : len = 1 := by simpa [mmLn] using hln
    subst hl
    simp only [mmS] at hs
    split at hs
    · split at hs
      · rename_i hc
        cases hs
        exact lv_dup hx hb hd (by rw [mmV_cat]; exact hc) (k0 _ _ _ kk rfl)
      · cases hs
    · cases hs
  | dup2 =>
    have hl : len = 1 := by simpa [mmLn] using hln
    subst hl
    simp only [mmS] at hs
    split at hs
    · split at hs
      · rename_i hc
        cases hs
        exact lv_dup2_11 hx hb hd (by rw [mmV_cat]; exact hc.1) (by rw [mmV_cat]; exact hc.2) (k0 _ _ _ kk rfl)
      · cases hs
    · cases hs
  | ifCond op off =>
    have hl : len = 3 := by simpa [mmLn] using hln
    subst hl
    simp only [mmS] at hs
    split at hs
    · simp only [mmIf] at hs
      split at hs
      · cases hs
      · rename_i t ht
        have ht := mmTg_eq ht
        cases op with
        | eq =>
          simp only [mmCnd, decide_eq_true_eq] at hs
          refine lv_if_eq hx hb hd ht (fun hc => ?_) (fun hc => ?_)
          · rw [if_pos hc] at hs
            cases hs
            exact k0 _ _ _ kk rfl
          · rw [if_neg hc] at hs
            cases hs
            exact k0 _ _ _ kk rfl
        | ne =>
          simp only [mmCnd, decide_eq_true_eq] at hs
          refine lv_if_ne hx hb hd ht (fun hc => ?_) (fun hc => ?_)
          · rw [if_pos hc] at hs
            cases hs
            exact k0 _ _ _ kk rfl
          · rw [if_neg (fun h => h hc)] at hs
            cases hs
            exact k0 _ _ _ kk rfl
        | lt =>
          simp only [mmCnd, decide_eq_true_eq] at hs
          refine lv_if_lt hx hb hd ht (fun hc => ?_) (fun hc => ?_)
          · rw [if_pos hc] at hs
            cases hs
            exact k0 _ _ _ kk rfl
          · rw [if_neg hc] at hs
            cases hs
            exact k0 _ _ _ kk rfl
        | ge =>
          simp only [mmCnd, decide_eq_true_eq] at hs
          refine lv_if_ge hx hb hd ht (fun hc => ?_) (fun hc => ?_)
          · rw [if_pos hc] at hs
            cases hs
            exact k0 _ _ _ kk rfl
          · rw [if_neg hc] at hs
            cases hs
            exact k0 _ _ _ kk rfl
        | gt =>
          simp only [mmCnd, decide_eq_true_eq] at hs
          refine lv_if_gt hx hb hd ht (fun hc => ?_) (fun hc => ?_)
          · rw [if_pos hc] at hs
            cases hs
            exact k0 _ _ _ kk rfl
          · rw [if_neg hc] at hs
            cases hs
            exact k0 _ _ _ kk rfl
        | le =>
          simp only [mmCnd, decide_eq_true_eq] at hs
          refine lv_if_le hx hb hd ht (fun hc => ?_) (fun hc => ?_)
          · rw [if_pos hc] at hs
            cases hs
            exact k0 _ _ _ kk rfl
          · rw [if_neg hc] at hs
            cases hs
            exact k0 _ _ _ kk rfl
    · cases hs
  | if_icmp op off =>
    have hl : len = 3 := by simpa [mmLn] using hln
    subst hl
    simp only [mmS] at hs
    split at hs
    · simp only [mmIf] at hs
      split at hs
      · cases hs
      · rename_i t ht
        have ht := mmTg_eq ht
        cases op with
        | eq =>
          simp only [mmCnd, decide_eq_true_eq] at hs
          refine lv_icmp_eq hx hb hd ht (fun hc => ?_) (fun hc => ?_)
          · rw [if_pos hc] at hs
            cases hs
            exact k0 _ _ _ kk rfl
          · rw [if_neg hc] at hs
            cases hs
            exact k0 _ _ _ kk rfl
        | ne =>
          simp only [mmCnd, decide_eq_true_eq] at hs
          refine lv_icmp_ne hx hb hd ht (fun hc => ?_) (fun hc => ?_)
          · rw [if_pos hc] at hs
            cases hs
            exact k0 _ _ _ kk rfl
          · rw [if_neg (fun h => h hc)] at hs
            cases hs
            exact k0 _ _ _ kk rfl
        | lt =>
          simp only [mmCnd, decide_eq_true_eq] at hs
          refine lv_icmp_lt hx hb hd ht (fun hc => ?_) (fun hc => ?_)
          · rw [if_pos hc] at hs
            cases hs
            exact k0 _ _ _ kk rfl
          · rw [if_neg hc] at hs
            cases hs
            exact k0 _ _ _ kk rfl
        | ge =>
          simp only [mmCnd, decide_eq_true_eq] at hs
          refine lv_icmp_ge hx hb hd ht (fun hc => ?_) (fun hc => ?_)
          · rw [if_pos hc] at hs
            cases hs
            exact k0 _ _ _ kk rfl
          · rw [if_neg hc] at hs
            cases hs
            exact k0 _ _ _ kk rfl
        | gt =>
          simp only [mmCnd, decide_eq_true_eq] at hs
          refine lv_icmp_gt hx hb hd ht (fun hc => ?_) (fun hc => ?_)
          · rw [if_pos hc] at hs
            cases hs
            exact k0 _ _ _ kk rfl
          · rw [if_neg hc] at hs
            cases hs
            exact k0 _ _ _ kk rfl
        | le =>
          simp only [mmCnd, decide_eq_true_eq] at hs
          refine lv_icmp_le hx hb hd ht (fun hc => ?_) (fun hc => ?_)
          · rw [if_pos hc] at hs
            cases hs
            exact k0 _ _ _ kk rfl
          · rw [if_neg hc] at hs
            cases hs
            exact k0 _ _ _ kk rfl
    · cases hs
  | goto off =>
    have hl : len = 3 := by simpa [mmLn] using hln
    subst hl
    simp only [mmS, if_true] at hs
    obtain ⟨t, ht, he⟩ := Option.map_eq_some_iff.mp hs
    cases he
    exact lv_goto hx hb hd (mmTg_eq ht) (k0 _ _ _ kk rfl)
  | tableswitch dflt lo hi offs =>
    simp only [mmS] at hs
    split at hs
    · rename_i x r
      split at hs
      · rename_i hc
        obtain ⟨t, ht, he⟩ := Option.map_eq_some_iff.mp hs
        cases he
        exact lv_tableOut hx hb hd hc (mmTg_eq ht) (k0 _ _ _ kk rfl)
      · rename_i hc
        split at hs
        · rename_i off ho
          obtain ⟨t, ht, he⟩ := Option.map_eq_some_iff.mp hs
          cases he
          exact lv_tableIn hx hb hd (fun h => hc (Or.inl h)) (fun h => hc (Or.inr h)) ho (mmTg_eq ht) (k0 _ _ _ kk rfl)
        · cases hs
    · cases hs
  | getfield i =>
    have hl : len = 3 := by simpa [mmLn] using hln
    subst hl
    simp only [mmS] at hs
    split at hs
    · rename_i k r
      split at hs
      · rename_i cf hF
        obtain ⟨own2, C, T, N, ho, hc, hf, hwd⟩ := mmFk_all _ (mmF3_mem hF)
        cases how.symm.trans ho
        split at hs
        · rename_i j hfd
          cases hs
          obtain ⟨hk, fs, hl, hfs⟩ := mmFd_lay hfd
          exact va_get hx hb hts (mmCk_all _ _ _ _ hc).1 hown hK hP k (by rw [mmW_at hk, mmCe_obj hl]) hc _ hf (hts _ hwd) (fun _ h => h) (v := .ref (ad j)) (by rw [mmFs_at, hfs]; rfl) hd (k0 _ _ _ kk rfl)
        · rename_i hfd
          cases hs
          obtain ⟨hk, fs, hl, hfs⟩ := mmFd_lay hfd
          exact va_get hx hb hts (mmCk_all _ _ _ _ hc).1 hown hK hP k (by rw [mmW_at hk, mmCe_obj hl]) hc _ hf (hts _ hwd) (fun _ h => h) (v := .int (M.1 k cf.2)) (by rw [mmFs_at, hfs]; simp) hd (k0 _ _ _ kk rfl)
        · cases hs
      · cases hs
    · cases hs
  | putfield i =>
    have hl : len = 3 := by simpa [mmLn] using hln
    subst hl
    simp only [mmS] at hs
    split at hs
    · rename_i v k r
      split at hs
      · rename_i cf hF
        obtain ⟨own2, C, T, N, ho, hc, hf, hwd⟩ := mmFk_all _ (mmF3_mem hF)
        cases how.symm.trans ho
        split at hs
        · rename_i hfd
          cases hs
          obtain ⟨hk, fs, hl, hfs⟩ := mmFd_lay hfd
          obtain ⟨C2, T2, N2, hc2, hlen, hint⟩ := mmLay_obj k (by omega) _ _ hl
          cases hc.symm.trans hc2
          obtain ⟨hin, ty0, hty, hnm⟩ := mmCk_all _ _ _ _ hc
          refine va_put hx hb hts hin ty0 hty hnm hown hK hP hD hS k (by rw [mmW_at hk, mmCe_obj hl]) hc _ hf (hts _ hwd) (fun _ h => h) (hint _ hfs).1 (ty := .int) (v := .int v) (hint _ hfs).2 (vp_nar_int v) rfl (by rw [mmFs_len, hlen]; exact hf) hd (fun H1 locs1 hP1 hD1 hS1 => ?_)
          rw [mmW_F hl hfs] at hP1 hD1
          exact kk lsR H1 locs1 hL hP1 hD1 hS1
        · cases hs
      · cases hs
    · cases hs
  | iaload =>
    have hl : len = 1 := by simpa [mmLn] using hln
    subst hl
    simp only [mmS] at hs
    split at hs
    · rename_i i k r
      split at hs
      · rename_i h99
        subst h99
        split at hs
        · rename_i xs
          split at hs
          · rename_i j hj
            cases hs
            obtain ⟨hin, rfl⟩ := mmX_in hj
            obtain ⟨x1, x2, x3⟩ := hX xs.1 xs.2 rfl
            exact va_sld hx hb x1 x2 x3 hS hin hd (k0 _ _ _ kk rfl)
          · cases hs
        · cases hs
      · split at hs
        · rename_i a hfd
          split at hs
          · rename_i j hj
            cases hs
            obtain ⟨hin, rfl⟩ := mmX_in hj
            obtain ⟨hk, hl⟩ := mmArr_lay hfd
            exact va_iald hx hb hK hP k 0 (by rw [mmW_at hk, mmCe_int hl]) rfl hin hd (k0 _ _ _ kk rfl)
          · cases hs
        · cases hs
    · cases hs
  | iastore =>
    have hl : len = 1 := by simpa [mmLn] using hln
    subst hl
    simp only [mmS] at hs
    split at hs
    · rename_i v i k r
      split at hs
      · rename_i a hfd
        split at hs
        · rename_i j hj
          cases hs
          obtain ⟨hin, rfl⟩ := mmX_in hj
          obtain ⟨hk, hl⟩ := mmArr_lay hfd
          refine va_iast hx hb hK hP hD hS k 0 (by rw [mmW_at hk, mmCe_int hl]) rfl hin hd (fun H1 locs1 hP1 hD1 hS1 => ?_)
          rw [mmW_I hl] at hP1 hD1
          exact kk lsR H1 locs1 hL hP1 hD1 hS1
        · cases hs
      · cases hs
    · cases hs
  | baload =>
    have hl : len = 1 := by simpa [mmLn] using hln
    subst hl
    simp only [mmS] at hs
    split at hs
    · rename_i i k r
      split at hs
      · rename_i a hfd
        split at hs
        · rename_i j hj
          cases hs
          obtain ⟨hin, rfl⟩ := mmX_in hj
          obtain ⟨hk, hl⟩ := mmArr_lay hfd
          exact va_zald hx hb hK hP k 1 (by rw [mmW_at hk, mmCe_bool hl]) rfl hin hd (k0 _ _ _ kk rfl)
        · cases hs
      · cases hs
    · cases hs
  | bastore =>
    have hl : len = 1 := by simpa [mmLn] using hln
    subst hl
    simp only [mmS] at hs
    split at hs
    · rename_i v i k r
      split at hs
      · rename_i a hfd
        split at hs
        · rename_i j hj
          cases hs
          obtain ⟨hin, rfl⟩ := mmX_in hj
          obtain ⟨hk, hl⟩ := mmArr_lay hfd
          refine va_zast hx hb hK hP hD hS k 1 (by rw [mmW_at hk, mmCe_bool hl]) rfl hin hd (fun H1 locs1 hP1 hD1 hS1 => ?_)
          rw [mmW_Z hl] at hP1 hD1
          exact kk lsR H1 locs1 hL hP1 hD1 hS1
        · cases hs
      · cases hs
    · cases hs
  | laload =>
    have hl : len = 1 := by simpa [mmLn] using hln
    subst hl
    simp only [mmS] at hs
    split at hs
    · rename_i i k r
      split at hs
      · rename_i a hfd
        split at hs
        · rename_i j hj
          cases hs
          obtain ⟨hin, rfl⟩ := mmX_in hj
          obtain ⟨hk, hl⟩ := mmArr_lay hfd
          have h47 := mmLay_long k (by omega) 0 _ hl
          exact va_lald hx hb hK hP k 2 (by rw [mmW_at hk, mmCe_long hl]) (by simp [mmTy, show 47 < n by omega]) hin hd (k0 _ _ _ kk rfl)
        · cases hs
      · cases hs
    · cases hs
  | lastore =>
    have hl : len = 1 := by simpa [mmLn] using hln
    subst hl
    simp only [mmS] at hs
    split at hs
    · rename_i v i k r
      split at hs
      · rename_i a hfd
        split at hs
        · rename_i j hj
          cases hs
          obtain ⟨hin, rfl⟩ := mmX_in hj
          obtain ⟨hk, hl⟩ := mmArr_lay hfd
          have h47 := mmLay_long k (by omega) 0 _ hl
          refine va_last hx hb hK hP hD hS k 2 (by rw [mmW_at hk, mmCe_long hl]) (by simp [mmTy, show 47 < n by omega]) hin hd (fun H1 locs1 hP1 hD1 hS1 => ?_)
          rw [mmW_J hn hk hl] at hP1 hD1
          exact kk lsR H1 locs1 hL hP1 hD1 hS1
        · cases hs
      · cases hs
    · cases hs
  | arraylength =>
    have hl : len = 1 := by simpa [mmLn] using hln
    subst hl
    simp only [mmS] at hs
    split at hs
    · rename_i k r
      split at hs
      · rename_i h99
        subst h99
        split at hs
        · rename_i xs
          cases hs
          obtain ⟨x1, x2, x3⟩ := hX xs.1 xs.2 rfl
          exact va_slen hx hb x1 x2 x3 hS hd (k0 _ _ _ kk rfl)
        · cases hs
      · split at hs
        · rename_i a hfd
          cases hs
          obtain ⟨hk, hl⟩ := mmArr_lay hfd
          exact va_alen hx hb hK hP k 0 (x := (a, .inl (M.1 k))) (by rw [mmW_at hk, mmCe_int hl]) rfl rfl hd (k0 _ _ _ kk rfl)
        · cases hs
    · cases hs
  | ldc_w i =>
    have hl : len = 3 := by simpa [mmLn] using hln
    subst hl
    simp only [mmS] at hs
    split at hs
    · rename_i v hF
      cases hs
      obtain ⟨own2, ho, hwd⟩ := mmKI_all _ (mmF3_mem hF)
      cases how.symm.trans ho
      exact lv_ldcw hx hb hown (hts _ hwd) hd (k0 _ _ _ kk rfl)
    · cases hs
  | ldc2_w i =>
    have hl : len = 3 := by simpa [mmLn] using hln
    subst hl
    simp only [mmS] at hs
    split at hs
    · rename_i v hF
      cases hs
      obtain ⟨own2, ho, hwd⟩ := mmKJ_all _ (mmF3_mem hF)
      cases how.symm.trans ho
      exact lv_ldc2 hx hb hown (hts _ hwd) hd (k0 _ _ _ kk rfl)
    · cases hs
  | invokestatic i =>
    have hl : len = 3 := by simpa [mmLn] using hln
    subst hl
    simp only [mmS] at hs
    split at hs
    · rename_i y x r
      split at hs
      · rename_i hc
        split at hs
        · rename_i u hF
          cases hs
          obtain ⟨own2, ho, hwd⟩ := mmMX_all _ (mmF3_mem hF)
          cases how.symm.trans ho
          have hr8 : ((r.map (mmV ad)).map fun v => v.category).sum ≤ 8 := by
            rw [List.map_map, show (fun v : Value => v.category) ∘ mmV ad = fun v => v.category from funext fun v => mmV_cat ad v]
            exact hc.2
          exact va_mmax hx hb (hml.trans hL.1.symm) hown (hts _ hwd) (hts _ bwx_s) (hts _ bwi_RJ9) (hts _ bwx_c) (hw hc.1).1 (Nat.le_trans (Nat.add_le_add_right hr8 13) (hw hc.1).2) hcs.1 hcs.2 hd (k0 _ _ _ kk rfl)
        · cases hs
      · cases hs
    · cases hs
  | _ => exact absurd hs (by simp [mmS])
end MM
