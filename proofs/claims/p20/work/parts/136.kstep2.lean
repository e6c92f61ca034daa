/-! ONE STEP, each instruction -/
section KM
variable {p : Program} {l : Launch} {e : Env} {R : Room} {s : State} {m : MethodId} {args : Array Value} {below : List Frame} {meth : Method} {c : Code} {H : Heap} {locs : List Loc} {cells slots : Nat} {Q : State → Prop}
theorem kIf_spec {b : Prop} [Decidable b] {pc len : Nat} {off : Int} {ls st ls' st' : List Value} {M M' : kM} {pc' : Nat} (h : kIf b pc len off ls st M = some (pc', ls', st', M')) : ∃ t, mmTg pc off = some t ∧ ls' = ls ∧ st' = st ∧ M' = M ∧ ((b ∧ pc' = t) ∨ (¬ b ∧ pc' = pc + len)) := by
  unfold kIf at h
  split at h
  · cases h
  · rename_i t ht
    split at h
    · rename_i hb
      cases h
      exact ⟨_, ht, rfl, rfl, rfl, Or.inl ⟨hb, rfl⟩⟩
    · rename_i hb
      cases h
      exact ⟨_, ht, rfl, rfl, rfl, Or.inr ⟨hb, rfl⟩⟩
set_option maxHeartbeats 8000000 in
set_option maxRecDepth 100000 in
theorem km_step {D : va_G} {G : Nat → ClassId} {ad : Nat → Nat} {o L : Nat} {xs : Nat → Int32} {M M' : kM} {cc : ByteArray} {own : String} {w : Bool} {A : Nat → Prop} {pc pc' len : Nat} {ins : Instr} {ls ls' st st' : List Value} {lsR : Array Slot}
    (hx : p.tables.exec = Jvm.exec) (hb : c.code = cc) (hml : c.maxLocals = ls.length) (how : mmOwn[o]? = some own) (hown : s.vm.findClass own = some m.cls)
    (hts : ∀ w ∈ mmBW, w.before args s = true) (hK : va_K D mmCls (kTy G) s) (hoI : va_AOA .int s) (hoZ : va_AOA .boolean s) (hX : kXs L xs ad A s) (hw : w = true → 1 ≤ R.frames ∧ 21 ≤ R.locals) (hA : ∀ q : Nat, s.heap.size ≤ q → A q)
    (hcs : cells + (kCs M' - kCs M) ≤ R.cells ∧ slots + (kSs M' - kSs M) ≤ R.slots)
    (hP : va_P D mmCls (kW G ad M) H) (hD : va_D A (kW G ad M)) (hS : va_S A s.heap H locs) (hL : mmLR ad lsR ls) (hO : kOk L xs M) (hls : vsOk (kN M) ls) (hst : vsOk (kN M) st)
    (hd : decode cc pc = .ok (ins, len)) (hln : kLn ins len = true) (hs : kS o w pc ins len ls st M = some (pc', ls', st', M'))
    (kk : kKt p l e R s m args below meth c Q D G ad A L xs cells slots M pc' ls' st' M') :
    W p l e R s m args below meth c H locs cells slots Q (F0 m pc lsR (st.map (mmV ad))) := by
  -- nothing in the memory changes
  have k0 : ∀ (pc' : Nat) (ls' st' : List Value), kKt p l e R s m args below meth c Q D G ad A L xs cells slots M pc' ls' st' M → ls' = ls → vsOk (kN M) st' → W p l e R s m args below meth c H locs cells slots Q (F0 m pc' lsR (st'.map (mmV ad))) := by
    intro pc' ls' st' h he hv
    subst he
    exact h ad lsR H locs cells slots (fun _ _ => rfl) hL hP hD hS hO hls hv (Nat.le_refl _) rfl rfl
  have k1 : ∀ (lsR' : Array Slot) (pc' : Nat) (ls' st' : List Value), kKt p l e R s m args below meth c Q D G ad A L xs cells slots M pc' ls' st' M → mmLR ad lsR' ls' → vsOk (kN M) ls' → vsOk (kN M) st' → W p l e R s m args below meth c H locs cells slots Q (F0 m pc' lsR' (st'.map (mmV ad))) := by
    intro lsR' pc' ls' st' h he hv1 hv2
    exact h ad lsR' H locs cells slots (fun _ _ => rfl) he hP hD hS hO hv1 hv2 (Nat.le_refl _) rfl rfl
  -- a cell is written
  have k2 : ∀ (k : Nat) (v : kC) (H1 : Heap) (locs1 : List Loc) (pc' : Nat) (ls' st' : List Value), kKt p l e R s m args below meth c Q D G ad A L xs cells slots M pc' ls' st' (kI M k v) → 0 < k → k ≤ kN M → (∀ b j, M.1 k ≠ .inr (.inr (.inr (b, j)))) → kOc (kN M) k (kU M.1 k v) → va_P D mmCls ((kW G ad M).set (k - 1) (ad k, kCe G ad (kI M k v) k)) H1 → va_D A ((kW G ad M).set (k - 1) (ad k, kCe G ad (kI M k v) k)) → va_S A s.heap H1 locs1 → ls' = ls → vsOk (kN M) st' → W p l e R s m args below meth c H1 locs1 cells slots Q (F0 m pc' lsR (st'.map (mmV ad))) := by
    intro k v H1 locs1 pc' ls' st' h h0 hk hn hv hP1 hD1 hS1 he hv2
    subst he
    rw [kW_set hO h0 hk] at hP1 hD1
    exact h ad lsR H1 locs1 cells slots (fun _ _ => rfl) hL hP1 hD1 hS1 (hO.put h0 hn hv) hls hv2 (Nat.le_refl _) rfl rfl
  -- a cell is made
  have k3 : ∀ (v : kC) (n q : Nat) (H1 : Heap) (pc' : Nat) (ls' r : List Value), kKt p l e R s m args below meth c Q D G ad A L xs cells slots M pc' ls' (.ref (kN M + 1) :: r) (kA M v n) → kOc (kN M + 1) (kN M + 1) (kU M.1 (kN M + 1) v) → va_P D mmCls (kW G ad M ++ [(q, kCe G (kU ad (kN M + 1) q) (kA M v n) (kN M + 1))]) H1 → va_D A (kW G ad M ++ [(q, kCe G (kU ad (kN M + 1) q) (kA M v n) (kN M + 1))]) → va_S A s.heap H1 locs → ls' = ls → vsOk (kN M) r → W p l e R s m args below meth c H1 locs (cells + 1) (slots + n) Q (F0 m pc' lsR (.ref q :: r.map (mmV ad))) := by
    intro v n q H1 pc' ls' r h hv hP1 hD1 hS1 he hv2
    subst he
    have had : ∀ k, k ≤ kN M → kU ad (kN M + 1) q k = ad k := fun k hk => kU_ne (by omega)
    rw [← kW_app hO] at hP1 hD1
    have h9 := h (kU ad (kN M + 1) q) lsR H1 locs (cells + 1) (slots + n) had (mmLR_eq had hls hL) hP1 hD1 hS1 (hO.app hv) (hls.up (Nat.le_succ _)) (vsOk.c (Nat.le_refl (kN M + 1)) (hv2.up (Nat.le_succ _))) (Nat.le_succ _) (by show cells + 1 + kCs M = cells + (kCs M + 1); omega) (by show slots + n + kSs M = slots + (kSs M + n); omega)
    rw [List.map_cons, mmV, kU_self, mmVs_eq had hv2] at h9
    exact h9
  have hI : ∀ {x : Int32}, vOk (kN M) (.int x) := trivial
  cases ins with
  | iconst k =>
    have hl : len = 1 := by simpa [kLn] using hln
    subst hl
    simp only [kS] at hs
    cases hs
    exact lv_iconst hx hb hd rfl (k0 _ _ _ kk rfl (vsOk.c trivial hst))
  | bipush k =>
    have hl : len = 2 := by simpa [kLn] using hln
    subst hl
    simp only [kS] at hs
    cases hs
    exact lv_bipush hx hb hd rfl (k0 _ _ _ kk rfl (vsOk.c trivial hst))
  | sipush k =>
    have hl : len = 3 := by simpa [kLn] using hln
    subst hl
    simp only [kS] at hs
    cases hs
    exact lv_sipush hx hb hd rfl (k0 _ _ _ kk rfl (vsOk.c trivial hst))
  | dconst k =>
    have hl : len = 1 := by simpa [kLn] using hln
    subst hl
    simp only [kS] at hs
    split at hs
    · rename_i hk0
      subst hk0
      cases hs
      exact lv_dconst0 hx hb hd (k0 _ _ _ kk rfl (vsOk.c trivial hst))
    · cases hs
  | ldc i =>
    have hl : len = 2 := by simpa [kLn] using hln
    subst hl
    simp only [kS] at hs
    split at hs
    · rename_i v hF
      cases hs
      obtain ⟨own2, ho, hwd⟩ := kKI_all _ (mmF3_mem hF)
      cases how.symm.trans ho
      exact lv_ldc hx hb hown (hts _ hwd) hd (k0 _ _ _ kk rfl (vsOk.c trivial hst))
    · cases hs
  | iload_n k =>
    have hl : len = 1 := by simpa [kLn] using hln
    subst hl
    simp only [kS] at hs
    obtain ⟨v, hv, hok, rfl, rfl, rfl, rfl⟩ := kLd_spec hs
    obtain ⟨x, rfl⟩ := mmIsI_of hok
    exact lv_iload_n hx hb hd rfl (hL.at hv (by simp)) (k0 _ _ _ kk rfl (vsOk.c (hls.at hv) hst))
  | iload k =>
    have hl : len = 2 := by simpa [kLn] using hln
    subst hl
    simp only [kS] at hs
    obtain ⟨v, hv, hok, rfl, rfl, rfl, rfl⟩ := kLd_spec hs
    obtain ⟨x, rfl⟩ := mmIsI_of hok
    exact lv_iload hx hb hd (hL.at hv (by simp)) (k0 _ _ _ kk rfl (vsOk.c (hls.at hv) hst))
  | lload k =>
    have hl : len = 2 := by simpa [kLn] using hln
    subst hl
    simp only [kS] at hs
    obtain ⟨v, hv, hok, rfl, rfl, rfl, rfl⟩ := kLd_spec hs
    obtain ⟨x, rfl⟩ := mmIsJ_of hok
    exact lv_lload hx hb hd (hL.at hv (by simp)) (k0 _ _ _ kk rfl (vsOk.c (hls.at hv) hst))
  | aload_n k =>
    have hl : len = 1 := by simpa [kLn] using hln
    subst hl
    simp only [kS] at hs
    obtain ⟨v, hv, hok, rfl, rfl, rfl, rfl⟩ := kLd_spec hs
    obtain ⟨x, rfl⟩ := mmIsR_of hok
    exact lv_aload_n hx hb hd rfl (hL.at hv (by simp)) (k0 _ _ _ kk rfl (vsOk.c (hls.at hv) hst))
  | aload k =>
    have hl : len = 2 := by simpa [kLn] using hln
    subst hl
    simp only [kS] at hs
    obtain ⟨v, hv, hok, rfl, rfl, rfl, rfl⟩ := kLd_spec hs
    obtain ⟨x, rfl⟩ := mmIsR_of hok
    exact lv_aload hx hb hd (hL.at hv (by simp)) (k0 _ _ _ kk rfl (vsOk.c (hls.at hv) hst))
  | istore_n k =>
    have hl : len = 1 := by simpa [kLn] using hln
    subst hl
    simp only [kS] at hs
    split at hs
    · rename_i v r
      obtain ⟨l2, hl2, he⟩ := Option.map_eq_some_iff.mp hs
      cases he
      exact lv_istore_n hx hb hd rfl hL (mmSt1_lt hl2) rfl (fun lsR' h' => k1 _ _ _ _ kk (mmLR.st1 hl2 (fun _ => rfl) h') (hls.st1 hst.h hl2) hst.t)
    · cases hs
  | istore k =>
    have hl : len = 2 := by simpa [kLn] using hln
    subst hl
    simp only [kS] at hs
    split at hs
    · rename_i v r
      obtain ⟨l2, hl2, he⟩ := Option.map_eq_some_iff.mp hs
      cases he
      exact lv_istore hx hb hd hL (mmSt1_lt hl2) rfl (fun lsR' h' => k1 _ _ _ _ kk (mmLR.st1 hl2 (fun _ => rfl) h') (hls.st1 hst.h hl2) hst.t)
    · cases hs
  | astore_n k =>
    have hl : len = 1 := by simpa [kLn] using hln
    subst hl
    simp only [kS] at hs
    split at hs
    · rename_i v r
      obtain ⟨l2, hl2, he⟩ := Option.map_eq_some_iff.mp hs
      cases he
      exact lv_astore_n hx hb hd rfl hL (mmSt1_lt hl2) rfl (fun lsR' h' => k1 _ _ _ _ kk (mmLR.st1 hl2 (fun _ => rfl) h') (hls.st1 hst.h hl2) hst.t)
    · cases hs
  | astore k =>
    have hl : len = 2 := by simpa [kLn] using hln
    subst hl
    simp only [kS] at hs
    split at hs
    · rename_i v r
      obtain ⟨l2, hl2, he⟩ := Option.map_eq_some_iff.mp hs
      cases he
      exact lv_astore hx hb hd hL (mmSt1_lt hl2) rfl (fun lsR' h' => k1 _ _ _ _ kk (mmLR.st1 hl2 (fun _ => rfl) h') (hls.st1 hst.h hl2) hst.t)
    · cases hs
  | lstore k =>
    have hl : len = 2 := by simpa [kLn] using hln
    subst hl
    simp only [kS] at hs
    split at hs
    · rename_i v r
      obtain ⟨l2, hl2, he⟩ := Option.map_eq_some_iff.mp hs
      cases he
      exact lv_lstore hx hb hd hL (mmSt2_lt hl2) rfl (fun lsR' h' => k1 _ _ _ _ kk (mmLR.st2 hl2 rfl h') (hls.st2 hst.h hl2) hst.t)
    · cases hs
  | iinc k i =>
    have hl : len = 3 := by simpa [kLn] using hln
    subst hl
    simp only [kS, if_true] at hs
    split at hs
    · rename_i v hv
      obtain ⟨l2, hl2, he⟩ := Option.map_eq_some_iff.mp hs
      cases he
      obtain ⟨j, hj⟩ := List.getElem?_of_mem (mmK_mem (ad := ad) (q := (k, Value.int v)).mpr ⟨.int v, hv, by simp, rfl⟩)
      exact lv_iinc hx hb hd hL hj rfl (mmSt1_lt hl2) rfl (fun lsR' h' => k1 _ _ _ _ kk (mmLR.st1 hl2 (fun _ => rfl) h') (hls.st1 hI hl2) hst)
    · cases hs
  | iadd =>
    have hl : len = 1 := by simpa [kLn] using hln
    subst hl
    simp only [kS] at hs
    split at hs
    · cases hs
      exact lv_iadd hx hb hd (k0 _ _ _ kk rfl (vsOk.c trivial hst.t.t))
    · cases hs
  | isub =>
    have hl : len = 1 := by simpa [kLn] using hln
    subst hl
    simp only [kS] at hs
    split at hs
    · cases hs
      exact lv_isub hx hb hd (k0 _ _ _ kk rfl (vsOk.c trivial hst.t.t))
    · cases hs
  | imul =>
    have hl : len = 1 := by simpa [kLn] using hln
    subst hl
    simp only [kS] at hs
    split at hs
    · cases hs
      exact lv_imul hx hb hd (k0 _ _ _ kk rfl (vsOk.c trivial hst.t.t))
    · cases hs
  | iand =>
    have hl : len = 1 := by simpa [kLn] using hln
    subst hl
    simp only [kS] at hs
    split at hs
    · cases hs
      exact lv_iand hx hb hd (k0 _ _ _ kk rfl (vsOk.c trivial hst.t.t))
    · cases hs
  | ior =>
    have hl : len = 1 := by simpa [kLn] using hln
    subst hl
    simp only [kS] at hs
    split at hs
    · cases hs
      exact lv_ior hx hb hd (k0 _ _ _ kk rfl (vsOk.c trivial hst.t.t))
    · cases hs
  | ishl =>
    have hl : len = 1 := by simpa [kLn] using hln
    subst hl
    simp only [kS] at hs
    split at hs
    · cases hs
      exact lv_ishl hx hb hd (k0 _ _ _ kk rfl (vsOk.c trivial hst.t.t))
    · cases hs
  | ishr =>
    have hl : len = 1 := by simpa [kLn] using hln
    subst hl
    simp only [kS] at hs
    split at hs
    · cases hs
      exact lv_ishr hx hb hd (k0 _ _ _ kk rfl (vsOk.c trivial hst.t.t))
    · cases hs
  | idiv =>
    have hl : len = 1 := by simpa [kLn] using hln
    subst hl
    simp only [kS] at hs
    split at hs
    · split at hs
      · cases hs
      · rename_i hne
        cases hs
        exact lv_idiv hx hb hd hne (k0 _ _ _ kk rfl (vsOk.c trivial hst.t.t))
    · cases hs
  | irem =>
    have hl : len = 1 := by simpa [kLn] using hln
    subst hl
    simp only [kS] at hs
    split at hs
    · split at hs
      · cases hs
      · rename_i hne
        cases hs
        exact lv_irem hx hb hd hne (k0 _ _ _ kk rfl (vsOk.c trivial hst.t.t))
    · cases hs
  | lcmp =>
    have hl : len = 1 := by simpa [kLn] using hln
    subst hl
    simp only [kS] at hs
    split at hs
    · cases hs
      exact W.lcmp hx hb hd (k0 _ _ _ kk rfl (vsOk.c trivial hst.t.t))
    · cases hs
  | i2d =>
    have hl : len = 1 := by simpa [kLn] using hln
    subst hl
    simp only [kS] at hs
    split at hs
    · cases hs
      exact lv_i2d hx hb hd (k0 _ _ _ kk rfl (vsOk.c trivial hst.t))
    · cases hs
  | ddiv =>
    have hl : len = 1 := by simpa [kLn] using hln
    subst hl
    simp only [kS] at hs
    split at hs
    · split at hs
      · rename_i hne
        cases hs
        exact lv_ddiv hx hb hd hne (k0 _ _ _ kk rfl (vsOk.c trivial hst.t.t))
      · cases hs
    · cases hs
  | dcmp op =>
    have hl : len = 1 := by simpa [kLn] using hln
    subst hl
    simp only [kS] at hs
    split at hs
    · cases hs
      exact lv_dcmp hx hb hd (k0 _ _ _ kk rfl (vsOk.c trivial hst.t.t))
    · cases hs
  | dup =>
    have hl : len = 1 := by simpa [kLn] using hln
    subst hl
    simp only [kS] at hs
    split at hs
    · split at hs
      · rename_i hc
        cases hs
        exact lv_dup hx hb hd (by rw [mmV_cat]; exact hc) (k0 _ _ _ kk rfl (vsOk.c hst.h hst))
      · cases hs
    · cases hs
  | dup2 =>
    have hl : len = 1 := by simpa [kLn] using hln
    subst hl
    simp only [kS] at hs
    split at hs
    · split at hs
      · rename_i hc
        cases hs
        exact lv_dup2_11 hx hb hd (by rw [mmV_cat]; exact hc.1) (by rw [mmV_cat]; exact hc.2) (k0 _ _ _ kk rfl (vsOk.c hst.h (vsOk.c hst.t.h hst)))
      · cases hs
    · cases hs
  | pop =>
    have hl : len = 1 := by simpa [kLn] using hln
    subst hl
    simp only [kS] at hs
    split at hs
    · split at hs
      · rename_i hc
        cases hs
        exact lv_pop hx hb hd (by rw [mmV_cat]; exact hc) (k0 _ _ _ kk rfl hst.t)
      · cases hs
    · cases hs
  | ifCond op off =>
    have hl : len = 3 := by simpa [kLn] using hln
    subst hl
    simp only [kS] at hs
    split at hs
    · obtain ⟨t, ht, rfl, rfl, rfl, hbr⟩ := kIf_spec hs
      have ht := mmTg_eq ht
      cases op with
      | eq =>
        simp only [mmCnd, decide_eq_true_eq] at hbr
        refine lv_if_eq hx hb hd ht (fun hc => ?_) (fun hc => ?_)
        · rcases hbr with ⟨-, rfl⟩ | ⟨h2, -⟩
          · exact k0 _ _ _ kk rfl hst.t
          · exact absurd hc h2
        · rcases hbr with ⟨h2, -⟩ | ⟨-, rfl⟩
          · exact absurd h2 hc
          · exact k0 _ _ _ kk rfl hst.t
      | ne =>
        simp only [mmCnd, decide_eq_true_eq] at hbr
        refine lv_if_ne hx hb hd ht (fun hc => ?_) (fun hc => ?_)
        · rcases hbr with ⟨-, rfl⟩ | ⟨h2, -⟩
          · exact k0 _ _ _ kk rfl hst.t
          · exact absurd hc h2
        · rcases hbr with ⟨h2, -⟩ | ⟨-, rfl⟩
          · exact absurd h2 (fun h => h hc)
          · exact k0 _ _ _ kk rfl hst.t
      | lt =>
        simp only [mmCnd, decide_eq_true_eq] at hbr
        refine lv_if_lt hx hb hd ht (fun hc => ?_) (fun hc => ?_)
        · rcases hbr with ⟨-, rfl⟩ | ⟨h2, -⟩
          · exact k0 _ _ _ kk rfl hst.t
          · exact absurd hc h2
        · rcases hbr with ⟨h2, -⟩ | ⟨-, rfl⟩
          · exact absurd h2 hc
          · exact k0 _ _ _ kk rfl hst.t
      | ge =>
        simp only [mmCnd, decide_eq_true_eq] at hbr
        refine lv_if_ge hx hb hd ht (fun hc => ?_) (fun hc => ?_)
        · rcases hbr with ⟨-, rfl⟩ | ⟨h2, -⟩
          · exact k0 _ _ _ kk rfl hst.t
          · exact absurd hc h2
        · rcases hbr with ⟨h2, -⟩ | ⟨-, rfl⟩
          · exact absurd h2 hc
          · exact k0 _ _ _ kk rfl hst.t
      | gt =>
        simp only [mmCnd, decide_eq_true_eq] at hbr
        refine lv_if_gt hx hb hd ht (fun hc => ?_) (fun hc => ?_)
        · rcases hbr with ⟨-, rfl⟩ | ⟨h2, -⟩
          · exact k0 _ _ _ kk rfl hst.t
          · exact absurd hc h2
        · rcases hbr with ⟨h2, -⟩ | ⟨-, rfl⟩
          · exact absurd h2 hc
          · exact k0 _ _ _ kk rfl hst.t
      | le =>
        simp only [mmCnd, decide_eq_true_eq] at hbr
        refine lv_if_le hx hb hd ht (fun hc => ?_) (fun hc => ?_)
        · rcases hbr with ⟨-, rfl⟩ | ⟨h2, -⟩
          · exact k0 _ _ _ kk rfl hst.t
          · exact absurd hc h2
        · rcases hbr with ⟨h2, -⟩ | ⟨-, rfl⟩
          · exact absurd h2 hc
          · exact k0 _ _ _ kk rfl hst.t
    · cases hs
  | if_icmp op off =>
    have hl : len = 3 := by simpa [kLn] using hln
    subst hl
    simp only [kS] at hs
    split at hs
    · obtain ⟨t, ht, rfl, rfl, rfl, hbr⟩ := kIf_spec hs
      have ht := mmTg_eq ht
      cases op with
      | eq =>
        simp only [mmCnd, decide_eq_true_eq] at hbr
        refine lv_icmp_eq hx hb hd ht (fun hc => ?_) (fun hc => ?_)
        · rcases hbr with ⟨-, rfl⟩ | ⟨h2, -⟩
          · exact k0 _ _ _ kk rfl hst.t.t
          · exact absurd hc h2
        · rcases hbr with ⟨h2, -⟩ | ⟨-, rfl⟩
          · exact absurd h2 hc
          · exact k0 _ _ _ kk rfl hst.t.t
      | ne =>
        simp only [mmCnd, decide_eq_true_eq] at hbr
        refine lv_icmp_ne hx hb hd ht (fun hc => ?_) (fun hc => ?_)
        · rcases hbr with ⟨-, rfl⟩ | ⟨h2, -⟩
          · exact k0 _ _ _ kk rfl hst.t.t
          · exact absurd hc h2
        · rcases hbr with ⟨h2, -⟩ | ⟨-, rfl⟩
          · exact absurd h2 (fun h => h hc)
          · exact k0 _ _ _ kk rfl hst.t.t
      | lt =>
        simp only [mmCnd, decide_eq_true_eq] at hbr
        refine lv_icmp_lt hx hb hd ht (fun hc => ?_) (fun hc => ?_)
        · rcases hbr with ⟨-, rfl⟩ | ⟨h2, -⟩
          · exact k0 _ _ _ kk rfl hst.t.t
          · exact absurd hc h2
        · rcases hbr with ⟨h2, -⟩ | ⟨-, rfl⟩
          · exact absurd h2 hc
          · exact k0 _ _ _ kk rfl hst.t.t
      | ge =>
        simp only [mmCnd, decide_eq_true_eq] at hbr
        refine lv_icmp_ge hx hb hd ht (fun hc => ?_) (fun hc => ?_)
        · rcases hbr with ⟨-, rfl⟩ | ⟨h2, -⟩
          · exact k0 _ _ _ kk rfl hst.t.t
          · exact absurd hc h2
        · rcases hbr with ⟨h2, -⟩ | ⟨-, rfl⟩
          · exact absurd h2 hc
          · exact k0 _ _ _ kk rfl hst.t.t
      | gt =>
        simp only [mmCnd, decide_eq_true_eq] at hbr
        refine lv_icmp_gt hx hb hd ht (fun hc => ?_) (fun hc => ?_)
        · rcases hbr with ⟨-, rfl⟩ | ⟨h2, -⟩
          · exact k0 _ _ _ kk rfl hst.t.t
          · exact absurd hc h2
        · rcases hbr with ⟨h2, -⟩ | ⟨-, rfl⟩
          · exact absurd h2 hc
          · exact k0 _ _ _ kk rfl hst.t.t
      | le =>
        simp only [mmCnd, decide_eq_true_eq] at hbr
        refine lv_icmp_le hx hb hd ht (fun hc => ?_) (fun hc => ?_)
        · rcases hbr with ⟨-, rfl⟩ | ⟨h2, -⟩
          · exact k0 _ _ _ kk rfl hst.t.t
          · exact absurd hc h2
        · rcases hbr with ⟨h2, -⟩ | ⟨-, rfl⟩
          · exact absurd h2 hc
          · exact k0 _ _ _ kk rfl hst.t.t
    · cases hs
  | ifnonnull off =>
    have hl : len = 3 := by simpa [kLn] using hln
    subst hl
    simp only [kS] at hs
    split at hs
    · obtain ⟨t, ht, he⟩ := Option.map_eq_some_iff.mp hs
      cases he
      exact lv_ifnonnull hx hb hd (mmTg_eq ht) (k0 _ _ _ kk rfl hst.t)
    · cases hs
  | goto off =>
    have hl : len = 3 := by simpa [kLn] using hln
    subst hl
    simp only [kS, if_true] at hs
    obtain ⟨t, ht, he⟩ := Option.map_eq_some_iff.mp hs
    cases he
    exact lv_goto hx hb hd (mmTg_eq ht) (k0 _ _ _ kk rfl hst)
  | tableswitch dflt lo hi offs =>
    simp only [kS] at hs
    split at hs
    · rename_i x r
      split at hs
      · rename_i hc
        obtain ⟨t, ht, he⟩ := Option.map_eq_some_iff.mp hs
        cases he
        exact lv_tableOut hx hb hd hc (mmTg_eq ht) (k0 _ _ _ kk rfl hst.t)
      · rename_i hc
        split at hs
        · rename_i off ho
          obtain ⟨t, ht, he⟩ := Option.map_eq_some_iff.mp hs
          cases he
          exact lv_tableIn hx hb hd (fun h => hc (Or.inl h)) (fun h => hc (Or.inr h)) ho (mmTg_eq ht) (k0 _ _ _ kk rfl hst.t)
        · cases hs
    · cases hs
  | getfield i =>
    have hl : len = 3 := by simpa [kLn] using hln
    subst hl
    simp only [kS] at hs
    split at hs
    · rename_i k r
      split at hs
      · rename_i cf hF
        split at hs
        · rename_i h4
          split at hs
          · rename_i fs hfs
            cases hs
            obtain ⟨own2, C, T, N, ho, hc, hf, hwd⟩ := mmFk_all _ (mmF3_mem hF)
            cases how.symm.trans ho
            have hk0 : 0 < k := Nat.pos_of_ne_zero (fun h => by rw [h, hO.1] at hfs; cases hfs)
            have hkn : k ≤ kN M := hst.h
            have hN5 : N = 5 := by rw [h4] at hc; cases hc; rfl
            have hf5 : cf.2 < N := hf
            have hce : kCe G ad M k = .inr (4, [mmV ad (fs 0), mmV ad (fs 1), mmV ad (fs 2), mmV ad (fs 3), mmV ad (fs 4)]) := by unfold kCe; rw [hfs]
            have hg : ([mmV ad (fs 0), mmV ad (fs 1), mmV ad (fs 2), mmV ad (fs 3), mmV ad (fs 4)] : List Value)[cf.2]? = some (mmV ad (fs cf.2)) := by
              rcases (show cf.2 = 0 ∨ cf.2 = 1 ∨ cf.2 = 2 ∨ cf.2 = 3 ∨ cf.2 = 4 by omega) with h | h | h | h | h <;> rw [h] <;> rfl
            rw [h4] at hc
            exact va_get hx hb hts (mmCk_all _ _ _ _ hc).1 hown hK hP (k - 1) (by rw [kW_at hk0 hkn, hce]) hc _ hf (hts _ hwd) (fun _ h => h) hg hd (k0 _ _ _ kk rfl (vsOk.c ((hO.at hk0 hkn).sim hfs _) hst.t))
          · cases hs
        · cases hs
      · cases hs
    · cases hs
  | putfield i =>
    have hl : len = 3 := by simpa [kLn] using hln
    subst hl
    simp only [kS] at hs
    split at hs
    · rename_i v k r
      split at hs
      · rename_i cf hF
        split at hs
        · rename_i h4
          obtain ⟨h4, hf2⟩ := h4
          split at hs
          · rename_i fs hfs
            cases hs
            obtain ⟨own2, C, T, N, ho, hc, hf, hwd⟩ := mmFk_all _ (mmF3_mem hF)
            cases how.symm.trans ho
            have hk0 : 0 < k := Nat.pos_of_ne_zero (fun h => by rw [h, hO.1] at hfs; cases hfs)
            have hkn : k ≤ kN M := hst.t.h
            rw [h4] at hc
            have hN5 : (RX4, TX4, 5) = (C, T, N) := Option.some.inj hc
            cases hN5
            have hce : kCe G ad M k = .inr (4, [mmV ad (fs 0), mmV ad (fs 1), mmV ad (fs 2), mmV ad (fs 3), mmV ad (fs 4)]) := by unfold kCe; rw [hfs]
            obtain ⟨hin, ty0, hty, hnm⟩ := mmCk_all _ _ _ _ hc
            rw [hf2] at hwd
            refine va_put (v := mmV ad (.int v)) (ty := .int) hx hb hts hin ty0 hty hnm hown hK hP hD hS (k - 1) (by rw [kW_at hk0 hkn, hce]) hc 2 (by omega) (hts _ hwd) (fun _ h => h) rfl (by decide +kernel) rfl rfl (Nat.le_of_ble_eq_true rfl) hd (fun H1 locs1 hP1 hD1 hS1 => ?_)
            have hce2 : kCe G ad (kI M k (.inr (.inr (.inl (kU fs 2 (.int v)))))) k = .inr (4, ([mmV ad (fs 0), mmV ad (fs 1), mmV ad (fs 2), mmV ad (fs 3), mmV ad (fs 4)] : List Value).set 2 (mmV ad (.int v))) := by
              unfold kCe
              rw [show (kI M k (.inr (.inr (.inl (kU fs 2 (.int v)))))).1 k = .inr (.inr (.inl (kU fs 2 (.int v)))) from kU_self _ _ _]
              rfl
            rw [← hce2] at hP1 hD1
            refine k2 k _ H1 locs1 _ _ _ kk hk0 hkn (fun b j h => by rw [hfs] at h; cases h) ?_ hP1 hD1 hS1 rfl hst.t.t
            unfold kOc
            rw [kU_self]
            intro f9
            by_cases h9 : f9 = 2
            · rw [h9, kU_self]; exact trivial
            · rw [kU_ne h9]; exact (hO.at hk0 hkn).sim hfs f9
          · cases hs
        · cases hs
      · cases hs
    · rename_i v k r
      split at hs
      · rename_i cf hF
        split at hs
        · rename_i h4
          obtain ⟨h4, hf2⟩ := h4
          split at hs
          · rename_i fs hfs
            cases hs
            obtain ⟨own2, C, T, N, ho, hc, hf, hwd⟩ := mmFk_all _ (mmF3_mem hF)
            cases how.symm.trans ho
            have hk0 : 0 < k := Nat.pos_of_ne_zero (fun h => by rw [h, hO.1] at hfs; cases hfs)
            have hkn : k ≤ kN M := hst.t.h
            rw [h4] at hc
            have hN5 : (RX4, TX4, 5) = (C, T, N) := Option.some.inj hc
            cases hN5
            have hce : kCe G ad M k = .inr (4, [mmV ad (fs 0), mmV ad (fs 1), mmV ad (fs 2), mmV ad (fs 3), mmV ad (fs 4)]) := by unfold kCe; rw [hfs]
            obtain ⟨hin, ty0, hty, hnm⟩ := mmCk_all _ _ _ _ hc
            rw [hf2] at hwd
            refine va_put (v := mmV ad (.ref v)) (ty := .array (.array .int)) hx hb hts hin ty0 hty hnm hown hK hP hD hS (k - 1) (by rw [kW_at hk0 hkn, hce]) hc 0 (by omega) (hts _ hwd) (fun _ h => h) rfl (by decide +kernel) rfl rfl (Nat.le_of_ble_eq_true rfl) hd (fun H1 locs1 hP1 hD1 hS1 => ?_)
            have hce2 : kCe G ad (kI M k (.inr (.inr (.inl (kU fs 0 (.ref v)))))) k = .inr (4, ([mmV ad (fs 0), mmV ad (fs 1), mmV ad (fs 2), mmV ad (fs 3), mmV ad (fs 4)] : List Value).set 0 (mmV ad (.ref v))) := by
              unfold kCe
              rw [show (kI M k (.inr (.inr (.inl (kU fs 0 (.ref v)))))).1 k = .inr (.inr (.inl (kU fs 0 (.ref v)))) from kU_self _ _ _]
              rfl
            rw [← hce2] at hP1 hD1
            refine k2 k _ H1 locs1 _ _ _ kk hk0 hkn (fun b j h => by rw [hfs] at h; cases h) ?_ hP1 hD1 hS1 rfl hst.t.t
            unfold kOc
            rw [kU_self]
            intro f9
            by_cases h9 : f9 = 0
            · rw [h9, kU_self]; exact hst.h
            · rw [kU_ne h9]; exact (hO.at hk0 hkn).sim hfs f9
          · cases hs
        · cases hs
      · cases hs
    · cases hs
  | iaload =>
    have hl : len = 1 := by simpa [kLn] using hln
    subst hl
    simp only [kS] at hs
    split at hs
    · rename_i i k r
      split at hs
      · rename_i t n g hc
        split at hs
        · rename_i ht
          split at hs
          · rename_i j hj
            cases hs
            obtain ⟨hin, rfl⟩ := mmX_in hj
            by_cases hk : k = 0
            · subst hk
              have h9 := hO.1.symm.trans hc
              cases h9
              exact va_sld hx hb hX.1 hX.2.1 hX.2.2 hS hin hd (k0 _ _ _ kk rfl (vsOk.c trivial hst.t.t))
            · have hk0 : 0 < k := Nat.pos_of_ne_zero hk
              have hkn : k ≤ kN M := hst.t.h
              have ht2 := (hO.at hk0 hkn).nums hc
              obtain rfl : t = 0 := by omega
              have hce : kCe G ad M k = .inl (G 0, n, .inl g) := by unfold kCe; rw [hc]
              exact va_iald hx hb hK hP (k - 1) 0 (by rw [kW_at hk0 hkn, hce]) rfl hin hd (k0 _ _ _ kk rfl (vsOk.c trivial hst.t.t))
          · cases hs
        · cases hs
      · cases hs
    · cases hs
  | iastore =>
    have hl : len = 1 := by simpa [kLn] using hln
    subst hl
    simp only [kS] at hs
    split at hs
    · rename_i v i k r
      split at hs
      · rename_i t n g hc
        split at hs
        · rename_i ht
          subst ht
          split at hs
          · rename_i j hj
            cases hs
            obtain ⟨hin, rfl⟩ := mmX_in hj
            have hk0 : 0 < k := Nat.pos_of_ne_zero (fun h => by rw [h, hO.1] at hc; cases hc)
            have hkn : k ≤ kN M := hst.t.t.h
            have hce : kCe G ad M k = .inl (G 0, n, .inl g) := by unfold kCe; rw [hc]
            refine va_iast hx hb hK hP hD hS (k - 1) 0 (by rw [kW_at hk0 hkn, hce]) rfl hin hd (fun H1 locs1 hP1 hD1 hS1 => ?_)
            have hce2 : kCe G ad (kI M k (.inl (0, n, upd g i.toNatClampNeg v))) k = .inl (G 0, n, .inl (upd g i.toNatClampNeg v)) := by
              unfold kCe
              rw [show (kI M k (.inl (0, n, upd g i.toNatClampNeg v))).1 k = .inl (0, n, upd g i.toNatClampNeg v) from kU_self _ _ _]
            rw [← hce2] at hP1 hD1
            refine k2 k _ H1 locs1 _ _ _ kk hk0 hkn (fun b j h => by rw [hc] at h; cases h) ?_ hP1 hD1 hS1 rfl hst.t.t.t
            unfold kOc
            rw [kU_self]
            show 0 < 2
            omega
          · cases hs
        · cases hs
      · cases hs
    · cases hs
  | bastore =>
    have hl : len = 1 := by simpa [kLn] using hln
    subst hl
    simp only [kS] at hs
    split at hs
    · rename_i v i k r
      split at hs
      · rename_i t n g hc
        split at hs
        · rename_i ht
          subst ht
          split at hs
          · rename_i j hj
            cases hs
            obtain ⟨hin, rfl⟩ := mmX_in hj
            have hk0 : 0 < k := Nat.pos_of_ne_zero (fun h => by rw [h, hO.1] at hc; cases hc)
            have hkn : k ≤ kN M := hst.t.t.h
            have hce : kCe G ad M k = .inl (G 1, n, .inl g) := by unfold kCe; rw [hc]
            refine va_zast hx hb hK hP hD hS (k - 1) 1 (by rw [kW_at hk0 hkn, hce]) rfl hin hd (fun H1 locs1 hP1 hD1 hS1 => ?_)
            have hce2 : kCe G ad (kI M k (.inl (1, n, upd g i.toNatClampNeg (vp_nar .boolean v)))) k = .inl (G 1, n, .inl (upd g i.toNatClampNeg (vp_nar .boolean v))) := by
              unfold kCe
              rw [show (kI M k (.inl (1, n, upd g i.toNatClampNeg (vp_nar .boolean v)))).1 k = .inl (1, n, upd g i.toNatClampNeg (vp_nar .boolean v)) from kU_self _ _ _]
            rw [← hce2] at hP1 hD1
            refine k2 k _ H1 locs1 _ _ _ kk hk0 hkn (fun b j h => by rw [hc] at h; cases h) ?_ hP1 hD1 hS1 rfl hst.t.t.t
            unfold kOc
            rw [kU_self]
            show 1 < 2
            omega
          · cases hs
        · cases hs
      · cases hs
    · cases hs
  | baload =>
    have hl : len = 1 := by simpa [kLn] using hln
    subst hl
    simp only [kS] at hs
    split at hs
    · rename_i i k r
      split at hs
      · rename_i t n g hc
        split at hs
        · rename_i ht
          subst ht
          split at hs
          · rename_i j hj
            cases hs
            obtain ⟨hin, rfl⟩ := mmX_in hj
            have hk0 : 0 < k := Nat.pos_of_ne_zero (fun h => by rw [h, hO.1] at hc; cases hc)
            have hkn : k ≤ kN M := hst.t.h
            have hce : kCe G ad M k = .inl (G 1, n, .inl g) := by unfold kCe; rw [hc]
            exact va_zald hx hb hK hP (k - 1) 1 (by rw [kW_at hk0 hkn, hce]) rfl hin hd (k0 _ _ _ kk rfl (vsOk.c trivial hst.t.t))
          · cases hs
        · cases hs
      · cases hs
    · cases hs
  | aaload =>
    have hl : len = 1 := by simpa [kLn] using hln
    subst hl
    simp only [kS] at hs
    split at hs
    · rename_i i k r
      split at hs
      · rename_i t n g hc
        split at hs
        · rename_i j hj
          split at hs
          · rename_i q hq
            cases hs
            obtain ⟨hin, rfl⟩ := mmX_in hj
            have hk0 : 0 < k := Nat.pos_of_ne_zero (fun h => by rw [h, hO.1] at hc; cases hc)
            have hkn : k ≤ kN M := hst.t.h
            have hce : kCe G ad M k = .inl (G t, n, .inr (.inr (.inr (.inr (fun j => (g j).map ad))))) := by unfold kCe; rw [hc]
            obtain ⟨ht, hin2⟩ := (hO.at hk0 hkn).refs hc
            have h9 : W p l e R s m args below meth c H locs cells slots Q (F0 m (pc + 1) lsR (va_rf ((g i.toNatClampNeg).map ad) :: r.map (mmV ad))) := by
              rw [hq]
              exact k0 _ _ _ kk rfl (vsOk.c (hin2 _ _ hq) hst.t.t)
            rcases ht with rfl | rfl
            · exact ka_ald (f := fun j => (g j).map ad) hx hb hK hP (k - 1) 2 (by rw [kW_at hk0 hkn, hce]) rfl hin hd h9
            · exact ka_ald (f := fun j => (g j).map ad) hx hb hK hP (k - 1) 3 (by rw [kW_at hk0 hkn, hce]) rfl hin hd h9
          · cases hs
        · cases hs
      · cases hs
    · cases hs
  | aastore =>
    have hl : len = 1 := by simpa [kLn] using hln
    subst hl
    simp only [kS] at hs
    split at hs
    · rename_i v i k r
      split at hs
      · rename_i t n g hc
        split at hs
        · rename_i ht
          subst ht
          split at hs
          · rename_i t2 n2 g2 hc2
            split at hs
            · rename_i ht2
              subst ht2
              split at hs
              · rename_i j hj
                cases hs
                obtain ⟨hin, rfl⟩ := mmX_in hj
                have hk0 : 0 < k := Nat.pos_of_ne_zero (fun h => by rw [h, hO.1] at hc; cases hc)
                have hkn : k ≤ kN M := hst.t.t.h
                have hv0 : 0 < v := Nat.pos_of_ne_zero (fun h => by rw [h, hO.1] at hc2; cases hc2)
                have hvn : v ≤ kN M := hst.h
                have hce : kCe G ad M k = .inl (G 2, n, .inr (.inr (.inr (.inr (fun j => (g j).map ad))))) := by unfold kCe; rw [hc]
                have hcv : kCe G ad M v = .inl (G 0, n2, .inl g2) := by unfold kCe; rw [hc2]
                refine ka_ast (f := fun j => (g j).map ad) hx hb hK hP hD hS (k - 1) 2 (v - 1) 0 (by rw [kW_at hk0 hkn, hce]) rfl (by rw [kW_at hv0 hvn, hcv]) rfl hoI hin hd (fun H1 locs1 hP1 hD1 hS1 => ?_)
                have hce2 : kCe G ad (kI M k (.inr (.inl (2, n, kU g i.toNatClampNeg (some v))))) k = .inl (G 2, n, .inr (.inr (.inr (.inr (va_up (fun j => (g j).map ad) i.toNatClampNeg (some (ad v))))))) := by
                  unfold kCe
                  rw [show (kI M k (.inr (.inl (2, n, kU g i.toNatClampNeg (some v))))).1 k = .inr (.inl (2, n, kU g i.toNatClampNeg (some v))) from kU_self _ _ _]
                  have h9 : (fun j => (kU g i.toNatClampNeg (some v) j).map ad) = va_up (fun j => (g j).map ad) i.toNatClampNeg (some (ad v)) := by
                    funext j
                    by_cases hji : j = i.toNatClampNeg <;> simp [kU, va_up, hji]
                  simp only [h9]
                rw [← hce2] at hP1 hD1
                refine k2 k _ H1 locs1 _ _ _ kk hk0 hkn (fun b j h => by rw [hc] at h; cases h) ?_ hP1 hD1 hS1 rfl hst.t.t.t
                unfold kOc
                rw [kU_self]
                refine ⟨Or.inl rfl, fun j i9 h9 => ?_⟩
                by_cases hji : j = i.toNatClampNeg
                · rw [hji, kU_self] at h9
                  cases h9
                  exact hvn
                · rw [kU_ne hji] at h9
                  exact ((hO.at hk0 hkn).refs hc).2 j i9 h9
              · cases hs
            · cases hs
          · cases hs
        · cases hs
      · cases hs
    · cases hs
  | arraylength =>
    have hl : len = 1 := by simpa [kLn] using hln
    subst hl
    simp only [kS] at hs
    split at hs
    · rename_i k r
      split at hs
      · rename_i t n g hc
        cases hs
        by_cases hk : k = 0
        · subst hk
          have h9 := hO.1.symm.trans hc
          cases h9
          exact va_slen hx hb hX.1 hX.2.1 hX.2.2 hS hd (k0 _ _ _ kk rfl (vsOk.c trivial hst.t))
        · have hk0 : 0 < k := Nat.pos_of_ne_zero hk
          have hkn : k ≤ kN M := hst.h
          have ht2 := (hO.at hk0 hkn).nums hc
          have hce : kCe G ad M k = .inl (G t, n, .inl g) := by unfold kCe; rw [hc]
          rcases (show t = 0 ∨ t = 1 by omega) with rfl | rfl
          · exact va_alen hx hb hK hP (k - 1) 0 (x := (n, .inl g)) (by rw [kW_at hk0 hkn, hce]) rfl rfl hd (k0 _ _ _ kk rfl (vsOk.c trivial hst.t))
          · exact va_alen hx hb hK hP (k - 1) 1 (x := (n, .inl g)) (by rw [kW_at hk0 hkn, hce]) rfl rfl hd (k0 _ _ _ kk rfl (vsOk.c trivial hst.t))
      · rename_i t n g hc
        cases hs
        have hk0 : 0 < k := Nat.pos_of_ne_zero (fun h => by rw [h, hO.1] at hc; cases hc)
        have hkn : k ≤ kN M := hst.h
        have hce : kCe G ad M k = .inl (G t, n, .inr (.inr (.inr (.inr (fun j => (g j).map ad))))) := by unfold kCe; rw [hc]
        rcases ((hO.at hk0 hkn).refs hc).1 with rfl | rfl
        · exact va_alen hx hb hK hP (k - 1) 2 (x := (n, .inr (.inr (.inr (.inr (fun j => (g j).map ad)))))) (by rw [kW_at hk0 hkn, hce]) rfl rfl hd (k0 _ _ _ kk rfl (vsOk.c trivial hst.t))
        · exact va_alen hx hb hK hP (k - 1) 3 (x := (n, .inr (.inr (.inr (.inr (fun j => (g j).map ad)))))) (by rw [kW_at hk0 hkn, hce]) rfl rfl hd (k0 _ _ _ kk rfl (vsOk.c trivial hst.t))
      · cases hs
    · cases hs
  | newarray t =>
    have hl : len = 2 := by simpa [kLn] using hln
    subst hl
    simp only [kS] at hs
    split at hs
    · rename_i x r
      split at hs
      · cases hs
      · rename_i hc
        have hx1000 : x.toNatClampNeg ≤ 1000 := Nat.le_of_not_lt (fun h => hc (Or.inr h))
        split at hs
        · cases hs
          have hcs1 : cells + 1 ≤ R.cells := by have h := hcs.1; have e1 : kCs (kA M (.inl (0, x.toNatClampNeg, kG0)) x.toNatClampNeg) = kCs M + 1 := rfl; omega
          have hcs2 : slots + x.toNatClampNeg ≤ R.slots := by have h := hcs.2; have e1 : kSs (kA M (.inl (0, x.toNatClampNeg, kG0)) x.toNatClampNeg) = kSs M + x.toNatClampNeg := rfl; omega
          refine va_newa (atype := .int) (ty := .int) (a0 := (x.toNatClampNeg, .inl kG0)) (N' := x.toNatClampNeg) hx hb (hts _ kwa_I) rfl hK hP hD hS hA (fun _ => rfl) (fun h => hc (Or.inl h)) rfl (Nat.le_trans (Nat.mul_le_mul_left _ (show componentBytes .int ≤ 4 by decide)) (by omega)) hcs1 hcs2 hd (fun q cA H1 hK1 hP1 hD1 hS1 => ?_)
          obtain rfl : cA = G 0 := Option.some.inj ((hK1.2 4 _ rfl).2.symm.trans (hK.2 0 _ rfl).2)
          have hce2 : kCe G (kU ad (kN M + 1) q) (kA M (.inl (0, x.toNatClampNeg, kG0)) x.toNatClampNeg) (kN M + 1) = .inl (G 0, x.toNatClampNeg, .inl kG0) := by
            unfold kCe
            rw [show (kA M (.inl (0, x.toNatClampNeg, kG0)) x.toNatClampNeg).1 (kN M + 1) = .inl (0, x.toNatClampNeg, kG0) from kU_self _ _ _]
          rw [← hce2] at hP1 hD1
          refine k3 _ _ q H1 _ _ _ kk ?_ hP1 hD1 hS1 rfl hst.t
          unfold kOc
          rw [kU_self]
          show 0 < 2
          omega
        · cases hs
          have hcs1 : cells + 1 ≤ R.cells := by have h := hcs.1; have e1 : kCs (kA M (.inl (1, x.toNatClampNeg, kG0)) x.toNatClampNeg) = kCs M + 1 := rfl; omega
          have hcs2 : slots + x.toNatClampNeg ≤ R.slots := by have h := hcs.2; have e1 : kSs (kA M (.inl (1, x.toNatClampNeg, kG0)) x.toNatClampNeg) = kSs M + x.toNatClampNeg := rfl; omega
          refine va_newa (atype := .boolean) (ty := .boolean) (a0 := (x.toNatClampNeg, .inl kG0)) (N' := x.toNatClampNeg) hx hb (hts _ kwa_Z) rfl hK hP hD hS hA (fun _ => rfl) (fun h => hc (Or.inl h)) rfl (Nat.le_trans (Nat.mul_le_mul_left _ (show componentBytes .boolean ≤ 4 by decide)) (by omega)) hcs1 hcs2 hd (fun q cA H1 hK1 hP1 hD1 hS1 => ?_)
          obtain rfl : cA = G 1 := Option.some.inj ((hK1.2 4 _ rfl).2.symm.trans (hK.2 1 _ rfl).2)
          have hce2 : kCe G (kU ad (kN M + 1) q) (kA M (.inl (1, x.toNatClampNeg, kG0)) x.toNatClampNeg) (kN M + 1) = .inl (G 1, x.toNatClampNeg, .inl kG0) := by
            unfold kCe
            rw [show (kA M (.inl (1, x.toNatClampNeg, kG0)) x.toNatClampNeg).1 (kN M + 1) = .inl (1, x.toNatClampNeg, kG0) from kU_self _ _ _]
          rw [← hce2] at hP1 hD1
          refine k3 _ _ q H1 _ _ _ kk ?_ hP1 hD1 hS1 rfl hst.t
          unfold kOc
          rw [kU_self]
          show 1 < 2
          omega
        · cases hs
    · cases hs
  | anewarray i =>
    have hl : len = 3 := by simpa [kLn] using hln
    subst hl
    simp only [kS] at hs
    split at hs
    · rename_i x r
      split at hs
      · cases hs
      · rename_i hc
        have hx1000 : x.toNatClampNeg ≤ 1000 := Nat.le_of_not_lt (fun h => hc (Or.inr h))
        split at hs
        · rename_i u hF
          cases hs
          obtain ⟨own2, ho, hwd⟩ := kAL_all _ (mmF3_mem hF)
          cases how.symm.trans ho
          have hcs1 : cells + 1 ≤ R.cells := by have h := hcs.1; have e1 : kCs (kA M (.inr (.inl (2, x.toNatClampNeg, kR0))) x.toNatClampNeg) = kCs M + 1 := rfl; omega
          have hcs2 : slots + x.toNatClampNeg ≤ R.slots := by have h := hcs.2; have e1 : kSs (kA M (.inr (.inl (2, x.toNatClampNeg, kR0))) x.toNatClampNeg) = kSs M + x.toNatClampNeg := rfl; omega
          refine ka_anew (t := .int) (N' := x.toNatClampNeg) hx hb hown (hts _ hwd) hoI hK hP hD hS hA (fun h => hc (Or.inl h)) rfl (by omega) hcs1 hcs2 hd (fun q cA H1 hK1 hP1 hD1 hS1 => ?_)
          obtain rfl : cA = G 2 := Option.some.inj ((hK1.2 4 _ rfl).2.symm.trans (hK.2 2 _ rfl).2)
          have hce2 : kCe G (kU ad (kN M + 1) q) (kA M (.inr (.inl (2, x.toNatClampNeg, kR0))) x.toNatClampNeg) (kN M + 1) = .inl (G 2, x.toNatClampNeg, .inr (.inr (.inr (.inr (fun _ => none))))) := by
            unfold kCe
            rw [show (kA M (.inr (.inl (2, x.toNatClampNeg, kR0))) x.toNatClampNeg).1 (kN M + 1) = .inr (.inl (2, x.toNatClampNeg, kR0)) from kU_self _ _ _]
            rfl
          rw [← hce2] at hP1 hD1
          refine k3 _ _ q H1 _ _ _ kk ?_ hP1 hD1 hS1 rfl hst.t
          unfold kOc
          rw [kU_self]
          exact ⟨Or.inl rfl, fun j i9 h9 => by cases h9⟩
        · cases hs
    · cases hs
  | multianewarray i d =>
    have hl : len = 4 := by simpa [kLn] using hln
    subst hl
    simp only [kS] at hs
    split at hs
    · split at hs
      · rename_i hc
        obtain ⟨rfl, rfl, rfl, rfl, rfl⟩ := hc
        cases hs
        exact km_multi hx hb how hown hts hK hoZ hX hA (by have h := hcs.1; have e1 : kCs (kL M) = kCs M + 17 := rfl; omega) (by have h := hcs.2; have e1 : kSs (kL M) = kSs M + 272 := rfl; omega) hP hD hS hL hO hls hst.t.t hd kk
      · cases hs
    · cases hs
  | invokestatic i =>
    have hl : len = 3 := by simpa [kLn] using hln
    subst hl
    simp only [kS] at hs
    split at hs
    · rename_i y x r
      split at hs
      · rename_i hc
        split at hs
        · rename_i bb hF
          cases hs
          obtain ⟨own2, ho, hwd⟩ := kMX_all _ (mmF3_mem hF)
          cases how.symm.trans ho
          have hr8 : ((r.map (mmV ad)).map fun v => v.category).sum ≤ 8 := by
            rw [List.map_map, show (fun v : Value => v.category) ∘ mmV ad = fun v => v.category from funext fun v => mmV_cat ad v]
            exact hc.2
          have h9 := k0 _ _ _ kk rfl (vsOk.c trivial hst.t.t)
          cases bb with
          | true => exact va_mmax hx hb (hml.trans hL.1.symm) hown (hts _ hwd) (hts _ bwx_s) (hts _ bwi_RJ9) (hts _ bwx_c) (hw hc.1).1 (Nat.le_trans (Nat.add_le_add_right hr8 13) (hw hc.1).2) (by omega) (by omega) hd h9
          | false => exact va_mmin hx hb (hml.trans hL.1.symm) hown (hts _ hwd) (hts _ kwx_s) (hts _ bwi_RJ9) (hts _ kwx_c) (hw hc.1).1 (Nat.le_trans (Nat.add_le_add_right hr8 13) (hw hc.1).2) (by omega) (by omega) hd h9
        · cases hs
      · cases hs
    · cases hs
  | _ => exact absurd hs (by simp [kS])
end KM
