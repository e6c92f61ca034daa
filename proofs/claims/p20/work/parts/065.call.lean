/-! throws: what stands at each place where the class throws -/
theorem bwe_0 : Cond.initialized (mmEx 0) ∈ mmBW := bw1 (i := 11) (by decide +kernel) rfl
theorem bwe_1 : Cond.initialized (mmEx 1) ∈ mmBW := bw1 (i := 12) (by decide +kernel) rfl
theorem bwe_2 : Cond.initialized (mmEx 2) ∈ mmBW := bw1 (i := 13) (by decide +kernel) rfl
theorem bwq_RX1_32 : Cond.classLink RX1 32 (mmEx 2) ∈ mmBW := bw3 (i := 65) (by decide +kernel) rfl
theorem bwq_RX1_39 : Cond.classLink RX1 39 (mmEx 0) ∈ mmBW := bw2 (i := 191) (by decide +kernel) rfl
theorem bwq_RX3_77 : Cond.classLink RX3 77 (mmEx 1) ∈ mmBW := bw2 (i := 147) (by decide +kernel) rfl
theorem bwq_RX3_115 : Cond.classLink RX3 115 (mmEx 0) ∈ mmBW := bw2 (i := 5) (by decide +kernel) rfl
theorem atS_RX1_36 : ∀ w ∈ vx_atS RX1 36 (mmEx 2) mmUp, (w ∈ mmBW ∨ w ∈ mmNG) ∧ vx_ot w = true := by
  intro w hw
  have h : (vx_atS RX1 36 (mmEx 2) mmUp).all (fun w => ((decide (w ∈ lw_tbl) && goodWord w) || decide (w ∈ mmNG)) && vx_ot w) = true := by decide +kernel
  have h1 := List.all_eq_true.mp h w hw
  simp only [Bool.and_eq_true, Bool.or_eq_true, decide_eq_true_eq] at h1
  exact ⟨h1.1.elim (fun h => Or.inl (List.mem_filter.mpr h)) Or.inr, h1.2⟩
theorem atS_RX1_43 : ∀ w ∈ vx_atS RX1 43 (mmEx 0) mmUp, (w ∈ mmBW ∨ w ∈ mmNG) ∧ vx_ot w = true := by
  intro w hw
  have h : (vx_atS RX1 43 (mmEx 0) mmUp).all (fun w => ((decide (w ∈ lw_tbl) && goodWord w) || decide (w ∈ mmNG)) && vx_ot w) = true := by decide +kernel
  have h1 := List.all_eq_true.mp h w hw
  simp only [Bool.and_eq_true, Bool.or_eq_true, decide_eq_true_eq] at h1
  exact ⟨h1.1.elim (fun h => Or.inl (List.mem_filter.mpr h)) Or.inr, h1.2⟩
theorem atS_RX3_81 : ∀ w ∈ vx_atS RX3 81 (mmEx 1) mmUp, (w ∈ mmBW ∨ w ∈ mmNG) ∧ vx_ot w = true := by
  intro w hw
  have h : (vx_atS RX3 81 (mmEx 1) mmUp).all (fun w => ((decide (w ∈ lw_tbl) && goodWord w) || decide (w ∈ mmNG)) && vx_ot w) = true := by decide +kernel
  have h1 := List.all_eq_true.mp h w hw
  simp only [Bool.and_eq_true, Bool.or_eq_true, decide_eq_true_eq] at h1
  exact ⟨h1.1.elim (fun h => Or.inl (List.mem_filter.mpr h)) Or.inr, h1.2⟩
theorem atS_RX3_119 : ∀ w ∈ vx_atS RX3 119 (mmEx 0) mmUp, (w ∈ mmBW ∨ w ∈ mmNG) ∧ vx_ot w = true := by
  intro w hw
  have h : (vx_atS RX3 119 (mmEx 0) mmUp).all (fun w => ((decide (w ∈ lw_tbl) && goodWord w) || decide (w ∈ mmNG)) && vx_ot w) = true := by decide +kernel
  have h1 := List.all_eq_true.mp h w hw
  simp only [Bool.and_eq_true, Bool.or_eq_true, decide_eq_true_eq] at h1
  exact ⟨h1.1.elim (fun h => Or.inl (List.mem_filter.mpr h)) Or.inr, h1.2⟩
def mmThOk (q : Nat × Nat × Nat) : Prop := ∃ (r : mmRow) (ik is ic : Nat) (text own : String), mmP[q.1]? = some r ∧ mmOwn[mmOw r]? = some own ∧ q.2.2 < 3 ∧ (own, is, text) ∈ mmStr ∧ Cond.classLink own ik (mmEx q.2.2) ∈ mmBW ∧ Cond.initialized (mmEx q.2.2) ∈ mmBW ∧ (∀ w ∈ vx_atS own ic (mmEx q.2.2) mmUp, (w ∈ mmBW ∨ w ∈ mmNG) ∧ vx_ot w = true) ∧
  decode (mmCd r) q.2.1 = .ok (.new ik, 3) ∧ decode (mmCd r) (q.2.1 + 3) = .ok (.dup, 1) ∧ decode (mmCd r) (q.2.1 + 4) = .ok (.ldc is, 2) ∧ decode (mmCd r) (q.2.1 + 6) = .ok (.invokespecial ic, 3) ∧ decode (mmCd r) (q.2.1 + 9) = .ok (.athrow, 1) ∧ 6 ≤ mmFr r ∧ 90 ≤ mmLo r
theorem mmTh_all : ∀ q ∈ mmTH, mmThOk q := by
  intro q hq
  simp only [mmTH, List.mem_cons, List.not_mem_nil, or_false] at hq
  rcases hq with rfl | rfl | rfl | rfl | rfl | rfl | rfl | rfl | rfl | rfl | rfl | rfl
  · exact ⟨mr12, 32, 34, 36, _, RX1, rfl, rfl, by decide, List.mem_of_getElem? (i := 0) rfl, bwq_RX1_32, bwe_2, atS_RX1_36, dX1_add_9, dX1_add_12, dX1_add_13, dX1_add_15, dX1_add_18, by decide, by decide⟩
  · exact ⟨mr13, 39, 41, 43, _, RX1, rfl, rfl, by decide, List.mem_of_getElem? (i := 1) rfl, bwq_RX1_39, bwe_0, atS_RX1_43, dX1_remove_12, dX1_remove_15, dX1_remove_16, dX1_remove_18, dX1_remove_21, by decide, by decide⟩
  · exact ⟨mr31, 77, 79, 81, _, RX3, rfl, rfl, by decide, List.mem_of_getElem? (i := 2) rfl, bwq_RX3_77, bwe_1, atS_RX3_81, dX3_setHooks_11, dX3_setHooks_14, dX3_setHooks_15, dX3_setHooks_17, dX3_setHooks_20, by decide, by decide⟩
  · exact ⟨mr32, 115, 117, 119, _, RX3, rfl, rfl, by decide, List.mem_of_getElem? (i := 3) rfl, bwq_RX3_115, bwe_0, atS_RX3_119, dX3_deed_132, dX3_deed_135, dX3_deed_136, dX3_deed_138, dX3_deed_141, by decide, by decide⟩
  · exact ⟨mr35, 115, 138, 119, _, RX3, rfl, rfl, by decide, List.mem_of_getElem? (i := 4) rfl, bwq_RX3_115, bwe_0, atS_RX3_119, dX3_pot_127, dX3_pot_130, dX3_pot_131, dX3_pot_133, dX3_pot_136, by decide, by decide⟩
  · exact ⟨mr36, 115, 159, 119, _, RX3, rfl, rfl, by decide, List.mem_of_getElem? (i := 5) rfl, bwq_RX3_115, bwe_0, atS_RX3_119, dX3_count_137, dX3_count_140, dX3_count_141, dX3_count_143, dX3_count_146, by decide, by decide⟩
  · exact ⟨mr37, 115, 161, 119, _, RX3, rfl, rfl, by decide, List.mem_of_getElem? (i := 6) rfl, bwq_RX3_115, bwe_0, atS_RX3_119, dX3_hangs_12, dX3_hangs_15, dX3_hangs_16, dX3_hangs_18, dX3_hangs_21, by decide, by decide⟩
  · exact ⟨mr39, 77, 175, 81, _, RX3, rfl, rfl, by decide, List.mem_of_getElem? (i := 7) rfl, bwq_RX3_77, bwe_1, atS_RX3_81, dX3_would_11, dX3_would_14, dX3_would_15, dX3_would_17, dX3_would_20, by decide, by decide⟩
  · exact ⟨mr52, 115, 218, 119, _, RX3, rfl, rfl, by decide, List.mem_of_getElem? (i := 8) rfl, bwq_RX3_115, bwe_0, atS_RX3_119, dX3_requireDeed_15, dX3_requireDeed_18, dX3_requireDeed_19, dX3_requireDeed_21, dX3_requireDeed_24, by decide, by decide⟩
  · exact ⟨mr53, 115, 223, 119, _, RX3, rfl, rfl, by decide, List.mem_of_getElem? (i := 9) rfl, bwq_RX3_115, bwe_0, atS_RX3_119, dX3_requirePot_7, dX3_requirePot_10, dX3_requirePot_11, dX3_requirePot_13, dX3_requirePot_16, by decide, by decide⟩
  · exact ⟨mr54, 115, 225, 119, _, RX3, rfl, rfl, by decide, List.mem_of_getElem? (i := 10) rfl, bwq_RX3_115, bwe_0, atS_RX3_119, dX3_requirePotOrNone_12, dX3_requirePotOrNone_15, dX3_requirePotOrNone_16, dX3_requirePotOrNone_18, dX3_requirePotOrNone_21, by decide, by decide⟩
  · exact ⟨mr55, 77, 227, 81, _, RX3, rfl, rfl, by decide, List.mem_of_getElem? (i := 11) rfl, bwq_RX3_77, bwe_1, atS_RX3_81, dX3_requireWeight_11, dX3_requireWeight_14, dX3_requireWeight_15, dX3_requireWeight_17, dX3_requireWeight_20, by decide, by decide⟩
/-! caught classes -/
theorem bwq_RL_31 : Cond.classLink RL 31 (mmEx 2) ∈ mmBW := bw3 (i := 43) (by decide +kernel) rfl
theorem mmCK_all : ∀ q ∈ mmCK, ∃ own, mmOwn[q.1]? = some own ∧ Cond.classLink own q.2.1 (mmEx q.2.2) ∈ mmBW ∧ q.2.1 ≠ 0 ∧ q.2.2 < 3 := by
  intro q hq
  simp only [mmCK, List.mem_cons, List.not_mem_nil, or_false] at hq
  rcases hq with rfl
  exact ⟨_, rfl, bwq_RL_31, by decide, by decide⟩
theorem mmCK_2 : ∀ q ∈ mmCK, q.2.2 = 2 := by decide
theorem mmHf_spec {o pc e : Nat} : ∀ (hh : List (Nat × Nat × Nat × Nat)) {hp : Nat}, mmHf o pc e hh = some hp → ∃ (pre : List (Nat × Nat × Nat × Nat)) (x : Nat × Nat × Nat × Nat) (suf : List (Nat × Nat × Nat × Nat)), hh = pre ++ x :: suf ∧ x.2.2.1 = hp ∧ (x.1 ≤ pc ∧ pc < x.2.1) ∧ mmF3 mmCK o x.2.2.2 = some e ∧ ∀ z ∈ pre, ¬ (z.1 ≤ pc ∧ pc < z.2.1) ∨ ∃ e', e' < e ∧ mmF3 mmCK o z.2.2.2 = some e'
  | [], hp, h => by simp [mmHf] at h
  | x :: t, hp, h => by
    have ih := @mmHf_spec o pc e t hp
    simp only [mmHf] at h
    split at h
    · rename_i hc
      split at h
      · rename_i e' he'
        split at h
        · rename_i hee
          subst hee
          cases h
          exact ⟨[], x, t, rfl, rfl, hc, he', fun z hz => nomatch hz⟩
        · split at h
          · rename_i hlt
            obtain ⟨pre, y, suf, h1, h2, h3, h4, h5⟩ := ih h
            refine ⟨x :: pre, y, suf, by rw [h1]; rfl, h2, h3, h4, fun z hz => ?_⟩
            rcases List.mem_cons.mp hz with rfl | hz
            · exact Or.inr ⟨e', hlt, he'⟩
            · exact h5 z hz
          · cases h
      · cases h
    · rename_i hc
      obtain ⟨pre, y, suf, h1, h2, h3, h4, h5⟩ := ih h
      refine ⟨x :: pre, y, suf, by rw [h1]; rfl, h2, h3, h4, fun z hz => ?_⟩
      rcases List.mem_cons.mp hz with rfl | hz
      · exact Or.inl hc
      · exact h5 z hz
theorem mmCs_spec {z : Nat} {st As rest : List Value} {z2 : Nat} (h : mmCs z st = some (z2, As, rest)) {rz : mmRow} (hz : mmP[z]? = some rz) : z2 = z ∧ mmSt rz = true ∧ mmSm rest ≤ 8 ∧ st = As.reverse ++ rest ∧ As.length = mmNa rz := by
  unfold mmCs at h
  rw [hz] at h
  simp only at h
  split at h
  · rename_i hc
    cases h
    exact ⟨rfl, hc.1, hc.2.1, by rw [List.reverse_reverse, List.take_append_drop], by rw [List.length_reverse, List.length_take]; omega⟩
  · cases h
theorem mmCl_spec {n o : Nat} {ins : Instr} {st As rest : List Value} {z : Nat} (h : mmCl n o ins st = some (z, As, rest)) {rz : mmRow} (hz : mmP[z]? = some rz) : mmSm rest ≤ 8 ∧
    ((∃ i k As', ins = .invokevirtual i ∧ mmF3 mmML o i = some z ∧ mmSt rz = false ∧ mmHh rz = [] ∧ As = .ref k :: As' ∧ st = As'.reverse ++ .ref k :: rest ∧ As'.length = mmNa rz ∧ ∃ x, mmFd n (mmOw rz) 0 k = some x) ∨
     (∃ i, ins = .invokestatic i ∧ (mmF3 mmML o i = some z ∨ (mmF3 mmNL o i = some z ∧ mmHh rz = [])) ∧ mmSt rz = true ∧ st = As.reverse ++ rest ∧ As.length = mmNa rz)) := by
  cases ins with
  | invokevirtual i =>
    simp only [mmCl] at h
    split at h
    · rename_i z2 hF
      split at h
      · rename_i r2 hr2
        split at h
        · rename_i hc
          split at h
          · rename_i k rest2 hd
            split at h
            · rename_i x hx
              cases h
              cases hz.symm.trans hr2
              refine ⟨?_, Or.inl ⟨i, k, (st.take (mmNa rz)).reverse, rfl, hF, hc.1, hc.2.1, rfl, ?_, by rw [List.length_reverse, List.length_take]; omega, x, hx⟩⟩
              · have h8 := hc.2.2.1
                rw [← List.drop_drop, hd] at h8
                exact h8
              · rw [List.reverse_reverse, ← hd, List.take_append_drop]
            · cases h
          · cases h
        · cases h
      · cases h
    · cases h
  | invokestatic i =>
    simp only [mmCl] at h
    split at h
    · rename_i z2 hF
      have hz2 : z2 = z := by
        unfold mmCs at h
        split at h
        · split at h
          · cases h; rfl
          · cases h
        · cases h
      subst hz2
      obtain ⟨-, h1, h2, h3, h4⟩ := mmCs_spec h hz
      exact ⟨h2, Or.inr ⟨i, rfl, Or.inl hF, h1, h3, h4⟩⟩
    · split at h
      · rename_i z2 hF
        split at h
        · rename_i r2 hr2
          split at h
          · rename_i hh
            have hz2 : z2 = z := by
              unfold mmCs at h
              split at h
              · split at h
                · cases h; rfl
                · cases h
              · cases h
            subst hz2
            cases hz.symm.trans hr2
            obtain ⟨-, h1, h2, h3, h4⟩ := mmCs_spec h hz
            exact ⟨h2, Or.inr ⟨i, rfl, Or.inr ⟨hF, hh⟩, h1, h3, h4⟩⟩
          · cases h
        · cases h
      · cases h
  | _ => exact absurd h (by simp [mmCl])
theorem mmCls_own {c : Nat} {C : String} {T : u_T} {N : Nat} (h : mmCls[c]? = some (C, T, N)) : mmOwn[c]? = some C := by
  match c, h with
  | 0, h => cases h; rfl
  | 1, h => cases h; rfl
  | 2, h => cases h; rfl
  | 3, h => cases h; rfl
  | 4, h => cases h; rfl
  | c + 5, h => simp [mmCls] at h
section MMC
variable {p : Program} {l : Launch} {e : Env} {R : Room} {s : State} {m : MethodId} {args : Array Value} {below : List Frame} {meth : Method} {c : Code} {H : Heap} {locs : List Loc} {cells slots : Nat} {Q : State → Prop}
/-- behind a call that returns or throws -/
theorem mm_after {D : va_G} {G : Nat → ClassId} {ad : Nat → Nat} {M1 : mmM} {n : Nat} {o : Option Value ⊕ Nat} {A A1 : Nat → Prop} {mc ms pc : Nat} {lsR : Array Slot} {st0 rest : List Value} {a : Array Value} {free : Addr → Prop}
    (hr : vx_Run p l e R s m args below meth c H locs cells slots mc ms (F0 m pc lsR st0) rest (mmQr D G ad M1 n o A1 a) (mmXr D G ad M1 n o A1) free) (hS : va_S A s.heap H locs) (hA : ∀ q, q < H.size → A1 q → A q) (hf : ∀ q, free q → A q)
    (kk : ∀ (v : Option Value) (H1 : Heap) (locs1 : List Loc), o = .inl v → va_P D mmCls (mmW G ad M1 n) H1 → va_S A s.heap H1 locs1 → W p l e R s m args below meth c H1 locs1 (cells + mc) (slots + ms) Q (F0 m (pc + 3) lsR ((v.map (mmV ad)).toList ++ rest)))
    (kx : ∀ (ee : Nat) (ce : Cell) (q9 : Addr) (H1 : Heap) (locs1 : List Loc), o = .inr ee → H1[q9]? = some ce → ce.vm = .none → s.vm.findClass (mmEx ee) = some ce.cls → va_P D mmCls (mmW G ad M1 n) H1 → va_S A s.heap H1 locs1 → vx_W p l e R s m args below meth c H1 locs1 (cells + mc) (slots + ms) Q (F0 m pc lsR rest) q9) :
    W p l e R s m args below meth c H locs cells slots Q (F0 m pc lsR st0) := by
  intro T hT X
  rcases hr T hT X with ⟨v, st₀, t, T', L, h0, X', hL, e1, e2, ⟨⟨w, ho, hv, hp⟩, hF⟩, st⟩ | ⟨q, st₀, t, T', L, E, ce, h0, X', hL, e1, e2, ⟨⟨ee, ho, hE, hp⟩, hF⟩, hce, hcv, hcl, st⟩
  · cases hv
    obtain ⟨k1, k2, k3⟩ := vx_keep h0 e1 hS hA hf hL hF
    obtain ⟨t2, a1, b1⟩ := kk w T'.heap (locs ++ L) ho (by rw [e1]; exact hp) k3 T' rfl X'
    exact ⟨t2, st t2 a1, b1⟩
  · subst hE
    obtain ⟨k1, k2, k3⟩ := vx_keep h0 e1 hS hA hf hL hF
    obtain ⟨t2, a1, b1⟩ := kx ee ce q T'.heap (locs ++ L) ho (by rw [e1]; exact hce) hcv hcl (by rw [e1]; exact hp) k3 T' rfl X'
    exact ⟨t2, st.trans a1, b1⟩
theorem mmGood {ws : List Cond} (h : ∀ w ∈ ws, w ∈ mmBW) : GoodIn mmBW ws := fun w hw => ⟨h w hw, bw_good (h w hw)⟩
theorem mmSum (ad : Nat → Nat) (st : List Value) : ((st.map (mmV ad)).map fun v => v.category).sum = mmSm st := by
  rw [List.map_map, show (fun v : Value => v.category) ∘ mmV ad = fun v => v.category from funext fun v => mmV_cat ad v]
  rfl
set_option maxHeartbeats 4000000 in
/-- a call, by the callee's contract -/
theorem mm_call {D : va_G} {G : Nat → ClassId} {ad : Nat → Nat} {M M1 : mmM} {n f z : Nat} {o : Option Value ⊕ Nat} {r rz : mmRow} {own : String} {A : Nat → Prop} {pc : Nat} {ins : Instr} {lsR : Array Slot} {st As rest : List Value}
    (hCon : mmCon l f) (hx : p.tables.exec = Jvm.exec) (hb : c.code = mmCd r) (hml : c.maxLocals = lsR.size) (hn : n ≤ 35) (how : mmOwn[mmOw r]? = some own) (hown : s.vm.findClass own = some m.cls)
    (hts : ∀ w ∈ mmBW, w.before args s = true) (hK : mmKs D G n s) (hZ : mmZq A s s.heap) (hA : ∀ q : Nat, s.heap.size ≤ q → A q)
    (hfr : mmFr r ≤ R.frames) (hlo : mmLo r ≤ R.locals) (h11 : mmFr r ≤ 11)
    (hP : va_P D mmCls (mmW G ad M n) H) (hD : va_D A (mmW G ad M n)) (hS : va_S A s.heap H locs)
    (hd : decode (mmCd r) pc = .ok (ins, 3)) (hcl : mmCl n (mmOw r) ins st = some (z, As, rest)) (hz : mmP[z]? = some rz)
    (hfit : mmFr rz + 1 ≤ mmFr r ∧ 8 + (mmMl rz + 11) + mmLo rz ≤ mmLo r ∧ (mmEl As).length ≤ mmMl rz) (hgo : mmGo f none n z 0 (mmEn (mmMl rz) As) [] M = some (o, M1))
    (hc : cells + (M1.2.2 - M.2.2) ≤ R.cells) (hsl : slots + 6 * (M1.2.2 - M.2.2) ≤ R.slots)
    (kk : ∀ (v : Option Value) (H1 : Heap) (locs1 : List Loc), o = .inl v → va_P D mmCls (mmW G ad M1 n) H1 → va_S A s.heap H1 locs1 → W p l e R s m args below meth c H1 locs1 (cells + (M1.2.2 - M.2.2)) (slots + 6 * (M1.2.2 - M.2.2)) Q (F0 m (pc + 3) lsR ((v.map (mmV ad)).toList ++ rest.map (mmV ad))))
    (kx : ∀ (ee : Nat) (ce : Cell) (q9 : Addr) (H1 : Heap) (locs1 : List Loc), o = .inr ee → H1[q9]? = some ce → ce.vm = .none → s.vm.findClass (mmEx ee) = some ce.cls → va_P D mmCls (mmW G ad M1 n) H1 → va_S A s.heap H1 locs1 → vx_W p l e R s m args below meth c H1 locs1 (cells + (M1.2.2 - M.2.2)) (slots + 6 * (M1.2.2 - M.2.2)) Q (F0 m pc lsR (rest.map (mmV ad))) q9) :
    W p l e R s m args below meth c H locs cells slots Q (F0 m pc lsR (st.map (mmV ad))) := by
  have hM := hCon n z rz As M M1 o hn hz (by omega) hgo hfit.2.2 D G ad H.size
  obtain ⟨o1, o2, o3, o4, o5, o6, o7, o8, o9⟩ := mmOk_all rz (List.mem_of_getElem? hz) (by omega)
  obtain ⟨hsm, hcase⟩ := mmCl_spec hcl hz
  have hA1 : ∀ q, va_A (mmW G ad M n) H.size q → A q := by
    intro q h
    rcases h with ⟨k, e9, h⟩ | h
    · exact hD.2 k _ h
    · exact hA q (Nat.le_trans hS.1 h)
  have hpic : ∀ U : State, U.heap = H → s.WarmedH U.vm → mmPic D G ad M n H.size U := by
    intro U hU hW
    refine ⟨by rw [hU], by rw [hU]; exact hP, hD.weaken (fun _ _ _ _ => trivial), hK.warm hW, ?_, ?_⟩
    · rw [hU]; exact vx_Zq.moved hW.alike (vx_Zq.narrow (hZ.1.kept hS.2.1) hA1)
    · rw [hU]; exact vx_Zq.moved hW.alike (vx_Zq.narrow (hZ.2.kept hS.2.1) hA1)
  have hR : (mmRm rz (M1.2.2 - M.2.2)).frames + 1 ≤ R.frames ∧ 8 + (mmMl rz + 11) + (mmRm rz (M1.2.2 - M.2.2)).locals ≤ R.locals := ⟨by show mmFr rz + 1 ≤ _; omega, by show 8 + (mmMl rz + 11) + mmLo rz ≤ _; omega⟩
  have hw8 := lv_room (m := m) (pc := pc) (ls := lsR) (rest := st.map (mmV ad)) (st := rest.map (mmV ad)) (by rw [mmSum]; exact hsm)
  rcases hcase with ⟨i, k, As', rfl, hF, hst, hh, rfl, rfl, hlen, x, hfd⟩ | ⟨i, rfl, hF, hst, rfl, hlen⟩
  · obtain ⟨own2, r2, ho, hr2, hwd⟩ := mmLk_all _ (mmF3_mem hF)
    cases how.symm.trans ho
    cases hz.symm.trans hr2
    obtain ⟨hk, fs, hl, -⟩ := mmFd_lay hfd
    obtain ⟨C, T, N, hcls, -⟩ := mmLay_obj k (by omega) _ _ hl
    have hC : C = (mmNm rz).cls := Option.some.inj ((mmCls_own hcls).symm.trans o7)
    have hhd : mmHd rz = .code (mmNm rz) (mmCd rz) (mmMl rz) (mmRt rz) := by unfold mmHd; rw [if_pos hh]
    have hG : GoodIn mmBW (wsV own i (mmNm rz).cls (mmNm rz) (mmHd rz :: mmBW)) := mmGood (fun w hw => by
      unfold wsV at hw
      rcases List.mem_append.mp hw with h | h
      · simp only [List.mem_cons, List.not_mem_nil, or_false] at h
        rcases h with rfl | rfl | rfl | rfl
        · exact hwd
        · exact (o9 hst).1
        · exact (o9 hst).2
        · exact o6
      · rcases List.mem_cons.mp h with rfl | h
        · exact o1
        · exact h)
    refine mm_after (a := ((.ref k :: As').map (mmV ad)).toArray) (rest := rest.map (mmV ad)) (vx_runV (Ts := mmBW) (own := own) (nL := lsR.size) (cc := mmCd r) (b := ad k) (As := As'.map (mmV ad)) (C := (mmNm rz).cls) ⟨hx, hb, hml, hown, hts⟩ hM (cwV (mmNa rz) hts hG (by rw [hhd]) rfl rfl ⟨rfl, o3, o4, o5⟩ hR)
      ⟨mmPic_blind, ?_, fun U hU hW => ⟨rfl, hpic U hU hW⟩⟩ rfl (by rw [List.length_map]; exact hlen) rfl ?_ hw8 hd ⟨hc, hsl⟩) hS (fun q _ h => hA1 q h) hA1 kk kx
    · have h9 := va_recv hK.1 hP (ci := mmOw rz) (q0 := k) (a := ad k) (fs := mmFs ad (M.1 k) 0 fs) hcls (by rw [mmW_at hk, mmCe_obj hl])
      rw [← hC]
      exact h9
    · simp [mmV, List.map_reverse]
  · by_cases hh : mmHh rz = []
    · have hhd : mmHd rz = .code (mmNm rz) (mmCd rz) (mmMl rz) (mmRt rz) := by unfold mmHd; rw [if_pos hh]
      rcases hF with hF | ⟨hF, -⟩
      · obtain ⟨own2, r2, ho, hr2, hwd⟩ := mmLk_all _ (mmF3_mem hF)
        cases how.symm.trans ho
        cases hz.symm.trans hr2
        have hG : GoodIn mmBW (va_wsS own i (mmNm rz) (mmHd rz :: mmBW)) := mmGood (fun w hw => by
          unfold va_wsS at hw
          rcases List.mem_append.mp hw with h | h
          · simp only [List.mem_cons, List.not_mem_nil, or_false] at h
            rcases h with rfl | rfl | rfl
            · exact hwd
            · exact o8 hst
            · exact o6
          · rcases List.mem_cons.mp h with rfl | h
            · exact o1
            · exact h)
        refine mm_after (a := (As.map (mmV ad)).toArray) (rest := rest.map (mmV ad)) (vx_runS (Ts := mmBW) (own := own) (nL := lsR.size) (cc := mmCd r) (As := As.map (mmV ad)) ⟨hx, hb, hml, hown, hts⟩ hM (va_cwS (mmNa rz) hts hG (by rw [hhd]) rfl rfl ⟨o3, o4, o5⟩ hR)
          ⟨mmPic_blind, fun U hU hW => ⟨rfl, hpic U hU hW⟩⟩ rfl (by rw [List.length_map]; exact hlen) rfl ?_ hw8 hd ⟨hc, hsl⟩) hS (fun q _ h => hA1 q h) hA1 kk kx
        simp [List.map_reverse]
      · obtain ⟨own2, host, r2, ho, hr2, hwd⟩ := mmLn2_all _ (mmF3_mem hF)
        cases how.symm.trans ho
        cases hz.symm.trans hr2
        have hG : GoodIn mmBW (mmHd rz :: mmBW) := mmGood (fun w hw => by
          rcases List.mem_cons.mp hw with rfl | h
          · exact o1
          · exact h)
        refine mm_after (a := (As.map (mmV ad)).toArray) (rest := rest.map (mmV ad)) (vx_runSN (Ts := mmBW) (own := own) (nL := lsR.size) (cc := mmCd r) (As := As.map (mmV ad)) ⟨hx, hb, hml, hown, hts⟩ hM ⟨va_cnB (mmNa rz) hts hG (by rw [hhd]) rfl rfl (hK.2.1 _ hwd) (hts _ o6) ⟨o3, o4, o5⟩ hR, hts _ (o8 hst), trivial⟩
          ⟨mmPic_blind, fun U hU hW => ⟨rfl, hpic U hU hW⟩⟩ rfl (by rw [List.length_map]; exact hlen) rfl ?_ hw8 hd ⟨hc, hsl⟩) hS (fun q _ h => hA1 q h) hA1 kk kx
        simp [List.map_reverse]
    · have hhd : mmHd rz = .codeWith (mmNm rz) (mmCd rz) (mmMl rz) (mmRt rz) (mmHh rz) := by unfold mmHd; rw [if_neg hh]
      rcases hF with hF | ⟨-, hh2⟩
      · obtain ⟨own2, r2, ho, hr2, hwd⟩ := mmLk_all _ (mmF3_mem hF)
        cases how.symm.trans ho
        cases hz.symm.trans hr2
        have hG : GoodIn mmBW (va_wsS own i (mmNm rz) (mmHd rz :: mmBW)) := mmGood (fun w hw => by
          unfold va_wsS at hw
          rcases List.mem_append.mp hw with h | h
          · simp only [List.mem_cons, List.not_mem_nil, or_false] at h
            rcases h with rfl | rfl | rfl
            · exact hwd
            · exact o8 hst
            · exact o6
          · rcases List.mem_cons.mp h with rfl | h
            · exact o1
            · exact h)
        refine mm_after (a := (As.map (mmV ad)).toArray) (rest := rest.map (mmV ad)) (vx_runSX (Ts := mmBW) (own := own) (nL := lsR.size) (cc := mmCd r) (As := As.map (mmV ad)) ⟨hx, hb, hml, hown, hts⟩ hM (vx_cwSW (mmNa rz) hts hG (by rw [hhd]) rfl rfl ⟨o3, o4, o5⟩ hR)
          ⟨mmPic_blind, fun U hU hW => ⟨rfl, hpic U hU hW⟩⟩ rfl (by rw [List.length_map]; exact hlen) rfl ?_ hw8 hd ⟨hc, hsl⟩) hS (fun q _ h => hA1 q h) hA1 kk kx
        simp [List.map_reverse]
      · exact absurd hh2 hh
end MMC
