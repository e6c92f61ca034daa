/-! the law from its entry to its end -/
theorem mmE_one {ins : Instr} {st : List Value} (h : mmE (mmRt mr126) ins st = some (some (.int 1))) : ins = .ireturn ∧ st = [.int 1] := by
  cases ins <;> simp only [mmE] at h
  case ireturn =>
    split at h
    · split at h
      · cases h
        exact ⟨rfl, rfl⟩
      · cases h
    · cases h
  all_goals (repeat' split at h) <;> cases h
set_option maxHeartbeats 16000000 in
set_option maxRecDepth 100000 in
theorem start_run {p : Program} {e : Env} {s : State} {m : MethodId} {below : List Frame} {meth : Method} {c : Code} {Q : State → Prop} (l : Launch) (hfl : l.stackTraces = false) {b L : Nat} {xs : Nat → Int32} (hL : L ≤ 2560) (hx : p.tables.exec = Jvm.exec) (hb : c.code = cL_law) (hml : c.maxLocals = 9) (hown : s.vm.findClass RL = some m.cls) (htab : c.exceptionTable.toList = []) (hts0 : ∀ w ∈ lw_tbl, w.before #[Value.ref b] s = true) (hX : va_X b L xs s s.heap) (hbl : b < s.heap.size) (hgv : (Jvm.Cond.and given_1 narrow_1).before #[Value.ref b] s = true)
    (kk : ∀ (pc : Nat) (lsR : Array Slot) (H : Heap) (cells slots : Nat), decode cL_law pc = .ok (.ireturn, 1) → cells ≤ 1084 → slots ≤ 9231 → W p l e room_1 s m #[Value.ref b] below meth c H [] cells slots Q (F0 m pc lsR [.int 1])) : W p l e room_1 s m #[Value.ref b] below meth c s.heap [] 0 0 Q (entryFrame m ([Value.ref b] : List Value).toArray 9) := by
  obtain ⟨A, hAd⟩ : ∃ A : Nat → Prop, A = fun q : Nat => s.heap.size ≤ q := ⟨_, rfl⟩
  have hA : ∀ q : Nat, s.heap.size ≤ q → A q := fun q h => by rw [hAd]; exact h
  have hAs : ∀ q : Nat, A q → s.heap.size ≤ q := fun q h => by rw [hAd] at h; exact h
  have hbA : ¬ A b := fun h => Nat.lt_irrefl _ (Nat.lt_of_lt_of_le hbl (hAs _ h))
  obtain ⟨D, hK⟩ := at_kn hts0
  obtain ⟨G, hG, hG2⟩ := at_ac hts0
  have hKr := at_kr hK hts0 hgv
  have hN := at_nsI hts0
  have hZ : mmZq A s s.heap := by rw [hAd]; exact at_zq hts0 hgv
  have hts := at_bw hts0
  have hS : va_S A s.heap s.heap [] := va_S.rf
  have hP : va_P D mmCls [] s.heap := fun k q h => by simp at h
  have hD : va_D A [] := ⟨fun i j p q h => by simp at h, fun k q h => by simp at h⟩
  have hl := lv_entry ([.ref b]) (n := 9) (Nat.le_of_ble_eq_true rfl)
  rw [lg_entry_eq]
  generalize (lg_sl ([.ref b]) ++ List.replicate (9 - (lg_sl ([.ref b])).length) Slot.unset).toArray = ls at hl ⊢
  have hl : lv_has ls 9 [(0, .ref b)] := hl
  refine va_new (ci := 3) (fs := [.null, .null, .null, .null, .null, .null, .int 0, .int 0]) (C := RX3) (T := TX3) (N := 8) hx hb hts mmIn3 tyX3 tyX3_ok hown (hts (.classLink RL 8 RX3) (by decide +kernel)) (hts (.instantiable RX3 8) (by decide +kernel)) (hts (.initialized RX3) bwi_RX3) hK hP hD hS hA rfl (fun j hj => by rcases (show j = 0 ∨ j = 1 ∨ j = 2 ∨ j = 3 ∨ j = 4 ∨ j = 5 ∨ j = 6 ∨ j = 7 by omega) with rfl | rfl | rfl | rfl | rfl | rfl | rfl | rfl <;> rfl) (Nat.le_of_ble_eq_true rfl) (Nat.le_of_ble_eq_true rfl) dL_law_0 (fun q0 H hP hD hS => ?_)
  have hP : va_P D mmCls (w0_X3 q0) H := hP
  have hD : va_D A (w0_X3 q0) := hD
  refine W.widen (k := 1) (n := 8) (by omega) (by omega) ?_
  refine lv_dup hx hb dL_law_3 rfl ?_
  have hPc := hP.sub (ws' := w0_X3 q0) [0] rfl
  have hDc := hD.sub (ws' := w0_X3 q0) [0] (by decide) rfl
  have hKc := hK.sub (tys' := []) [] rfl
  have hFc := va_free (wc := w0_X3 q0) hD hS hA [0] rfl
  refine va_callv (va_runI (As := []) (rest := [.ref q0]) (Ts := mmBW) ⟨hx, hb, hml, hown, hts⟩ (c_X3 l hfl D G q0 H.size) (cwI 0 hts (mmGood (fun w hw => by rcases List.mem_cons.mp hw with rfl | h; exact (by decide +kernel); exact h)) rfl rfl rfl (hts (.initialized RX3) bwi_RX3) (hts (.methodLink RL 57 yX3_init) (by decide +kernel)) (hts (.instanceMethod yX3_init) (by decide +kernel)) rfl ⟨by decide, by decide, by decide +kernel⟩ ⟨Nat.le_of_ble_eq_true rfl, Nat.le_of_ble_eq_true rfl⟩) ⟨fun a U g mk q => by obtain ⟨q0, q1, qP, qK, qD, qG, qR, qN, qZ, qW⟩ := q; exact ⟨q0, q1, qP, va_K.moved (u := U) (U := U.calling g mk a) (Vm.Alike.refl U.vm) qK, qD, qG, mmKr.same (s := U) rfl qR, (fun q hq => va_Nw.same (u := U) rfl rfl (qN q hq)), vx_Zq.moved (u := U) (Vm.Alike.refl U.vm) qZ, vx_Zq.moved (u := U) (Vm.Alike.refl U.vm) qW⟩, fun U hU hW => ⟨rfl, by rw [hU], by rw [hU]; exact hPc, va_K.moved hW.alike hKc, hDc.weaken (fun _ _ _ _ => trivial), hG.moved hW.alike, mmKr.warm hW hKr, (fun q hq => va_Nw.warmM hW (hN q hq)), by rw [hU]; exact vx_Zq.moved hW.alike (vx_Zq.narrow (hZ.1.kept hS.2.1) hFc), by rw [hU]; exact vx_Zq.moved hW.alike (vx_Zq.narrow (hZ.2.kept hS.2.1) hFc)⟩⟩ rfl rfl hl.1 rfl (lv_room (Nat.le_of_ble_eq_true rfl)) dL_law_4 ⟨Nat.le_of_ble_eq_true rfl, Nat.le_of_ble_eq_true rfl⟩) hS (fun q _ h => hFc q h) hFc (fun u t H1 locs ht hvm hw hB hz1 hk1 hS => ?_)
  obtain ⟨ad, f', hP1, hK1, hD1, had0, hcl, hfr⟩ := hB
  rw [ht] at hP1
  have hK1 := va_K.moved hvm.symm hK1
  obtain ⟨hP, hD⟩ := va_join (wr := []) (w1 := mmW G ad (f', m0.2) 35) hP hD [0] [] rfl rfl (by decide) (by decide) hk1 hFc hP1 hD1
  generalize H1 = H at hP hS ⊢
  have hP : va_P D mmCls (mmW G ad (f', m0.2) 35) H := hP
  have hD : va_D A (mmW G ad (f', m0.2) 35) := hD
  have hK : va_K D mmCls (mmTy G 35) s := hK1
  have hK : va_K D mmCls [(G 0, .int), (G 1, .boolean)] s := hK
  refine W.widen (k := 35) (n := 688) (by omega) (by omega) ?_
  refine lv_astore_n (lv' := [(1, .ref q0), (0, .ref b)]) hx hb dL_law_7 rfl hl (by decide) rfl (fun ls hl => ?_)
  refine va_new (ci := 4) (fs := [.int 0, .int 0, .int 0, .int 0, .null, .null, .null, .null, .null, .int 0, .null, .int 0, .int 0, .null, .null, .null, .null, .null]) (C := RX4) (T := TX4) (N := 18) hx hb hts mmIn4 tyX4 tyX4_ok hown (hts (.classLink RL 58 RX4) (by decide +kernel)) (hts (.instantiable RX4 18) (by decide +kernel)) (hts (.initialized RX4) bwi_RX4) hK hP hD hS hA rfl (fun j hj => by rcases (show j = 0 ∨ j = 1 ∨ j = 2 ∨ j = 3 ∨ j = 4 ∨ j = 5 ∨ j = 6 ∨ j = 7 ∨ j = 8 ∨ j = 9 ∨ j = 10 ∨ j = 11 ∨ j = 12 ∨ j = 13 ∨ j = 14 ∨ j = 15 ∨ j = 16 ∨ j = 17 by omega) with rfl | rfl | rfl | rfl | rfl | rfl | rfl | rfl | rfl | rfl | rfl | rfl | rfl | rfl | rfl | rfl | rfl | rfl <;> rfl) (Nat.le_of_ble_eq_true rfl) (Nat.le_of_ble_eq_true rfl) dL_law_8 (fun h H hP hD hS => ?_)
  have hP : va_P D mmCls (([] ++ mmW G ad (f', m0.2) 35) ++ w0_X4 h) H := hP
  have hD : va_D A (([] ++ mmW G ad (f', m0.2) 35) ++ w0_X4 h) := hD
  have hP : va_P D mmCls (w0_X4 h ++ mmW G ad (f', m0.2) 35) H := hP.swap
  have hD : va_D A (w0_X4 h ++ mmW G ad (f', m0.2) 35) := hD.swap
  refine W.widen (k := 36) (n := 706) (by omega) (by omega) ?_
  refine lv_dup hx hb dL_law_11 rfl ?_
  have hPc := hP.sub (ws' := w0_X4 h) [0] rfl
  have hDc := hD.sub (ws' := w0_X4 h) [0] (by decide) rfl
  have hKc := hK.sub (tys' := []) [] rfl
  have hFc := va_free (wc := w0_X4 h) hD hS hA [0] rfl
  refine va_callv (va_runI (As := []) (rest := [.ref h]) (Ts := mmBW) ⟨hx, hb, hml, hown, hts⟩ (c_X4 l D G h H.size) (cwI 0 hts (mmGood (fun w hw => by rcases List.mem_cons.mp hw with rfl | h; exact (by decide +kernel); exact h)) rfl rfl rfl (hts (.initialized RX4) bwi_RX4) (hts (.methodLink RL 60 yX4_init) (by decide +kernel)) (hts (.instanceMethod yX4_init) (by decide +kernel)) rfl ⟨by decide, by decide, by decide +kernel⟩ ⟨Nat.le_of_ble_eq_true rfl, Nat.le_of_ble_eq_true rfl⟩) ⟨fun a U g mk q => by obtain ⟨q0, q1, qP, qK, qD, qG⟩ := q; exact ⟨q0, q1, qP, va_K.moved (u := U) (U := U.calling g mk a) (Vm.Alike.refl U.vm) qK, qD, qG⟩, fun U hU hW => ⟨rfl, by rw [hU], by rw [hU]; exact hPc, va_K.moved hW.alike hKc, hDc.weaken (fun _ _ _ _ => trivial), hG.moved hW.alike⟩⟩ rfl rfl hl.1 rfl (lv_room (Nat.le_of_ble_eq_true rfl)) dL_law_12 ⟨Nat.le_of_ble_eq_true rfl, Nat.le_of_ble_eq_true rfl⟩) hS (fun q _ h => hFc q h) hFc (fun u t H1 locs ht hvm hw hB hz1 hk1 hS => ?_)
  obtain ⟨q1, q2, q3, q4, q5, q6, q7, q8, q9, q10, q11, hP1, hK1, hD1⟩ := hB
  rw [ht] at hP1
  obtain ⟨hP, hD⟩ := va_joinQ (X := w0_X4 h) (cx := w0_X4 h) (wr := []) (w1 := w1_X4 G h q1 q2 q3 q4 q5 q6 q7 q8 q9 q10 q11) (pl := mmW G ad (f', m0.2) 35) hP hD [0] [] rfl rfl (by decide) (by decide) hk1 hFc hP1 hD1
  generalize H1 = H at hP hS ⊢
  have hP : va_P D mmCls (w1_X4 G h q1 q2 q3 q4 q5 q6 q7 q8 q9 q10 q11 ++ mmW G ad (f', m0.2) 35) H := hP
  have hD : va_D A (w1_X4 G h q1 q2 q3 q4 q5 q6 q7 q8 q9 q10 q11 ++ mmW G ad (f', m0.2) 35) := hD
  refine W.widen (k := 47) (n := 966) (by omega) (by omega) ?_
  refine lv_astore_n (lv' := [(2, .ref h), (1, .ref q0), (0, .ref b)]) hx hb dL_law_15 rfl hl (by decide) rfl (fun ls hl => ?_)
  refine lv_iconst (v := 1) hx hb dL_law_16 (by decide) ?_
  refine va_newa (atype := .long) (ty := .long) (a0 := mmZJ) (N' := 1) hx hb (hts (.arrayClass .long) (by decide +kernel)) rfl hK hP hD hS hA (fun _ => rfl) (by decide) (by decide) (by decide) (Nat.le_of_ble_eq_true rfl) (Nat.le_of_ble_eq_true rfl) dL_law_17 (fun z cA H hK hP hD hS => ?_)
  obtain rfl : cA = G 2 := Option.some.inj ((hK.2 2 _ rfl).2.symm.trans hG2)
  have hP : va_P D mmCls (mmW G (adL ad b h q1 q2 q3 q4 q5 q6 q7 q8 q9 q10 q11 z) (fR f', m0.2) 48) H := adL_P hfr hP
  have hD : va_D A (mmW G (adL ad b h q1 q2 q3 q4 q5 q6 q7 q8 q9 q10 q11 z) (fR f', m0.2) 48) := adL_D hfr hD
  have hK : va_K D mmCls (mmTy G 48) s := hK
  refine W.widen (k := 48) (n := 967) (by omega) (by omega) ?_
  refine lv_astore_n (lv' := [(3, .ref z), (2, .ref h), (1, .ref q0), (0, .ref b)]) hx hb dL_law_19 rfl hl (by decide) rfl (fun ls hl => ?_)
  refine lv_iconst (v := 0) hx hb dL_law_20 (by decide) ?_
  refine lv_istore (lv' := [(4, .int 0), (3, .ref z), (2, .ref h), (1, .ref q0), (0, .ref b)]) hx hb dL_law_21 hl (by decide) rfl (fun ls hl => ?_)
  obtain ⟨a2, ha2⟩ : ∃ a2 : Nat → Nat, a2 = adL ad b h q1 q2 q3 q4 q5 q6 q7 q8 q9 q10 q11 z := ⟨_, rfl⟩
  rw [← ha2] at hP hD
  have a0 : a2 0 = q0 := by rw [ha2, adL_lo (by omega)]; exact had0
  have a35 : a2 35 = h := by rw [ha2]; rfl
  have a47 : a2 47 = z := by rw [ha2]; rfl
  have a99 : a2 99 = b := by rw [ha2]; rfl
  obtain ⟨fuel, M', hgo, h512⟩ := loop_first (g := xs) hL hcl hfr
  have hLR : mmLR a2 ls [.ref 99, .ref 0, .ref 35, .ref 47, .int 0, .null, .null, .null, .null] := mmLR.less hl rfl (fun q hq => by
    obtain ⟨v, h1, h2, h3⟩ := mmK_mem.mp hq
    obtain ⟨j, y⟩ := q
    simp only at h1 h3
    subst h3
    have hj : j < 9 := (List.getElem?_eq_some_iff.mp h1).1
    rcases (show j = 0 ∨ j = 1 ∨ j = 2 ∨ j = 3 ∨ j = 4 ∨ j = 5 ∨ j = 6 ∨ j = 7 ∨ j = 8 by omega) with rfl | rfl | rfl | rfl | rfl | rfl | rfl | rfl | rfl
    · cases h1; simp [mmV, a99]
    · cases h1; simp [mmV, a0]
    · cases h1; simp [mmV, a35]
    · cases h1; simp [mmV, a47]
    · cases h1; simp [mmV]
    · cases h1; exact absurd rfl h2
    · cases h1; exact absurd rfl h2
    · cases h1; exact absurd rfl h2
    · cases h1; exact absurd rfl h2)
  refine mmBody_all l hfl fuel p e room_1 s m #[Value.ref b] below meth c H _ 48 967 Q D G a2 48 126 mr126 RL A (some (L, xs)) 23 [.ref 99, .ref 0, .ref 35, .ref 47, .int 0, .null, .null, .null, .null] [] ls (fR f', m0.2) M' (.inl (some (.int 1))) 0 48 967 hx hb hml (by omega) row_126 rfl hown (by rw [htab]; rfl) hts ⟨hK, hKr⟩ hZ ?_ hA (Nat.le_of_ble_eq_true rfl) (Nat.le_of_ble_eq_true rfl) (Nat.le_of_ble_eq_true rfl) rfl rfl (by show 48 + M'.2.2 ≤ 1084 + 0; omega) (by show 967 + 6 * M'.2.2 ≤ 9231 + 6 * 0; omega) hP hD hS hLR hgo ?_ (fun ee q ce pc1 lsR1 rest1 H1 locs1 cells1 slots1 ho => by cases ho) (fun ee pc1 lsR1 H1 locs1 cells1 slots1 M1 ho => by cases ho)
  · intro L9 xs9 h9
    cases h9
    rw [a99]
    exact ⟨hX, hbl, hbA⟩
  · intro v pc1 ins1 lsR1 st1 H1 locs1 cells1 slots1 ho hd1 hE hP1 hD1 hS1 hc1 hs1
    cases ho
    obtain ⟨rfl, rfl⟩ := mmE_one hE
    refine va_forget (fun q hq => hAs _ (hS1.2.2 q hq)) ?_
    exact kk pc1 lsR1 H1 cells1 slots1 hd1 (by omega) (by omega)
