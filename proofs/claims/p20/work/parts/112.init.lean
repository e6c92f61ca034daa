/-! the constructors of Row, Study, Hanging -/
def mmAC (G : Nat → ClassId) (U : State) : Prop := U.vm.findClass ("[" ++ (FieldType.int).toString) = some (G 0) ∧ U.vm.findClass ("[" ++ (FieldType.boolean).toString) = some (G 1)
def mmZ (m : Nat) : vp_A := (m, .inl (fun _ => 0))
def w0_X1 (h0 : Nat) : va_W := [(h0, .inr (1, [.null, .null, .null, .null, .null, .int 0]))]
def w1_X1 (G : Nat → ClassId) (h0 q1 q2 q3 q4 q5 : Nat) : va_W := [(h0, .inr (1, [.ref q1, .ref q2, .ref q3, .ref q4, .ref q5, .int 0])), (q1, .inl (G 0, mmZ 30)), (q2, .inl (G 0, mmZ 30)), (q3, .inl (G 0, mmZ 30)), (q4, .inl (G 0, mmZ 30)), (q5, .inl (G 1, mmZ 30))]
set_option maxHeartbeats 4000000 in
set_option maxRecDepth 100000 in
theorem c_X1 (l : Launch) (D : va_G) (G : Nat → ClassId) (h0 sz : Nat) : Met l yX1_init (Cond.code yX1_init cX1_init 1 none :: mmBW) ({ frames := 1, cells := 5, slots := 150, locals := 12 }) (va_Pc [.ref h0] (fun U => U.heap.size = sz ∧ va_P D mmCls (w0_X1 h0) U.heap ∧ va_K D mmCls [] U ∧ va_D (fun _ => True) (w0_X1 h0) ∧ mmAC G U)) (va_Qv (fun _ : Unit => True) (fun _ t => ∃ q1 q2 q3 q4 q5 : Nat, va_P D mmCls (w1_X1 G h0 q1 q2 q3 q4 q5) t.heap ∧ va_K D mmCls [(G 0, .int), (G 1, .boolean)] t ∧ va_D (va_A (w0_X1 h0) sz) (w1_X1 G h0 q1 q2 q3 q4 q5)) (va_A (w0_X1 h0) sz)) 5 150 (va_A (w0_X1 h0) sz) := by
  refine Met.ofW (cc := cX1_init) (maxL := 1) (ret := none) (by decide) rfl ?_
  intro p e s m args below meth c s₁ B hml hv
  obtain ⟨rfl, hsz, hP, hK, hD0, hG⟩ := hv
  have hx := B.exec
  have hb := B.bytes
  have hr := B.returns
  have hts := atoms_spec (ws := Cond.code yX1_init cX1_init 1 none :: mmBW) B.pre
  have hbw : ∀ {w : Cond}, w ∈ mmBW → w ∈ Cond.code yX1_init cX1_init 1 none :: mmBW := fun h => List.mem_cons_of_mem _ h
  have hown : s.vm.findClass RX1 = some m.cls := findClass_of_methodNamed B.named
  have hlocks := B.notSynchronized
  have hin : meth.name = "<init>" := (name_of_methodNamed B.named B.method).1
  subst hsz
  have hD := hD0.self (sz := s.heap.size)
  generalize hAe : va_A (w0_X1 h0) s.heap.size = A at hD ⊢
  have hA : ∀ q : Nat, s.heap.size ≤ q → A q := fun q h => by rw [← hAe]; exact Or.inr h
  have hS : va_S A s.heap s.heap [] := va_S.rf
  have hP : va_P D mmCls [(h0, .inr (1, [.null, .null, .null, .null, .null, .int 0]))] s.heap := hP
  have hD : va_D A [(h0, .inr (1, [.null, .null, .null, .null, .null, .int 0]))] := hD
  have hl := lv_entry ([.ref h0]) (n := 1) (Nat.le_of_ble_eq_true rfl)
  rw [lg_entry_eq]
  generalize (lg_sl ([.ref h0]) ++ List.replicate (1 - (lg_sl ([.ref h0])).length) Slot.unset).toArray = ls at hl ⊢
  have hl : lv_has ls 1 [(0, .ref h0)] := hl
  refine lv_aload_n hx hb dX1_init_0 rfl (lv_at hl 0 rfl) ?_
  refine W.objInit hx hb hown (hts (.methodLink RX1 3 objectInit) (hbw (by decide +kernel))) (hts (.instanceMethod objectInit) (hbw (by decide +kernel))) (hts _ (hbw (show Cond.code objectInit ⟨#[0xb1]⟩ 1 none ∈ mmBW by decide +kernel))) rfl (by rw [hml]; exact hl.1) rfl dX1_init_1 (Nat.le_of_ble_eq_true rfl) (Nat.le_of_ble_eq_true rfl) ?_
  refine W.eq (g2 := F0 m 4 ls []) rfl ?_
  refine lv_aload_n hx hb dX1_init_4 rfl (lv_at hl 0 rfl) ?_
  refine lv_bipush (v := 30) hx hb dX1_init_5 (by decide) ?_
  refine va_newa (atype := .int) (ty := .int) (a0 := mmZ 30) (N' := 30) hx hb (hts (.arrayClass .int) (hbw (by decide +kernel))) rfl hK hP hD hS hA (fun _ => rfl) (by decide) (by decide) (by decide) (by decide) (by decide) dX1_init_7 (fun q1 cA H hK hP hD hS => ?_)
  obtain rfl : cA = G 0 := Option.some.inj ((hK.2 0 _ rfl).2.symm.trans hG.1)
  have hP : va_P D mmCls [(h0, .inr (1, [.null, .null, .null, .null, .null, .int 0])), (q1, .inl (G 0, mmZ 30))] H := hP
  have hD : va_D A [(h0, .inr (1, [.null, .null, .null, .null, .null, .int 0])), (q1, .inl (G 0, mmZ 30))] := hD
  have hK : va_K D mmCls [(G 0, .int)] s := hK
  refine va_putF (D := D) (ci := 1) (v := .ref q1) (ty := .array .int) (C := RX1) (T := TX1) (N := 6) hx hb hts (fun w h => hbw (mmIn1 w h)) tyX1 tyX1_ok nmX1 hown hK hP hD hS 0 rfl rfl 0 (by decide) (hts (.fieldLink RX1 9 "HookColours$Row" "filled" "[I") (hbw (by decide +kernel))) (fun _ h9 => h9) rfl hin rfl (by decide +kernel) rfl rfl (Nat.le_of_ble_eq_true rfl) dX1_init_9 (fun H locs hP hD hS => ?_)
  have hP : va_P D mmCls [(h0, .inr (1, [.ref q1, .null, .null, .null, .null, .int 0])), (q1, .inl (G 0, mmZ 30))] H := hP
  have hD : va_D A [(h0, .inr (1, [.ref q1, .null, .null, .null, .null, .int 0])), (q1, .inl (G 0, mmZ 30))] := hD
  refine lv_aload_n hx hb dX1_init_12 rfl (lv_at hl 0 rfl) ?_
  refine lv_bipush (v := 30) hx hb dX1_init_13 (by decide) ?_
  refine va_newa (atype := .int) (ty := .int) (a0 := mmZ 30) (N' := 30) hx hb (hts (.arrayClass .int) (hbw (by decide +kernel))) rfl hK hP hD hS hA (fun _ => rfl) (by decide) (by decide) (by decide) (by decide) (by decide) dX1_init_15 (fun q2 cA H hK hP hD hS => ?_)
  obtain rfl : cA = G 0 := Option.some.inj ((hK.2 1 _ rfl).2.symm.trans hG.1)
  have hP : va_P D mmCls [(h0, .inr (1, [.ref q1, .null, .null, .null, .null, .int 0])), (q1, .inl (G 0, mmZ 30)), (q2, .inl (G 0, mmZ 30))] H := hP
  have hD : va_D A [(h0, .inr (1, [.ref q1, .null, .null, .null, .null, .int 0])), (q1, .inl (G 0, mmZ 30)), (q2, .inl (G 0, mmZ 30))] := hD
  have hK : va_K D mmCls [(G 0, .int), (G 0, .int)] s := hK
  refine va_putF (D := D) (ci := 1) (v := .ref q2) (ty := .array .int) (C := RX1) (T := TX1) (N := 6) hx hb hts (fun w h => hbw (mmIn1 w h)) tyX1 tyX1_ok nmX1 hown hK hP hD hS 0 rfl rfl 1 (by decide) (hts (.fieldLink RX1 15 "HookColours$Row" "first" "[I") (hbw (by decide +kernel))) (fun _ h9 => h9) rfl hin rfl (by decide +kernel) rfl rfl (Nat.le_of_ble_eq_true rfl) dX1_init_17 (fun H locs hP hD hS => ?_)
  have hP : va_P D mmCls [(h0, .inr (1, [.ref q1, .ref q2, .null, .null, .null, .int 0])), (q1, .inl (G 0, mmZ 30)), (q2, .inl (G 0, mmZ 30))] H := hP
  have hD : va_D A [(h0, .inr (1, [.ref q1, .ref q2, .null, .null, .null, .int 0])), (q1, .inl (G 0, mmZ 30)), (q2, .inl (G 0, mmZ 30))] := hD
  refine lv_aload_n hx hb dX1_init_20 rfl (lv_at hl 0 rfl) ?_
  refine lv_bipush (v := 30) hx hb dX1_init_21 (by decide) ?_
  refine va_newa (atype := .int) (ty := .int) (a0 := mmZ 30) (N' := 30) hx hb (hts (.arrayClass .int) (hbw (by decide +kernel))) rfl hK hP hD hS hA (fun _ => rfl) (by decide) (by decide) (by decide) (by decide) (by decide) dX1_init_23 (fun q3 cA H hK hP hD hS => ?_)
  obtain rfl : cA = G 0 := Option.some.inj ((hK.2 2 _ rfl).2.symm.trans hG.1)
  have hP : va_P D mmCls [(h0, .inr (1, [.ref q1, .ref q2, .null, .null, .null, .int 0])), (q1, .inl (G 0, mmZ 30)), (q2, .inl (G 0, mmZ 30)), (q3, .inl (G 0, mmZ 30))] H := hP
  have hD : va_D A [(h0, .inr (1, [.ref q1, .ref q2, .null, .null, .null, .int 0])), (q1, .inl (G 0, mmZ 30)), (q2, .inl (G 0, mmZ 30)), (q3, .inl (G 0, mmZ 30))] := hD
  have hK : va_K D mmCls [(G 0, .int), (G 0, .int), (G 0, .int)] s := hK
  refine va_putF (D := D) (ci := 1) (v := .ref q3) (ty := .array .int) (C := RX1) (T := TX1) (N := 6) hx hb hts (fun w h => hbw (mmIn1 w h)) tyX1 tyX1_ok nmX1 hown hK hP hD hS 0 rfl rfl 2 (by decide) (hts (.fieldLink RX1 18 "HookColours$Row" "second" "[I") (hbw (by decide +kernel))) (fun _ h9 => h9) rfl hin rfl (by decide +kernel) rfl rfl (Nat.le_of_ble_eq_true rfl) dX1_init_25 (fun H locs hP hD hS => ?_)
  have hP : va_P D mmCls [(h0, .inr (1, [.ref q1, .ref q2, .ref q3, .null, .null, .int 0])), (q1, .inl (G 0, mmZ 30)), (q2, .inl (G 0, mmZ 30)), (q3, .inl (G 0, mmZ 30))] H := hP
  have hD : va_D A [(h0, .inr (1, [.ref q1, .ref q2, .ref q3, .null, .null, .int 0])), (q1, .inl (G 0, mmZ 30)), (q2, .inl (G 0, mmZ 30)), (q3, .inl (G 0, mmZ 30))] := hD
  refine lv_aload_n hx hb dX1_init_28 rfl (lv_at hl 0 rfl) ?_
  refine lv_bipush (v := 30) hx hb dX1_init_29 (by decide) ?_
  refine va_newa (atype := .int) (ty := .int) (a0 := mmZ 30) (N' := 30) hx hb (hts (.arrayClass .int) (hbw (by decide +kernel))) rfl hK hP hD hS hA (fun _ => rfl) (by decide) (by decide) (by decide) (by decide) (by decide) dX1_init_31 (fun q4 cA H hK hP hD hS => ?_)
  obtain rfl : cA = G 0 := Option.some.inj ((hK.2 3 _ rfl).2.symm.trans hG.1)
  have hP : va_P D mmCls [(h0, .inr (1, [.ref q1, .ref q2, .ref q3, .null, .null, .int 0])), (q1, .inl (G 0, mmZ 30)), (q2, .inl (G 0, mmZ 30)), (q3, .inl (G 0, mmZ 30)), (q4, .inl (G 0, mmZ 30))] H := hP
  have hD : va_D A [(h0, .inr (1, [.ref q1, .ref q2, .ref q3, .null, .null, .int 0])), (q1, .inl (G 0, mmZ 30)), (q2, .inl (G 0, mmZ 30)), (q3, .inl (G 0, mmZ 30)), (q4, .inl (G 0, mmZ 30))] := hD
  have hK : va_K D mmCls [(G 0, .int), (G 0, .int), (G 0, .int), (G 0, .int)] s := hK
  refine va_putF (D := D) (ci := 1) (v := .ref q4) (ty := .array .int) (C := RX1) (T := TX1) (N := 6) hx hb hts (fun w h => hbw (mmIn1 w h)) tyX1 tyX1_ok nmX1 hown hK hP hD hS 0 rfl rfl 3 (by decide) (hts (.fieldLink RX1 21 "HookColours$Row" "weight" "[I") (hbw (by decide +kernel))) (fun _ h9 => h9) rfl hin rfl (by decide +kernel) rfl rfl (Nat.le_of_ble_eq_true rfl) dX1_init_33 (fun H locs hP hD hS => ?_)
  have hP : va_P D mmCls [(h0, .inr (1, [.ref q1, .ref q2, .ref q3, .ref q4, .null, .int 0])), (q1, .inl (G 0, mmZ 30)), (q2, .inl (G 0, mmZ 30)), (q3, .inl (G 0, mmZ 30)), (q4, .inl (G 0, mmZ 30))] H := hP
  have hD : va_D A [(h0, .inr (1, [.ref q1, .ref q2, .ref q3, .ref q4, .null, .int 0])), (q1, .inl (G 0, mmZ 30)), (q2, .inl (G 0, mmZ 30)), (q3, .inl (G 0, mmZ 30)), (q4, .inl (G 0, mmZ 30))] := hD
  refine lv_aload_n hx hb dX1_init_36 rfl (lv_at hl 0 rfl) ?_
  refine lv_bipush (v := 30) hx hb dX1_init_37 (by decide) ?_
  refine va_newa (atype := .boolean) (ty := .boolean) (a0 := mmZ 30) (N' := 30) hx hb (hts (.arrayClass .boolean) (hbw (by decide +kernel))) rfl hK hP hD hS hA (fun _ => rfl) (by decide) (by decide) (by decide) (by decide) (by decide) dX1_init_39 (fun q5 cA H hK hP hD hS => ?_)
  obtain rfl : cA = G 1 := Option.some.inj ((hK.2 4 _ rfl).2.symm.trans hG.2)
  have hP : va_P D mmCls [(h0, .inr (1, [.ref q1, .ref q2, .ref q3, .ref q4, .null, .int 0])), (q1, .inl (G 0, mmZ 30)), (q2, .inl (G 0, mmZ 30)), (q3, .inl (G 0, mmZ 30)), (q4, .inl (G 0, mmZ 30)), (q5, .inl (G 1, mmZ 30))] H := hP
  have hD : va_D A [(h0, .inr (1, [.ref q1, .ref q2, .ref q3, .ref q4, .null, .int 0])), (q1, .inl (G 0, mmZ 30)), (q2, .inl (G 0, mmZ 30)), (q3, .inl (G 0, mmZ 30)), (q4, .inl (G 0, mmZ 30)), (q5, .inl (G 1, mmZ 30))] := hD
  have hK : va_K D mmCls [(G 0, .int), (G 0, .int), (G 0, .int), (G 0, .int), (G 1, .boolean)] s := hK
  refine va_putF (D := D) (ci := 1) (v := .ref q5) (ty := .array .boolean) (C := RX1) (T := TX1) (N := 6) hx hb hts (fun w h => hbw (mmIn1 w h)) tyX1 tyX1_ok nmX1 hown hK hP hD hS 0 rfl rfl 4 (by decide) (hts (.fieldLink RX1 24 "HookColours$Row" "pouring" "[Z") (hbw (by decide +kernel))) (fun _ h9 => h9) rfl hin rfl (by decide +kernel) rfl rfl (Nat.le_of_ble_eq_true rfl) dX1_init_41 (fun H locs hP hD hS => ?_)
  have hP : va_P D mmCls [(h0, .inr (1, [.ref q1, .ref q2, .ref q3, .ref q4, .ref q5, .int 0])), (q1, .inl (G 0, mmZ 30)), (q2, .inl (G 0, mmZ 30)), (q3, .inl (G 0, mmZ 30)), (q4, .inl (G 0, mmZ 30)), (q5, .inl (G 1, mmZ 30))] H := hP
  have hD : va_D A [(h0, .inr (1, [.ref q1, .ref q2, .ref q3, .ref q4, .ref q5, .int 0])), (q1, .inl (G 0, mmZ 30)), (q2, .inl (G 0, mmZ 30)), (q3, .inl (G 0, mmZ 30)), (q4, .inl (G 0, mmZ 30)), (q5, .inl (G 1, mmZ 30))] := hD
  refine lv_aload_n hx hb dX1_init_44 rfl (lv_at hl 0 rfl) ?_
  refine lv_iconst (v := 0) hx hb dX1_init_45 (by decide) ?_
  refine va_put (D := D) (ci := 1) (v := .int 0) (ty := .int) (C := RX1) (T := TX1) (N := 6) hx hb hts (fun w h => hbw (mmIn1 w h)) tyX1 tyX1_ok nmX1 hown hK hP hD hS 0 rfl rfl 5 (by decide) (hts (.fieldLink RX1 28 "HookColours$Row" "size" "I") (hbw (by decide +kernel))) (fun _ h9 => h9) rfl (by decide +kernel) rfl rfl (Nat.le_of_ble_eq_true rfl) dX1_init_46 (fun H locs hP hD hS => ?_)
  have hP : va_P D mmCls [(h0, .inr (1, [.ref q1, .ref q2, .ref q3, .ref q4, .ref q5, .int 0])), (q1, .inl (G 0, mmZ 30)), (q2, .inl (G 0, mmZ 30)), (q3, .inl (G 0, mmZ 30)), (q4, .inl (G 0, mmZ 30)), (q5, .inl (G 1, mmZ 30))] H := hP
  have hD : va_D A [(h0, .inr (1, [.ref q1, .ref q2, .ref q3, .ref q4, .ref q5, .int 0])), (q1, .inl (G 0, mmZ 30)), (q2, .inl (G 0, mmZ 30)), (q3, .inl (G 0, mmZ 30)), (q4, .inl (G 0, mmZ 30)), (q5, .inl (G 1, mmZ 30))] := hD
  have hK9 := hK.sub (tys' := [(G 0, .int), (G 1, .boolean)]) [0, 4] rfl
  exact W.vret hx hb hr (fun t ht hW => ⟨⟨(), rfl, trivial, q1, q2, q3, q4, q5, by rw [ht]; exact hP, va_K.moved hW.alike hK9, hD⟩, hS.F ht⟩) hS.2.2 dX1_init_49
def w0_X2 (h0 : Nat) : va_W := [(h0, .inr (2, [.null, .null, .null, .null, .null, .int 0, .int 0]))]
def w1_X2 (G : Nat → ClassId) (h0 q1 q2 q3 q4 q5 : Nat) : va_W := [(h0, .inr (2, [.ref q1, .ref q2, .ref q3, .ref q4, .ref q5, .int 0, .int 0])), (q1, .inl (G 0, mmZ 30)), (q2, .inl (G 0, mmZ 30)), (q3, .inl (G 0, mmZ 16)), (q4, .inl (G 0, mmZ 16)), (q5, .inl (G 0, mmZ 16))]
set_option maxHeartbeats 4000000 in
set_option maxRecDepth 100000 in
theorem c_X2 (l : Launch) (D : va_G) (G : Nat → ClassId) (h0 sz : Nat) : Met l yX2_init (Cond.code yX2_init cX2_init 1 none :: mmBW) ({ frames := 1, cells := 5, slots := 108, locals := 12 }) (va_Pc [.ref h0] (fun U => U.heap.size = sz ∧ va_P D mmCls (w0_X2 h0) U.heap ∧ va_K D mmCls [] U ∧ va_D (fun _ => True) (w0_X2 h0) ∧ mmAC G U)) (va_Qv (fun _ : Unit => True) (fun _ t => ∃ q1 q2 q3 q4 q5 : Nat, va_P D mmCls (w1_X2 G h0 q1 q2 q3 q4 q5) t.heap ∧ va_K D mmCls [(G 0, .int)] t ∧ va_D (va_A (w0_X2 h0) sz) (w1_X2 G h0 q1 q2 q3 q4 q5)) (va_A (w0_X2 h0) sz)) 5 108 (va_A (w0_X2 h0) sz) := by
  refine Met.ofW (cc := cX2_init) (maxL := 1) (ret := none) (by decide) rfl ?_
  intro p e s m args below meth c s₁ B hml hv
  obtain ⟨rfl, hsz, hP, hK, hD0, hG⟩ := hv
  have hx := B.exec
  have hb := B.bytes
  have hr := B.returns
  have hts := atoms_spec (ws := Cond.code yX2_init cX2_init 1 none :: mmBW) B.pre
  have hbw : ∀ {w : Cond}, w ∈ mmBW → w ∈ Cond.code yX2_init cX2_init 1 none :: mmBW := fun h => List.mem_cons_of_mem _ h
  have hown : s.vm.findClass RX2 = some m.cls := findClass_of_methodNamed B.named
  have hlocks := B.notSynchronized
  have hin : meth.name = "<init>" := (name_of_methodNamed B.named B.method).1
  subst hsz
  have hD := hD0.self (sz := s.heap.size)
  generalize hAe : va_A (w0_X2 h0) s.heap.size = A at hD ⊢
  have hA : ∀ q : Nat, s.heap.size ≤ q → A q := fun q h => by rw [← hAe]; exact Or.inr h
  have hS : va_S A s.heap s.heap [] := va_S.rf
  have hP : va_P D mmCls [(h0, .inr (2, [.null, .null, .null, .null, .null, .int 0, .int 0]))] s.heap := hP
  have hD : va_D A [(h0, .inr (2, [.null, .null, .null, .null, .null, .int 0, .int 0]))] := hD
  have hl := lv_entry ([.ref h0]) (n := 1) (Nat.le_of_ble_eq_true rfl)
  rw [lg_entry_eq]
  generalize (lg_sl ([.ref h0]) ++ List.replicate (1 - (lg_sl ([.ref h0])).length) Slot.unset).toArray = ls at hl ⊢
  have hl : lv_has ls 1 [(0, .ref h0)] := hl
  refine lv_aload_n hx hb dX2_init_0 rfl (lv_at hl 0 rfl) ?_
  refine W.objInit hx hb hown (hts (.methodLink RX2 3 objectInit) (hbw (by decide +kernel))) (hts (.instanceMethod objectInit) (hbw (by decide +kernel))) (hts _ (hbw (show Cond.code objectInit ⟨#[0xb1]⟩ 1 none ∈ mmBW by decide +kernel))) rfl (by rw [hml]; exact hl.1) rfl dX2_init_1 (Nat.le_of_ble_eq_true rfl) (Nat.le_of_ble_eq_true rfl) ?_
  refine W.eq (g2 := F0 m 4 ls []) rfl ?_
  refine lv_aload_n hx hb dX2_init_4 rfl (lv_at hl 0 rfl) ?_
  refine lv_bipush (v := 30) hx hb dX2_init_5 (by decide) ?_
  refine va_newa (atype := .int) (ty := .int) (a0 := mmZ 30) (N' := 30) hx hb (hts (.arrayClass .int) (hbw (by decide +kernel))) rfl hK hP hD hS hA (fun _ => rfl) (by decide) (by decide) (by decide) (by decide) (by decide) dX2_init_7 (fun q1 cA H hK hP hD hS => ?_)
  obtain rfl : cA = G 0 := Option.some.inj ((hK.2 0 _ rfl).2.symm.trans hG.1)
  have hP : va_P D mmCls [(h0, .inr (2, [.null, .null, .null, .null, .null, .int 0, .int 0])), (q1, .inl (G 0, mmZ 30))] H := hP
  have hD : va_D A [(h0, .inr (2, [.null, .null, .null, .null, .null, .int 0, .int 0])), (q1, .inl (G 0, mmZ 30))] := hD
  have hK : va_K D mmCls [(G 0, .int)] s := hK
  refine va_putF (D := D) (ci := 2) (v := .ref q1) (ty := .array .int) (C := RX2) (T := TX2) (N := 7) hx hb hts (fun w h => hbw (mmIn2 w h)) tyX2 tyX2_ok nmX2 hown hK hP hD hS 0 rfl rfl 0 (by decide) (hts (.fieldLink RX2 9 "HookColours$Study" "behind" "[I") (hbw (by decide +kernel))) (fun _ h9 => h9) rfl hin rfl (by decide +kernel) rfl rfl (Nat.le_of_ble_eq_true rfl) dX2_init_9 (fun H locs hP hD hS => ?_)
  have hP : va_P D mmCls [(h0, .inr (2, [.ref q1, .null, .null, .null, .null, .int 0, .int 0])), (q1, .inl (G 0, mmZ 30))] H := hP
  have hD : va_D A [(h0, .inr (2, [.ref q1, .null, .null, .null, .null, .int 0, .int 0])), (q1, .inl (G 0, mmZ 30))] := hD
  refine lv_aload_n hx hb dX2_init_12 rfl (lv_at hl 0 rfl) ?_
  refine lv_bipush (v := 30) hx hb dX2_init_13 (by decide) ?_
  refine va_newa (atype := .int) (ty := .int) (a0 := mmZ 30) (N' := 30) hx hb (hts (.arrayClass .int) (hbw (by decide +kernel))) rfl hK hP hD hS hA (fun _ => rfl) (by decide) (by decide) (by decide) (by decide) (by decide) dX2_init_15 (fun q2 cA H hK hP hD hS => ?_)
  obtain rfl : cA = G 0 := Option.some.inj ((hK.2 1 _ rfl).2.symm.trans hG.1)
  have hP : va_P D mmCls [(h0, .inr (2, [.ref q1, .null, .null, .null, .null, .int 0, .int 0])), (q1, .inl (G 0, mmZ 30)), (q2, .inl (G 0, mmZ 30))] H := hP
  have hD : va_D A [(h0, .inr (2, [.ref q1, .null, .null, .null, .null, .int 0, .int 0])), (q1, .inl (G 0, mmZ 30)), (q2, .inl (G 0, mmZ 30))] := hD
  have hK : va_K D mmCls [(G 0, .int), (G 0, .int)] s := hK
  refine va_putF (D := D) (ci := 2) (v := .ref q2) (ty := .array .int) (C := RX2) (T := TX2) (N := 7) hx hb hts (fun w h => hbw (mmIn2 w h)) tyX2 tyX2_ok nmX2 hown hK hP hD hS 0 rfl rfl 1 (by decide) (hts (.fieldLink RX2 15 "HookColours$Study" "ahead" "[I") (hbw (by decide +kernel))) (fun _ h9 => h9) rfl hin rfl (by decide +kernel) rfl rfl (Nat.le_of_ble_eq_true rfl) dX2_init_17 (fun H locs hP hD hS => ?_)
  have hP : va_P D mmCls [(h0, .inr (2, [.ref q1, .ref q2, .null, .null, .null, .int 0, .int 0])), (q1, .inl (G 0, mmZ 30)), (q2, .inl (G 0, mmZ 30))] H := hP
  have hD : va_D A [(h0, .inr (2, [.ref q1, .ref q2, .null, .null, .null, .int 0, .int 0])), (q1, .inl (G 0, mmZ 30)), (q2, .inl (G 0, mmZ 30))] := hD
  refine lv_aload_n hx hb dX2_init_20 rfl (lv_at hl 0 rfl) ?_
  refine lv_bipush (v := 16) hx hb dX2_init_21 (by decide) ?_
  refine va_newa (atype := .int) (ty := .int) (a0 := mmZ 16) (N' := 16) hx hb (hts (.arrayClass .int) (hbw (by decide +kernel))) rfl hK hP hD hS hA (fun _ => rfl) (by decide) (by decide) (by decide) (by decide) (by decide) dX2_init_23 (fun q3 cA H hK hP hD hS => ?_)
  obtain rfl : cA = G 0 := Option.some.inj ((hK.2 2 _ rfl).2.symm.trans hG.1)
  have hP : va_P D mmCls [(h0, .inr (2, [.ref q1, .ref q2, .null, .null, .null, .int 0, .int 0])), (q1, .inl (G 0, mmZ 30)), (q2, .inl (G 0, mmZ 30)), (q3, .inl (G 0, mmZ 16))] H := hP
  have hD : va_D A [(h0, .inr (2, [.ref q1, .ref q2, .null, .null, .null, .int 0, .int 0])), (q1, .inl (G 0, mmZ 30)), (q2, .inl (G 0, mmZ 30)), (q3, .inl (G 0, mmZ 16))] := hD
  have hK : va_K D mmCls [(G 0, .int), (G 0, .int), (G 0, .int)] s := hK
  refine va_putF (D := D) (ci := 2) (v := .ref q3) (ty := .array .int) (C := RX2) (T := TX2) (N := 7) hx hb hts (fun w h => hbw (mmIn2 w h)) tyX2 tyX2_ok nmX2 hown hK hP hD hS 0 rfl rfl 2 (by decide) (hts (.fieldLink RX2 18 "HookColours$Study" "clashes" "[I") (hbw (by decide +kernel))) (fun _ h9 => h9) rfl hin rfl (by decide +kernel) rfl rfl (Nat.le_of_ble_eq_true rfl) dX2_init_25 (fun H locs hP hD hS => ?_)
  have hP : va_P D mmCls [(h0, .inr (2, [.ref q1, .ref q2, .ref q3, .null, .null, .int 0, .int 0])), (q1, .inl (G 0, mmZ 30)), (q2, .inl (G 0, mmZ 30)), (q3, .inl (G 0, mmZ 16))] H := hP
  have hD : va_D A [(h0, .inr (2, [.ref q1, .ref q2, .ref q3, .null, .null, .int 0, .int 0])), (q1, .inl (G 0, mmZ 30)), (q2, .inl (G 0, mmZ 30)), (q3, .inl (G 0, mmZ 16))] := hD
  refine lv_aload_n hx hb dX2_init_28 rfl (lv_at hl 0 rfl) ?_
  refine lv_bipush (v := 16) hx hb dX2_init_29 (by decide) ?_
  refine va_newa (atype := .int) (ty := .int) (a0 := mmZ 16) (N' := 16) hx hb (hts (.arrayClass .int) (hbw (by decide +kernel))) rfl hK hP hD hS hA (fun _ => rfl) (by decide) (by decide) (by decide) (by decide) (by decide) dX2_init_31 (fun q4 cA H hK hP hD hS => ?_)
  obtain rfl : cA = G 0 := Option.some.inj ((hK.2 3 _ rfl).2.symm.trans hG.1)
  have hP : va_P D mmCls [(h0, .inr (2, [.ref q1, .ref q2, .ref q3, .null, .null, .int 0, .int 0])), (q1, .inl (G 0, mmZ 30)), (q2, .inl (G 0, mmZ 30)), (q3, .inl (G 0, mmZ 16)), (q4, .inl (G 0, mmZ 16))] H := hP
  have hD : va_D A [(h0, .inr (2, [.ref q1, .ref q2, .ref q3, .null, .null, .int 0, .int 0])), (q1, .inl (G 0, mmZ 30)), (q2, .inl (G 0, mmZ 30)), (q3, .inl (G 0, mmZ 16)), (q4, .inl (G 0, mmZ 16))] := hD
  have hK : va_K D mmCls [(G 0, .int), (G 0, .int), (G 0, .int), (G 0, .int)] s := hK
  refine va_putF (D := D) (ci := 2) (v := .ref q4) (ty := .array .int) (C := RX2) (T := TX2) (N := 7) hx hb hts (fun w h => hbw (mmIn2 w h)) tyX2 tyX2_ok nmX2 hown hK hP hD hS 0 rfl rfl 3 (by decide) (hts (.fieldLink RX2 21 "HookColours$Study" "poured" "[I") (hbw (by decide +kernel))) (fun _ h9 => h9) rfl hin rfl (by decide +kernel) rfl rfl (Nat.le_of_ble_eq_true rfl) dX2_init_33 (fun H locs hP hD hS => ?_)
  have hP : va_P D mmCls [(h0, .inr (2, [.ref q1, .ref q2, .ref q3, .ref q4, .null, .int 0, .int 0])), (q1, .inl (G 0, mmZ 30)), (q2, .inl (G 0, mmZ 30)), (q3, .inl (G 0, mmZ 16)), (q4, .inl (G 0, mmZ 16))] H := hP
  have hD : va_D A [(h0, .inr (2, [.ref q1, .ref q2, .ref q3, .ref q4, .null, .int 0, .int 0])), (q1, .inl (G 0, mmZ 30)), (q2, .inl (G 0, mmZ 30)), (q3, .inl (G 0, mmZ 16)), (q4, .inl (G 0, mmZ 16))] := hD
  refine lv_aload_n hx hb dX2_init_36 rfl (lv_at hl 0 rfl) ?_
  refine lv_bipush (v := 16) hx hb dX2_init_37 (by decide) ?_
  refine va_newa (atype := .int) (ty := .int) (a0 := mmZ 16) (N' := 16) hx hb (hts (.arrayClass .int) (hbw (by decide +kernel))) rfl hK hP hD hS hA (fun _ => rfl) (by decide) (by decide) (by decide) (by decide) (by decide) dX2_init_39 (fun q5 cA H hK hP hD hS => ?_)
  obtain rfl : cA = G 0 := Option.some.inj ((hK.2 4 _ rfl).2.symm.trans hG.1)
  have hP : va_P D mmCls [(h0, .inr (2, [.ref q1, .ref q2, .ref q3, .ref q4, .null, .int 0, .int 0])), (q1, .inl (G 0, mmZ 30)), (q2, .inl (G 0, mmZ 30)), (q3, .inl (G 0, mmZ 16)), (q4, .inl (G 0, mmZ 16)), (q5, .inl (G 0, mmZ 16))] H := hP
  have hD : va_D A [(h0, .inr (2, [.ref q1, .ref q2, .ref q3, .ref q4, .null, .int 0, .int 0])), (q1, .inl (G 0, mmZ 30)), (q2, .inl (G 0, mmZ 30)), (q3, .inl (G 0, mmZ 16)), (q4, .inl (G 0, mmZ 16)), (q5, .inl (G 0, mmZ 16))] := hD
  have hK : va_K D mmCls [(G 0, .int), (G 0, .int), (G 0, .int), (G 0, .int), (G 0, .int)] s := hK
  refine va_putF (D := D) (ci := 2) (v := .ref q5) (ty := .array .int) (C := RX2) (T := TX2) (N := 7) hx hb hts (fun w h => hbw (mmIn2 w h)) tyX2 tyX2_ok nmX2 hown hK hP hD hS 0 rfl rfl 4 (by decide) (hts (.fieldLink RX2 24 "HookColours$Study" "cost" "[I") (hbw (by decide +kernel))) (fun _ h9 => h9) rfl hin rfl (by decide +kernel) rfl rfl (Nat.le_of_ble_eq_true rfl) dX2_init_41 (fun H locs hP hD hS => ?_)
  have hP : va_P D mmCls [(h0, .inr (2, [.ref q1, .ref q2, .ref q3, .ref q4, .ref q5, .int 0, .int 0])), (q1, .inl (G 0, mmZ 30)), (q2, .inl (G 0, mmZ 30)), (q3, .inl (G 0, mmZ 16)), (q4, .inl (G 0, mmZ 16)), (q5, .inl (G 0, mmZ 16))] H := hP
  have hD : va_D A [(h0, .inr (2, [.ref q1, .ref q2, .ref q3, .ref q4, .ref q5, .int 0, .int 0])), (q1, .inl (G 0, mmZ 30)), (q2, .inl (G 0, mmZ 30)), (q3, .inl (G 0, mmZ 16)), (q4, .inl (G 0, mmZ 16)), (q5, .inl (G 0, mmZ 16))] := hD
  refine lv_aload_n hx hb dX2_init_44 rfl (lv_at hl 0 rfl) ?_
  refine lv_iconst (v := 0) hx hb dX2_init_45 (by decide) ?_
  refine va_put (D := D) (ci := 2) (v := .int 0) (ty := .int) (C := RX2) (T := TX2) (N := 7) hx hb hts (fun w h => hbw (mmIn2 w h)) tyX2 tyX2_ok nmX2 hown hK hP hD hS 0 rfl rfl 5 (by decide) (hts (.fieldLink RX2 27 "HookColours$Study" "aheadOfAll" "I") (hbw (by decide +kernel))) (fun _ h9 => h9) rfl (by decide +kernel) rfl rfl (Nat.le_of_ble_eq_true rfl) dX2_init_46 (fun H locs hP hD hS => ?_)
  have hP : va_P D mmCls [(h0, .inr (2, [.ref q1, .ref q2, .ref q3, .ref q4, .ref q5, .int 0, .int 0])), (q1, .inl (G 0, mmZ 30)), (q2, .inl (G 0, mmZ 30)), (q3, .inl (G 0, mmZ 16)), (q4, .inl (G 0, mmZ 16)), (q5, .inl (G 0, mmZ 16))] H := hP
  have hD : va_D A [(h0, .inr (2, [.ref q1, .ref q2, .ref q3, .ref q4, .ref q5, .int 0, .int 0])), (q1, .inl (G 0, mmZ 30)), (q2, .inl (G 0, mmZ 30)), (q3, .inl (G 0, mmZ 16)), (q4, .inl (G 0, mmZ 16)), (q5, .inl (G 0, mmZ 16))] := hD
  refine lv_aload_n hx hb dX2_init_49 rfl (lv_at hl 0 rfl) ?_
  refine lv_iconst (v := 0) hx hb dX2_init_50 (by decide) ?_
  refine va_put (D := D) (ci := 2) (v := .int 0) (ty := .int) (C := RX2) (T := TX2) (N := 7) hx hb hts (fun w h => hbw (mmIn2 w h)) tyX2 tyX2_ok nmX2 hown hK hP hD hS 0 rfl rfl 6 (by decide) (hts (.fieldLink RX2 31 "HookColours$Study" "there" "I") (hbw (by decide +kernel))) (fun _ h9 => h9) rfl (by decide +kernel) rfl rfl (Nat.le_of_ble_eq_true rfl) dX2_init_51 (fun H locs hP hD hS => ?_)
  have hP : va_P D mmCls [(h0, .inr (2, [.ref q1, .ref q2, .ref q3, .ref q4, .ref q5, .int 0, .int 0])), (q1, .inl (G 0, mmZ 30)), (q2, .inl (G 0, mmZ 30)), (q3, .inl (G 0, mmZ 16)), (q4, .inl (G 0, mmZ 16)), (q5, .inl (G 0, mmZ 16))] H := hP
  have hD : va_D A [(h0, .inr (2, [.ref q1, .ref q2, .ref q3, .ref q4, .ref q5, .int 0, .int 0])), (q1, .inl (G 0, mmZ 30)), (q2, .inl (G 0, mmZ 30)), (q3, .inl (G 0, mmZ 16)), (q4, .inl (G 0, mmZ 16)), (q5, .inl (G 0, mmZ 16))] := hD
  have hK9 := hK.sub (tys' := [(G 0, .int)]) [0] rfl
  exact W.vret hx hb hr (fun t ht hW => ⟨⟨(), rfl, trivial, q1, q2, q3, q4, q5, by rw [ht]; exact hP, va_K.moved hW.alike hK9, hD⟩, hS.F ht⟩) hS.2.2 dX2_init_54
def w0_X0 (h0 : Nat) : va_W := [(h0, .inr (0, [.null, .null, .null, .null, .int 0]))]
def w1_X0 (G : Nat → ClassId) (h0 q1 q2 q3 q4 : Nat) : va_W := [(h0, .inr (0, [.ref q1, .ref q2, .ref q3, .ref q4, .int 0])), (q1, .inl (G 0, mmZ 16)), (q2, .inl (G 0, mmZ 16)), (q3, .inl (G 0, mmZ 16)), (q4, .inl (G 0, mmZ 16))]
set_option maxHeartbeats 4000000 in
set_option maxRecDepth 100000 in
theorem c_X0 (l : Launch) (D : va_G) (G : Nat → ClassId) (h0 sz : Nat) : Met l yX0_init (Cond.code yX0_init cX0_init 1 none :: mmBW) ({ frames := 1, cells := 4, slots := 64, locals := 12 }) (va_Pc [.ref h0] (fun U => U.heap.size = sz ∧ va_P D mmCls (w0_X0 h0) U.heap ∧ va_K D mmCls [] U ∧ va_D (fun _ => True) (w0_X0 h0) ∧ mmAC G U)) (va_Qv (fun _ : Unit => True) (fun _ t => ∃ q1 q2 q3 q4 : Nat, va_P D mmCls (w1_X0 G h0 q1 q2 q3 q4) t.heap ∧ va_K D mmCls [(G 0, .int)] t ∧ va_D (va_A (w0_X0 h0) sz) (w1_X0 G h0 q1 q2 q3 q4)) (va_A (w0_X0 h0) sz)) 4 64 (va_A (w0_X0 h0) sz) := by
  refine Met.ofW (cc := cX0_init) (maxL := 1) (ret := none) (by decide) rfl ?_
  intro p e s m args below meth c s₁ B hml hv
  obtain ⟨rfl, hsz, hP, hK, hD0, hG⟩ := hv
  have hx := B.exec
  have hb := B.bytes
  have hr := B.returns
  have hts := atoms_spec (ws := Cond.code yX0_init cX0_init 1 none :: mmBW) B.pre
  have hbw : ∀ {w : Cond}, w ∈ mmBW → w ∈ Cond.code yX0_init cX0_init 1 none :: mmBW := fun h => List.mem_cons_of_mem _ h
  have hown : s.vm.findClass RX0 = some m.cls := findClass_of_methodNamed B.named
  have hlocks := B.notSynchronized
  have hin : meth.name = "<init>" := (name_of_methodNamed B.named B.method).1
  subst hsz
  have hD := hD0.self (sz := s.heap.size)
  generalize hAe : va_A (w0_X0 h0) s.heap.size = A at hD ⊢
  have hA : ∀ q : Nat, s.heap.size ≤ q → A q := fun q h => by rw [← hAe]; exact Or.inr h
  have hS : va_S A s.heap s.heap [] := va_S.rf
  have hP : va_P D mmCls [(h0, .inr (0, [.null, .null, .null, .null, .int 0]))] s.heap := hP
  have hD : va_D A [(h0, .inr (0, [.null, .null, .null, .null, .int 0]))] := hD
  have hl := lv_entry ([.ref h0]) (n := 1) (Nat.le_of_ble_eq_true rfl)
  rw [lg_entry_eq]
  generalize (lg_sl ([.ref h0]) ++ List.replicate (1 - (lg_sl ([.ref h0])).length) Slot.unset).toArray = ls at hl ⊢
  have hl : lv_has ls 1 [(0, .ref h0)] := hl
  refine lv_aload_n hx hb dX0_init_0 rfl (lv_at hl 0 rfl) ?_
  refine W.objInit hx hb hown (hts (.methodLink RX0 3 objectInit) (hbw (by decide +kernel))) (hts (.instanceMethod objectInit) (hbw (by decide +kernel))) (hts _ (hbw (show Cond.code objectInit ⟨#[0xb1]⟩ 1 none ∈ mmBW by decide +kernel))) rfl (by rw [hml]; exact hl.1) rfl dX0_init_1 (Nat.le_of_ble_eq_true rfl) (Nat.le_of_ble_eq_true rfl) ?_
  refine W.eq (g2 := F0 m 4 ls []) rfl ?_
  refine lv_aload_n hx hb dX0_init_4 rfl (lv_at hl 0 rfl) ?_
  refine lv_bipush (v := 16) hx hb dX0_init_5 (by decide) ?_
  refine va_newa (atype := .int) (ty := .int) (a0 := mmZ 16) (N' := 16) hx hb (hts (.arrayClass .int) (hbw (by decide +kernel))) rfl hK hP hD hS hA (fun _ => rfl) (by decide) (by decide) (by decide) (by decide) (by decide) dX0_init_7 (fun q1 cA H hK hP hD hS => ?_)
  obtain rfl : cA = G 0 := Option.some.inj ((hK.2 0 _ rfl).2.symm.trans hG.1)
  have hP : va_P D mmCls [(h0, .inr (0, [.null, .null, .null, .null, .int 0])), (q1, .inl (G 0, mmZ 16))] H := hP
  have hD : va_D A [(h0, .inr (0, [.null, .null, .null, .null, .int 0])), (q1, .inl (G 0, mmZ 16))] := hD
  have hK : va_K D mmCls [(G 0, .int)] s := hK
  refine va_putF (D := D) (ci := 0) (v := .ref q1) (ty := .array .int) (C := RX0) (T := TX0) (N := 5) hx hb hts (fun w h => hbw (mmIn0 w h)) tyX0 tyX0_ok nmX0 hown hK hP hD hS 0 rfl rfl 0 (by decide) (hts (.fieldLink RX0 9 "HookColours$Hanging" "place" "[I") (hbw (by decide +kernel))) (fun _ h9 => h9) rfl hin rfl (by decide +kernel) rfl rfl (Nat.le_of_ble_eq_true rfl) dX0_init_9 (fun H locs hP hD hS => ?_)
  have hP : va_P D mmCls [(h0, .inr (0, [.ref q1, .null, .null, .null, .int 0])), (q1, .inl (G 0, mmZ 16))] H := hP
  have hD : va_D A [(h0, .inr (0, [.ref q1, .null, .null, .null, .int 0])), (q1, .inl (G 0, mmZ 16))] := hD
  refine lv_aload_n hx hb dX0_init_12 rfl (lv_at hl 0 rfl) ?_
  refine lv_bipush (v := 16) hx hb dX0_init_13 (by decide) ?_
  refine va_newa (atype := .int) (ty := .int) (a0 := mmZ 16) (N' := 16) hx hb (hts (.arrayClass .int) (hbw (by decide +kernel))) rfl hK hP hD hS hA (fun _ => rfl) (by decide) (by decide) (by decide) (by decide) (by decide) dX0_init_15 (fun q2 cA H hK hP hD hS => ?_)
  obtain rfl : cA = G 0 := Option.some.inj ((hK.2 1 _ rfl).2.symm.trans hG.1)
  have hP : va_P D mmCls [(h0, .inr (0, [.ref q1, .null, .null, .null, .int 0])), (q1, .inl (G 0, mmZ 16)), (q2, .inl (G 0, mmZ 16))] H := hP
  have hD : va_D A [(h0, .inr (0, [.ref q1, .null, .null, .null, .int 0])), (q1, .inl (G 0, mmZ 16)), (q2, .inl (G 0, mmZ 16))] := hD
  have hK : va_K D mmCls [(G 0, .int), (G 0, .int)] s := hK
  refine va_putF (D := D) (ci := 0) (v := .ref q2) (ty := .array .int) (C := RX0) (T := TX0) (N := 5) hx hb hts (fun w h => hbw (mmIn0 w h)) tyX0 tyX0_ok nmX0 hown hK hP hD hS 0 rfl rfl 1 (by decide) (hts (.fieldLink RX0 15 "HookColours$Hanging" "hook" "[I") (hbw (by decide +kernel))) (fun _ h9 => h9) rfl hin rfl (by decide +kernel) rfl rfl (Nat.le_of_ble_eq_true rfl) dX0_init_17 (fun H locs hP hD hS => ?_)
  have hP : va_P D mmCls [(h0, .inr (0, [.ref q1, .ref q2, .null, .null, .int 0])), (q1, .inl (G 0, mmZ 16)), (q2, .inl (G 0, mmZ 16))] H := hP
  have hD : va_D A [(h0, .inr (0, [.ref q1, .ref q2, .null, .null, .int 0])), (q1, .inl (G 0, mmZ 16)), (q2, .inl (G 0, mmZ 16))] := hD
  refine lv_aload_n hx hb dX0_init_20 rfl (lv_at hl 0 rfl) ?_
  refine lv_bipush (v := 16) hx hb dX0_init_21 (by decide) ?_
  refine va_newa (atype := .int) (ty := .int) (a0 := mmZ 16) (N' := 16) hx hb (hts (.arrayClass .int) (hbw (by decide +kernel))) rfl hK hP hD hS hA (fun _ => rfl) (by decide) (by decide) (by decide) (by decide) (by decide) dX0_init_23 (fun q3 cA H hK hP hD hS => ?_)
  obtain rfl : cA = G 0 := Option.some.inj ((hK.2 2 _ rfl).2.symm.trans hG.1)
  have hP : va_P D mmCls [(h0, .inr (0, [.ref q1, .ref q2, .null, .null, .int 0])), (q1, .inl (G 0, mmZ 16)), (q2, .inl (G 0, mmZ 16)), (q3, .inl (G 0, mmZ 16))] H := hP
  have hD : va_D A [(h0, .inr (0, [.ref q1, .ref q2, .null, .null, .int 0])), (q1, .inl (G 0, mmZ 16)), (q2, .inl (G 0, mmZ 16)), (q3, .inl (G 0, mmZ 16))] := hD
  have hK : va_K D mmCls [(G 0, .int), (G 0, .int), (G 0, .int)] s := hK
  refine va_putF (D := D) (ci := 0) (v := .ref q3) (ty := .array .int) (C := RX0) (T := TX0) (N := 5) hx hb hts (fun w h => hbw (mmIn0 w h)) tyX0 tyX0_ok nmX0 hown hK hP hD hS 0 rfl rfl 2 (by decide) (hts (.fieldLink RX0 18 "HookColours$Hanging" "potsAt" "[I") (hbw (by decide +kernel))) (fun _ h9 => h9) rfl hin rfl (by decide +kernel) rfl rfl (Nat.le_of_ble_eq_true rfl) dX0_init_25 (fun H locs hP hD hS => ?_)
  have hP : va_P D mmCls [(h0, .inr (0, [.ref q1, .ref q2, .ref q3, .null, .int 0])), (q1, .inl (G 0, mmZ 16)), (q2, .inl (G 0, mmZ 16)), (q3, .inl (G 0, mmZ 16))] H := hP
  have hD : va_D A [(h0, .inr (0, [.ref q1, .ref q2, .ref q3, .null, .int 0])), (q1, .inl (G 0, mmZ 16)), (q2, .inl (G 0, mmZ 16)), (q3, .inl (G 0, mmZ 16))] := hD
  refine lv_aload_n hx hb dX0_init_28 rfl (lv_at hl 0 rfl) ?_
  refine lv_bipush (v := 16) hx hb dX0_init_29 (by decide) ?_
  refine va_newa (atype := .int) (ty := .int) (a0 := mmZ 16) (N' := 16) hx hb (hts (.arrayClass .int) (hbw (by decide +kernel))) rfl hK hP hD hS hA (fun _ => rfl) (by decide) (by decide) (by decide) (by decide) (by decide) dX0_init_31 (fun q4 cA H hK hP hD hS => ?_)
  obtain rfl : cA = G 0 := Option.some.inj ((hK.2 3 _ rfl).2.symm.trans hG.1)
  have hP : va_P D mmCls [(h0, .inr (0, [.ref q1, .ref q2, .ref q3, .null, .int 0])), (q1, .inl (G 0, mmZ 16)), (q2, .inl (G 0, mmZ 16)), (q3, .inl (G 0, mmZ 16)), (q4, .inl (G 0, mmZ 16))] H := hP
  have hD : va_D A [(h0, .inr (0, [.ref q1, .ref q2, .ref q3, .null, .int 0])), (q1, .inl (G 0, mmZ 16)), (q2, .inl (G 0, mmZ 16)), (q3, .inl (G 0, mmZ 16)), (q4, .inl (G 0, mmZ 16))] := hD
  have hK : va_K D mmCls [(G 0, .int), (G 0, .int), (G 0, .int), (G 0, .int)] s := hK
  refine va_putF (D := D) (ci := 0) (v := .ref q4) (ty := .array .int) (C := RX0) (T := TX0) (N := 5) hx hb hts (fun w h => hbw (mmIn0 w h)) tyX0 tyX0_ok nmX0 hown hK hP hD hS 0 rfl rfl 3 (by decide) (hts (.fieldLink RX0 21 "HookColours$Hanging" "aside" "[I") (hbw (by decide +kernel))) (fun _ h9 => h9) rfl hin rfl (by decide +kernel) rfl rfl (Nat.le_of_ble_eq_true rfl) dX0_init_33 (fun H locs hP hD hS => ?_)
  have hP : va_P D mmCls [(h0, .inr (0, [.ref q1, .ref q2, .ref q3, .ref q4, .int 0])), (q1, .inl (G 0, mmZ 16)), (q2, .inl (G 0, mmZ 16)), (q3, .inl (G 0, mmZ 16)), (q4, .inl (G 0, mmZ 16))] H := hP
  have hD : va_D A [(h0, .inr (0, [.ref q1, .ref q2, .ref q3, .ref q4, .int 0])), (q1, .inl (G 0, mmZ 16)), (q2, .inl (G 0, mmZ 16)), (q3, .inl (G 0, mmZ 16)), (q4, .inl (G 0, mmZ 16))] := hD
  refine lv_aload_n hx hb dX0_init_36 rfl (lv_at hl 0 rfl) ?_
  refine lv_iconst (v := 0) hx hb dX0_init_37 (by decide) ?_
  refine va_put (D := D) (ci := 0) (v := .int 0) (ty := .int) (C := RX0) (T := TX0) (N := 5) hx hb hts (fun w h => hbw (mmIn0 w h)) tyX0 tyX0_ok nmX0 hown hK hP hD hS 0 rfl rfl 4 (by decide) (hts (.fieldLink RX0 24 "HookColours$Hanging" "floor" "I") (hbw (by decide +kernel))) (fun _ h9 => h9) rfl (by decide +kernel) rfl rfl (Nat.le_of_ble_eq_true rfl) dX0_init_38 (fun H locs hP hD hS => ?_)
  have hP : va_P D mmCls [(h0, .inr (0, [.ref q1, .ref q2, .ref q3, .ref q4, .int 0])), (q1, .inl (G 0, mmZ 16)), (q2, .inl (G 0, mmZ 16)), (q3, .inl (G 0, mmZ 16)), (q4, .inl (G 0, mmZ 16))] H := hP
  have hD : va_D A [(h0, .inr (0, [.ref q1, .ref q2, .ref q3, .ref q4, .int 0])), (q1, .inl (G 0, mmZ 16)), (q2, .inl (G 0, mmZ 16)), (q3, .inl (G 0, mmZ 16)), (q4, .inl (G 0, mmZ 16))] := hD
  have hK9 := hK.sub (tys' := [(G 0, .int)]) [0] rfl
  exact W.vret hx hb hr (fun t ht hW => ⟨⟨(), rfl, trivial, q1, q2, q3, q4, by rw [ht]; exact hP, va_K.moved hW.alike hK9, hD⟩, hS.F ht⟩) hS.2.2 dX0_init_41
