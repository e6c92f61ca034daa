/-! a new sim, a new kitchen -/
def w0_X4 (h0 : Nat) : va_W := [(h0, .inr (4, [.null, .null, .int 0, .null, .null]))]
def w1_X4 (G : Nat → ClassId) (h0 q1 q2 q3 q4 : Nat) : va_W := [(h0, .inr (4, [.ref q1, .ref q2, .int 3, .ref q3, .ref q4])), (q1, .inl (G 2, 0, .inr (.inr (.inr (.inr (fun _ => none)))))), (q2, .inl (G 1, 16, .inl kG0)), (q3, .inl (G 0, 16, .inl kG0)), (q4, .inl (G 0, 16, .inl kG0))]
set_option maxHeartbeats 4000000 in
set_option maxRecDepth 100000 in
theorem c_X4 (l : Launch) (D : va_G) (G : Nat → ClassId) (h0 sz : Nat) : Met l yX4_init (Cond.code yX4_init cX4_init 1 none :: mmBW) ({ frames := 1, cells := 4, slots := 48, locals := 12 }) (va_Pc [.ref h0] (fun U => U.heap.size = sz ∧ va_P D mmCls (w0_X4 h0) U.heap ∧ va_D (fun _ => True) (w0_X4 h0) ∧ kKs D G U)) (va_Qv (fun _ : Unit => True) (fun _ t => ∃ q1 q2 q3 q4 : Nat, va_P D mmCls (w1_X4 G h0 q1 q2 q3 q4) t.heap ∧ va_D (va_A (w0_X4 h0) sz) (w1_X4 G h0 q1 q2 q3 q4)) (va_A (w0_X4 h0) sz)) 4 48 (va_A (w0_X4 h0) sz) := by
  refine Met.ofW (cc := cX4_init) (maxL := 1) (ret := none) (by decide) rfl ?_
  intro p e s m args below meth c s₁ B hml hv
  obtain ⟨rfl, hsz, hP, hD0, hKk⟩ := hv
  have hK := hKk.1
  have hx := B.exec
  have hb := B.bytes
  have hr := B.returns
  have hts := atoms_spec (ws := Cond.code yX4_init cX4_init 1 none :: mmBW) B.pre
  have hbw : ∀ {w : Cond}, w ∈ mmBW → w ∈ Cond.code yX4_init cX4_init 1 none :: mmBW := fun h => List.mem_cons_of_mem _ h
  have hown : s.vm.findClass RX4 = some m.cls := findClass_of_methodNamed B.named
  have hlocks := B.notSynchronized
  subst hsz
  have hD := hD0.self (sz := s.heap.size)
  generalize hAe : va_A (w0_X4 h0) s.heap.size = A at hD ⊢
  have hA : ∀ q : Nat, s.heap.size ≤ q → A q := fun q h => by rw [← hAe]; exact Or.inr h
  have hS : va_S A s.heap s.heap [] := va_S.rf
  have hl := lv_entry ([.ref h0]) (n := 1) (Nat.le_of_ble_eq_true rfl)
  rw [lg_entry_eq]
  generalize (lg_sl ([.ref h0]) ++ List.replicate (1 - (lg_sl ([.ref h0])).length) Slot.unset).toArray = ls at hl ⊢
  have hl : lv_has ls 1 [(0, .ref h0)] := hl
  refine lv_aload_n hx hb dX4_init_0 rfl (lv_at hl 0 rfl) ?_
  refine W.objInit hx hb hown (hts (.methodLink RX4 1 objectInit) (hbw (by decide +kernel))) (hts (.instanceMethod objectInit) (hbw (by decide +kernel))) (hts _ (hbw (show Cond.code objectInit ⟨#[0xb1]⟩ 1 none ∈ mmBW by decide +kernel))) rfl (by rw [hml]; exact hl.1) rfl dX4_init_1 (Nat.le_of_ble_eq_true rfl) (Nat.le_of_ble_eq_true rfl) ?_
  refine W.eq (g2 := F0 m 4 ls []) rfl ?_
  have hP : va_P D mmCls [(h0, .inr (4, [.null, .null, .int 0, .null, .null]))] s.heap := hP
  have hD : va_D A [(h0, .inr (4, [.null, .null, .int 0, .null, .null]))] := hD
  refine lv_aload_n hx hb dX4_init_4 rfl (lv_at hl 0 rfl) ?_
  refine lv_iconst (v := 0) hx hb dX4_init_5 (by decide) ?_
  refine ka_anew (t := .int) (N' := 0) hx hb hown (hts (.classLink RX4 7 (FieldType.array .int).toString) (hbw kwa_7)) hKk.2.1.1 hK hP hD hS hA (by decide) (by decide) (by decide) (by decide) (by decide) dX4_init_6 (fun q1 cA H hK1 hP hD hS => ?_)
  obtain rfl : cA = G 2 := Option.some.inj ((hK1.2 4 _ rfl).2.symm.trans (hK.2 2 _ rfl).2)
  have hP : va_P D mmCls [(h0, .inr (4, [.null, .null, .int 0, .null, .null])), (q1, .inl (G 2, 0, .inr (.inr (.inr (.inr (fun _ => none))))))] H := hP
  have hD : va_D A [(h0, .inr (4, [.null, .null, .int 0, .null, .null])), (q1, .inl (G 2, 0, .inr (.inr (.inr (.inr (fun _ => none))))))] := hD
  refine va_put (D := D) (ci := 4) (v := .ref q1) (ty := .array (.array .int)) (C := RX4) (T := TX4) (N := 5) hx hb hts (fun w h => hbw (mmIn4 w h)) tyX4 tyX4_ok nmX4 hown hK hP hD hS 0 rfl rfl 0 (by decide) (hts (.fieldLink RX4 9 "HookColoursLaw$Sim" "deeds" "[[I") (hbw (by decide +kernel))) (fun _ h9 => h9) rfl (by decide +kernel) rfl rfl (Nat.le_of_ble_eq_true rfl) dX4_init_9 (fun H locs hP hD hS => ?_)
  have hP : va_P D mmCls [(h0, .inr (4, [.ref q1, .null, .int 0, .null, .null])), (q1, .inl (G 2, 0, .inr (.inr (.inr (.inr (fun _ => none))))))] H := hP
  have hD : va_D A [(h0, .inr (4, [.ref q1, .null, .int 0, .null, .null])), (q1, .inl (G 2, 0, .inr (.inr (.inr (.inr (fun _ => none))))))] := hD
  refine lv_aload_n hx hb dX4_init_12 rfl (lv_at hl 0 rfl) ?_
  refine lv_bipush (v := 16) hx hb dX4_init_13 (by decide) ?_
  refine va_newa (atype := .boolean) (ty := .boolean) (a0 := (16, .inl kG0)) (N' := 16) hx hb (hts (.arrayClass .boolean) (hbw kwa_Z)) rfl hK hP hD hS hA (fun _ => rfl) (by decide) (by decide) (by decide) (by decide) (by decide) dX4_init_15 (fun q2 cA H hK1 hP hD hS => ?_)
  obtain rfl : cA = G 1 := Option.some.inj ((hK1.2 4 _ rfl).2.symm.trans (hK.2 1 _ rfl).2)
  have hP : va_P D mmCls [(h0, .inr (4, [.ref q1, .null, .int 0, .null, .null])), (q1, .inl (G 2, 0, .inr (.inr (.inr (.inr (fun _ => none)))))), (q2, .inl (G 1, 16, .inl kG0))] H := hP
  have hD : va_D A [(h0, .inr (4, [.ref q1, .null, .int 0, .null, .null])), (q1, .inl (G 2, 0, .inr (.inr (.inr (.inr (fun _ => none)))))), (q2, .inl (G 1, 16, .inl kG0))] := hD
  refine va_put (D := D) (ci := 4) (v := .ref q2) (ty := .array .boolean) (C := RX4) (T := TX4) (N := 5) hx hb hts (fun w h => hbw (mmIn4 w h)) tyX4 tyX4_ok nmX4 hown hK hP hD hS 0 rfl rfl 1 (by decide) (hts (.fieldLink RX4 15 "HookColoursLaw$Sim" "guests" "[Z") (hbw (by decide +kernel))) (fun _ h9 => h9) rfl (by decide +kernel) rfl rfl (Nat.le_of_ble_eq_true rfl) dX4_init_17 (fun H locs hP hD hS => ?_)
  have hP : va_P D mmCls [(h0, .inr (4, [.ref q1, .ref q2, .int 0, .null, .null])), (q1, .inl (G 2, 0, .inr (.inr (.inr (.inr (fun _ => none)))))), (q2, .inl (G 1, 16, .inl kG0))] H := hP
  have hD : va_D A [(h0, .inr (4, [.ref q1, .ref q2, .int 0, .null, .null])), (q1, .inl (G 2, 0, .inr (.inr (.inr (.inr (fun _ => none)))))), (q2, .inl (G 1, 16, .inl kG0))] := hD
  refine lv_aload_n hx hb dX4_init_20 rfl (lv_at hl 0 rfl) ?_
  refine lv_iconst (v := 3) hx hb dX4_init_21 (by decide) ?_
  refine va_put (D := D) (ci := 4) (v := .int 3) (ty := .int) (C := RX4) (T := TX4) (N := 5) hx hb hts (fun w h => hbw (mmIn4 w h)) tyX4 tyX4_ok nmX4 hown hK hP hD hS 0 rfl rfl 2 (by decide) (hts (.fieldLink RX4 19 "HookColoursLaw$Sim" "hooks" "I") (hbw (by decide +kernel))) (fun _ h9 => h9) rfl (by decide +kernel) rfl rfl (Nat.le_of_ble_eq_true rfl) dX4_init_22 (fun H locs hP hD hS => ?_)
  have hP : va_P D mmCls [(h0, .inr (4, [.ref q1, .ref q2, .int 3, .null, .null])), (q1, .inl (G 2, 0, .inr (.inr (.inr (.inr (fun _ => none)))))), (q2, .inl (G 1, 16, .inl kG0))] H := hP
  have hD : va_D A [(h0, .inr (4, [.ref q1, .ref q2, .int 3, .null, .null])), (q1, .inl (G 2, 0, .inr (.inr (.inr (.inr (fun _ => none)))))), (q2, .inl (G 1, 16, .inl kG0))] := hD
  refine lv_aload_n hx hb dX4_init_25 rfl (lv_at hl 0 rfl) ?_
  refine lv_bipush (v := 16) hx hb dX4_init_26 (by decide) ?_
  refine va_newa (atype := .int) (ty := .int) (a0 := (16, .inl kG0)) (N' := 16) hx hb (hts (.arrayClass .int) (hbw kwa_I)) rfl hK hP hD hS hA (fun _ => rfl) (by decide) (by decide) (by decide) (by decide) (by decide) dX4_init_28 (fun q3 cA H hK1 hP hD hS => ?_)
  obtain rfl : cA = G 0 := Option.some.inj ((hK1.2 4 _ rfl).2.symm.trans (hK.2 0 _ rfl).2)
  have hP : va_P D mmCls [(h0, .inr (4, [.ref q1, .ref q2, .int 3, .null, .null])), (q1, .inl (G 2, 0, .inr (.inr (.inr (.inr (fun _ => none)))))), (q2, .inl (G 1, 16, .inl kG0)), (q3, .inl (G 0, 16, .inl kG0))] H := hP
  have hD : va_D A [(h0, .inr (4, [.ref q1, .ref q2, .int 3, .null, .null])), (q1, .inl (G 2, 0, .inr (.inr (.inr (.inr (fun _ => none)))))), (q2, .inl (G 1, 16, .inl kG0)), (q3, .inl (G 0, 16, .inl kG0))] := hD
  refine va_put (D := D) (ci := 4) (v := .ref q3) (ty := .array .int) (C := RX4) (T := TX4) (N := 5) hx hb hts (fun w h => hbw (mmIn4 w h)) tyX4 tyX4_ok nmX4 hown hK hP hD hS 0 rfl rfl 3 (by decide) (hts (.fieldLink RX4 23 "HookColoursLaw$Sim" "places" "[I") (hbw (by decide +kernel))) (fun _ h9 => h9) rfl (by decide +kernel) rfl rfl (Nat.le_of_ble_eq_true rfl) dX4_init_30 (fun H locs hP hD hS => ?_)
  have hP : va_P D mmCls [(h0, .inr (4, [.ref q1, .ref q2, .int 3, .ref q3, .null])), (q1, .inl (G 2, 0, .inr (.inr (.inr (.inr (fun _ => none)))))), (q2, .inl (G 1, 16, .inl kG0)), (q3, .inl (G 0, 16, .inl kG0))] H := hP
  have hD : va_D A [(h0, .inr (4, [.ref q1, .ref q2, .int 3, .ref q3, .null])), (q1, .inl (G 2, 0, .inr (.inr (.inr (.inr (fun _ => none)))))), (q2, .inl (G 1, 16, .inl kG0)), (q3, .inl (G 0, 16, .inl kG0))] := hD
  refine lv_aload_n hx hb dX4_init_33 rfl (lv_at hl 0 rfl) ?_
  refine lv_bipush (v := 16) hx hb dX4_init_34 (by decide) ?_
  refine va_newa (atype := .int) (ty := .int) (a0 := (16, .inl kG0)) (N' := 16) hx hb (hts (.arrayClass .int) (hbw kwa_I)) rfl hK hP hD hS hA (fun _ => rfl) (by decide) (by decide) (by decide) (by decide) (by decide) dX4_init_36 (fun q4 cA H hK1 hP hD hS => ?_)
  obtain rfl : cA = G 0 := Option.some.inj ((hK1.2 4 _ rfl).2.symm.trans (hK.2 0 _ rfl).2)
  have hP : va_P D mmCls [(h0, .inr (4, [.ref q1, .ref q2, .int 3, .ref q3, .null])), (q1, .inl (G 2, 0, .inr (.inr (.inr (.inr (fun _ => none)))))), (q2, .inl (G 1, 16, .inl kG0)), (q3, .inl (G 0, 16, .inl kG0)), (q4, .inl (G 0, 16, .inl kG0))] H := hP
  have hD : va_D A [(h0, .inr (4, [.ref q1, .ref q2, .int 3, .ref q3, .null])), (q1, .inl (G 2, 0, .inr (.inr (.inr (.inr (fun _ => none)))))), (q2, .inl (G 1, 16, .inl kG0)), (q3, .inl (G 0, 16, .inl kG0)), (q4, .inl (G 0, 16, .inl kG0))] := hD
  refine va_put (D := D) (ci := 4) (v := .ref q4) (ty := .array .int) (C := RX4) (T := TX4) (N := 5) hx hb hts (fun w h => hbw (mmIn4 w h)) tyX4 tyX4_ok nmX4 hown hK hP hD hS 0 rfl rfl 4 (by decide) (hts (.fieldLink RX4 26 "HookColoursLaw$Sim" "hung" "[I") (hbw (by decide +kernel))) (fun _ h9 => h9) rfl (by decide +kernel) rfl rfl (Nat.le_of_ble_eq_true rfl) dX4_init_38 (fun H locs hP hD hS => ?_)
  have hP : va_P D mmCls [(h0, .inr (4, [.ref q1, .ref q2, .int 3, .ref q3, .ref q4])), (q1, .inl (G 2, 0, .inr (.inr (.inr (.inr (fun _ => none)))))), (q2, .inl (G 1, 16, .inl kG0)), (q3, .inl (G 0, 16, .inl kG0)), (q4, .inl (G 0, 16, .inl kG0))] H := hP
  have hD : va_D A [(h0, .inr (4, [.ref q1, .ref q2, .int 3, .ref q3, .ref q4])), (q1, .inl (G 2, 0, .inr (.inr (.inr (.inr (fun _ => none)))))), (q2, .inl (G 1, 16, .inl kG0)), (q3, .inl (G 0, 16, .inl kG0)), (q4, .inl (G 0, 16, .inl kG0))] := hD
  exact W.vret hx hb hr (fun t ht hW => ⟨⟨(), rfl, trivial, q1, q2, q3, q4, by rw [ht]; exact hP, hD⟩, hS.F ht⟩) hS.2.2 dX4_init_41
/-- what came back, beside the rest -/
theorem k_join {D : va_G} {cl : List vw_C} {ws w0 w1 : va_W} {H H1 : Heap} {A : Nat → Prop} (hP : va_P D cl (ws ++ w0) H) (hD : va_D A (ws ++ w0)) (hk : ∀ q : Nat, q < H.size → ¬ va_A w0 H.size q → H1[q]? = H[q]?) (hP1 : va_P D cl w1 H1) (hD1 : va_D (va_A w0 H.size) w1) (hA : ∀ q, va_A w0 H.size q → A q) : va_P D cl (ws ++ w1) H1 ∧ va_D A (ws ++ w1) := by
  have hlt : ∀ (k : Nat) (q : Nat × va_E), ws[k]? = some q → q.1 < H.size ∧ ¬ va_A w0 H.size q.1 := by
    intro k q hq
    have hl : k < ws.length := (List.getElem?_eq_some_iff.mp hq).1
    have h1 : (ws ++ w0)[k]? = some q := by rw [List.getElem?_append_left hl]; exact hq
    have h2 := (hP k q h1).lt
    refine ⟨h2, fun h => ?_⟩
    rcases h with ⟨j, e, hj⟩ | h
    · have h3 : (ws ++ w0)[ws.length + j]? = some (q.1, e) := by rw [List.getElem?_append_right (by omega), Nat.add_sub_cancel_left]; exact hj
      have h4 := hD.1 _ _ _ _ h1 h3 rfl
      omega
    · omega
  have hPw : va_P D cl ws H1 := fun k q hq => by
    have hl : k < ws.length := (List.getElem?_eq_some_iff.mp hq).1
    have h1 : (ws ++ w0)[k]? = some q := by rw [List.getElem?_append_left hl]; exact hq
    exact (hP k q h1).kept (hk _ (hlt k q hq).1 (hlt k q hq).2)
  refine ⟨hPw.app hP1, fun i j x y hi hj hxy => ?_, fun k q hq => ?_⟩
  · by_cases h1 : i < ws.length <;> by_cases h2 : j < ws.length
    · rw [List.getElem?_append_left h1] at hi
      rw [List.getElem?_append_left h2] at hj
      exact hD.1 i j x y (by rw [List.getElem?_append_left h1]; exact hi) (by rw [List.getElem?_append_left h2]; exact hj) hxy
    · rw [List.getElem?_append_left h1] at hi
      rw [List.getElem?_append_right (by omega)] at hj
      exact absurd (by rw [hxy]; exact hD1.2 _ _ hj) (hlt i x hi).2
    · rw [List.getElem?_append_right (by omega)] at hi
      rw [List.getElem?_append_left h2] at hj
      exact absurd (by rw [← hxy]; exact hD1.2 _ _ hi) (hlt j y hj).2
    · rw [List.getElem?_append_right (by omega)] at hi hj
      have := hD1.1 _ _ x y hi hj hxy
      omega
  · by_cases h1 : k < ws.length
    · rw [List.getElem?_append_left h1] at hq
      exact hD.2 k q (by rw [List.getElem?_append_left h1]; exact hq)
    · rw [List.getElem?_append_right (by omega)] at hq
      exact hA _ (hD1.2 _ _ hq)
theorem k_last {D : va_G} {cl : List vw_C} {ws : va_W} {H : Heap} {A : Nat → Prop} {q : Nat} {e : va_E} (hP : va_P D cl (ws ++ [(q, e)]) H) (hD : va_D A (ws ++ [(q, e)])) : va_P D cl [(q, e)] H ∧ va_D (fun _ => True) [(q, e)] ∧ A q := by
  have h0 : (ws ++ [(q, e)])[ws.length]? = some (q, e) := by rw [List.getElem?_append_right (Nat.le_refl _), Nat.sub_self]; rfl
  refine ⟨fun k x hk => ?_, ⟨fun i j x y hi hj _ => ?_, fun _ _ _ => trivial⟩, hD.2 _ _ h0⟩
  · have : k < 1 := (List.getElem?_eq_some_iff.mp hk).1
    obtain rfl : k = 0 := by omega
    cases hk
    exact hP _ _ h0
  · have h1 : i < 1 := (List.getElem?_eq_some_iff.mp hi).1
    have h2 : j < 1 := (List.getElem?_eq_some_iff.mp hj).1
    omega
/-- the addresses of five new cells -/
def kBa (ad : Nat → Nat) (n q0 q1 q2 q3 q4 : Nat) : Nat → Nat := kU (kU (kU (kU (kU ad (n + 1) q0) (n + 2) q1) (n + 3) q2) (n + 4) q3) (n + 5) q4
theorem kBa_old {ad : Nat → Nat} {n q0 q1 q2 q3 q4 k : Nat} (h : k ≤ n) : kBa ad n q0 q1 q2 q3 q4 k = ad k := by
  unfold kBa
  rw [kU_ne (by omega), kU_ne (by omega), kU_ne (by omega), kU_ne (by omega), kU_ne (by omega)]
theorem kB_old {M : kM} {k : Nat} (h : k ≤ kN M) : (kB M).1 k = M.1 k := by
  unfold kB
  have h : k ≤ kN M := h
  show kU (kU (kU (kU (kU M.1 _ _) _ _) _ _) _ _) _ _ k = _
  rw [kU_ne (by omega), kU_ne (by omega), kU_ne (by omega), kU_ne (by omega), kU_ne (by omega)]
theorem kB_1 {M : kM} : (kB M).1 (kN M + 1) = .inr (.inr (.inl (kSim (kN M + 1)))) := by simp [kB, kU]
theorem kB_2 {M : kM} : (kB M).1 (kN M + 2) = .inr (.inl (2, 0, kR0)) := by simp [kB, kU]
theorem kB_3 {M : kM} : (kB M).1 (kN M + 3) = .inl (1, 16, kG0) := by simp [kB, kU]
theorem kB_4 {M : kM} : (kB M).1 (kN M + 4) = .inl (0, 16, kG0) := by simp [kB, kU]
theorem kB_5 {M : kM} : (kB M).1 (kN M + 5) = .inl (0, 16, kG0) := by simp [kB, kU]
theorem kW_B {G : Nat → ClassId} {ad : Nat → Nat} {L : Nat} {xs : Nat → Int32} {M : kM} (hO : kOk L xs M) {q0 q1 q2 q3 q4 : Nat} : kW G (kBa ad (kN M) q0 q1 q2 q3 q4) (kB M) = kW G ad M ++ w1_X4 G q0 q1 q2 q3 q4 := by
  apply List.ext_getElem?
  intro j
  have hl : (kW G ad M).length = kN M := kW_len
  by_cases hj : j < kN M
  · have h1 := kW_at (G := G) (ad := ad) (M := M) (k := j + 1) (by omega) (by omega)
    have h2 := kW_at (G := G) (ad := kBa ad (kN M) q0 q1 q2 q3 q4) (M := kB M) (k := j + 1) (by omega) (show j + 1 ≤ kN M + 5 by omega)
    rw [show j + 1 - 1 = j by omega] at h1 h2
    rw [List.getElem?_append_left (by omega), h1, h2, kBa_old (by omega), kCe_cg (M := M) (M' := kB M) (n := kN M) (fun i hi => kBa_old hi) (hO.at (by omega) (by omega)) (kB_old (by omega)) (fun _ _ => rfl)]
  · rw [List.getElem?_append_right (by omega), hl]
    by_cases hj5 : j < kN M + 5
    · have h2 := kW_at (G := G) (ad := kBa ad (kN M) q0 q1 q2 q3 q4) (M := kB M) (k := j + 1) (by omega) (show j + 1 ≤ kN M + 5 by omega)
      rw [show j + 1 - 1 = j by omega] at h2
      rw [h2]
      rcases (show j = kN M ∨ j = kN M + 1 ∨ j = kN M + 2 ∨ j = kN M + 3 ∨ j = kN M + 4 by omega) with rfl | rfl | rfl | rfl | rfl
      · rw [Nat.sub_self]
        unfold kCe
        rw [kB_1]
        simp [kBa, kU, kSim, w1_X4, mmV]
      · rw [show kN M + 1 + 1 = kN M + 2 by omega, show kN M + 1 - kN M = 1 by omega]
        unfold kCe
        rw [kB_2]
        simp [kBa, kU, w1_X4, kR0]
      · rw [show kN M + 2 + 1 = kN M + 3 by omega, show kN M + 2 - kN M = 2 by omega]
        unfold kCe
        rw [kB_3]
        simp [kBa, kU, w1_X4]
      · rw [show kN M + 3 + 1 = kN M + 4 by omega, show kN M + 3 - kN M = 3 by omega]
        unfold kCe
        rw [kB_4]
        simp [kBa, kU, w1_X4]
      · rw [show kN M + 4 + 1 = kN M + 5 by omega, show kN M + 4 - kN M = 4 by omega]
        unfold kCe
        rw [kB_5]
        simp [kBa, kU, w1_X4]
    · rw [List.getElem?_eq_none (by rw [kW_len]; show kN M + 5 ≤ j; omega), List.getElem?_eq_none (by simp [w1_X4]; omega)]
theorem kOk.sim {L : Nat} {xs : Nat → Int32} {M : kM} (hO : kOk L xs M) : kOk L xs (kB M) := by
  refine ⟨(kB_old (Nat.zero_le _)).trans hO.1, fun k h0 hk => ?_⟩
  have hk : k ≤ kN M + 5 := hk
  show kOc (kN M + 5) k (kB M).1
  by_cases h : k ≤ kN M
  · exact (hO.at h0 h).up h (by omega) (fun j hj => kB_old hj)
  · rcases (show k = kN M + 1 ∨ k = kN M + 2 ∨ k = kN M + 3 ∨ k = kN M + 4 ∨ k = kN M + 5 by omega) with rfl | rfl | rfl | rfl | rfl
    · unfold kOc
      rw [kB_1]
      intro f
      show vOk (kN M + 5) (kSim (kN M + 1) f)
      unfold kSim
      repeat' split
      all_goals first | trivial | (show _ ≤ kN M + 5; omega)
    · unfold kOc
      rw [kB_2]
      exact ⟨Or.inl rfl, fun j i h => by cases h⟩
    · unfold kOc
      rw [kB_3]
      show 1 < 2
      omega
    · unfold kOc
      rw [kB_4]
      show 0 < 2
      omega
    · unfold kOc
      rw [kB_5]
      show 0 < 2
      omega
/-- the addresses of a new kitchen -/
def kKa (ad : Nat → Nat) (n : Nat) (a : Nat → Nat) : Nat → Nat := fun k => if n < k then a (k - n - 1) else ad k
theorem kKa_old {ad a : Nat → Nat} {n k : Nat} (h : k ≤ n) : kKa ad n a k = ad k := if_neg (by omega)
theorem kK_old {M : kM} {k : Nat} (h : k ≤ kN M) : (kK M).1 k = M.1 k := by
  have h : k ≤ kN M := h
  show kP M.1 (kN M + 1) k = _
  unfold kP
  rw [if_neg (by omega)]
theorem kK_new {M : kM} {j : Nat} (h : j < 35) : (kK M).1 (kN M + 1 + j) = .inr (.inr (.inr (kN M + 1, j))) := by
  show kP M.1 (kN M + 1) (kN M + 1 + j) = _
  unfold kP
  rw [if_pos (by omega), Nat.add_sub_cancel_left]
theorem kW_K {G : Nat → ClassId} {ad a : Nat → Nat} {L : Nat} {xs : Nat → Int32} {M : kM} (hO : kOk L xs M) : kW G (kKa ad (kN M) a) (kK M) = kW G ad M ++ mmW G a (kH0, m0.2) 35 := by
  apply List.ext_getElem?
  intro j
  have hl : (kW G ad M).length = kN M := kW_len
  by_cases hj : j < kN M
  · have h1 := kW_at (G := G) (ad := ad) (M := M) (k := j + 1) (by omega) (by omega)
    have h2 := kW_at (G := G) (ad := kKa ad (kN M) a) (M := kK M) (k := j + 1) (by omega) (show j + 1 ≤ kN M + 35 by omega)
    rw [show j + 1 - 1 = j by omega] at h1 h2
    rw [List.getElem?_append_left (by omega), h1, h2, kKa_old (by omega), kCe_cg (M := M) (M' := kK M) (n := kN M) (fun i hi => kKa_old hi) (hO.at (by omega) (by omega)) (kK_old (by omega)) (fun b hb => kU_ne (show b ≠ kN M + 1 by have hb : b + 34 ≤ kN M := hb; omega))]
  · rw [List.getElem?_append_right (by omega), hl]
    by_cases hj5 : j < kN M + 35
    · obtain ⟨i, rfl⟩ : ∃ i, j = kN M + i := ⟨j - kN M, by omega⟩
      have h2 := kW_at (G := G) (ad := kKa ad (kN M) a) (M := kK M) (k := kN M + 1 + i) (by omega) (show kN M + 1 + i ≤ kN M + 35 by omega)
      rw [show kN M + 1 + i - 1 = kN M + i by omega] at h2
      rw [h2, Nat.add_sub_cancel_left, mmW_at (by omega), kCe_part (kK_new (by omega))]
      have h3 : kKa ad (kN M) a (kN M + 1 + i) = a i := by
        unfold kKa
        rw [if_pos (by omega), show kN M + 1 + i - kN M - 1 = i by omega]
      have h4 : (kK M).2.1 (kN M + 1) = kH0 := kU_self _ _ _
      rw [h3, h4]
      have h5 : mmCe G (fun i => kKa ad (kN M) a (kN M + 1 + i)) (kH0, ((fun _ => 0), 0)) i = mmCe G a (kH0, m0.2) i := mmCe_cg (by omega) (fun x hx => by
        unfold kKa
        rw [if_pos (by omega), show kN M + 1 + x - kN M - 1 = x by omega])
      rw [h5]
    · rw [List.getElem?_eq_none (by rw [kW_len]; show kN M + 35 ≤ j; omega), List.getElem?_eq_none (by rw [mmW_len]; omega)]
theorem kOk.kitchen {L : Nat} {xs : Nat → Int32} {M : kM} (hO : kOk L xs M) : kOk L xs (kK M) := by
  refine ⟨(kK_old (Nat.zero_le _)).trans hO.1, fun k h0 hk => ?_⟩
  have hk : k ≤ kN M + 35 := hk
  show kOc (kN M + 35) k (kK M).1
  by_cases h : k ≤ kN M
  · exact (hO.at h0 h).up h (by omega) (fun j hj => kK_old hj)
  · obtain ⟨j, rfl⟩ : ∃ j, k = kN M + 1 + j := ⟨k - kN M - 1, by omega⟩
    unfold kOc
    rw [kK_new (by omega)]
    exact ⟨by omega, by omega, rfl, by omega, fun i hi => kK_new hi⟩
def kNTok (q : Nat × Nat × Nat) : Prop := ∃ r : mmRow, mmP[q.1]? = some r ∧ mmOw r = 8 ∧ ((q.2.2 = 0 ∧ decode (mmCd r) q.2.1 = .ok (.new 10, 3) ∧ decode (mmCd r) (q.2.1 + 3) = .ok (.dup, 1) ∧ decode (mmCd r) (q.2.1 + 4) = .ok (.invokespecial 62, 3)) ∨ (q.2.2 = 1 ∧ decode (mmCd r) q.2.1 = .ok (.new 26, 3) ∧ decode (mmCd r) (q.2.1 + 3) = .ok (.dup, 1) ∧ decode (mmCd r) (q.2.1 + 4) = .ok (.invokespecial 72, 3)))
theorem kNT_all : ∀ q ∈ kNT, kNTok q := by
  intro q hq
  simp only [kNT, List.mem_cons, List.not_mem_nil, or_false] at hq
  rcases hq with rfl | rfl | rfl
  · exact ⟨mr81, rfl, rfl, Or.inl ⟨rfl, dL_build_0, dL_build_3, dL_build_4⟩⟩
  · exact ⟨mr82, rfl, rfl, Or.inr ⟨rfl, dL_law_0, dL_law_3, dL_law_4⟩⟩
  · exact ⟨mr83, rfl, rfl, Or.inr ⟨rfl, dL_without_0, dL_without_3, dL_without_4⟩⟩
section KNEW
variable {p : Program} {l : Launch} {e : Env} {R : Room} {s : State} {m : MethodId} {args : Array Value} {below : List Frame} {meth : Method} {c : Code} {H : Heap} {locs : List Loc} {cells slots : Nat} {Q : State → Prop}
set_option maxHeartbeats 8000000 in
set_option maxRecDepth 100000 in
theorem km_newB {D : va_G} {G : Nat → ClassId} {ad : Nat → Nat} {L : Nat} {xs : Nat → Int32} {M : kM} {cc : ByteArray} {A : Nat → Prop} {pc : Nat} {ls st : List Value} {lsR : Array Slot}
    (hx : p.tables.exec = Jvm.exec) (hb : c.code = cc) (hml : c.maxLocals = ls.length) (hown : s.vm.findClass RL = some m.cls)
    (hts : ∀ w ∈ mmBW, w.before args s = true) (hK : kKs D G s) (hA : ∀ q : Nat, s.heap.size ≤ q → A q)
    (hfr : 1 + 1 ≤ R.frames) (hlo : 20 + 12 ≤ R.locals) (hc1 : cells + 5 ≤ R.cells) (hc2 : slots + 53 ≤ R.slots)
    (hP : va_P D mmCls (kW G ad M) H) (hD : va_D A (kW G ad M)) (hS : va_S A s.heap H locs) (hL : mmLR ad lsR ls) (hO : kOk L xs M) (hls : vsOk (kN M) ls) (hst : vsOk (kN M) st) (h7 : mmSm st ≤ 7)
    (d0 : decode cc pc = .ok (.new 10, 3)) (d3 : decode cc (pc + 3) = .ok (.dup, 1)) (d4 : decode cc (pc + 4) = .ok (.invokespecial 62, 3))
    (kk : kKt p l e R s m args below meth c Q D G ad A L xs cells slots M (pc + 7) ls (.ref (kN M + 1) :: st) (kB M)) :
    W p l e R s m args below meth c H locs cells slots Q (F0 m pc lsR (st.map (mmV ad))) := by
  refine va_new (ci := 4) (fs := [.null, .null, .int 0, .null, .null]) (C := RX4) (T := TX4) (N := 5) hx hb hts mmIn4 tyX4 tyX4_ok hown (hts (.classLink RL 10 RX4) (by decide +kernel)) (hts (.instantiable RX4 5) (by decide +kernel)) (hts (.initialized RX4) bwi_RX4) hK.1 hP hD hS hA rfl (fun j hj => by rcases (show j = 0 ∨ j = 1 ∨ j = 2 ∨ j = 3 ∨ j = 4 by omega) with rfl | rfl | rfl | rfl | rfl <;> rfl) (by omega) (by omega) d0 (fun q0 H hP hD hS => ?_)
  refine lv_dup hx hb d3 rfl ?_
  obtain ⟨hPc, hDc, hAq⟩ := k_last hP hD
  have hFc : ∀ q, va_A (w0_X4 q0) H.size q → A q := by
    intro q h
    rcases h with ⟨k, e9, h⟩ | h
    · have : k < 1 := (List.getElem?_eq_some_iff.mp h).1
      obtain rfl : k = 0 := by omega
      cases h
      exact hAq
    · exact hA q (Nat.le_trans hS.1 h)
  refine va_callv (va_runIN (As := []) (rest := .ref q0 :: st.map (mmV ad)) (Ts := mmBW) ⟨hx, hb, hml.trans hL.1.symm, hown, hts⟩ (c_X4 l D G q0 H.size) ⟨va_cnB 0 hts (mmGood (fun w hw => by rcases List.mem_cons.mp hw with rfl | h; exact (by decide +kernel); exact h)) rfl rfl rfl (hK.2.2.2 (RL, 62, yX4_init, RL) (List.mem_of_getElem? (i := 3) rfl)) (hts (.initialized RX4) bwi_RX4) ⟨by decide, by decide, by decide +kernel⟩ ⟨by show 1 + 1 ≤ _; omega, by show 8 + (1 + 11) + 12 ≤ _; omega⟩, rfl, hts (.instanceMethod yX4_init) (by decide +kernel)⟩ ⟨fun a U g mk q => by obtain ⟨q0, q1, qP, qD, qK⟩ := q; exact ⟨q0, q1, qP, qD, kKs.same (s := U) rfl qK⟩, fun U hU hW => ⟨rfl, by rw [hU], by rw [hU]; exact hPc, hDc, hK.warm hW⟩⟩ rfl rfl rfl rfl (lv_room (by
      rw [List.map_cons, List.sum_cons, mmSum]
      show 1 + mmSm st ≤ 8
      omega)) d4 ⟨by show cells + 1 + 4 ≤ _; omega, by show slots + 5 + 48 ≤ _; omega⟩) hS (fun q _ h => hFc q h) hFc (fun u t H1 locs1 ht hvm hw hB hz1 hk1 hS1 => ?_)
  obtain ⟨q1, q2, q3, q4, hP1, hD1⟩ := hB
  rw [ht] at hP1
  obtain ⟨hP2, hD2⟩ := k_join hP hD hk1 hP1 hD1 hFc
  rw [← kW_B hO] at hP2 hD2
  have had : ∀ k, k ≤ kN M → kBa ad (kN M) q0 q1 q2 q3 q4 k = ad k := fun k hk => kBa_old hk
  have h9 := kk (kBa ad (kN M) q0 q1 q2 q3 q4) lsR H1 _ (cells + 1 + 4) (slots + 5 + 48) had (mmLR_eq had hls hL) hP2 hD2 hS1 hO.sim (hls.up (show kN M ≤ kN M + 5 by omega)) (vsOk.c (show kN M + 1 ≤ kN M + 5 by omega) (hst.up (show kN M ≤ kN M + 5 by omega))) (show kN M ≤ kN M + 5 by omega) (by show cells + 1 + 4 + kCs M = cells + (kCs M + 5); omega) (by show slots + 5 + 48 + kSs M = slots + (kSs M + 53); omega)
  rw [List.map_cons, mmV, mmVs_eq had hst, show kBa ad (kN M) q0 q1 q2 q3 q4 (kN M + 1) = q0 by simp [kBa, kU]] at h9
  exact h9
set_option maxHeartbeats 8000000 in
set_option maxRecDepth 100000 in
theorem km_newK {D : va_G} {G : Nat → ClassId} {ad : Nat → Nat} {L : Nat} {xs : Nat → Int32} {M : kM} {cc : ByteArray} {A : Nat → Prop} {pc : Nat} {ls st : List Value} {lsR : Array Slot}
    (hfl : l.stackTraces = false) (hx : p.tables.exec = Jvm.exec) (hb : c.code = cc) (hml : c.maxLocals = ls.length) (hown : s.vm.findClass RL = some m.cls)
    (hts : ∀ w ∈ mmBW, w.before args s = true) (hK : kKs D G s) (hZ : mmZq A s s.heap) (hA : ∀ q : Nat, s.heap.size ≤ q → A q)
    (hfr : 6 + 1 ≤ R.frames) (hlo : 20 + 136 ≤ R.locals) (hc1 : cells + 35 ≤ R.cells) (hc2 : slots + 688 ≤ R.slots)
    (hP : va_P D mmCls (kW G ad M) H) (hD : va_D A (kW G ad M)) (hS : va_S A s.heap H locs) (hL : mmLR ad lsR ls) (hO : kOk L xs M) (hls : vsOk (kN M) ls) (hst : vsOk (kN M) st) (h7 : mmSm st ≤ 7)
    (d0 : decode cc pc = .ok (.new 26, 3)) (d3 : decode cc (pc + 3) = .ok (.dup, 1)) (d4 : decode cc (pc + 4) = .ok (.invokespecial 72, 3))
    (kk : kKt p l e R s m args below meth c Q D G ad A L xs cells slots M (pc + 7) ls (.ref (kN M + 1) :: st) (kK M)) :
    W p l e R s m args below meth c H locs cells slots Q (F0 m pc lsR (st.map (mmV ad))) := by
  refine va_new (ci := 3) (fs := [.null, .null, .null, .null, .null, .null, .int 0, .int 0]) (C := RX3) (T := TX3) (N := 8) hx hb hts mmIn3 tyX3 tyX3_ok hown (hts (.classLink RL 26 RX3) (by decide +kernel)) (hts (.instantiable RX3 8) (by decide +kernel)) (hts (.initialized RX3) bwi_RX3) hK.1 hP hD hS hA rfl (fun j hj => by rcases (show j = 0 ∨ j = 1 ∨ j = 2 ∨ j = 3 ∨ j = 4 ∨ j = 5 ∨ j = 6 ∨ j = 7 by omega) with rfl | rfl | rfl | rfl | rfl | rfl | rfl | rfl <;> rfl) (by omega) (by omega) d0 (fun q0 H hP hD hS => ?_)
  refine lv_dup hx hb d3 rfl ?_
  obtain ⟨hPc, hDc, hAq⟩ := k_last hP hD
  have hFc : ∀ q, va_A (w0_X3 q0) H.size q → A q := by
    intro q h
    rcases h with ⟨k, e9, h⟩ | h
    · have : k < 1 := (List.getElem?_eq_some_iff.mp h).1
      obtain rfl : k = 0 := by omega
      cases h
      exact hAq
    · exact hA q (Nat.le_trans hS.1 h)
  have hKc : va_K D mmCls [] s := hK.1.sub [] rfl
  have hG : mmAC G s := ⟨(hK.1.2 0 _ rfl).2, (hK.1.2 1 _ rfl).2⟩
  refine va_callv (va_runI (As := []) (rest := .ref q0 :: st.map (mmV ad)) (Ts := mmBW) ⟨hx, hb, hml.trans hL.1.symm, hown, hts⟩ (c_X3 l hfl D G q0 H.size) (cwI 0 hts (mmGood (fun w hw => by rcases List.mem_cons.mp hw with rfl | h; exact (by decide +kernel); exact h)) rfl rfl rfl (hts (.initialized RX3) bwi_RX3) (hts (.methodLink RL 72 yX3_init) (by decide +kernel)) (hts (.instanceMethod yX3_init) (by decide +kernel)) rfl ⟨by decide, by decide, by decide +kernel⟩ ⟨by show 6 + 1 ≤ _; omega, by show 8 + (1 + 11) + 136 ≤ _; omega⟩) ⟨fun a U g mk q => by obtain ⟨q0, q1, qP, qK, qD, qG, qR, qN, qZ, qW⟩ := q; exact ⟨q0, q1, qP, va_K.moved (u := U) (U := U.calling g mk a) (Vm.Alike.refl U.vm) qK, qD, qG, mmKr.same (s := U) rfl qR, (fun q hq => va_Nw.same (u := U) rfl rfl (qN q hq)), vx_Zq.moved (u := U) (Vm.Alike.refl U.vm) qZ, vx_Zq.moved (u := U) (Vm.Alike.refl U.vm) qW⟩, fun U hU hW => ⟨rfl, by rw [hU], by rw [hU]; exact hPc, va_K.moved hW.alike hKc, hDc, hG.moved hW.alike, mmKr.warm hW hK.2.2.1, (fun q hq => va_Nw.warmM hW (hK.2.2.2 q (List.mem_append_left _ hq))), by rw [hU]; exact vx_Zq.moved hW.alike (vx_Zq.narrow (hZ.1.kept hS.2.1) hFc), by rw [hU]; exact vx_Zq.moved hW.alike (vx_Zq.narrow (hZ.2.kept hS.2.1) hFc)⟩⟩ rfl rfl rfl rfl (lv_room (by
      rw [List.map_cons, List.sum_cons, mmSum]
      show 1 + mmSm st ≤ 8
      omega)) d4 ⟨by show cells + 1 + 34 ≤ _; omega, by show slots + 8 + 680 ≤ _; omega⟩) hS (fun q _ h => hFc q h) hFc (fun u t H1 locs1 ht hvm hw hB hz1 hk1 hS1 => ?_)
  obtain ⟨a, hP1, hD1, ha0⟩ := hB
  rw [ht] at hP1
  obtain ⟨hP2, hD2⟩ := k_join hP hD hk1 hP1 hD1 hFc
  rw [← kW_K hO] at hP2 hD2
  have had : ∀ k, k ≤ kN M → kKa ad (kN M) a k = ad k := fun k hk => kKa_old hk
  have h9 := kk (kKa ad (kN M) a) lsR H1 _ (cells + 1 + 34) (slots + 8 + 680) had (mmLR_eq had hls hL) hP2 hD2 hS1 hO.kitchen (hls.up (show kN M ≤ kN M + 35 by omega)) (vsOk.c (show kN M + 1 ≤ kN M + 35 by omega) (hst.up (show kN M ≤ kN M + 35 by omega))) (show kN M ≤ kN M + 35 by omega) (by show cells + 1 + 34 + kCs M = cells + (kCs M + 35); omega) (by show slots + 8 + 680 + kSs M = slots + (kSs M + 688); omega)
  rw [List.map_cons, mmV, mmVs_eq had hst, show kKa ad (kN M) a (kN M + 1) = q0 by rw [← ha0]; unfold kKa; rw [if_pos (by omega), show kN M + 1 - kN M - 1 = 0 by omega]] at h9
  exact h9
end KNEW
