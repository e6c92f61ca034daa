/-! what holds at the law's entry: array classes, the five classes, String constants -/
theorem ac_find {A : Array Value} {s : State} {ty : FieldType} (h : (Cond.arrayClass ty).before A s = true) : ∃ c : ClassId, s.vm.findClass ("[" ++ ty.toString) = some c := by
  obtain ⟨c, k, comp, h1, -, -⟩ := Cond.arrayClass_spec h
  exact ⟨c, h1⟩
theorem kn_all {s : State} {c0 c1 c2 c3 c4 : ClassId} {i0 i1 i2 i3 i4 : Nat → Nat} (k0 : u_Kn s RX0 TX0 5 c0 i0) (k1 : u_Kn s RX1 TX1 6 c1 i1) (k2 : u_Kn s RX2 TX2 7 c2 i2) (k3 : u_Kn s RX3 TX3 8 c3 i3) (k4 : u_Kn s RX4 TX4 5 c4 i4) : ∃ D : va_G, ∀ (c : Nat) (q : vw_C), mmCls[c]? = some q → u_Kn s q.1 q.2.1 q.2.2 (D.1 c) (D.2 c) := by
  refine ⟨(fun k => if k = 0 then c0 else if k = 1 then c1 else if k = 2 then c2 else if k = 3 then c3 else c4, fun k => if k = 0 then i0 else if k = 1 then i1 else if k = 2 then i2 else if k = 3 then i3 else i4), ?_⟩
  intro c q hq
  have hc : c < 5 := (List.getElem?_eq_some_iff.mp hq).1
  rcases (show c = 0 ∨ c = 1 ∨ c = 2 ∨ c = 3 ∨ c = 4 by omega) with rfl | rfl | rfl | rfl | rfl
  · have e : (RX0, TX0, 5) = q := Option.some.inj hq
    subst e
    exact k0
  · have e : (RX1, TX1, 6) = q := Option.some.inj hq
    subst e
    exact k1
  · have e : (RX2, TX2, 7) = q := Option.some.inj hq
    subst e
    exact k2
  · have e : (RX3, TX3, 8) = q := Option.some.inj hq
    subst e
    exact k3
  · have e : (RX4, TX4, 5) = q := Option.some.inj hq
    subst e
    exact k4
theorem at_kn {s : State} {b : Nat} (hts : ∀ w ∈ lw_tbl, w.before #[Value.ref b] s = true) : ∃ D : va_G, va_K D mmCls [] s := by
  have hb := at_bw hts
  obtain ⟨c0, i0, k0⟩ := u_known (C := RX0) (T := TX0) (N := 5) (n := 5) hb mmIn0 (hb (.instantiable RX0 5) (by decide +kernel))
  obtain ⟨c1, i1, k1⟩ := u_known (C := RX1) (T := TX1) (N := 6) (n := 6) hb mmIn1 (hb (.instantiable RX1 6) (by decide +kernel))
  obtain ⟨c2, i2, k2⟩ := u_known (C := RX2) (T := TX2) (N := 7) (n := 7) hb mmIn2 (hb (.instantiable RX2 7) (by decide +kernel))
  obtain ⟨c3, i3, k3⟩ := u_known (C := RX3) (T := TX3) (N := 8) (n := 8) hb mmIn3 (hb (.instantiable RX3 8) (by decide +kernel))
  obtain ⟨c4, i4, k4⟩ := u_known (C := RX4) (T := TX4) (N := 5) (n := 5) hb mmIn4 (hb (.instantiable RX4 5) (by decide +kernel))
  obtain ⟨D, hD⟩ := kn_all k0 k1 k2 k3 k4
  exact ⟨D, hD, fun k q h => by simp at h⟩
theorem str_ex {A : Array Value} {s : State} {own tx : String} {k : Nat} {c : ClassId} (hc : s.vm.findClass own = some c) (h : (Cond.stringRef own k tx).before A s = true) : ∃ a, vk_R own k tx a s := by
  obtain ⟨k9, cf, i, a, -, -, -, -, -, he⟩ := Cond.stringRef_spec hc h
  exact ⟨a, vk_R.of h he⟩
theorem at_str {s : State} {b : Nat} {D : va_G} (hK : va_K D mmCls [] s) (hts : ∀ w ∈ lw_tbl, w.before #[Value.ref b] s = true) : ∀ q ∈ mmStr, ∃ a, vk_R q.1 q.2.1 q.2.2 a s := by
  have h : ∀ q ∈ mmStr, Cond.stringRef q.1 q.2.1 q.2.2 ∈ lw_tbl := by decide +kernel
  have ho : ∀ q ∈ mmStr, q.1 = RX1 ∨ q.1 = RX3 := by decide +kernel
  have h1 : s.vm.findClass RX1 = some (D.1 1) := (hK.1 1 (RX1, TX1, 6) rfl).2.1
  have h3 : s.vm.findClass RX3 = some (D.1 3) := (hK.1 3 (RX3, TX3, 8) rfl).2.1
  intro q hq
  rcases ho q hq with e | e
  · exact str_ex (by rw [e]; exact h1) (hts _ (h q hq))
  · exact str_ex (by rw [e]; exact h3) (hts _ (h q hq))
theorem at_kr {s : State} {b : Nat} {D : va_G} (hK : va_K D mmCls [] s) (hts : ∀ w ∈ lw_tbl, w.before #[Value.ref b] s = true) (hgv : (Jvm.Cond.and given_1 narrow_1).before #[Value.ref b] s = true) : mmKr s := ⟨at_nst hts, at_str hK hts, at_ng hts⟩
theorem mmKr.same {s U : State} (hv : U.vm = s.vm) (h : mmKr s) : mmKr U :=
  have ha : s.vm.Alike U.vm := by rw [hv]; exact Vm.Alike.refl s.vm
  ⟨fun q hq => va_Nw.same rfl hv.symm (h.1 q hq), fun q hq => (h.2.1 q hq).elim fun a hx => ⟨a, vk_R.same hv hx⟩, fun w hw => va_Nw.same (mmNG_tab hw) hv.symm (h.2.2 w hw)⟩
theorem mmKr.warm {s U : State} (hW : s.WarmedH U.vm) (h : mmKr s) : mmKr U :=
  ⟨fun q hq => va_Nw.warmM hW (h.1 q hq), fun q hq => (h.2.1 q hq).elim fun a ha => ⟨a, vk_R.warm hW ha⟩, fun w hw => mmNG_warm hW hw (h.2.2 w hw)⟩
