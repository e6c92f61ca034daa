/-! what rides in every contract beside the good words: nest links, text constants, classes of exceptions; the two statics of Throwable -/
def mmEx (e : Nat) : String := match e with
  | 0 => "java/lang/IndexOutOfBoundsException"
  | 1 => "java/lang/IllegalArgumentException"
  | _ => "java/lang/IllegalStateException"
abbrev mmUp : List String := ["java/lang/RuntimeException", "java/lang/Exception"]
def mmNG : List Cond := [.castable (mmEx 0) (mmEx 0), .castable (mmEx 1) (mmEx 1), .castable (mmEx 2) (mmEx 2), .declares ⟨"java/lang/RuntimeException", "<init>", "(Ljava/lang/String;)V"⟩, .declares ⟨"java/lang/Exception", "<init>", "(Ljava/lang/String;)V"⟩, .declares ⟨"java/lang/Throwable", "<init>", "(Ljava/lang/String;)V"⟩]
def mmStr : List (String × Nat × String) := [(RX1, 34, "there are 30 deeds"), (RX1, 41, "there is no such deed"), (RX3, 79, "hooks is not 1 to 8"), (RX3, 117, "what is not 0 to 6"), (RX3, 138, "what is not 0 to 5"), (RX3, 159, "what is not 0 to 9"), (RX3, 161, "there is no such hook"), (RX3, 175, "hooks is not 1 to 16"), (RX3, 218, "there is no such deed"), (RX3, 223, "a pot is not 0 to 15"), (RX3, 225, "a pot is not -1 to 15"), (RX3, 227, "weight is not 1 to 9")]
def mmKs (D : va_G) (G : Nat → ClassId) (n : Nat) (U : State) : Prop := va_K D mmCls (mmTy G n) U ∧ (∀ q ∈ mmNst, va_Nw (.methodLinkNest q.1 q.2.1 q.2.2.1 q.2.2.2) U) ∧ (∀ q ∈ mmStr, ∃ a, vk_R q.1 q.2.1 q.2.2 a U) ∧ (∀ w ∈ mmNG, va_Nw w U)
theorem mmNG_warm {s U : State} (hW : s.WarmedH U.vm) {w : Cond} (hw : w ∈ mmNG) (h : va_Nw w s) : va_Nw w U := by
  simp only [mmNG, List.mem_cons, List.not_mem_nil, or_false] at hw
  rcases hw with rfl | rfl | rfl | rfl | rfl | rfl
  · exact va_Nw.warmC hW h
  · exact va_Nw.warmC hW h
  · exact va_Nw.warmC hW h
  · exact va_Nw.warmD hW h
  · exact va_Nw.warmD hW h
  · exact va_Nw.warmD hW h
theorem mmNG_tab {w : Cond} (hw : w ∈ mmNG) : w.onTables = true := by
  simp only [mmNG, List.mem_cons, List.not_mem_nil, or_false] at hw
  rcases hw with rfl | rfl | rfl | rfl | rfl | rfl <;> rfl
theorem mmKs.warm {D : va_G} {G : Nat → ClassId} {n : Nat} {s U : State} (hW : s.WarmedH U.vm) (h : mmKs D G n s) : mmKs D G n U :=
  ⟨va_K.moved hW.alike h.1, fun q hq => va_Nw.warmM hW (h.2.1 q hq), fun q hq => (h.2.2.1 q hq).elim fun a ha => ⟨a, vk_R.warm hW ha⟩, fun w hw => mmNG_warm hW hw (h.2.2.2 w hw)⟩
theorem mmKs.same {D : va_G} {G : Nat → ClassId} {n : Nat} {s U : State} (hv : U.vm = s.vm) (h : mmKs D G n s) : mmKs D G n U :=
  have ha : s.vm.Alike U.vm := by rw [hv]; exact Vm.Alike.refl s.vm
  ⟨va_K.moved ha h.1, fun q hq => va_Nw.same rfl hv.symm (h.2.1 q hq), fun q hq => (h.2.2.1 q hq).elim fun a hx => ⟨a, vk_R.same hv hx⟩, fun w hw => va_Nw.same (mmNG_tab hw) hv.symm (h.2.2.2 w hw)⟩
/-- the picture with which a method begins -/
def mmZq (A : Nat → Prop) (U : State) (H : Heap) : Prop := vx_Zq Bundle.tN "UNASSIGNED_STACK" Bundle.steD A U H ∧ vx_Zq Bundle.tN "SUPPRESSED_SENTINEL" Bundle.listD A U H
def mmPic (D : va_G) (G : Nat → ClassId) (ad : Nat → Nat) (M : mmM) (n sz : Nat) (U : State) : Prop := U.heap.size = sz ∧ va_P D mmCls (mmW G ad M n) U.heap ∧ va_D (fun _ => True) (mmW G ad M n) ∧ mmKs D G n U ∧ mmZq (va_A (mmW G ad M n) sz) U U.heap
theorem mmPic_blind {D : va_G} {G : Nat → ClassId} {ad : Nat → Nat} {M : mmM} {n sz : Nat} {av : List Value} : FrameBlind (va_Pc av (mmPic D G ad M n sz)) := by
  intro a U g mk h
  obtain ⟨h1, hsz, hP, hD, hK, hU, hN⟩ := h
  exact ⟨h1, hsz, hP, hD, mmKs.same (s := U) rfl hK, vx_Zq.moved (u := U) (Vm.Alike.refl U.vm) hU, vx_Zq.moved (u := U) (Vm.Alike.refl U.vm) hN⟩
def mmQr (D : va_G) (G : Nat → ClassId) (ad : Nat → Nat) (M' : mmM) (n : Nat) (o : Option Value ⊕ Nat) (A : Nat → Prop) : Array Value → State → Outcome → State → Prop := fun _ st oc t => (∃ v, o = .inl v ∧ oc = .returned (v.map (mmV ad)) ∧ va_P D mmCls (mmW G ad M' n) t.heap) ∧ va_F A st t
def mmXr (D : va_G) (G : Nat → ClassId) (ad : Nat → Nat) (M' : mmM) (n : Nat) (o : Option Value ⊕ Nat) (A : Nat → Prop) : String → State → State → Prop := fun E st t => (∃ e, o = .inr e ∧ E = mmEx e ∧ va_P D mmCls (mmW G ad M' n) t.heap) ∧ va_F A st t
def mmRm (r : mmRow) (k : Nat) : Room := { frames := mmFr r, cells := k, slots := 6 * k, locals := mmLo r }
def mmCon (l : Launch) (f : Nat) : Prop := ∀ (n z : Nat) (r : mmRow) (As : List Value) (M M' : mmM) (o : Option Value ⊕ Nat), n ≤ 35 → mmP[z]? = some r → mmFr r ≤ 10 → mmGo f none n z 0 (mmEn (mmMl r) As) [] M = some (o, M') → (mmEl As).length ≤ mmMl r →
  ∀ (D : va_G) (G : Nat → ClassId) (ad : Nat → Nat) (sz : Nat), vx_Met l (mmNm r) (mmHd r :: mmBW) (mmRm r (M'.2.2 - M.2.2)) (va_Pc (As.map (mmV ad)) (mmPic D G ad M n sz)) (mmQr D G ad M' n o (va_A (mmW G ad M n) sz)) (mmXr D G ad M' n o (va_A (mmW G ad M n) sz)) (M'.2.2 - M.2.2) (6 * (M'.2.2 - M.2.2)) (va_A (mmW G ad M n) sz)
set_option maxHeartbeats 4000000 in
theorem mmS_same {S : mmScr} {n o pc pc' len : Nat} {w : Bool} {ins : Instr} {ls ls' st st' : List Value} {M M' : mmM} (h : mmS S n o w pc ins len ls st M = some (pc', ls', st', M')) : M'.2.2 = M.2.2 ∧ ls'.length = ls.length := by
  cases ins <;> simp only [mmS, mmIf, mmLd] at h <;> (repeat' split at h) <;> first
    | (cases h; exact ⟨rfl, rfl⟩)
    | (obtain ⟨l2, hl2, he⟩ := Option.map_eq_some_iff.mp h; cases he; exact ⟨rfl, mmSt1_len hl2⟩)
    | (obtain ⟨l2, hl2, he⟩ := Option.map_eq_some_iff.mp h; cases he; exact ⟨rfl, mmSt2_len hl2⟩)
    | (obtain ⟨l2, hl2, he⟩ := Option.map_eq_some_iff.mp h; cases he; exact ⟨rfl, rfl⟩)
    | (cases h)
theorem mmE_len {rt : Option FieldType} {ins : Instr} {len : Nat} {st : List Value} {v : Option Value} (h : mmE rt ins st = some v) (hl : mmLn ins len = true) : len = 1 := by
  cases ins <;> simp only [mmE] at h <;> first | (simpa [mmLn] using hl) | (cases h)
theorem mmGo_mono : ∀ (f : Nat) (S : mmScr) (n y pc : Nat) (ls st : List Value) (M M' : mmM) (o : Option Value ⊕ Nat), mmGo f S n y pc ls st M = some (o, M') → M.2.2 ≤ M'.2.2
  | 0, S, n, y, pc, ls, st, M, M', o, h => by simp [mmGo] at h
  | f + 1, S, n, y, pc, ls, st, M, M', o, h => by
    have ih := mmGo_mono f
    simp only [mmGo] at h
    repeat' split at h
    all_goals first
      | (rename_i hs; have h1 := (mmS_same hs).1; have h2 := ih _ _ _ _ _ _ _ _ _ h; omega)
      | (cases h; exact Nat.le_refl _)
      | (cases h; done)
      | (cases h; exact ih _ _ _ _ _ _ _ _ _ (by assumption))
      | (cases h; simp [mmT])
      | (exact Nat.le_trans (ih _ _ _ _ _ _ _ _ _ (by assumption)) (ih _ _ _ _ _ _ _ _ _ h))
