/-! ONE STEP of the kitchen machine is one step of the real one -/
/-- links of classes and constants that the law and the sim name -/
theorem kwk_0 : Cond.constant RL 7 2147483647 ∈ mmBW := bw3 (i := 35) (by decide +kernel) rfl
theorem kwk_1 : Cond.constant RL 8 790386105 ∈ mmBW := bw3 (i := 39) (by decide +kernel) rfl
theorem kwk_2 : Cond.constant RL 67 100000 ∈ mmBW := bw3 (i := 130) (by decide +kernel) rfl
theorem kKI_all : ∀ q ∈ kKI, ∃ own, mmOwn[q.1]? = some own ∧ Cond.constant own q.2.1 q.2.2 ∈ mmBW := by
  intro q hq
  simp only [kKI, List.mem_cons, List.not_mem_nil, or_false] at hq
  rcases hq with rfl | rfl | rfl
  · exact ⟨_, rfl, kwk_0⟩
  · exact ⟨_, rfl, kwk_1⟩
  · exact ⟨_, rfl, kwk_2⟩
theorem kwx_80 : Cond.methodLink RX4 80 Lib.Math.max.name ∈ mmBW := bw3 (i := 21) (by decide +kernel) rfl
theorem kwx_42 : Cond.methodLink RX4 42 Lib.Math.min.name ∈ mmBW := bw3 (i := 12) (by decide +kernel) rfl
theorem kwx_s : Cond.static Lib.Math.min.name ∈ mmBW := bw3 (i := 13) (by decide +kernel) rfl
theorem kwx_c : Cond.code Lib.Math.min.name Lib.Math.min.code 2 (some .int) ∈ mmBW := bw3 (i := 14) (by decide +kernel) rfl
theorem kMX_all : ∀ q ∈ kMX, ∃ own, mmOwn[q.1]? = some own ∧ Cond.methodLink own q.2.1 (if q.2.2 = true then Lib.Math.max.name else Lib.Math.min.name) ∈ mmBW := by
  intro q hq
  simp only [kMX, List.mem_cons, List.not_mem_nil, or_false] at hq
  rcases hq with rfl | rfl
  · exact ⟨_, rfl, kwx_80⟩
  · exact ⟨_, rfl, kwx_42⟩
theorem kwa_60 : Cond.classLink RL 60 (FieldType.array .int).toString ∈ mmBW := bw3 (i := 47) (by decide +kernel) rfl
theorem kwa_7 : Cond.classLink RX4 7 (FieldType.array .int).toString ∈ mmBW := bw3 (i := 88) (by decide +kernel) rfl
theorem kwa_36 : Cond.classLink RX4 36 ("[" ++ (FieldType.array .boolean).toString) ∈ mmBW := bw2 (i := 218) (by decide +kernel) rfl
theorem kwa_I : Cond.arrayClass .int ∈ mmBW := bw1 (i := 60) (by decide +kernel) rfl
theorem kwa_Z : Cond.arrayClass .boolean ∈ mmBW := bw1 (i := 61) (by decide +kernel) rfl
theorem kAL_all : ∀ q ∈ kAL, ∃ own, mmOwn[q.1]? = some own ∧ Cond.classLink own q.2.1 (FieldType.array .int).toString ∈ mmBW := by
  intro q hq
  simp only [kAL, List.mem_cons, List.not_mem_nil, or_false] at hq
  rcases hq with rfl | rfl
  · exact ⟨_, rfl, kwa_60⟩
  · exact ⟨_, rfl, kwa_7⟩
theorem kLd_spec {ls ls' st st' : List Value} {M M' : kM} {i pc len pc' : Nat} {ok : Value → Bool} (h : kLd ls i pc len st M ok = some (pc', ls', st', M')) : ∃ v, ls[i]? = some v ∧ ok v = true ∧ pc' = pc + len ∧ ls' = ls ∧ st' = v :: st ∧ M' = M := by
  unfold kLd at h
  split at h
  · rename_i v hv
    split at h
    · rename_i hok
      cases h
      exact ⟨v, hv, hok, rfl, rfl, rfl, rfl⟩
    · cases h
  · cases h
theorem vsOk.c {n : Nat} {v : Value} {l : List Value} (h : vOk n v) (hl : vsOk n l) : vsOk n (v :: l) := fun x hx => by
  rcases List.mem_cons.mp hx with rfl | hx
  · exact h
  · exact hl x hx
theorem vsOk.h {n : Nat} {v : Value} {l : List Value} (h : vsOk n (v :: l)) : vOk n v := h v List.mem_cons_self
theorem vsOk.t {n : Nat} {v : Value} {l : List Value} (h : vsOk n (v :: l)) : vsOk n l := fun x hx => h x (List.mem_cons_of_mem _ hx)
theorem vsOk.at {n i : Nat} {v : Value} {l : List Value} (h : vsOk n l) (hi : l[i]? = some v) : vOk n v := h v (List.mem_of_getElem? hi)
theorem vsOk.st1 {n i : Nat} {v : Value} {l l2 : List Value} (h : vsOk n l) (hv : vOk n v) (hs : mmSt1 l i v = some l2) : vsOk n l2 := by
  unfold mmSt1 at hs
  split at hs
  · cases hs
    intro x hx
    rcases List.mem_or_eq_of_mem_set hx with hx | rfl
    · exact h x hx
    · exact hv
  · cases hs
theorem vsOk.st2 {n i : Nat} {v : Value} {l l2 : List Value} (h : vsOk n l) (hv : vOk n v) (hs : mmSt2 l i v = some l2) : vsOk n l2 := by
  unfold mmSt2 at hs
  split at hs
  · cases hs
    intro x hx
    rcases List.mem_or_eq_of_mem_set hx with hx | rfl
    · rcases List.mem_or_eq_of_mem_set hx with hx | rfl
      · exact h x hx
      · exact hv
    · trivial
  · cases hs
/-- the script is where it was; what is written lies elsewhere -/
def kXs (L : Nat) (xs : Nat → Int32) (ad : Nat → Nat) (A : Nat → Prop) (s : State) : Prop := va_X (ad 0) L xs s s.heap ∧ ad 0 < s.heap.size ∧ ¬ A (ad 0)
/-- what goes on behind a step -/
abbrev kKt (p : Program) (l : Launch) (e : Env) (R : Room) (s : State) (m : MethodId) (args : Array Value) (below : List Frame) (meth : Method) (c : Code) (Q : State → Prop) (D : va_G) (G : Nat → ClassId) (ad : Nat → Nat) (A : Nat → Prop) (L : Nat) (xs : Nat → Int32) (cells slots : Nat) (M : kM) (pc' : Nat) (ls' st' : List Value) (M' : kM) : Prop :=
  ∀ (ad' : Nat → Nat) (lsR' : Array Slot) (H' : Heap) (locs' : List Loc) (cells' slots' : Nat), (∀ k, k ≤ kN M → ad' k = ad k) → mmLR ad' lsR' ls' → va_P D mmCls (kW G ad' M') H' → va_D A (kW G ad' M') → va_S A s.heap H' locs' → kOk L xs M' → vsOk (kN M') ls' → vsOk (kN M') st' → kN M ≤ kN M' → cells' + kCs M = cells + kCs M' → slots' + kSs M = slots + kSs M' → W p l e R s m args below meth c H' locs' cells' slots' Q (F0 m pc' lsR' (st'.map (mmV ad')))
theorem ka_anew {p : Program} {l : Launch} {e : Env} {R : Room} {s : State} {m : MethodId} {args : Array Value} {below : List Frame} {meth : Method} {c : Code} {H H0 : Heap} {locs : List Loc} {cells slots : Nat} {Q : State → Prop} {cc : ByteArray} {pc : Nat} {ls : Array Slot} {rest : List Value} {D : va_G} {cl : List vw_C} {A : Nat → Prop} {tys : List (ClassId × FieldType)} {ws : va_W}
    (hexec : p.tables.exec = Jvm.exec) (hb : c.code = cc) {own : String} {index : Nat} {t : FieldType} (hown : s.vm.findClass own = some m.cls) (hclink : (Cond.classLink own index (FieldType.array t).toString).before args s = true) (hover : va_AOA t s) (hK : va_K D cl tys s) (hP : va_P D cl ws H) (hD : va_D A ws) (hS : va_S A H0 H locs) (hA : ∀ q, H0.size ≤ q → A q)
    {n : Int32} {N' : Nat} (hn : ¬ n < 0) (hN : n.toNatClampNeg = N') (hbytes : N' * 4 ≤ 536870912) (hcells : cells + 1 ≤ R.cells) (hslots : slots + N' ≤ R.slots) (hdg : decode cc pc = .ok (.anewarray index, 3))
    (kk : ∀ (q : Nat) (cA : ClassId) (H1 : Heap), va_K D cl (tys ++ [(cA, .array t)]) s → va_P D cl (ws ++ [(q, .inl (cA, N', .inr (.inr (.inr (.inr (fun _ => none))))))]) H1 → va_D A (ws ++ [(q, .inl (cA, N', .inr (.inr (.inr (.inr (fun _ => none))))))]) → va_S A H0 H1 locs →
      W p l e R s m args below meth c H1 locs (cells + 1) (slots + N') Q (F0 m (pc + 3) ls (.ref q :: rest))) : W p l e R s m args below meth c H locs cells slots Q (F0 m pc ls (.int n :: rest)) := by
  subst hN
  refine W.anewA hexec hb hown hclink (va_AOA.use hover) rfl hdg rfl hn hbytes hcells hslots fun cA kA comp f1 f2 f3 f4 => ?_
  generalize hH1 : H.push ({ cls := cA, slots := Array.replicate n.toNatClampNeg .null, vm := .none } : Cell) = H1
  have z1 : H1.size = H.size + 1 := by rw [← hH1, Array.size_push]
  have e1 : H1[H.size]? = some (arrV cA n.toNatClampNeg (fun _ => .null)) := by rw [← hH1, Array.getElem?_push_size, ← arrV_new]
  have o1 : ∀ q : Nat, q < H.size → H1[q]? = H[q]? := fun q hq => by rw [← hH1, Array.getElem?_push, if_neg (Nat.ne_of_lt hq)]
  have hAr : ArrOfT s cA (.array t) := fun N z => ⟨(fun k h => by cases h), kA, f2, comp, f3⟩
  have hk : ∀ (k : Nat) (x : Nat × va_E), ws[k]? = some x → H1[x.1]? = H[x.1]? := fun k x hx => o1 x.1 ((hP k x hx).lt)
  refine kk H.size cA H1 ⟨hK.1, fun k x hx => ?_⟩ ((hP.kept hk).app (fun k x hx => ?_)) (hD.push hP rfl (hA _ hS.1)) ⟨Nat.le_trans hS.1 (by omega), fun x h1 h2 => (o1 x (Nat.lt_of_lt_of_le h1 hS.1)).trans (hS.2.1 x h1 h2), hS.2.2⟩
  · by_cases hl : k < tys.length
    · rw [List.getElem?_append_left hl] at hx
      exact hK.2 k x hx
    · rw [List.getElem?_append_right (by omega)] at hx
      have hz : k - tys.length < 1 := (List.getElem?_eq_some_iff.mp hx).1
      rw [show k - tys.length = 0 by omega] at hx
      cases hx
      exact ⟨hAr, f1⟩
  · have hz : k < 1 := (List.getElem?_eq_some_iff.mp hx).1
    rw [show k = 0 by omega] at hx
    cases hx
    show H1[H.size]? = some (vp_cell _ _)
    rw [vp_cell_q]
    exact e1
/-- storing a row of ints among rows of ints -/
theorem ka_ast {p : Program} {l : Launch} {e : Env} {R : Room} {s : State} {m : MethodId} {args : Array Value} {below : List Frame} {meth : Method} {c : Code} {H H0 : Heap} {locs : List Loc} {cells slots : Nat} {Q : State → Prop} {cc : ByteArray} {pc : Nat} {ls : Array Slot} {rest : List Value} {D : va_G} {cl : List vw_C} {A : Nat → Prop} {tys : List (ClassId × FieldType)} {ws : va_W} {a : Nat}
    (hexec : p.tables.exec = Jvm.exec) (hb : c.code = cc) (hK : va_K D cl tys s) (hP : va_P D cl ws H) (hD : va_D A ws) (hS : va_S A H0 H locs) (q0 t0 qk t1 : Nat) {cA cI : ClassId} {n v : Nat} {f : Nat → Option Nat} {n9 : Nat} {f9 : Nat → Int32} (ha : ws[q0]? = some (a, .inl (cA, n, .inr (.inr (.inr (.inr f)))))) (ht : tys[t0]? = some (cA, .array .int)) (hv : ws[qk]? = some (v, .inl (cI, n9, .inl f9))) (ht1 : tys[t1]? = some (cI, .int)) (hover : va_AOA .int s) {i : Int32} (hin : vp_in i n) (hdg : decode cc pc = .ok (.aastore, 1))
    (kk : ∀ (H1 : Heap) (locs1 : List Loc), va_P D cl (ws.set q0 (a, .inl (cA, n, .inr (.inr (.inr (.inr (va_up f i.toNatClampNeg (some v)))))))) H1 → va_D A (ws.set q0 (a, .inl (cA, n, .inr (.inr (.inr (.inr (va_up f i.toNatClampNeg (some v)))))))) → va_S A H0 H1 locs1 → W p l e R s m args below meth c H1 locs1 cells slots Q (F0 m (pc + 1) ls rest)) : W p l e R s m args below meth c H locs cells slots Q (F0 m pc ls (.ref v :: .int i :: .ref a :: rest)) := by
  have hlt : i.toNatClampNeg < n := Nat.not_le.mp fun q => hin (Or.inr q)
  have h0 : ¬ i < 0 := fun q => hin (Or.inl q)
  obtain ⟨comp, cB, kB, o1, o2, o3, o4, o5⟩ := arrayOverA_spec (va_AOA.use (args := args) hover)
  have hcB : cB = cA := Option.some.inj (o5.symm.trans (hK.2 t0 _ ht).2)
  subst hcB
  have hcI : comp = cI := Option.some.inj (o1.symm.trans (hK.2 t1 _ ht1).2)
  subst hcI
  obtain ⟨kC, hkC, -⟩ := Vm.findClass_spec o1
  have hcv : H[v]? = some (arrV comp n9 (fun j => .int (f9 j))) := hP qk _ hv
  refine W.aast hexec hb (hP q0 _ ha) (fun q h => by cases h) (fun h => by cases h) o3 o4 rfl hkC ⟨h0, by show _ < (arrV _ _ _).slots.size; rw [arrV_size]; exact hlt⟩ hcv (fun q h => by cases h) hkC (va_asg _ _) rfl rfl hdg fun H1 e z oq => ?_
  refine kk H1 _ (hP.set hD ha ?_ oq) (hD.set ha) (hS.put z oq (hD.2 q0 _ ha))
  show H1[a]? = some (vp_cell _ _)
  rw [e]
  rw [vp_cell_q, vp_cell_q, arrV_store]
  congr 2
  funext q
  by_cases hq : q = i.toNatClampNeg
  · subst hq
    simp [updV, va_up, va_rf]
  · simp [updV, va_up, hq]
theorem ka_ald {p : Program} {l : Launch} {e : Env} {R : Room} {s : State} {m : MethodId} {args : Array Value} {below : List Frame} {meth : Method} {c : Code} {H : Heap} {locs : List Loc} {cells slots : Nat} {Q : State → Prop} {cc : ByteArray} {pc : Nat} {ls : Array Slot} {rest : List Value} {D : va_G} {cl : List vw_C} {tys : List (ClassId × FieldType)} {ws : va_W} {a : Nat}
    (hexec : p.tables.exec = Jvm.exec) (hb : c.code = cc) (hK : va_K D cl tys s) (hP : va_P D cl ws H) (q0 t0 : Nat) {cA : ClassId} {ty : FieldType} {n : Nat} {f : Nat → Option Nat} (ha : ws[q0]? = some (a, .inl (cA, n, .inr (.inr (.inr (.inr f)))))) (ht : tys[t0]? = some (cA, .array ty)) {i : Int32} (hin : vp_in i n) (hdg : decode cc pc = .ok (.aaload, 1))
    (kk : W p l e R s m args below meth c H locs cells slots Q (F0 m (pc + 1) ls (va_rf (f i.toNatClampNeg) :: rest))) : W p l e R s m args below meth c H locs cells slots Q (F0 m pc ls (.int i :: .ref a :: rest)) := by
  have hlt : i.toNatClampNeg < n := Nat.not_le.mp fun q => hin (Or.inr q)
  exact W.aald (v := va_rf (f i.toNatClampNeg)) (ty := .array ty) hexec hb (hP q0 _ ha) ((hK.2 t0 _ ht).1 n (fun j => va_rf (f j))) rfl (fun q => by cases q) (by show ¬ (i < 0 ∨ (arrV _ _ _).slots.size ≤ _); rw [arrV_size]; exact hin) (by show (arrV _ _ _).slots[_]? = _; rw [arrV_read _ _ hlt]) rfl rfl hdg kk
