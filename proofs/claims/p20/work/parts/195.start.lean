/-! the law from its entry to its end -/
theorem kE_one {r : mmRow} {ins : Instr} {st : List Value} (h : kE (mmRt r) ins st = some (some (.int 1))) : ins = .ireturn ∧ st = [.int 1] := by
  cases ins <;> simp only [kE] at h
  case ireturn =>
    split at h
    · split at h
      · cases h
        exact ⟨rfl, rfl⟩
      · cases h
    · cases h
  all_goals (repeat' split at h) <;> cases h
theorem at_kK {s : State} {b : Nat} {D : va_G} (hK : va_K D mmCls [] s) (hts : ∀ w ∈ lw_tbl, w.before #[Value.ref b] s = true) : ∃ G : Nat → ClassId, va_K D mmCls (kTy G) s ∧ va_AOA .int s ∧ va_AOA .boolean s := by
  have w1 : (Cond.arrayClass .int).before #[Value.ref b] s = true := hts _ (by decide +kernel)
  have w2 : (Cond.arrayClass .boolean).before #[Value.ref b] s = true := hts _ (by decide +kernel)
  have w3 : (Cond.arrayOver (.array .int)).before #[Value.ref b] s = true := hts _ (by decide +kernel)
  have w4 : (Cond.arrayOver (.array .boolean)).before #[Value.ref b] s = true := hts _ (by decide +kernel)
  obtain ⟨c0, k0, p0, a1, a2, a3⟩ := Cond.arrayClass_spec w1
  obtain ⟨c1, k1, p1, b1, b2, b3⟩ := Cond.arrayClass_spec w2
  obtain ⟨p2, c2, k2, -, d2, d3, d1⟩ := Cond.arrayOver_specA w3
  obtain ⟨p3, c3, k3, -, e2, e3, e1⟩ := Cond.arrayOver_specA w4
  refine ⟨fun k => if k = 0 then c0 else if k = 1 then c1 else if k = 2 then c2 else c3, ⟨hK.1, fun k q hq => ?_⟩, w3, w4⟩
  have hk : k < 4 := (List.getElem?_eq_some_iff.mp hq).1
  rcases (show k = 0 ∨ k = 1 ∨ k = 2 ∨ k = 3 by omega) with rfl | rfl | rfl | rfl
  · cases hq
    exact ⟨fun N z => ⟨fun k h => (by cases h), k0, a2, p0, a3⟩, a1⟩
  · cases hq
    exact ⟨fun N z => ⟨fun k h => (by cases h), k1, b2, p1, b3⟩, b1⟩
  · cases hq
    exact ⟨fun N z => ⟨fun k h => (by cases h), k2, d2, p2, d3⟩, d1⟩
  · cases hq
    exact ⟨fun N z => ⟨fun k h => (by cases h), k3, e2, p3, e3⟩, e1⟩
theorem at_ns {s : State} {b : Nat} (hts : ∀ w ∈ lw_tbl, w.before #[Value.ref b] s = true) : ∀ q ∈ kNs, va_Nw (.methodLinkNest q.1 q.2.1 q.2.2.1 q.2.2.2) s := by
  have h : ∀ q ∈ kNs, Cond.methodLinkNest q.1 q.2.1 q.2.2.1 q.2.2.2 ∈ lw_tbl := by decide +kernel
  exact fun q hq => at_nw hts (h q hq) rfl
def kMi (n : Nat) (xs : Nat → Int32) : kM := (fun k => if k = 0 then .inl (9, n, xs) else .inl (0, 0, kG0), (fun _ _ _ => 0, (0, (0, 0))))
theorem start_run {p : Program} {e : Env} {s : State} {m : MethodId} {below : List Frame} {meth : Method} {c : Code} {Q : State → Prop} (l : Launch) (hfl : l.stackTraces = false) {b L : Nat} {xs : Nat → Int32} (hL : L ≤ 260) (hx : p.tables.exec = Jvm.exec) (hb : c.code = cL_law) (hml : c.maxLocals = 26) (hown : s.vm.findClass RL = some m.cls) (htab : c.exceptionTable.toList = []) (hts0 : ∀ w ∈ lw_tbl, w.before #[Value.ref b] s = true) (hX : va_X b L xs s s.heap) (hbl : b < s.heap.size) (hgv : (Jvm.Cond.and given_1 narrow_1).before #[Value.ref b] s = true)
    (kk : ∀ (pc : Nat) (lsR : Array Slot) (H : Heap) (cells slots : Nat), decode cL_law pc = .ok (.ireturn, 1) → cells ≤ 600104 → slots ≤ 7301314 → W p l e room_1 s m #[Value.ref b] below meth c H [] cells slots Q (F0 m pc lsR [.int 1])) : W p l e room_1 s m #[Value.ref b] below meth c s.heap [] 0 0 Q (entryFrame m ([Value.ref b] : List Value).toArray 26) := by
  obtain ⟨A, hAd⟩ : ∃ A : Nat → Prop, A = fun q : Nat => s.heap.size ≤ q := ⟨_, rfl⟩
  have hA : ∀ q : Nat, s.heap.size ≤ q → A q := fun q h => by rw [hAd]; exact h
  have hAs : ∀ q : Nat, A q → s.heap.size ≤ q := fun q h => by rw [hAd] at h; exact h
  have hbA : ¬ A b := fun h => Nat.lt_irrefl _ (Nat.lt_of_lt_of_le hbl (hAs _ h))
  obtain ⟨D, hK0⟩ := at_kn hts0
  obtain ⟨G, hK, hI, hZb⟩ := at_kK hK0 hts0
  have hKr := at_kr hK0 hts0 hgv
  have hN := at_ns hts0
  have hZ : mmZq A s s.heap := by rw [hAd]; exact at_zq hts0 hgv
  have hts := at_bw hts0
  have hS : va_S A s.heap s.heap [] := va_S.rf
  have hl := lv_entry ([.ref b]) (n := 26) (Nat.le_of_ble_eq_true rfl)
  rw [lg_entry_eq]
  generalize (lg_sl ([.ref b]) ++ List.replicate (26 - (lg_sl ([.ref b])).length) Slot.unset).toArray = ls at hl ⊢
  have hl : lv_has ls 26 [(0, .ref b)] := hl
  obtain ⟨M', hgo, hc⟩ := s_k82 (M := kMi L xs) (n := L) (xs := xs) rfl (by omega)
  obtain ⟨fuel, hgo⟩ := kn_iff.mp hgo
  have hLR : mmLR (fun _ => b) ls [.ref 0, .null, .null, .null, .null, .null, .null, .null, .null, .null, .null, .null, .null, .null, .null, .null, .null, .null, .null, .null, .null, .null, .null, .null, .null, .null] := mmLR.less hl rfl (fun q hq => by
    obtain ⟨v, h1, h2, h3⟩ := mmK_mem.mp hq
    obtain ⟨j, y⟩ := q
    simp only at h1 h3
    subst h3
    cases j with
    | zero => cases h1; simp [mmV]
    | succ j =>
      have : v = .null := by
        have hm := List.mem_of_getElem? h1
        have h25 : ([Value.ref 0, .null, .null, .null, .null, .null, .null, .null, .null, .null, .null, .null, .null, .null, .null, .null, .null, .null, .null, .null, .null, .null, .null, .null, .null, .null] : List Value)[j + 1]? = (List.replicate 25 Value.null)[j]? := rfl
        rw [h25] at h1
        exact List.eq_of_mem_replicate (List.mem_of_getElem? h1)
      exact absurd this h2)
  have hW0 : kW G (fun _ => b) (kMi L xs) = [] := rfl
  have hP : va_P D mmCls (kW G (fun _ => b) (kMi L xs)) s.heap := fun k q h => by rw [hW0] at h; simp at h
  have hD : va_D A (kW G (fun _ => b) (kMi L xs)) := ⟨fun i j p q h => by rw [hW0] at h; simp at h, fun k q h => by rw [hW0] at h; simp at h⟩
  have hOk : kOk L xs (kMi L xs) := ⟨rfl, fun k h0 hk => by
    have : k ≤ 0 := hk
    omega⟩
  have c0 : kCs (kMi L xs) = 0 := rfl
  have s0 : kSs (kMi L xs) = 0 := rfl
  have hc1 := hc.1
  have hc2 := hc.2
  refine kBody_all l hfl fuel p e room_1 s m #[Value.ref b] below meth c s.heap [] 0 0 Q D G (fun _ => b) 82 mr82 RL A L xs 0 [.ref 0, .null, .null, .null, .null, .null, .null, .null, .null, .null, .null, .null, .null, .null, .null, .null, .null, .null, .null, .null, .null, .null, .null, .null, .null, .null] [] ls (kMi L xs) M' (some (.int 1)) hx hb hml row_82 rfl hown (by rw [htab]; rfl) hts ⟨hK, ⟨hI, hZb⟩, hKr, hN⟩ hZ ⟨hX, hbl, hbA⟩ hA (Nat.le_of_ble_eq_true rfl) (Nat.le_of_ble_eq_true rfl) (Nat.le_of_ble_eq_true rfl) (by show 0 + kCs M' ≤ 600104 + kCs (kMi L xs); omega) (by show 0 + kSs M' ≤ 7301314 + kSs (kMi L xs); omega) hP hD hS hLR hOk ?_ (fun x h => by cases h) hgo ?_
  · intro x hxm
    rcases List.mem_cons.mp hxm with rfl | h
    · exact Nat.zero_le _
    · have : x = .null := List.eq_of_mem_replicate (n := 25) h
      rw [this]
      trivial
  · intro ad' pc1 ins1 lsR1 st1 H1 locs1 cells1 slots1 hd1 hE had hP1 hD1 hS1 hO1 hst1 hn1 hcl1 hsl1
    obtain ⟨rfl, rfl⟩ := kE_one hE
    refine va_forget (fun q hq => hAs _ (hS1.2.2 q hq)) ?_
    exact kk pc1 lsR1 H1 cells1 slots1 hd1 (by omega) (by omega)
