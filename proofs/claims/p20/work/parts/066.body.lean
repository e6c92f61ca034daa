/-! A RUN of the small machine is a run of the real one; every method's contract out of it. -/
theorem mmEn_len {ml : Nat} {As : List Value} (h : (mmEl As).length ≤ ml) : (mmEn ml As).length = ml := by
  simp only [mmEn, List.length_append, List.length_replicate]
  omega
theorem mmEl_args (ad : Nat → Nat) : ∀ (As : List Value) (i j : Nat) (v : Value), (mmEl As)[j]? = some v → v ≠ .null → (i + j, mmV ad v) ∈ lv_args i (As.map (mmV ad))
  | [], i, j, v, h, _ => by simp [mmEl] at h
  | a :: As, i, j, v, h, hv => by
    have ih := mmEl_args ad As
    simp only [List.map_cons, lv_args, mmV_cat]
    by_cases hc : a.category = 2
    · have he : mmEl (a :: As) = a :: .null :: mmEl As := by simp [mmEl, hc]
      rw [he] at h
      rw [if_pos hc]
      match j, h with
      | 0, h => simp at h; subst h; exact List.mem_cons_self
      | 1, h => simp at h; exact absurd h.symm hv
      | j + 2, h =>
        have h2 := ih (i + 2) j v (by simpa using h) hv
        rw [show i + (j + 2) = i + 2 + j by omega]
        exact List.mem_cons_of_mem _ h2
    · have he : mmEl (a :: As) = a :: mmEl As := by simp [mmEl, hc]
      rw [he] at h
      rw [if_neg hc]
      match j, h with
      | 0, h => simp at h; subst h; exact List.mem_cons_self
      | j + 1, h =>
        have h2 := ih (i + 1) j v (by simpa using h) hv
        rw [show i + (j + 1) = i + 1 + j by omega]
        exact List.mem_cons_of_mem _ h2
theorem mmEl_sl (ad : Nat → Nat) (As : List Value) : (lg_sl (As.map (mmV ad))).length = (mmEl As).length := by
  induction As with
  | nil => rfl
  | cons a As ih =>
    simp only [lg_sl, mmEl, List.map_cons, List.flatMap_cons, List.length_append, mmV_cat] at ih ⊢
    rw [ih]
    by_cases hc : a.category = 2 <;> simp [hc]
theorem mmEn_LR {ad : Nat → Nat} {ml : Nat} {As : List Value} (h : (mmEl As).length ≤ ml) : mmLR ad ((lg_sl (As.map (mmV ad)) ++ List.replicate (ml - (lg_sl (As.map (mmV ad))).length) Slot.unset).toArray) (mmEn ml As) := by
  refine mmLR.less (lv_entry (As.map (mmV ad)) (n := ml) (by rw [mmEl_sl]; exact h)) (mmEn_len h).symm (fun q hq => ?_)
  obtain ⟨v, h1, h2, h3⟩ := mmK_mem.mp hq
  obtain ⟨j, y⟩ := q
  simp only at h1 h3
  subst h3
  unfold mmEn at h1
  by_cases hj : j < (mmEl As).length
  · rw [List.getElem?_append_left hj] at h1
    have := mmEl_args ad As 0 j v h1 h2
    simpa using this
  · rw [List.getElem?_append_right (by omega)] at h1
    exact absurd (List.eq_of_mem_replicate (List.mem_of_getElem? h1)) h2
section MMB
variable {p : Program} {l : Launch} {e : Env} {R : Room} {s : State} {m : MethodId} {args : Array Value} {below : List Frame} {meth : Method} {c : Code} {H : Heap} {locs : List Loc} {cells slots : Nat} {Q : State → Prop}
set_option maxHeartbeats 4000000 in
theorem mm_throw {D : va_G} {G : Nat → ClassId} {n y pc ee : Nat} {r : mmRow} {own : String} {A : Nat → Prop} {lsR : Array Slot} {Qc : Array Value → State → Outcome → State → Prop} {XC : String → State → State → Prop} {mc ms : Nat} {free : Addr → Prop}
    (hfl : l.stackTraces = false) (hx : p.tables.exec = Jvm.exec) (hb : c.code = mmCd r) (hr : mmP[y]? = some r) (how : mmOwn[mmOw r]? = some own) (hown : s.vm.findClass own = some m.cls)
    (hts : ∀ w ∈ mmBW, w.before args s = true) (hK : mmKs D G n s) (hZ : mmZq A s s.heap) (hS : va_S A s.heap H locs) (hsize : lsR.size = c.maxLocals) (hfr : mmFr r ≤ R.frames) (hlo : mmLo r ≤ R.locals)
    (hF : mmF3 mmTH y pc = some ee) (htab : c.exceptionTable.toList = []) (hlocks : meth.locks = false) (hRc : cells + 1 ≤ R.cells) (hRs : slots + 6 ≤ R.slots)
    (hX : ∀ t : State, s.vm.Alike t.vm → H.size ≤ t.heap.size → (∀ q : Nat, q < H.size → t.heap[q]? = H[q]?) → XC (mmEx ee) s t) (hf : ∀ z ∈ locs, free z.base) (hc : cells + 1 ≤ mc) (hsl : slots + 6 ≤ ms) :
    W p l e R s m args below meth c H locs cells slots (vx_MQ below Qc XC args s mc ms free) (F0 m pc lsR []) := by
  obtain ⟨r2, ik, is, ic, text, own2, hr2, ho2, he3, hstr, hwk, hwi, hat, d0, d3, d4, d6, d9, h6, h90⟩ := mmTh_all _ (mmF3_mem hF)
  cases hr.symm.trans hr2
  cases how.symm.trans ho2
  obtain ⟨sa, hsa⟩ := hK.2.2.1 _ hstr
  have hbefore : ∀ w ∈ vx_atS own ic (mmEx ee) mmUp, w.before args s = true := fun w hw => by
    rcases (hat w hw).1 with h | h
    · exact hts w h
    · exact va_Nw.use (mmNG_tab h) (hK.2.2.2 w h)
  refine vx_throwS (names := mmUp) (cls := mmEx ee) (text := text) (sa := sa) (A := A) hx hb hfl hown ?_ (by decide +kernel) (hts _ hwk) (hts _ hwi) hsa hbefore ?_ hZ.1 hZ.2 hS hsize d0 d3 d4 d6 d9 (fun x h => by rw [htab] at h; cases h) (by show 2 + 3 < _; omega) (by show 0 + (13 * (2 + 1) + 43) ≤ _; omega) hRc hRs hlocks hX hf hc hsl
  · match ee, he3 with
    | 0, _ => decide +kernel
    | 1, _ => decide +kernel
    | 2, _ => decide +kernel
  · intro w hw
    rcases List.mem_cons.mp hw with rfl | hw
    · rfl
    · rcases List.mem_cons.mp hw with rfl | hw
      · rfl
      · exact (hat w hw).2
end MMB
/-- a run, from any place of any frame -/
def mmBody (l : Launch) (f : Nat) : Prop := ∀ (p : Program) (e : Env) (R : Room) (s : State) (m : MethodId) (args : Array Value) (below : List Frame) (meth : Method) (c : Code) (H : Heap) (locs : List Loc) (cells slots : Nat) (Q : State → Prop)
  (D : va_G) (G : Nat → ClassId) (ad : Nat → Nat) (n y : Nat) (r : mmRow) (own : String) (A : Nat → Prop) (S : mmScr) (pc : Nat) (ls st : List Value) (lsR : Array Slot) (M M' : mmM) (o : Option Value ⊕ Nat) (t0 cb sb : Nat),
  p.tables.exec = Jvm.exec → c.code = mmCd r → c.maxLocals = ls.length → n ≤ 35 → mmP[y]? = some r → mmOwn[mmOw r]? = some own → s.vm.findClass own = some m.cls → c.exceptionTable.toList = tableOf (mmHh r) →
  (∀ w ∈ mmBW, w.before args s = true) → mmKs D G n s → mmZq A s s.heap → mmXs S ad A s → (∀ q : Nat, s.heap.size ≤ q → A q) →
  mmFr r ≤ R.frames → mmLo r ≤ R.locals → mmFr r ≤ 11 → cells + t0 = cb + M.2.2 → slots + 6 * t0 = sb + 6 * M.2.2 → cb + M'.2.2 ≤ R.cells + t0 → sb + 6 * M'.2.2 ≤ R.slots + 6 * t0 →
  va_P D mmCls (mmW G ad M n) H → va_D A (mmW G ad M n) → va_S A s.heap H locs → mmLR ad lsR ls → mmGo f S n y pc ls st M = some (o, M') →
  (∀ (v : Option Value) (pc1 : Nat) (ins1 : Instr) (lsR1 : Array Slot) (st1 : List Value) (H1 : Heap) (locs1 : List Loc) (cells1 slots1 : Nat), o = .inl v → decode (mmCd r) pc1 = .ok (ins1, 1) → mmE (mmRt r) ins1 st1 = some v →
    va_P D mmCls (mmW G ad M' n) H1 → va_D A (mmW G ad M' n) → va_S A s.heap H1 locs1 → cells1 + t0 = cb + M'.2.2 → slots1 + 6 * t0 = sb + 6 * M'.2.2 → W p l e R s m args below meth c H1 locs1 cells1 slots1 Q (F0 m pc1 lsR1 (st1.map (mmV ad)))) →
  (∀ (ee : Nat) (q : Addr) (ce : Cell) (pc1 : Nat) (lsR1 : Array Slot) (rest1 : List Value) (H1 : Heap) (locs1 : List Loc) (cells1 slots1 : Nat), o = .inr ee → mmHh r = [] → H1[q]? = some ce → ce.vm = .none → s.vm.findClass (mmEx ee) = some ce.cls →
    va_P D mmCls (mmW G ad M' n) H1 → va_S A s.heap H1 locs1 → cells1 + t0 = cb + M'.2.2 → slots1 + 6 * t0 = sb + 6 * M'.2.2 → vx_W p l e R s m args below meth c H1 locs1 cells1 slots1 Q (F0 m pc1 lsR1 rest1) q) →
  (∀ (ee pc1 : Nat) (lsR1 : Array Slot) (H1 : Heap) (locs1 : List Loc) (cells1 slots1 : Nat) (M1 : mmM), o = .inr ee → mmF3 mmTH y pc1 = some ee → mmHh r = [] → lsR1.size = c.maxLocals → M' = mmT M1 →
    va_P D mmCls (mmW G ad M1 n) H1 → va_S A s.heap H1 locs1 → cells1 + t0 = cb + M1.2.2 → slots1 + 6 * t0 = sb + 6 * M1.2.2 → W p l e R s m args below meth c H1 locs1 cells1 slots1 Q (F0 m pc1 lsR1 [])) →
  W p l e R s m args below meth c H locs cells slots Q (F0 m pc lsR (st.map (mmV ad)))
theorem mmW_T {G : Nat → ClassId} {ad : Nat → Nat} {M : mmM} {n : Nat} : mmW G ad (mmT M) n = mmW G ad M n := rfl
theorem mmD_any {G : Nat → ClassId} {ad : Nat → Nat} {M M1 : mmM} {n : Nat} {A : Nat → Prop} (h : va_D A (mmW G ad M n)) : va_D A (mmW G ad M1 n) := by
  have key : ∀ (k : Nat) (q : Nat × va_E), (mmW G ad M1 n)[k]? = some q → ∃ q0, (mmW G ad M n)[k]? = some q0 ∧ q0.1 = q.1 := by
    intro k q hk
    have hl : k < n := by
      have := (List.getElem?_eq_some_iff.mp hk).1
      rw [mmW_len] at this
      exact this
    rw [mmW_at hl] at hk
    cases hk
    exact ⟨_, mmW_at hl, rfl⟩
  refine ⟨fun i j x y hi hj hxy => ?_, fun k q hk => ?_⟩
  · obtain ⟨x0, h1, h2⟩ := key i x hi
    obtain ⟨y0, h3, h4⟩ := key j y hj
    exact h.1 i j x0 y0 h1 h3 (h2.trans (hxy.trans h4.symm))
  · obtain ⟨q0, h1, h2⟩ := key k q hk
    rw [← h2]
    exact h.2 k q0 h1
/-- the contract of a method, out of its runs -/
theorem mmCon_of (l : Launch) (hfl : l.stackTraces = false) (f : Nat) (hB : mmBody l f) : mmCon l f := by
  intro n z r As M M' o hn hz hfr hgo hlen D G ad sz
  obtain ⟨o1, o2, o3, o4, o5, o6, o7, o8, o9⟩ := mmOk_all r (List.mem_of_getElem? hz) hfr
  have hmono := mmGo_mono _ _ _ _ _ _ _ _ _ _ hgo
  have main : ∀ (p : Program) (e : Env) (s : State) (m : MethodId) (args : Array Value) (below : List Frame) (meth : Method) (c : Code), p.tables.exec = Jvm.exec → c.code = mmCd r → c.maxLocals = mmMl r → meth.sig.returnType = mmRt r → s.vm.findClass (mmNm r).cls = some m.cls → c.exceptionTable.toList = tableOf (mmHh r) → meth.locks = false →
      (∀ w ∈ mmHd r :: mmBW, w.before args s = true) → va_Pc (As.map (mmV ad)) (mmPic D G ad M n sz) args s →
      W p l e (mmRm r (M'.2.2 - M.2.2)) s m args below meth c s.heap [] 0 0 (vx_MQ below (mmQr D G ad M' n o (va_A (mmW G ad M n) sz)) (mmXr D G ad M' n o (va_A (mmW G ad M n) sz)) args s (M'.2.2 - M.2.2) (6 * (M'.2.2 - M.2.2)) (va_A (mmW G ad M n) sz)) (entryFrame m args (mmMl r)) := by
    intro p e s m args below meth c hx hb hml hret hown htab hlocks hts hv
    obtain ⟨rfl, hsz, hP, hD0, hK, hZ⟩ := hv
    subst hsz
    rw [lg_entry_eq]
    have hts' : ∀ w ∈ mmBW, w.before ((As.map (mmV ad)).toArray) s = true := fun w h => hts w (List.mem_cons_of_mem _ h)
    refine hB p e _ s m _ below meth c s.heap [] 0 0 _ D G ad n z r _ (va_A (mmW G ad M n) s.heap.size) none 0 (mmEn (mmMl r) As) [] _ M M' o M.2.2 0 0 hx hb (hml.trans (mmEn_len hlen).symm) hn hz o7 hown htab hts' hK hZ (fun L xs h => by cases h) (fun q h => Or.inr h)
      (Nat.le_refl _) (Nat.le_refl _) (by omega) (by omega) (by omega) (by show _ ≤ M'.2.2 - M.2.2 + _; omega) (by show _ ≤ 6 * (M'.2.2 - M.2.2) + _; omega) hP hD0.self va_S.rf (mmEn_LR hlen) hgo ?_ ?_ ?_
    · intro v pc1 ins1 lsR1 st1 H1 locs1 cells1 slots1 ho hd1 hE hP1 hD1 hS1 hc1 hs1
      obtain rfl : cells1 = M'.2.2 - M.2.2 := by omega
      obtain rfl : slots1 = 6 * (M'.2.2 - M.2.2) := by omega
      refine vx_ret ?_
      have hq : ∀ (w : Option Value) (t : State), v = w → t.heap = H1 → mmQr D G ad M' n o (va_A (mmW G ad M n) s.heap.size) ((As.map (mmV ad)).toArray) s (.returned (w.map (mmV ad))) t := by
        intro w t hw ht
        subst hw
        exact ⟨⟨_, ho, rfl, by rw [ht]; exact hP1⟩, hS1.F ht⟩
      cases ins1 <;> simp only [mmE] at hE
      case ireturn =>
        split at hE
        · rename_i x
          split at hE
          · rename_i hc
            cases hE
            rcases hc with hc | ⟨hc, hx01⟩
            · exact W.iret (v := x) hx hb (hret.trans hc) (fun t ht _ => hq (some (.int x)) t rfl ht) hS1.2.2 hd1
            · refine W.zret (v := x) (ty := .boolean) hx hb (hret.trans hc) ?_ (fun t ht _ => hq (some (.int x)) t rfl ht) hS1.2.2 hd1
              rcases hx01 with rfl | rfl
              · exact narrow_b0
              · exact narrow_b1
          · cases hE
        · cases hE
      case lreturn =>
        split at hE
        · rename_i x
          split at hE
          · rename_i hc
            cases hE
            exact W.lret (v := x) hx hb (hret.trans hc) (fun t ht _ => hq (some (.long x)) t rfl ht) hS1.2.2 hd1
          · cases hE
        · cases hE
      case dreturn =>
        split at hE
        · rename_i x
          split at hE
          · rename_i hc
            cases hE
            exact W.dret (v := x) hx hb (hret.trans hc) (fun t ht _ => hq (some (.double x)) t rfl ht) hS1.2.2 hd1
          · cases hE
        · cases hE
      case return_ =>
        split at hE
        · split at hE
          · rename_i hc
            cases hE
            exact W.vret hx hb (hret.trans hc) (fun t ht _ => hq none t rfl ht) hS1.2.2 hd1
          · cases hE
        · cases hE
      all_goals cases hE
    · intro ee q ce pc1 lsR1 rest1 H1 locs1 cells1 slots1 ho hh hce hcv hcl hP1 hS1 hc1 hs1
      refine vx_out (fun x hx9 => ?_) hlocks hce hcv hcl (fun t ht _ => ⟨⟨ee, ho, rfl, by rw [ht]; exact hP1⟩, hS1.F ht⟩) hS1.2.2 (by omega) (by omega)
      rw [htab, hh] at hx9
      cases hx9
    · intro ee pc1 lsR1 H1 locs1 cells1 slots1 M1 ho hF hh hsz1 hM1 hP1 hS1 hc1 hs1
      have ht1 : M'.2.2 = M1.2.2 + 1 := by rw [hM1]; rfl
      refine mm_throw (D := D) (G := G) (n := n) hfl hx hb hz o7 hown hts' hK hZ hS1 hsz1 (Nat.le_refl _) (Nat.le_refl _) hF (by rw [htab, hh]; rfl) hlocks (by show _ ≤ M'.2.2 - M.2.2; omega) (by show _ ≤ 6 * (M'.2.2 - M.2.2); omega) (fun t ha hz1 hk => ⟨⟨ee, ho, rfl, ?_⟩, ?_⟩) hS1.2.2 (by omega) (by omega)
      · rw [hM1, mmW_T]
        exact hP1.kept (fun k q hq => hk q.1 (hP1 k q hq).lt)
      · exact ⟨Nat.le_trans hS1.1 hz1, fun q h1 h2 => (hk q (Nat.lt_of_lt_of_le h1 hS1.1)).trans (hS1.2.1 q h1 h2)⟩
  by_cases hh : mmHh r = []
  · have hhd : mmHd r = .code (mmNm r) (mmCd r) (mmMl r) (mmRt r) := by unfold mmHd; rw [if_pos hh]
    refine vx_ofW (cc := mmCd r) (maxL := mmMl r) (ret := mmRt r) (ws' := mmBW) o2 (by rw [hhd]) ?_
    intro p e s m args below meth c s₁ B hml ht hv
    refine main p e s m args below meth c B.exec B.bytes hml B.returns (findClass_of_methodNamed B.named) ?_ B.notSynchronized (atoms_spec (ws := mmHd r :: mmBW) B.pre) hv
    rw [hh]
    cases hc : c.exceptionTable.toList with
    | nil => rfl
    | cons x t => exact (ht x (by rw [hc]; exact List.mem_cons_self)).elim
  · have hhd : mmHd r = .codeWith (mmNm r) (mmCd r) (mmMl r) (mmRt r) (mmHh r) := by unfold mmHd; rw [if_neg hh]
    refine vx_ofWH (cc := mmCd r) (maxL := mmMl r) (ret := mmRt r) (hh := mmHh r) (ws' := mmBW) o2 (by rw [hhd]) ?_
    intro p e s m args below meth c s₁ B hml hv
    have hpre := atoms_spec (ws := mmHd r :: mmBW) B.pre
    exact main p e s m args below meth c B.exec B.bytes hml B.returns (findClass_of_methodNamed B.named) (vx_table (x := mmNm r) B (by have := hpre _ List.mem_cons_self; rw [hhd] at this; exact this)) B.notSynchronized hpre hv
