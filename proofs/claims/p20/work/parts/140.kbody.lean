/-! A RUN of the kitchen machine is a run of the real one; the contracts of the law's and the sim's methods out of it -/
set_option maxHeartbeats 4000000 in
theorem kS_same {o pc pc' len : Nat} {w : Bool} {ins : Instr} {ls ls' st st' : List Value} {M M' : kM} (h : kS o w pc ins len ls st M = some (pc', ls', st', M')) : kCs M ≤ kCs M' ∧ kSs M ≤ kSs M' ∧ ls'.length = ls.length := by
  cases ins <;> simp only [kS, kIf, kLd] at h <;> (repeat' split at h) <;> first
    | (cases h; done)
    | (cases h; exact ⟨Nat.le_refl _, Nat.le_refl _, rfl⟩)
    | (cases h; exact ⟨Nat.le_add_right _ _, Nat.le_add_right _ _, rfl⟩)
    | (obtain ⟨l2, hl2, he⟩ := Option.map_eq_some_iff.mp h; cases he; exact ⟨Nat.le_refl _, Nat.le_refl _, mmSt1_len hl2⟩)
    | (obtain ⟨l2, hl2, he⟩ := Option.map_eq_some_iff.mp h; cases he; exact ⟨Nat.le_refl _, Nat.le_refl _, mmSt2_len hl2⟩)
    | (obtain ⟨l2, hl2, he⟩ := Option.map_eq_some_iff.mp h; cases he; exact ⟨Nat.le_refl _, Nat.le_refl _, rfl⟩)
theorem kE_len {rt : Option FieldType} {ins : Instr} {len : Nat} {st : List Value} {v : Option Value} (h : kE rt ins st = some v) (hl : kLn ins len = true) : len = 1 := by
  cases ins <;> simp only [kE] at h <;> first | (simpa [kLn] using hl) | (cases h)
theorem kGo_mono : ∀ (f y pc : Nat) (ls st : List Value) (M M' : kM) (v : Option Value), kGo f y pc ls st M = some (v, M') → kCs M ≤ kCs M' ∧ kSs M ≤ kSs M'
  | 0, y, pc, ls, st, M, M', v, h => by simp [kGo] at h
  | f + 1, y, pc, ls, st, M, M', v, h => by
    have ih := kGo_mono f
    simp only [kGo, kF] at h
    repeat' split at h
    all_goals first
      | (cases h; done)
      | (rename_i hs; have h1 := kS_same hs; have h2 := ih _ _ _ _ _ _ _ h; exact ⟨Nat.le_trans h1.1 h2.1, Nat.le_trans h1.2.1 h2.2⟩)
      | (cases h; exact ⟨Nat.le_refl _, Nat.le_refl _⟩)
      | (rename_i hg; have h1 := ih _ _ _ _ _ _ _ hg; have h2 := ih _ _ _ _ _ _ _ h; exact ⟨Nat.le_trans h1.1 h2.1, Nat.le_trans h1.2 h2.2⟩)
      | (have h2 := ih _ _ _ _ _ _ _ h; exact ⟨Nat.le_trans (Nat.le_add_right _ _) h2.1, Nat.le_trans (Nat.le_add_right _ _) h2.2⟩)
/-- a run, from any place of any frame -/
def kBody (l : Launch) (f : Nat) : Prop := ∀ (p : Program) (e : Env) (R : Room) (s : State) (m : MethodId) (args : Array Value) (below : List Frame) (meth : Method) (c : Code) (H : Heap) (locs : List Loc) (cells slots : Nat) (Q : State → Prop)
  (D : va_G) (G : Nat → ClassId) (ad : Nat → Nat) (y : Nat) (r : mmRow) (own : String) (A : Nat → Prop) (L : Nat) (xs : Nat → Int32) (pc : Nat) (ls st : List Value) (lsR : Array Slot) (M M' : kM) (v : Option Value),
  p.tables.exec = Jvm.exec → c.code = mmCd r → c.maxLocals = ls.length → mmP[y]? = some r → mmOwn[mmOw r]? = some own → s.vm.findClass own = some m.cls → c.exceptionTable.toList = tableOf (mmHh r) →
  (∀ w ∈ mmBW, w.before args s = true) → kKs D G s → mmZq A s s.heap → kXs L xs ad A s → (∀ q : Nat, s.heap.size ≤ q → A q) →
  mmFr r ≤ R.frames → mmLo r ≤ R.locals → mmFr r ≤ 12 → cells + kCs M' ≤ R.cells + kCs M → slots + kSs M' ≤ R.slots + kSs M →
  va_P D mmCls (kW G ad M) H → va_D A (kW G ad M) → va_S A s.heap H locs → mmLR ad lsR ls → kOk L xs M → vsOk (kN M) ls → vsOk (kN M) st → kGo f y pc ls st M = some (v, M') →
  (∀ (ad' : Nat → Nat) (pc1 : Nat) (ins1 : Instr) (lsR1 : Array Slot) (st1 : List Value) (H1 : Heap) (locs1 : List Loc) (cells1 slots1 : Nat), decode (mmCd r) pc1 = .ok (ins1, 1) → kE (mmRt r) ins1 st1 = some v → (∀ k, k ≤ kN M → ad' k = ad k) →
    va_P D mmCls (kW G ad' M') H1 → va_D A (kW G ad' M') → va_S A s.heap H1 locs1 → kOk L xs M' → vsOk (kN M') st1 → kN M ≤ kN M' → cells1 + kCs M = cells + kCs M' → slots1 + kSs M = slots + kSs M' → W p l e R s m args below meth c H1 locs1 cells1 slots1 Q (F0 m pc1 lsR1 (st1.map (mmV ad')))) →
  W p l e R s m args below meth c H locs cells slots Q (F0 m pc lsR (st.map (mmV ad)))
theorem kXs.ad {L : Nat} {xs : Nat → Int32} {ad ad' : Nat → Nat} {A : Nat → Prop} {s : State} (h : kXs L xs ad A s) (he : ad' 0 = ad 0) : kXs L xs ad' A s := by
  unfold kXs
  rw [he]
  exact h
theorem kIsRef_of {rt : Option FieldType} (h : kIsRef rt = true) : ∃ t, rt = some t ∧ ((∃ n, t = .object n) ∨ ∃ u, t = .array u) := by
  unfold kIsRef at h
  split at h
  · exact ⟨_, rfl, Or.inl ⟨_, rfl⟩⟩
  · exact ⟨_, rfl, Or.inr ⟨_, rfl⟩⟩
  · cases h
set_option maxHeartbeats 4000000 in
/-- the contract of a method, out of its runs -/
theorem kCon_of (l : Launch) (f : Nat) (hB : kBody l f) : kCon l f := by
  intro z r As L xs M M' v hz hfr hgo hlen hO hAs D G ad sz
  obtain ⟨o1, o2, o3, o4, o5, o6, o7, o8, o9⟩ := mmOk_all r (List.mem_of_getElem? hz) hfr
  have hmono := kGo_mono _ _ _ _ _ _ _ _ hgo
  have main : ∀ (p : Program) (e : Env) (s : State) (m : MethodId) (args : Array Value) (below : List Frame) (meth : Method) (c : Code), p.tables.exec = Jvm.exec → c.code = mmCd r → c.maxLocals = mmMl r → meth.sig.returnType = mmRt r → s.vm.findClass (mmNm r).cls = some m.cls → c.exceptionTable.toList = tableOf (mmHh r) → meth.locks = false →
      (∀ w ∈ mmHd r :: mmBW, w.before args s = true) → va_Pc (As.map (mmV ad)) (kPic D G ad M L xs sz) args s →
      W p l e (kRm r (kCs M' - kCs M) (kSs M' - kSs M)) s m args below meth c s.heap [] 0 0 (vx_MQ below (kQr D G ad L xs M M' v (va_A (kW G ad M) sz)) kXr args s (kCs M' - kCs M) (kSs M' - kSs M) (va_A (kW G ad M) sz)) (entryFrame m args (mmMl r)) := by
    intro p e s m args below meth c hx hb hml hret hown htab hlocks hts hv
    obtain ⟨rfl, hsz, hP, hD0, hK, hZ, hX, hXA⟩ := hv
    subst hsz
    rw [lg_entry_eq]
    have hts' : ∀ w ∈ mmBW, w.before ((As.map (mmV ad)).toArray) s = true := fun w h => hts w (List.mem_cons_of_mem _ h)
    have hX0 : ad 0 < s.heap.size := Nat.lt_of_not_le (fun h => hXA (Or.inr h))
    have hE : vsOk (kN M) (mmEn (mmMl r) As) := fun x hx9 => by
      unfold mmEn at hx9
      rcases List.mem_append.mp hx9 with h | h
      · unfold mmEl at h
        obtain ⟨a, ha, h⟩ := List.mem_flatMap.mp h
        split at h
        · rcases List.mem_cons.mp h with rfl | h
          · exact hAs _ ha
          · rcases List.mem_cons.mp h with rfl | h
            · trivial
            · cases h
        · rcases List.mem_cons.mp h with rfl | h
          · exact hAs _ ha
          · cases h
      · rw [List.eq_of_mem_replicate h]
        trivial
    refine hB p e _ s m _ below meth c s.heap [] 0 0 _ D G ad z r _ (va_A (kW G ad M) s.heap.size) L xs 0 (mmEn (mmMl r) As) [] _ M M' v hx hb (hml.trans (mmEn_len hlen).symm) hz o7 hown htab hts' hK hZ ⟨hX, hX0, hXA⟩ (fun q h => Or.inr h)
      (Nat.le_refl _) (Nat.le_refl _) (by omega) (by show 0 + kCs M' ≤ kCs M' - kCs M + kCs M; omega) (by show 0 + kSs M' ≤ kSs M' - kSs M + kSs M; omega) hP hD0.self va_S.rf (mmEn_LR hlen) hO hE (fun x h => by cases h) hgo ?_
    intro ad' pc1 ins1 lsR1 st1 H1 locs1 cells1 slots1 hd1 hE1 had hP1 hD1 hS1 hO1 hst1 hn1 hc1 hs1
    obtain rfl : cells1 = kCs M' - kCs M := by omega
    obtain rfl : slots1 = kSs M' - kSs M := by omega
    refine vx_ret ?_
    have hq : ∀ (w : Option Value) (t : State), v = w → (∀ x, w = some x → vOk (kN M') x) → t.heap = H1 → kQr D G ad L xs M M' v (va_A (kW G ad M) s.heap.size) ((As.map (mmV ad)).toArray) s (.returned (w.map (mmV ad'))) t := by
      intro w t hw hx9 ht
      subst hw
      exact ⟨⟨ad', had, rfl, by rw [ht]; exact hP1, hD1, hO1, hn1, hx9⟩, hS1.F ht⟩
    cases ins1 <;> simp only [kE] at hE1
    case ireturn =>
      split at hE1
      · rename_i x
        split at hE1
        · rename_i hc
          cases hE1
          rcases hc with hc | ⟨hc, hx01⟩
          · exact W.iret (v := x) hx hb (hret.trans hc) (fun t ht _ => hq (some (.int x)) t rfl (fun y hy => by cases hy; trivial) ht) hS1.2.2 hd1
          · refine W.zret (v := x) (ty := .boolean) hx hb (hret.trans hc) ?_ (fun t ht _ => hq (some (.int x)) t rfl (fun y hy => by cases hy; trivial) ht) hS1.2.2 hd1
            rcases hx01 with rfl | rfl
            · exact narrow_b0
            · exact narrow_b1
        · cases hE1
      · cases hE1
    case areturn =>
      split at hE1
      · rename_i x
        split at hE1
        · rename_i hc
          cases hE1
          obtain ⟨t9, hrt, ht9⟩ := kIsRef_of hc
          exact W.aret (v := .ref (ad' x)) hx hb (hret.trans hrt) ht9 (Or.inr ⟨_, rfl⟩) (fun t ht _ => hq (some (.ref x)) t rfl (fun y hy => by cases hy; exact hst1.h) ht) hS1.2.2 hd1
        · cases hE1
      · cases hE1
    case return_ =>
      split at hE1
      · split at hE1
        · rename_i hc
          cases hE1
          exact W.vret hx hb (hret.trans hc) (fun t ht _ => hq none t rfl (fun y hy => by cases hy) ht) hS1.2.2 hd1
        · cases hE1
      · cases hE1
    all_goals cases hE1
  by_cases hh : mmHh r = []
  · have hhd : mmHd r = .code (mmNm r) (mmCd r) (mmMl r) (mmRt r) := by unfold mmHd; rw [if_pos hh]
    refine vx_ofW (cc := mmCd r) (maxL := mmMl r) (ret := mmRt r) (ws' := mmBW) o2 (by rw [hhd]) ?_
    intro p e s m args below meth c s₁ B hml ht hv
    refine main p e s m args below meth c B.exec B.bytes hml B.returns (findClass_of_methodNamed B.named) ?_ B.notSynchronized (atoms_spec (ws := mmHd r :: mmBW) B.pre) hv
    rw [hh]
    cases hc : c.exceptionTable.toList with
    | nil => rfl
    | cons x t => exact (ht x (by rw [hc]; exact List.mem_cons_self)).elim
  · have hhd : mmHd r = .codeWith (mmNm r) (mmCd r) (mmMl r) (mmRt r) (mmHh r) := by unfold mmHd; rw [if_neg hh]
    refine vx_ofWH (cc := mmCd r) (maxL := mmMl r) (ret := mmRt r) (hh := mmHh r) (ws' := mmBW) o2 (by rw [hhd]) ?_
    intro p e s m args below meth c s₁ B hml hv
    have hpre := atoms_spec (ws := mmHd r :: mmBW) B.pre
    exact main p e s m args below meth c B.exec B.bytes hml B.returns (findClass_of_methodNamed B.named) (vx_table (x := mmNm r) B (by have := hpre _ List.mem_cons_self; rw [hhd] at this; exact this)) B.notSynchronized hpre hv
theorem kNr_map {v : Option Value} (h : kNr v = true) (ad ad' : Nat → Nat) : v.map (mmV ad) = v.map (mmV ad') := by
  cases v with
  | none => rfl
  | some x => cases x <;> first | rfl | cases h
theorem kNr_ok {v : Option Value} (h : kNr v = true) (n : Nat) : vsOk n v.toList := by
  cases v with
  | none => exact fun x hx => by cases hx
  | some x =>
    intro y hy
    have : y = x := by simpa using hy
    subst this
    cases y <;> first | trivial | cases h
theorem vsOk.app {n : Nat} {a b : List Value} (ha : vsOk n a) (hb : vsOk n b) : vsOk n (a ++ b) := fun x hx => (List.mem_append.mp hx).elim (ha x) (hb x)
theorem kRest {o : Nat} {ins : Instr} {st As rest : List Value} {M : kM} {z n : Nat} {rz : mmRow} (h : kCl o ins st M = some (z, As, rest)) (hz : mmP[z]? = some rz) (hst : vsOk n st) : vsOk n rest := by
  obtain ⟨-, hc⟩ := kCl_spec h hz
  rcases hc with ⟨i, k, As', -, -, -, -, -, rfl, rfl, -, -⟩ | ⟨i, -, -, -, rfl, -⟩
  · exact fun x hx => hst x (List.mem_append_right _ (List.mem_cons_of_mem _ hx))
  · exact fun x hx => hst x (List.mem_append_right _ hx)
theorem kRestK {o : Nat} {ins : Instr} {st As rest : List Value} {M : kM} {z b n : Nat} {rz : mmRow} (h : kCk o ins st M = some (z, b, As, rest)) (hz : mmP[z]? = some rz) (hst : vsOk n st) : vsOk n rest := by
  obtain ⟨-, -, -, i, -, -, -, -, -, rfl, -⟩ := kCk_spec h hz
  exact fun x hx => hst x (List.mem_append_right _ (List.mem_cons_of_mem _ hx))
theorem mmOw8 : ∀ r ∈ mmP, (mmOw r = 8 ∨ mmOw r = 4) → mmFr r < 12 → mmFr r ≤ 10 := by
  have h : mmP.all (fun r => decide ((mmOw r = 8 ∨ mmOw r = 4) → mmFr r < 12 → mmFr r ≤ 10)) = true := by decide +kernel
  exact fun r hr => of_decide_eq_true (List.all_eq_true.mp h r hr)
set_option maxHeartbeats 16000000 in
theorem kBody_all (l : Launch) (hfl : l.stackTraces = false) : ∀ f : Nat, kBody l f
  | 0 => by
    intro p e R s m args below meth c H locs cells slots Q D G ad y r own A L xs pc ls st lsR M M' v _ _ _ _ _ _ _ _ _ _ _ _ _ _ _ _ _ _ _ _ _ _ _ _ hgo
    simp [kGo] at hgo
  | f + 1 => by
    have ih := kBody_all l hfl f
    intro p e R s m args below meth c H locs cells slots Q D G ad y r own A L xs pc ls st lsR M M' v hx hb hml hr how hown htab hts hK hZ hX hA hfr hlo h12 hcR hsR hP hD hS hL hO hls hst hgo hret
    have hmono := kGo_mono _ _ _ _ _ _ _ _ hgo
    have hrm := List.mem_of_getElem? hr
    simp only [kGo, kF, hr] at hgo
    split at hgo
    · cases hgo
    · rename_i ins len hd
      split at hgo
      · rename_i hln
        split at hgo
        · rename_i pc' ls' st' M1 hs
          obtain ⟨e1, e2, e3⟩ := kS_same hs
          have hm2 := kGo_mono _ _ _ _ _ _ _ _ hgo
          refine km_step hx hb hml how hown hts hK.1 hK.2.1.1 hK.2.1.2 hX (fun h => ?_) hA ⟨by omega, by omega⟩ hP hD hS hL hO hls hst hd hln hs ?_
          · have h := of_decide_eq_true h
            exact ⟨by omega, by omega⟩
          · intro ad1 lsR1 H1 locs1 cells1 slots1 had1 hL1 hP1 hD1 hS1 hO1 hls1 hst1 hn1 hc1 hs1
            refine ih p e R s m args below meth c H1 locs1 cells1 slots1 Q D G ad1 y r own A L xs pc' ls' st' lsR1 M1 M' v hx hb (by rw [e3]; exact hml) hr how hown htab hts hK hZ (hX.ad (had1 0 (Nat.zero_le _))) hA hfr hlo h12 (by omega) (by omega) hP1 hD1 hS1 hL1 hO1 hls1 hst1 hgo ?_
            intro ad2 pc2 ins2 lsR2 st2 H2 locs2 cells2 slots2 hd2 hE2 had2 hP2 hD2 hS2 hO2 hst2 hn2 hc2 hs2
            exact hret ad2 pc2 ins2 lsR2 st2 H2 locs2 cells2 slots2 hd2 hE2 (fun k hk => (had2 k (Nat.le_trans hk hn1)).trans (had1 k hk)) hP2 hD2 hS2 hO2 hst2 (Nat.le_trans hn1 hn2) (by omega) (by omega)
        · split at hgo
          · rename_i v9 hE
            cases hgo
            have hl1 := kE_len hE hln
            subst hl1
            exact hret ad pc ins lsR st H locs cells slots hd hE (fun _ _ => rfl) hP hD hS hO hst (Nat.le_refl _) rfl rfl
          · split at hgo
            · rename_i z As rest hcl
              split at hgo
              · cases hgo
              · rename_i rz hz
                split at hgo
                · rename_i hfit
                  have hl3 : len = 3 := by
                    obtain ⟨-, h | h⟩ := kCl_spec hcl hz
                    · obtain ⟨i, k, As', rfl, -⟩ := h
                      simpa [kLn] using hln
                    · obtain ⟨i, rfl, -⟩ := h
                      simpa [kLn] using hln
                  subst hl3
                  split at hgo
                  · cases hgo
                  · rename_i v1 M1 hg1
                    have hm1 := kGo_mono _ _ _ _ _ _ _ _ hg1
                    have hm2 := kGo_mono _ _ _ _ _ _ _ _ hgo
                    have hf10 := mmOw8 rz (List.mem_of_getElem? hz) hfit.1 (by omega)
                    have hrs := kRest hcl hz hst
                    refine km_callO (kCon_of l f ih) hx hb (hml.trans hL.1.symm) how hown hts hK hZ hX hA hfr hlo hf10 hP hD hS hO hst hd hcl hz hfit.2 hg1 (by omega) (by omega) ?_
                    intro ad1 H1 locs1 had1 hP1 hD1 hO1 hn1 hv1 hS1
                    have hst1 : vsOk (kN M1) (v1.toList ++ rest) := by
                      refine vsOk.app (fun x hx9 => ?_) (hrs.up hn1)
                      cases v1 with
                      | none => cases hx9
                      | some w =>
                        have : x = w := by simpa using hx9
                        subst this
                        exact hv1 _ rfl
                    have h9 := ih p e R s m args below meth c H1 locs1 (cells + (kCs M1 - kCs M)) (slots + (kSs M1 - kSs M)) Q D G ad1 y r own A L xs (pc + 3) ls (v1.toList ++ rest) lsR M1 M' v hx hb hml hr how hown htab hts hK hZ (hX.ad (had1 0 (Nat.zero_le _))) hA hfr hlo h12 (by omega) (by omega) hP1 hD1 hS1 (mmLR_eq had1 hls hL) hO1 (hls.up hn1) hst1 hgo (by
                      intro ad2 pc2 ins2 lsR2 st2 H2 locs2 cells2 slots2 hd2 hE2 had2 hP2 hD2 hS2 hO2 hst2 hn2 hc2 hs2
                      exact hret ad2 pc2 ins2 lsR2 st2 H2 locs2 cells2 slots2 hd2 hE2 (fun k hk => (had2 k (Nat.le_trans hk hn1)).trans (had1 k hk)) hP2 hD2 hS2 hO2 hst2 (Nat.le_trans hn1 hn2) (by omega) (by omega))
                    have he : (v1.toList ++ rest).map (mmV ad1) = (v1.map (mmV ad1)).toList ++ rest.map (mmV ad) := by
                      rw [List.map_append, mmVs_eq had1 hrs]
                      cases v1 <;> simp
                    rw [he] at h9
                    exact h9
                · cases hgo
            · split at hgo
              · rename_i z b As rest hck
                split at hgo
                · cases hgo
                · rename_i rz hz
                  split at hgo
                  · rename_i hfit
                    have hl3 : len = 3 := by
                      obtain ⟨-, -, -, i, rfl, -⟩ := kCk_spec hck hz
                      simpa [kLn] using hln
                    subst hl3
                    have hrs := kRestK hck hz hst
                    split at hgo
                    · cases hgo
                    · rename_i v1 m1 hg1
                      split at hgo
                      · rename_i hnr
                        have hm2 := kGo_mono _ _ _ _ _ _ _ _ hgo
                        have e1 : kCs (kV M b m1.1 m1.2.2) = kCs M + m1.2.2 := rfl
                        have e2 : kSs (kV M b m1.1 m1.2.2) = kSs M + 6 * m1.2.2 := rfl
                        refine km_callK hfl hx hb (hml.trans hL.1.symm) how hown hts hK hZ hA hfr hlo hP hD hS hO hst hd hck hz hfit hg1 (by omega) (by omega) ?_ (fun ee ce q9 H1 locs1 h => by cases h)
                        intro v2 H1 locs1 hv hP1 hS1
                        cases hv
                        have h9 := ih p e R s m args below meth c H1 locs1 (cells + m1.2.2) (slots + 6 * m1.2.2) Q D G ad y r own A L xs (pc + 3) ls (v1.toList ++ rest) lsR (kV M b m1.1 m1.2.2) M' v hx hb hml hr how hown htab hts hK hZ hX hA hfr hlo h12 (by omega) (by omega) hP1 (kD_any (M := M) (M1 := kV M b m1.1 m1.2.2) rfl hD) hS1 hL hO hls (vsOk.app (kNr_ok hnr _) hrs) hgo (by
                          intro ad2 pc2 ins2 lsR2 st2 H2 locs2 cells2 slots2 hd2 hE2 had2 hP2 hD2 hS2 hO2 hst2 hn2 hc2 hs2
                          exact hret ad2 pc2 ins2 lsR2 st2 H2 locs2 cells2 slots2 hd2 hE2 had2 hP2 hD2 hS2 hO2 hst2 hn2 (by omega) (by omega))
                        have he : (v1.toList ++ rest).map (mmV ad) = (v1.map (mmV (fun i => ad (b + i)))).toList ++ rest.map (mmV ad) := by
                          rw [kNr_map hnr (fun i => ad (b + i)) ad]
                          cases v1 <;> simp
                        rw [he] at h9
                        exact h9
                      · cases hgo
                    · rename_i ee m1 hg1
                      split at hgo
                      · cases hgo
                      · rename_i hp hhp
                        split at hgo
                        · rename_i k hd9
                          split at hgo
                          · rename_i l9 hl9
                            have hm2 := kGo_mono _ _ _ _ _ _ _ _ hgo
                            have e1 : kCs (kV M b m1.1 m1.2.2) = kCs M + m1.2.2 := rfl
                            have e2 : kSs (kV M b m1.1 m1.2.2) = kSs M + 6 * m1.2.2 := rfl
                            refine km_callK hfl hx hb (hml.trans hL.1.symm) how hown hts hK hZ hA hfr hlo hP hD hS hO hst hd hck hz hfit hg1 (by omega) (by omega) (fun v H1 locs1 h => by cases h) ?_
                            intro e9 ce q9 H1 locs1 h9 hce hcv hcl9 hP1 hS1
                            cases h9
                            obtain ⟨pre, x, suf, h1, h2, h3, h4, h5⟩ := mmHf_spec _ hhp
                            obtain ⟨own2, ho2, hwl, hct0, he3⟩ := mmCK_all _ (mmF3_mem h4)
                            cases how.symm.trans ho2
                            have hcast : (Cond.castable (mmEx ee) (mmEx ee)).before args s = true := by
                              have h7 : Cond.castable (mmEx ee) (mmEx ee) ∈ mmNG := by
                                match ee, he3 with
                                | 0, _ => exact List.mem_of_getElem? (i := 0) rfl
                                | 1, _ => exact List.mem_of_getElem? (i := 1) rfl
                                | 2, _ => exact List.mem_of_getElem? (i := 2) rfl
                              exact va_Nw.use rfl (hK.2.2.1.2.2 _ h7)
                            refine vx_catch (own := own) (name := mmEx ee) (E := mmEx ee) hown (pre.map fun q => ⟨q.1, q.2.1, q.2.2.1, q.2.2.2⟩) ⟨x.1, x.2.1, x.2.2.1, x.2.2.2⟩ (suf.map fun q => ⟨q.1, q.2.1, q.2.2.1, q.2.2.2⟩) (by rw [htab, h1]; simp [tableOf]) ?_ (by simp [covers, h3.1, h3.2]) hct0 (hts _ hwl) hcast hce hcv hcl9 ?_
                            · intro z9 hz9
                              obtain ⟨z8, hz8, rfl⟩ := List.mem_map.mp hz9
                              rcases h5 z8 hz8 with h6 | ⟨e', hlt, hF'⟩
                              · left
                                simp only [covers, Bool.and_eq_false_iff, decide_eq_false_iff_not]
                                by_cases h7 : z8.1 ≤ pc
                                · exact Or.inr fun h8 => h6 ⟨h7, h8⟩
                                · exact Or.inl h7
                              · exact absurd hlt (by have h2 := mmCK_2 _ (mmF3_mem hF'); have h2 : e' = 2 := h2; have he4 : ee < 3 := he3; omega)
                            · show W p l e R s m args below meth c H1 locs1 _ _ Q (F0 m x.2.2.1 lsR [.ref q9])
                              rw [h2]
                              refine lv_astore hx hb hd9 hL (mmSt1_lt hl9) rfl (fun lsR1 h' => ?_)
                              exact ih p e R s m args below meth c H1 locs1 _ _ Q D G ad y r own A L xs (hp + 2) l9 [] lsR1 (kV M b m1.1 m1.2.2) M' v hx hb (by rw [mmSt1_len hl9]; exact hml) hr how hown htab hts hK hZ hX hA hfr hlo h12 (by omega) (by omega) hP1 (kD_any (M := M) (M1 := kV M b m1.1 m1.2.2) rfl hD) hS1 (mmLR.st1 hl9 (fun h => absurd rfl h) h') hO (hls.st1 (show vOk (kN M) .null from trivial) hl9) (fun x h => by cases h) hgo (by
                                intro ad2 pc2 ins2 lsR2 st2 H2 locs2 cells2 slots2 hd2 hE2 had2 hP2 hD2 hS2 hO2 hst2 hn2 hc2 hs2
                                exact hret ad2 pc2 ins2 lsR2 st2 H2 locs2 cells2 slots2 hd2 hE2 had2 hP2 hD2 hS2 hO2 hst2 hn2 (by omega) (by omega))
                          · cases hgo
                        · cases hgo
                  · cases hgo
              · split at hgo
                · rename_i i
                  have hnew : ∀ (k : Nat), mmF3 kNT y pc = some k → kNTok (y, pc, k) := fun k hk => kNT_all _ (mmF3_mem hk)
                  split at hgo
                  · rename_i hF
                    split at hgo
                    · rename_i hfit
                      obtain ⟨r2, hr2, ho8, hcase⟩ := hnew _ hF
                      cases hr.symm.trans hr2
                      have hm2 := kGo_mono _ _ _ _ _ _ _ _ hgo
                      have e1 : kCs (kB M) = kCs M + 5 := rfl
                      have e2 : kSs (kB M) = kSs M + 53 := rfl
                      rcases hcase with ⟨-, d0, d3, d4⟩ | ⟨h, -⟩
                      · rw [ho8] at how
                        cases how
                        refine km_newB hx hb hml hown hts hK hA (by omega) (by omega) (by omega) (by omega) hP hD hS hL hO hls hst hfit.2.2 d0 d3 d4 ?_
                        intro ad1 lsR1 H1 locs1 cells1 slots1 had1 hL1 hP1 hD1 hS1 hO1 hls1 hst1 hn1 hc1 hs1
                        refine ih p e R s m args below meth c H1 locs1 cells1 slots1 Q D G ad1 y r RL A L xs (pc + 7) ls _ lsR1 (kB M) M' v hx hb hml hr (by rw [ho8]; rfl) hown htab hts hK hZ (hX.ad (had1 0 (Nat.zero_le _))) hA hfr hlo h12 (by omega) (by omega) hP1 hD1 hS1 hL1 hO1 hls1 hst1 hgo ?_
                        intro ad2 pc2 ins2 lsR2 st2 H2 locs2 cells2 slots2 hd2 hE2 had2 hP2 hD2 hS2 hO2 hst2 hn2 hc2 hs2
                        exact hret ad2 pc2 ins2 lsR2 st2 H2 locs2 cells2 slots2 hd2 hE2 (fun k hk => (had2 k (Nat.le_trans hk hn1)).trans (had1 k hk)) hP2 hD2 hS2 hO2 hst2 (Nat.le_trans hn1 hn2) (by omega) (by omega)
                      · exact absurd (show (0 : Nat) = 1 from h) (by decide)
                    · cases hgo
                  · rename_i hF
                    split at hgo
                    · rename_i hfit
                      obtain ⟨r2, hr2, ho8, hcase⟩ := hnew _ hF
                      cases hr.symm.trans hr2
                      have hm2 := kGo_mono _ _ _ _ _ _ _ _ hgo
                      have e1 : kCs (kK M) = kCs M + 35 := rfl
                      have e2 : kSs (kK M) = kSs M + 688 := rfl
                      rcases hcase with ⟨h, -⟩ | ⟨-, d0, d3, d4⟩
                      · exact absurd (show (1 : Nat) = 0 from h) (by decide)
                      · rw [ho8] at how
                        cases how
                        refine km_newK hfl hx hb hml hown hts hK hZ hA (by omega) (by omega) (by omega) (by omega) hP hD hS hL hO hls hst hfit.2.2 d0 d3 d4 ?_
                        intro ad1 lsR1 H1 locs1 cells1 slots1 had1 hL1 hP1 hD1 hS1 hO1 hls1 hst1 hn1 hc1 hs1
                        refine ih p e R s m args below meth c H1 locs1 cells1 slots1 Q D G ad1 y r RL A L xs (pc + 7) ls _ lsR1 (kK M) M' v hx hb hml hr (by rw [ho8]; rfl) hown htab hts hK hZ (hX.ad (had1 0 (Nat.zero_le _))) hA hfr hlo h12 (by omega) (by omega) hP1 hD1 hS1 hL1 hO1 hls1 hst1 hgo ?_
                        intro ad2 pc2 ins2 lsR2 st2 H2 locs2 cells2 slots2 hd2 hE2 had2 hP2 hD2 hS2 hO2 hst2 hn2 hc2 hs2
                        exact hret ad2 pc2 ins2 lsR2 st2 H2 locs2 cells2 slots2 hd2 hE2 (fun k hk => (had2 k (Nat.le_trans hk hn1)).trans (had1 k hk)) hP2 hD2 hS2 hO2 hst2 (Nat.le_trans hn1 hn2) (by omega) (by omega)
                    · cases hgo
                  · cases hgo
                · cases hgo
      · cases hgo
