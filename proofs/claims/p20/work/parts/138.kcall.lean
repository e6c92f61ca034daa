/-! what rides in the contracts of the law's and the sim's methods; calls -/
theorem va_AOA.moved {t : FieldType} {u U : State} (hvm : u.vm.Alike U.vm) (h : va_AOA t u) : va_AOA t U := by
  obtain ⟨comp, c, k, h1, h2, h3, h4, h5⟩ := arrayOverA_spec h
  obtain ⟨k', hk', he⟩ := hvm.2.2 _ _ h3
  have hi : (U.vm.classes.findIdx? fun (x : Class) => match x.kind with | .array component _ => component == comp | _ => false) = some c := by
    rw [hvm.findIdx?_eq _ (fun _ => rfl)]
    exact h2
  have hkind : k'.kind = .array comp (.array t) := by rw [he]; exact h4
  have f1 : U.vm.findClass (FieldType.array t).toString = some comp := by rw [hvm.findClass]; exact h1
  have f2 : U.vm.findClass ("[" ++ (FieldType.array t).toString) = some c := by rw [hvm.findClass]; exact h5
  unfold va_AOA Cond.before Cond.holds
  simp only [Cond.value]
  rw [f1, Option.bind_some]
  refine (congrArg (fun o : Option Nat => (o.bind (fun c => (U.vm.classes[c]?).map fun (k : Class) => match k.kind with | .array _ ty => decide (ty = FieldType.array t) && decide (U.vm.findClass ("[" ++ (FieldType.array t).toString) = some c) | _ => false) == some true)) hi).trans ?_
  simp [hk', hkind, f2]
def kNs : List (String × Nat × MethodName × String) := mmNsI ++ [(RL, 62, yX4_init, RL)]
def kKs (D : va_G) (G : Nat → ClassId) (U : State) : Prop := va_K D mmCls (kTy G) U ∧ (va_AOA .int U ∧ va_AOA .boolean U) ∧ mmKr U ∧ ∀ q ∈ kNs, va_Nw (.methodLinkNest q.1 q.2.1 q.2.2.1 q.2.2.2) U
theorem kKs.warm {D : va_G} {G : Nat → ClassId} {s U : State} (hW : s.WarmedH U.vm) (h : kKs D G s) : kKs D G U :=
  ⟨va_K.moved hW.alike h.1, ⟨va_AOA.moved hW.alike h.2.1.1, va_AOA.moved hW.alike h.2.1.2⟩, mmKr.warm hW h.2.2.1, fun q hq => va_Nw.warmM hW (h.2.2.2 q hq)⟩
theorem kKs.same {D : va_G} {G : Nat → ClassId} {s U : State} (hv : U.vm = s.vm) (h : kKs D G s) : kKs D G U :=
  have ha : s.vm.Alike U.vm := by rw [hv]; exact Vm.Alike.refl s.vm
  ⟨va_K.moved ha h.1, ⟨va_AOA.moved ha h.2.1.1, va_AOA.moved ha h.2.1.2⟩, mmKr.same hv h.2.2.1, fun q hq => va_Nw.same rfl hv.symm (h.2.2.2 q hq)⟩
theorem kKs.mm {D : va_G} {G : Nat → ClassId} {U : State} (h : kKs D G U) : mmKs D G 35 U := ⟨h.1.sub [0, 1] rfl, h.2.2.1⟩
def kPic (D : va_G) (G : Nat → ClassId) (ad : Nat → Nat) (M : kM) (L : Nat) (xs : Nat → Int32) (sz : Nat) (U : State) : Prop := U.heap.size = sz ∧ va_P D mmCls (kW G ad M) U.heap ∧ va_D (fun _ => True) (kW G ad M) ∧ kKs D G U ∧ mmZq (va_A (kW G ad M) sz) U U.heap ∧ va_X (ad 0) L xs U U.heap ∧ ¬ va_A (kW G ad M) sz (ad 0)
theorem kPic_blind {D : va_G} {G : Nat → ClassId} {ad : Nat → Nat} {M : kM} {L : Nat} {xs : Nat → Int32} {sz : Nat} {av : List Value} : FrameBlind (va_Pc av (kPic D G ad M L xs sz)) := by
  intro a U g mk h
  obtain ⟨h1, hsz, hP, hD, hK, hZ, hX, hA⟩ := h
  exact ⟨h1, hsz, hP, hD, kKs.same (s := U) rfl hK, ⟨vx_Zq.moved (u := U) (Vm.Alike.refl U.vm) hZ.1, vx_Zq.moved (u := U) (Vm.Alike.refl U.vm) hZ.2⟩, va_X.moved (u := U) (Vm.Alike.refl U.vm) hX, hA⟩
def kQr (D : va_G) (G : Nat → ClassId) (ad : Nat → Nat) (L : Nat) (xs : Nat → Int32) (M M' : kM) (v : Option Value) (A : Nat → Prop) : Array Value → State → Outcome → State → Prop := fun _ st oc t => (∃ ad' : Nat → Nat, (∀ k, k ≤ kN M → ad' k = ad k) ∧ oc = .returned (v.map (mmV ad')) ∧ va_P D mmCls (kW G ad' M') t.heap ∧ va_D A (kW G ad' M') ∧ kOk L xs M' ∧ kN M ≤ kN M' ∧ ∀ x, v = some x → vOk (kN M') x) ∧ va_F A st t
def kXr : String → State → State → Prop := fun _ _ _ => False
def kRm (r : mmRow) (a b : Nat) : Room := { frames := mmFr r, cells := a, slots := b, locals := mmLo r }
def kCon (l : Launch) (f : Nat) : Prop := ∀ (z : Nat) (r : mmRow) (As : List Value) (L : Nat) (xs : Nat → Int32) (M M' : kM) (v : Option Value), mmP[z]? = some r → mmFr r ≤ 10 → kGo f z 0 (mmEn (mmMl r) As) [] M = some (v, M') → (mmEl As).length ≤ mmMl r → kOk L xs M → vsOk (kN M) As →
  ∀ (D : va_G) (G : Nat → ClassId) (ad : Nat → Nat) (sz : Nat), vx_Met l (mmNm r) (mmHd r :: mmBW) (kRm r (kCs M' - kCs M) (kSs M' - kSs M)) (va_Pc (As.map (mmV ad)) (kPic D G ad M L xs sz)) (kQr D G ad L xs M M' v (va_A (kW G ad M) sz)) kXr (kCs M' - kCs M) (kSs M' - kSs M) (va_A (kW G ad M) sz)
theorem kHd_of {c : kC} {k : Nat} (h : kHd c k = true) : c = .inr (.inr (.inr (k, 0))) := by
  unfold kHd at h
  split at h
  · rename_i b j
    simp only [Bool.and_eq_true, beq_iff_eq] at h
    obtain ⟨rfl, rfl⟩ := h
    rfl
  · cases h
theorem kIsSim_of {c : kC} (h : kIsSim c = true) : ∃ fs, c = .inr (.inr (.inl fs)) := by
  unfold kIsSim at h
  split at h
  · exact ⟨_, rfl⟩
  · cases h
theorem kInts_map {l : List Value} (h : kInts l = true) (ad ad' : Nat → Nat) : l.map (mmV ad) = l.map (mmV ad') := List.map_congr_left fun v hv => by
  obtain ⟨x, rfl⟩ := mmIsI_of (List.all_eq_true.mp h v hv)
  rfl
theorem kCk_spec {o : Nat} {ins : Instr} {st As rest : List Value} {M : kM} {z b : Nat} (h : kCk o ins st M = some (z, b, As, rest)) {rz : mmRow} (hz : mmP[z]? = some rz) : mmSm rest ≤ 8 ∧ M.1 b = .inr (.inr (.inr (b, 0))) ∧ kInts As = true ∧
    ∃ i, ins = .invokevirtual i ∧ mmF3 mmML o i = some z ∧ mmSt rz = false ∧ mmHh rz = [] ∧ mmOw rz = 3 ∧ st = As.reverse ++ .ref b :: rest ∧ As.length = mmNa rz := by
  cases ins with
  | invokevirtual i =>
    simp only [kCk] at h
    split at h
    · rename_i z2 hF
      split at h
      · rename_i r2 hr2
        split at h
        · rename_i hc
          split at h
          · rename_i k rest2 hd
            split at h
            · rename_i hk
              cases h
              cases hz.symm.trans hr2
              obtain ⟨c1, c2, c3, c4, c5, c6⟩ := hc
              refine ⟨?_, kHd_of hk, ?_, i, rfl, hF, c1, c2, c3, ?_, by rw [List.length_reverse, List.length_take]; omega⟩
              · rw [← List.drop_drop, hd] at c4
                exact c4
              · unfold kInts at c6 ⊢
                rw [List.all_reverse]
                exact c6
              · rw [List.reverse_reverse, ← hd, List.take_append_drop]
            · cases h
          · cases h
        · cases h
      · cases h
    · cases h
  | _ => exact absurd h (by simp [kCk])
theorem kCl_spec {o : Nat} {ins : Instr} {st As rest : List Value} {M : kM} {z : Nat} (h : kCl o ins st M = some (z, As, rest)) {rz : mmRow} (hz : mmP[z]? = some rz) : mmSm rest ≤ 8 ∧
    ((∃ i k As', ins = .invokevirtual i ∧ mmF3 mmML o i = some z ∧ mmSt rz = false ∧ mmHh rz = [] ∧ mmOw rz = 4 ∧ As = .ref k :: As' ∧ st = As'.reverse ++ .ref k :: rest ∧ As'.length = mmNa rz ∧ ∃ fs, M.1 k = .inr (.inr (.inl fs))) ∨
     (∃ i, ins = .invokestatic i ∧ mmF3 mmML o i = some z ∧ mmSt rz = true ∧ st = As.reverse ++ rest ∧ As.length = mmNa rz)) := by
  cases ins with
  | invokevirtual i =>
    simp only [kCl] at h
    split at h
    · rename_i z2 hF
      split at h
      · rename_i r2 hr2
        split at h
        · rename_i hc
          split at h
          · rename_i k rest2 hd
            split at h
            · rename_i hk
              cases h
              cases hz.symm.trans hr2
              obtain ⟨c1, c2, c3, c4, c5⟩ := hc
              refine ⟨?_, Or.inl ⟨i, k, (st.take (mmNa rz)).reverse, rfl, hF, c1, c2, c3, rfl, ?_, by rw [List.length_reverse, List.length_take]; omega, kIsSim_of hk⟩⟩
              · rw [← List.drop_drop, hd] at c4
                exact c4
              · rw [List.reverse_reverse, ← hd, List.take_append_drop]
            · cases h
          · cases h
        · cases h
      · cases h
    · cases h
  | invokestatic i =>
    simp only [kCl] at h
    split at h
    · rename_i z2 hF
      have hz2 : z2 = z := by
        unfold mmCs at h
        split at h
        · split at h
          · cases h; rfl
          · cases h
        · cases h
      subst hz2
      obtain ⟨-, h1, h2, h3, h4⟩ := mmCs_spec h hz
      exact ⟨h2, Or.inr ⟨i, rfl, hF, h1, h3, h4⟩⟩
    · cases h
  | _ => exact absurd h (by simp [kCl])
theorem kD_any {G : Nat → ClassId} {ad : Nat → Nat} {M M1 : kM} {A : Nat → Prop} (hn : kN M1 = kN M) (h : va_D A (kW G ad M)) : va_D A (kW G ad M1) := by
  have key : ∀ (k : Nat) (q : Nat × va_E), (kW G ad M1)[k]? = some q → ∃ q0, (kW G ad M)[k]? = some q0 ∧ q0.1 = q.1 := by
    intro k q hk
    obtain ⟨h1, rfl⟩ := kW_of hk
    have h2 := kW_at (G := G) (ad := ad) (M := M) (k := k + 1) (by omega) (by omega)
    rw [show k + 1 - 1 = k by omega] at h2
    exact ⟨_, h2, rfl⟩
  refine ⟨fun i j x y hi hj hxy => ?_, fun k q hk => ?_⟩
  · obtain ⟨x0, h1, h2⟩ := key i x hi
    obtain ⟨y0, h3, h4⟩ := key j y hj
    exact h.1 i j x0 y0 h1 h3 (h2.trans (hxy.trans h4.symm))
  · obtain ⟨q0, h1, h2⟩ := key k q hk
    rw [← h2]
    exact h.2 k q0 h1
theorem kCe_part {G : Nat → ClassId} {ad : Nat → Nat} {M : kM} {k b j : Nat} (h : M.1 k = .inr (.inr (.inr (b, j)))) : kCe G ad M k = mmCe G (fun i => ad (b + i)) (M.2.1 b, ((fun _ => 0), 0)) j := by
  unfold kCe
  rw [h]
/-- a kitchen's 35 cells, of the whole -/
theorem kP_part {D : va_G} {G : Nat → ClassId} {ad : Nat → Nat} {L : Nat} {xs : Nat → Int32} {M : kM} {H : Heap} {b : Nat} (hO : kOk L xs M) (hP : va_P D mmCls (kW G ad M) H) (h0 : 0 < b) (hn : b ≤ kN M) (hb : M.1 b = .inr (.inr (.inr (b, 0)))) : va_P D mmCls (mmW G (fun i => ad (b + i)) (M.2.1 b, ((fun _ => 0), 0)) 35) H ∧ (∀ A, va_D A (kW G ad M) → va_D A (mmW G (fun i => ad (b + i)) (M.2.1 b, ((fun _ => 0), 0)) 35)) := by
  obtain ⟨g1, g2, g3, g4, g5⟩ := (hO.at h0 hn).kitchen hb
  have key : ∀ (j : Nat) (q : Nat × va_E), (mmW G (fun i => ad (b + i)) (M.2.1 b, ((fun _ => 0), 0)) 35)[j]? = some q → (kW G ad M)[b + j - 1]? = some q ∧ j < 35 := by
    intro j q hj
    have hl : j < 35 := by
      have := (List.getElem?_eq_some_iff.mp hj).1
      rw [mmW_len] at this
      exact this
    rw [mmW_at hl] at hj
    cases hj
    rw [kW_at (show 0 < b + j by omega) (by omega), kCe_part (g5 j hl)]
    exact ⟨rfl, hl⟩
  refine ⟨fun j q hj => hP _ q (key j q hj).1, fun A hD => ⟨fun i j x y hi hj hxy => ?_, fun j q hj => hD.2 _ q (key j q hj).1⟩⟩
  have h1 := key i x hi
  have h2 := key j y hj
  have h3 := hD.1 _ _ x y h1.1 h2.1 hxy
  omega
/-- .. and back -/
theorem kP_back {D : va_G} {G : Nat → ClassId} {ad : Nat → Nat} {L : Nat} {xs : Nat → Int32} {M : kM} {H H1 : Heap} {b x : Nat} {m1 : mmM} {A : Nat → Prop} (hO : kOk L xs M) (hP : va_P D mmCls (kW G ad M) H) (hD : va_D A (kW G ad M)) (h0 : 0 < b) (hn : b ≤ kN M) (hb : M.1 b = .inr (.inr (.inr (b, 0)))) (hP1 : va_P D mmCls (mmW G (fun i => ad (b + i)) m1 35) H1) (hk : ∀ q : Nat, q < H.size → ¬ va_A (mmW G (fun i => ad (b + i)) (M.2.1 b, ((fun _ => 0), 0)) 35) H.size q → H1[q]? = H[q]?) : va_P D mmCls (kW G ad (kV M b m1.1 x)) H1 := by
  obtain ⟨g1, g2, g3, g4, g5⟩ := (hO.at h0 hn).kitchen hb
  intro i q hi
  obtain ⟨h1, rfl⟩ := kW_of hi
  have h1 : i + 1 ≤ kN M := h1
  by_cases hc : b ≤ i + 1 ∧ i + 1 < b + 35
  · obtain ⟨j, hj⟩ : ∃ j, i + 1 = b + j := ⟨i + 1 - b, by omega⟩
    have hj35 : j < 35 := by omega
    rw [hj]
    have he : kCe G ad (kV M b m1.1 x) (b + j) = mmCe G (fun i => ad (b + i)) m1 j := by
      rw [kCe_part (show (kV M b m1.1 x).1 (b + j) = _ from g5 j hj35)]
      have : (kV M b m1.1 x).2.1 b = m1.1 := kU_self _ _ _
      rw [this]
      unfold mmCe
      split
      · rfl
      · rfl
      · rename_i t m hl
        exact absurd (mmLay_long j hj35 t m hl) (by omega)
      · rfl
      · rfl
    rw [he]
    have h9 := mmW_at (G := G) (ad := fun i => ad (b + i)) (M := m1) (n := 35) (k := j) hj35
    exact hP1 j _ h9
  · have hoc := hO.at (show 0 < i + 1 by omega) h1
    have h2 := kW_at (G := G) (ad := ad) (M := M) (k := i + 1) (by omega) h1
    have h3 := hP _ _ h2
    have he : kCe G ad (kV M b m1.1 x) (i + 1) = kCe G ad M (i + 1) := by
      cases hcc : M.1 (i + 1) with
      | inl a => unfold kCe; rw [show (kV M b m1.1 x).1 (i + 1) = _ from hcc, hcc]
      | inr a =>
        cases a with
        | inl a => unfold kCe; rw [show (kV M b m1.1 x).1 (i + 1) = _ from hcc, hcc]
        | inr a =>
          cases a with
          | inl fs => unfold kCe; rw [show (kV M b m1.1 x).1 (i + 1) = _ from hcc, hcc]
          | inr a =>
            obtain ⟨b2, j2⟩ := a
            obtain ⟨k1, k2, k3, k4, k5⟩ := hoc.kitchen hcc
            have hne : b2 ≠ b := fun h => hc (by subst h; omega)
            rw [kCe_part (show (kV M b m1.1 x).1 (i + 1) = _ from hcc), kCe_part hcc, show (kV M b m1.1 x).2.1 b2 = M.2.1 b2 from kU_ne hne]
    rw [he]
    refine va_at.kept h3 (hk _ h3.lt (fun hA => ?_))
    rcases hA with ⟨j, e9, hj⟩ | hA
    · have hl : j < 35 := by
        have := (List.getElem?_eq_some_iff.mp hj).1
        rw [mmW_len] at this
        exact this
      rw [mmW_at hl] at hj
      have hj1 := congrArg (fun o : Option (Nat × va_E) => o.map (·.1)) hj
      simp only [Option.map_some, Option.some.injEq] at hj1
      have h5 := kW_at (G := G) (ad := ad) (M := M) (k := b + j) (by omega) (by omega)
      have h6 := hD.1 _ _ _ _ h2 h5 hj1.symm
      omega
    · exact Nat.lt_irrefl _ (Nat.lt_of_lt_of_le h3.lt hA)
theorem kOk.kit {L : Nat} {xs : Nat → Int32} {M : kM} (hO : kOk L xs M) (b : Nat) (f : Nat → Nat → Int32) (x : Nat) : kOk L xs (kV M b f x) := hO
section KC
variable {p : Program} {l : Launch} {e : Env} {R : Room} {s : State} {m : MethodId} {args : Array Value} {below : List Frame} {meth : Method} {c : Code} {H : Heap} {locs : List Loc} {cells slots : Nat} {Q : State → Prop}
theorem km_afterK {D : va_G} {G : Nat → ClassId} {ad : Nat → Nat} {M1 : mmM} {o : Option Value ⊕ Nat} {A A1 : Nat → Prop} {mc ms pc : Nat} {lsR : Array Slot} {st0 rest : List Value} {a : Array Value} {free : Addr → Prop}
    (hr : vx_Run p l e R s m args below meth c H locs cells slots mc ms (F0 m pc lsR st0) rest (mmQr D G ad M1 35 o A1 a) (mmXr D G ad M1 35 o A1) free) (hS : va_S A s.heap H locs) (hA : ∀ q, q < H.size → A1 q → A q) (hf : ∀ q, free q → A q)
    (kk : ∀ (v : Option Value) (H1 : Heap) (locs1 : List Loc), o = .inl v → va_P D mmCls (mmW G ad M1 35) H1 → (∀ q : Nat, q < H.size → ¬ A1 q → H1[q]? = H[q]?) → va_S A s.heap H1 locs1 → W p l e R s m args below meth c H1 locs1 (cells + mc) (slots + ms) Q (F0 m (pc + 3) lsR ((v.map (mmV ad)).toList ++ rest)))
    (kx : ∀ (ee : Nat) (ce : Cell) (q9 : Addr) (H1 : Heap) (locs1 : List Loc), o = .inr ee → H1[q9]? = some ce → ce.vm = .none → s.vm.findClass (mmEx ee) = some ce.cls → va_P D mmCls (mmW G ad M1 35) H1 → (∀ q : Nat, q < H.size → ¬ A1 q → H1[q]? = H[q]?) → va_S A s.heap H1 locs1 → vx_W p l e R s m args below meth c H1 locs1 (cells + mc) (slots + ms) Q (F0 m pc lsR rest) q9) :
    W p l e R s m args below meth c H locs cells slots Q (F0 m pc lsR st0) := by
  intro T hT X
  rcases hr T hT X with ⟨v, st₀, t, T', L, h0, X', hL, e1, e2, ⟨⟨w, ho, hv, hp⟩, hF⟩, st⟩ | ⟨q, st₀, t, T', L, E, ce, h0, X', hL, e1, e2, ⟨⟨ee, ho, hE, hp⟩, hF⟩, hce, hcv, hcl, st⟩
  · cases hv
    obtain ⟨k1, k2, k3⟩ := vx_keep h0 e1 hS hA hf hL hF
    obtain ⟨t2, a1, b1⟩ := kk w T'.heap (locs ++ L) ho (by rw [e1]; exact hp) k2 k3 T' rfl X'
    exact ⟨t2, st t2 a1, b1⟩
  · subst hE
    obtain ⟨k1, k2, k3⟩ := vx_keep h0 e1 hS hA hf hL hF
    obtain ⟨t2, a1, b1⟩ := kx ee ce q T'.heap (locs ++ L) ho (by rw [e1]; exact hce) hcv hcl (by rw [e1]; exact hp) k2 k3 T' rfl X'
    exact ⟨t2, st.trans a1, b1⟩
theorem km_afterO {D : va_G} {G : Nat → ClassId} {ad : Nat → Nat} {L : Nat} {xs : Nat → Int32} {M M1 : kM} {v : Option Value} {A A1 : Nat → Prop} {mc ms pc : Nat} {lsR : Array Slot} {st0 rest : List Value} {a : Array Value} {free : Addr → Prop}
    (hr : vx_Run p l e R s m args below meth c H locs cells slots mc ms (F0 m pc lsR st0) rest (kQr D G ad L xs M M1 v A1 a) kXr free) (hS : va_S A s.heap H locs) (hA : ∀ q, q < H.size → A1 q → A q) (hf : ∀ q, free q → A q)
    (kk : ∀ (ad' : Nat → Nat) (H1 : Heap) (locs1 : List Loc), (∀ k, k ≤ kN M → ad' k = ad k) → va_P D mmCls (kW G ad' M1) H1 → va_D A1 (kW G ad' M1) → kOk L xs M1 → kN M ≤ kN M1 → (∀ x, v = some x → vOk (kN M1) x) → va_S A s.heap H1 locs1 → W p l e R s m args below meth c H1 locs1 (cells + mc) (slots + ms) Q (F0 m (pc + 3) lsR ((v.map (mmV ad')).toList ++ rest))) :
    W p l e R s m args below meth c H locs cells slots Q (F0 m pc lsR st0) := by
  intro T hT X
  rcases hr T hT X with ⟨v9, st₀, t, T', L9, h0, X', hL, e1, e2, ⟨⟨ad', had, hv, hp, hd, hO, hn, hvo⟩, hF⟩, st⟩ | ⟨q, st₀, t, T', L9, E, ce, h0, X', hL, e1, e2, hfalse, -⟩
  · cases hv
    obtain ⟨k1, k2, k3⟩ := vx_keep h0 e1 hS hA hf hL hF
    obtain ⟨t2, a1, b1⟩ := kk ad' T'.heap (locs ++ L9) had (by rw [e1]; exact hp) hd hO hn hvo k3 T' rfl X'
    exact ⟨t2, st t2 a1, b1⟩
  · exact hfalse.elim
set_option maxHeartbeats 4000000 in
/-- a kitchen's method -/
theorem km_callK {D : va_G} {G : Nat → ClassId} {ad : Nat → Nat} {L : Nat} {xs : Nat → Int32} {M : kM} {m1 : mmM} {f z b : Nat} {o : Option Value ⊕ Nat} {r rz : mmRow} {own : String} {A : Nat → Prop} {pc : Nat} {ins : Instr} {lsR : Array Slot} {st As rest : List Value}
    (hfl : l.stackTraces = false) (hx : p.tables.exec = Jvm.exec) (hb : c.code = mmCd r) (hml : c.maxLocals = lsR.size) (how : mmOwn[mmOw r]? = some own) (hown : s.vm.findClass own = some m.cls)
    (hts : ∀ w ∈ mmBW, w.before args s = true) (hK : kKs D G s) (hZ : mmZq A s s.heap) (hA : ∀ q : Nat, s.heap.size ≤ q → A q)
    (hfr : mmFr r ≤ R.frames) (hlo : mmLo r ≤ R.locals)
    (hP : va_P D mmCls (kW G ad M) H) (hD : va_D A (kW G ad M)) (hS : va_S A s.heap H locs) (hO : kOk L xs M) (hst : vsOk (kN M) st)
    (hd : decode (mmCd r) pc = .ok (ins, 3)) (hck : kCk (mmOw r) ins st M = some (z, b, As, rest)) (hz : mmP[z]? = some rz)
    (hfit : mmFr rz ≤ 10 ∧ mmFr rz + 1 ≤ mmFr r ∧ 8 + (mmMl rz + 11) + mmLo rz ≤ mmLo r ∧ (mmEl (.ref 0 :: As)).length ≤ mmMl rz) (hgo : mmGo f none 35 z 0 (mmEn (mmMl rz) (.ref 0 :: As)) [] (M.2.1 b, ((fun _ => 0), 0)) = some (o, m1))
    (hc : cells + m1.2.2 ≤ R.cells) (hsl : slots + 6 * m1.2.2 ≤ R.slots)
    (kk : ∀ (v : Option Value) (H1 : Heap) (locs1 : List Loc), o = .inl v → va_P D mmCls (kW G ad (kV M b m1.1 m1.2.2)) H1 → va_S A s.heap H1 locs1 → W p l e R s m args below meth c H1 locs1 (cells + m1.2.2) (slots + 6 * m1.2.2) Q (F0 m (pc + 3) lsR ((v.map (mmV (fun i => ad (b + i)))).toList ++ rest.map (mmV ad))))
    (kx : ∀ (ee : Nat) (ce : Cell) (q9 : Addr) (H1 : Heap) (locs1 : List Loc), o = .inr ee → H1[q9]? = some ce → ce.vm = .none → s.vm.findClass (mmEx ee) = some ce.cls → va_P D mmCls (kW G ad (kV M b m1.1 m1.2.2)) H1 → va_S A s.heap H1 locs1 → vx_W p l e R s m args below meth c H1 locs1 (cells + m1.2.2) (slots + 6 * m1.2.2) Q (F0 m pc lsR (rest.map (mmV ad))) q9) :
    W p l e R s m args below meth c H locs cells slots Q (F0 m pc lsR (st.map (mmV ad))) := by
  have hM := mmCon_all l hfl f 35 z rz (.ref 0 :: As) _ m1 o (by omega) hz hfit.1 hgo hfit.2.2.2 D G (fun i => ad (b + i)) H.size
  obtain ⟨o1, o2, o3, o4, o5, o6, o7, o8, o9⟩ := mmOk_all rz (List.mem_of_getElem? hz) hfit.1
  obtain ⟨hsm, hbc, hints, i, rfl, hF, hst2, hh, how3, rfl, hlen⟩ := kCk_spec hck hz
  have hb0 : 0 < b := Nat.pos_of_ne_zero (fun h => by rw [h, hO.1] at hbc; cases hbc)
  have hbn : b ≤ kN M := hst (.ref b) (List.mem_append_right _ List.mem_cons_self)
  obtain ⟨hPk, hDk0⟩ := kP_part hO hP hb0 hbn hbc
  have hDk := hDk0 A hD
  have hA1 : ∀ q, va_A (mmW G (fun i => ad (b + i)) (M.2.1 b, ((fun _ => 0), 0)) 35) H.size q → A q := by
    intro q h
    rcases h with ⟨k, e9, h⟩ | h
    · exact hDk.2 k _ h
    · exact hA q (Nat.le_trans hS.1 h)
  have hKm := hK.mm
  have hpic : ∀ U : State, U.heap = H → s.WarmedH U.vm → mmPic D G (fun i => ad (b + i)) (M.2.1 b, ((fun _ => 0), 0)) 35 H.size U := by
    intro U hU hW
    refine ⟨by rw [hU], by rw [hU]; exact hPk, hDk.weaken (fun _ _ _ _ => trivial), hKm.warm hW, ?_, ?_⟩
    · rw [hU]; exact vx_Zq.moved hW.alike (vx_Zq.narrow (hZ.1.kept hS.2.1) hA1)
    · rw [hU]; exact vx_Zq.moved hW.alike (vx_Zq.narrow (hZ.2.kept hS.2.1) hA1)
  have hR : (mmRm rz (m1.2.2 - 0)).frames + 1 ≤ R.frames ∧ 8 + (mmMl rz + 11) + (mmRm rz (m1.2.2 - 0)).locals ≤ R.locals := ⟨by show mmFr rz + 1 ≤ _; omega, by show 8 + (mmMl rz + 11) + mmLo rz ≤ _; omega⟩
  have hw8 := lv_room (m := m) (pc := pc) (ls := lsR) (rest := (As.reverse ++ .ref b :: rest).map (mmV ad)) (st := rest.map (mmV ad)) (by rw [mmSum]; exact hsm)
  obtain ⟨own2, r2, ho, hr2, hwd⟩ := mmLk_all _ (mmF3_mem hF)
  cases how.symm.trans ho
  cases hz.symm.trans hr2
  have hhd : mmHd rz = .code (mmNm rz) (mmCd rz) (mmMl rz) (mmRt rz) := by unfold mmHd; rw [if_pos hh]
  have hG : GoodIn mmBW (wsV own i (mmNm rz).cls (mmNm rz) (mmHd rz :: mmBW)) := mmGood (fun w hw => by
    unfold wsV at hw
    rcases List.mem_append.mp hw with h | h
    · simp only [List.mem_cons, List.not_mem_nil, or_false] at h
      rcases h with rfl | rfl | rfl | rfl
      · exact hwd
      · exact (o9 hst2).1
      · exact (o9 hst2).2
      · exact o6
    · rcases List.mem_cons.mp h with rfl | h
      · exact o1
      · exact h)
  have hC : RX3 = (mmNm rz).cls := by
    rw [how3] at o7
    exact Option.some.inj o7
  refine km_afterK (a := ((.ref 0 :: As).map (mmV (fun i => ad (b + i)))).toArray) (rest := rest.map (mmV ad)) (mc := m1.2.2 - 0) (ms := 6 * (m1.2.2 - 0)) (vx_runV (Ts := mmBW) (own := own) (nL := lsR.size) (cc := mmCd r) (b := ad b) (As := As.map (mmV (fun i => ad (b + i)))) (C := (mmNm rz).cls) ⟨hx, hb, hml, hown, hts⟩ hM (cwV (mmNa rz) hts hG (by rw [hhd]) rfl rfl ⟨rfl, o3, o4, o5⟩ hR)
    ⟨mmPic_blind, ?_, fun U hU hW => ⟨rfl, hpic U hU hW⟩⟩ rfl (by rw [List.length_map]; exact hlen) rfl ?_ hw8 hd ⟨by omega, by omega⟩) hS (fun q _ h => hA1 q h) hA1 ?_ ?_
  · have h9 := va_recv hK.1 hPk (ci := 3) (q0 := 0) (a := ad (b + 0)) (fs := mmFs (fun i => ad (b + i)) (M.2.1 b 0) 0 [some 1, some 7, some 13, some 18, some 24, some 30, none, none]) rfl (by rw [mmW_at (by omega), mmCe_obj rfl])
    rw [← hC]
    exact h9
  · rw [kInts_map hints (fun i => ad (b + i)) ad]
    simp [mmV, List.map_reverse]
  · intro v H1 locs1 ho1 hP1 hk1 hS1
    exact kk v H1 locs1 ho1 (kP_back hO hP hD hb0 hbn hbc hP1 hk1) hS1
  · intro ee ce q9 H1 locs1 ho1 h1 h2 h3 hP1 hk1 hS1
    exact kx ee ce q9 H1 locs1 ho1 h1 h2 h3 (kP_back hO hP hD hb0 hbn hbc hP1 hk1) hS1
set_option maxHeartbeats 4000000 in
/-- an own method -/
theorem km_callO {D : va_G} {G : Nat → ClassId} {ad : Nat → Nat} {L : Nat} {xs : Nat → Int32} {M M1 : kM} {f z : Nat} {v : Option Value} {r rz : mmRow} {own : String} {A : Nat → Prop} {pc : Nat} {ins : Instr} {lsR : Array Slot} {st As rest : List Value}
    (hCon : kCon l f) (hx : p.tables.exec = Jvm.exec) (hb : c.code = mmCd r) (hml : c.maxLocals = lsR.size) (how : mmOwn[mmOw r]? = some own) (hown : s.vm.findClass own = some m.cls)
    (hts : ∀ w ∈ mmBW, w.before args s = true) (hK : kKs D G s) (hZ : mmZq A s s.heap) (hX : kXs L xs ad A s) (hA : ∀ q : Nat, s.heap.size ≤ q → A q)
    (hfr : mmFr r ≤ R.frames) (hlo : mmLo r ≤ R.locals) (hf10 : mmFr rz ≤ 10)
    (hP : va_P D mmCls (kW G ad M) H) (hD : va_D A (kW G ad M)) (hS : va_S A s.heap H locs) (hO : kOk L xs M) (hst : vsOk (kN M) st)
    (hd : decode (mmCd r) pc = .ok (ins, 3)) (hcl : kCl (mmOw r) ins st M = some (z, As, rest)) (hz : mmP[z]? = some rz)
    (hfit : mmFr rz + 1 ≤ mmFr r ∧ 8 + (mmMl rz + 11) + mmLo rz ≤ mmLo r ∧ (mmEl As).length ≤ mmMl rz) (hgo : kGo f z 0 (mmEn (mmMl rz) As) [] M = some (v, M1))
    (hc : cells + (kCs M1 - kCs M) ≤ R.cells) (hsl : slots + (kSs M1 - kSs M) ≤ R.slots)
    (kk : ∀ (ad' : Nat → Nat) (H1 : Heap) (locs1 : List Loc), (∀ k, k ≤ kN M → ad' k = ad k) → va_P D mmCls (kW G ad' M1) H1 → va_D A (kW G ad' M1) → kOk L xs M1 → kN M ≤ kN M1 → (∀ x, v = some x → vOk (kN M1) x) → va_S A s.heap H1 locs1 → W p l e R s m args below meth c H1 locs1 (cells + (kCs M1 - kCs M)) (slots + (kSs M1 - kSs M)) Q (F0 m (pc + 3) lsR ((v.map (mmV ad')).toList ++ rest.map (mmV ad)))) :
    W p l e R s m args below meth c H locs cells slots Q (F0 m pc lsR (st.map (mmV ad))) := by
  obtain ⟨hsm, hcase⟩ := kCl_spec hcl hz
  have hAs : vsOk (kN M) As := by
    rcases hcase with ⟨i, k, As', -, -, -, -, -, rfl, rfl, -, -⟩ | ⟨i, -, -, -, rfl, -⟩
    · exact vsOk.c (hst _ (List.mem_append_right _ List.mem_cons_self)) (fun x hx9 => hst x (List.mem_append_left _ (List.mem_reverse.mpr hx9)))
    · exact fun x hx9 => hst x (List.mem_append_left _ (List.mem_reverse.mpr hx9))
  have hM := hCon z rz As L xs M M1 v hz hf10 hgo hfit.2.2 hO hAs D G ad H.size
  obtain ⟨o1, o2, o3, o4, o5, o6, o7, o8, o9⟩ := mmOk_all rz (List.mem_of_getElem? hz) hf10
  have hA1 : ∀ q, va_A (kW G ad M) H.size q → A q := by
    intro q h
    rcases h with ⟨k, e9, h⟩ | h
    · exact hD.2 k _ h
    · exact hA q (Nat.le_trans hS.1 h)
  have hpic : ∀ U : State, U.heap = H → s.WarmedH U.vm → kPic D G ad M L xs H.size U := by
    intro U hU hW
    refine ⟨by rw [hU], by rw [hU]; exact hP, hD.weaken (fun _ _ _ _ => trivial), hK.warm hW, ⟨?_, ?_⟩, ?_, fun h => hX.2.2 (hA1 _ h)⟩
    · rw [hU]; exact vx_Zq.moved hW.alike (vx_Zq.narrow (hZ.1.kept hS.2.1) hA1)
    · rw [hU]; exact vx_Zq.moved hW.alike (vx_Zq.narrow (hZ.2.kept hS.2.1) hA1)
    · rw [hU]; exact va_X.moved hW.alike (hX.1.kept (hS.2.1 _ hX.2.1 hX.2.2))
  have hR : (kRm rz (kCs M1 - kCs M) (kSs M1 - kSs M)).frames + 1 ≤ R.frames ∧ 8 + (mmMl rz + 11) + (kRm rz (kCs M1 - kCs M) (kSs M1 - kSs M)).locals ≤ R.locals := ⟨by show mmFr rz + 1 ≤ _; omega, by show 8 + (mmMl rz + 11) + mmLo rz ≤ _; omega⟩
  have hw8 := lv_room (m := m) (pc := pc) (ls := lsR) (rest := st.map (mmV ad)) (st := rest.map (mmV ad)) (by rw [mmSum]; exact hsm)
  have hk2 : ∀ (ad' : Nat → Nat) (H1 : Heap) (locs1 : List Loc), (∀ k, k ≤ kN M → ad' k = ad k) → va_P D mmCls (kW G ad' M1) H1 → va_D (va_A (kW G ad M) H.size) (kW G ad' M1) → kOk L xs M1 → kN M ≤ kN M1 → (∀ x, v = some x → vOk (kN M1) x) → va_S A s.heap H1 locs1 → W p l e R s m args below meth c H1 locs1 (cells + (kCs M1 - kCs M)) (slots + (kSs M1 - kSs M)) Q (F0 m (pc + 3) lsR ((v.map (mmV ad')).toList ++ rest.map (mmV ad))) :=
    fun ad' H1 locs1 h1 h2 h3 h4 h5 h6 h7 => kk ad' H1 locs1 h1 h2 ⟨h3.1, fun k q hk => hA1 _ (h3.2 k q hk)⟩ h4 h5 h6 h7
  rcases hcase with ⟨i, k, As', rfl, hF, hst2, hh, how4, rfl, rfl, hlen, fs, hfs⟩ | ⟨i, rfl, hF, hst2, rfl, hlen⟩
  · obtain ⟨own2, r2, ho, hr2, hwd⟩ := mmLk_all _ (mmF3_mem hF)
    cases how.symm.trans ho
    cases hz.symm.trans hr2
    have hk0 : 0 < k := Nat.pos_of_ne_zero (fun h => by rw [h, hO.1] at hfs; cases hfs)
    have hkn : k ≤ kN M := hst (.ref k) (List.mem_append_right _ List.mem_cons_self)
    have hC : RX4 = (mmNm rz).cls := by
      rw [how4] at o7
      exact Option.some.inj o7
    have hhd : mmHd rz = .code (mmNm rz) (mmCd rz) (mmMl rz) (mmRt rz) := by unfold mmHd; rw [if_pos hh]
    have hG : GoodIn mmBW (wsV own i (mmNm rz).cls (mmNm rz) (mmHd rz :: mmBW)) := mmGood (fun w hw => by
      unfold wsV at hw
      rcases List.mem_append.mp hw with h | h
      · simp only [List.mem_cons, List.not_mem_nil, or_false] at h
        rcases h with rfl | rfl | rfl | rfl
        · exact hwd
        · exact (o9 hst2).1
        · exact (o9 hst2).2
        · exact o6
      · rcases List.mem_cons.mp h with rfl | h
        · exact o1
        · exact h)
    refine km_afterO (a := ((.ref k :: As').map (mmV ad)).toArray) (rest := rest.map (mmV ad)) (vx_runV (Ts := mmBW) (own := own) (nL := lsR.size) (cc := mmCd r) (b := ad k) (As := As'.map (mmV ad)) (C := (mmNm rz).cls) ⟨hx, hb, hml, hown, hts⟩ hM (cwV (mmNa rz) hts hG (by rw [hhd]) rfl rfl ⟨rfl, o3, o4, o5⟩ hR)
      ⟨kPic_blind, ?_, fun U hU hW => ⟨rfl, hpic U hU hW⟩⟩ rfl (by rw [List.length_map]; exact hlen) rfl ?_ hw8 hd ⟨hc, hsl⟩) hS (fun q _ h => hA1 q h) hA1 hk2
    · have h9 := va_recv hK.1 hP (ci := 4) (q0 := k - 1) (a := ad k) (fs := [mmV ad (fs 0), mmV ad (fs 1), mmV ad (fs 2), mmV ad (fs 3), mmV ad (fs 4)]) rfl (by rw [kW_at hk0 hkn]; unfold kCe; rw [hfs])
      rw [← hC]
      exact h9
    · simp [mmV, List.map_reverse]
  · obtain ⟨own2, r2, ho, hr2, hwd⟩ := mmLk_all _ (mmF3_mem hF)
    cases how.symm.trans ho
    cases hz.symm.trans hr2
    have hG : GoodIn mmBW (va_wsS own i (mmNm rz) (mmHd rz :: mmBW)) := mmGood (fun w hw => by
      unfold va_wsS at hw
      rcases List.mem_append.mp hw with h | h
      · simp only [List.mem_cons, List.not_mem_nil, or_false] at h
        rcases h with rfl | rfl | rfl
        · exact hwd
        · exact o8 hst2
        · exact o6
      · rcases List.mem_cons.mp h with rfl | h
        · exact o1
        · exact h)
    by_cases hh : mmHh rz = []
    · have hhd : mmHd rz = .code (mmNm rz) (mmCd rz) (mmMl rz) (mmRt rz) := by unfold mmHd; rw [if_pos hh]
      refine km_afterO (a := (As.map (mmV ad)).toArray) (rest := rest.map (mmV ad)) (vx_runS (Ts := mmBW) (own := own) (nL := lsR.size) (cc := mmCd r) (As := As.map (mmV ad)) ⟨hx, hb, hml, hown, hts⟩ hM (va_cwS (mmNa rz) hts hG (by rw [hhd]) rfl rfl ⟨o3, o4, o5⟩ hR)
        ⟨kPic_blind, fun U hU hW => ⟨rfl, hpic U hU hW⟩⟩ rfl (by rw [List.length_map]; exact hlen) rfl ?_ hw8 hd ⟨hc, hsl⟩) hS (fun q _ h => hA1 q h) hA1 hk2
      simp [List.map_reverse]
    · have hhd : mmHd rz = .codeWith (mmNm rz) (mmCd rz) (mmMl rz) (mmRt rz) (mmHh rz) := by unfold mmHd; rw [if_neg hh]
      refine km_afterO (a := (As.map (mmV ad)).toArray) (rest := rest.map (mmV ad)) (vx_runSX (Ts := mmBW) (own := own) (nL := lsR.size) (cc := mmCd r) (As := As.map (mmV ad)) ⟨hx, hb, hml, hown, hts⟩ hM (vx_cwSW (mmNa rz) hts hG (by rw [hhd]) rfl rfl ⟨o3, o4, o5⟩ hR)
        ⟨kPic_blind, fun U hU hW => ⟨rfl, hpic U hU hW⟩⟩ rfl (by rw [List.length_map]; exact hlen) rfl ?_ hw8 hd ⟨hc, hsl⟩) hS (fun q _ h => hA1 q h) hA1 hk2
      simp [List.map_reverse]
end KC
