/-! ONE STEP of the small machine is one step of the real one. -/
def mmV (ad : Nat → Nat) (v : Value) : Value := match v with
  | .ref k => .ref (ad k)
  | w => w
def mmFs (ad : Nat → Nat) (f : Nat → Int32) : Nat → List (Option Nat) → List Value
  | _, [] => []
  | i, some j :: r => .ref (ad j) :: mmFs ad f (i + 1) r
  | i, none :: r => .int (f i) :: mmFs ad f (i + 1) r
def mmCe (G : Nat → ClassId) (ad : Nat → Nat) (M : mmM) (k : Nat) : va_E := match mmLay[k]? with
  | some (.inl (0, m)) => .inl (G 0, m, .inl (M.1 k))
  | some (.inl (1, m)) => .inl (G 1, m, .inl (M.1 k))
  | some (.inl (_ + 2, m)) => .inl (G 2, m, .inr (.inl M.2.1))
  | some (.inr o) => .inr (o.1, mmFs ad (M.1 k) 0 o.2)
  | none => .inr (0, [])
def mmW (G : Nat → ClassId) (ad : Nat → Nat) (M : mmM) (n : Nat) : va_W := (List.range n).map fun k => (ad k, mmCe G ad M k)
def mmTy (G : Nat → ClassId) (n : Nat) : List (ClassId × FieldType) := [(G 0, .int), (G 1, .boolean)] ++ (if 47 < n then [(G 2, .long)] else [])
theorem mmW_at {G : Nat → ClassId} {ad : Nat → Nat} {M : mmM} {n k : Nat} (h : k < n) : (mmW G ad M n)[k]? = some (ad k, mmCe G ad M k) := by
  simp [mmW, List.getElem?_map, List.getElem?_range h]
theorem mmW_len {G : Nat → ClassId} {ad : Nat → Nat} {M : mmM} {n : Nat} : (mmW G ad M n).length = n := by simp [mmW]
theorem mmW_set {G : Nat → ClassId} {ad : Nat → Nat} {M M' : mmM} {n k : Nat} (h : ∀ j, j ≠ k → j < n → mmCe G ad M' j = mmCe G ad M j) : (mmW G ad M n).set k (ad k, mmCe G ad M' k) = mmW G ad M' n := by
  apply List.ext_getElem?
  intro j
  by_cases hj : j < n
  · by_cases hjk : j = k
    · subst hjk
      rw [List.getElem?_set_self (by rw [mmW_len]; exact hj), mmW_at hj]
    · rw [List.getElem?_set_ne (Ne.symm hjk), mmW_at hj, mmW_at hj, h j hjk hj]
  · rw [List.getElem?_eq_none (by rw [List.length_set, mmW_len]; omega), List.getElem?_eq_none (by rw [mmW_len]; omega)]
theorem mmFs_at (ad : Nat → Nat) (f : Nat → Int32) : ∀ (fs : List (Option Nat)) (i k : Nat), (mmFs ad f i fs)[k]? = fs[k]?.map (fun o => match o with | some j => Value.ref (ad j) | none => Value.int (f (i + k)))
  | [], i, k => by simp [mmFs]
  | some j :: r, i, 0 => by simp [mmFs]
  | none :: r, i, 0 => by simp [mmFs]
  | some j :: r, i, k + 1 => by simp [mmFs, mmFs_at ad f r (i + 1) k, Nat.add_assoc, Nat.add_comm 1 k]
  | none :: r, i, k + 1 => by simp [mmFs, mmFs_at ad f r (i + 1) k, Nat.add_assoc, Nat.add_comm 1 k]
theorem mmFs_len (ad : Nat → Nat) (f : Nat → Int32) : ∀ (fs : List (Option Nat)) (i : Nat), (mmFs ad f i fs).length = fs.length
  | [], i => rfl
  | some j :: r, i => by simp [mmFs, mmFs_len ad f r (i + 1)]
  | none :: r, i => by simp [mmFs, mmFs_len ad f r (i + 1)]
theorem mmFs_set (ad : Nat → Nat) (f : Nat → Int32) (fs : List (Option Nat)) (k : Nat) (v : Int32) (h : fs[k]? = some none) : (mmFs ad f 0 fs).set k (.int v) = mmFs ad (upd f k v) 0 fs := by
  apply List.ext_getElem?
  intro j
  by_cases hj : j = k
  · subst hj
    have hl : j < fs.length := (List.getElem?_eq_some_iff.mp h).1
    rw [List.getElem?_set_self (by rw [mmFs_len]; exact hl), mmFs_at, h]
    simp [upd]
  · rw [List.getElem?_set_ne (Ne.symm hj), mmFs_at, mmFs_at]
    congr 1
    funext o
    cases o with
    | some x => rfl
    | none => simp [upd, hj]
theorem mmArr_lay {n k t m : Nat} (h : mmArr n k = some (t, m)) : k < n ∧ mmLay[k]? = some (.inl (t, m)) := by
  unfold mmArr at h
  split at h
  · rename_i hk
    refine ⟨hk, ?_⟩
    split at h
    · rename_i a ha
      cases h
      exact ha
    · cases h
  · cases h
theorem mmFd_lay {n c f k : Nat} {x : Option Nat} (h : mmFd n c f k = some x) : k < n ∧ ∃ fs, mmLay[k]? = some (.inr (c, fs)) ∧ fs[f]? = some x := by
  unfold mmFd at h
  split at h
  · rename_i hk
    refine ⟨hk, ?_⟩
    split at h
    · rename_i o ho
      split at h
      · rename_i hc
        obtain ⟨c2, fs⟩ := o
        cases hc
        exact ⟨fs, ho, h⟩
      · cases h
    · cases h
  · cases h
theorem mmCe_int {G : Nat → ClassId} {ad : Nat → Nat} {M : mmM} {k m : Nat} (h : mmLay[k]? = some (.inl (0, m))) : mmCe G ad M k = .inl (G 0, m, .inl (M.1 k)) := by simp [mmCe, h]
theorem mmCe_bool {G : Nat → ClassId} {ad : Nat → Nat} {M : mmM} {k m : Nat} (h : mmLay[k]? = some (.inl (1, m))) : mmCe G ad M k = .inl (G 1, m, .inl (M.1 k)) := by simp [mmCe, h]
theorem mmCe_long {G : Nat → ClassId} {ad : Nat → Nat} {M : mmM} {k m : Nat} (h : mmLay[k]? = some (.inl (2, m))) : mmCe G ad M k = .inl (G 2, m, .inr (.inl M.2.1)) := by simp [mmCe, h]
theorem mmCe_obj {G : Nat → ClassId} {ad : Nat → Nat} {M : mmM} {k c : Nat} {fs : List (Option Nat)} (h : mmLay[k]? = some (.inr (c, fs))) : mmCe G ad M k = .inr (c, mmFs ad (M.1 k) 0 fs) := by simp [mmCe, h]
theorem mmCe_ne {G : Nat → ClassId} {ad : Nat → Nat} {M : mmM} {j k i : Nat} {v : Int32} (h : j ≠ k) : mmCe G ad (mmI M k i v) j = mmCe G ad M j := by
  simp [mmCe, mmI, uC, h]
theorem mmLay_long : ∀ k, k < 35 → ∀ t m, mmLay[k]? = some (.inl (t + 2, m)) → k = 47 := by
  intro k hk t m h
  have : (List.range 35).all (fun k => match mmLay[k]? with | some (.inl (t + 2, _)) => decide (k = 47) | _ => true) = true := by decide +kernel
  have h2 := List.all_eq_true.mp this k (List.mem_range.mpr hk)
  rw [h] at h2
  simpa using h2
theorem mmCe_neJ {G : Nat → ClassId} {ad : Nat → Nat} {M : mmM} {j i : Nat} {v : Int64} (hj : j < 35) (h : j ≠ 47) : mmCe G ad (mmJ M i v) j = mmCe G ad M j := by
  unfold mmCe
  split
  · rfl
  · rfl
  · rename_i t m hl
    exact absurd (mmLay_long j hj t m hl) h
  · rfl
  · rfl
theorem mmLay_obj : ∀ k, k < 35 → ∀ c fs, mmLay[k]? = some (.inr (c, fs)) → ∃ C T N, mmCls[c]? = some (C, T, N) ∧ fs.length = N ∧ ∀ f, fs[f]? = some none → (T f).2.2.2 = false ∧ parseFieldDescriptor (T f).2.2.1 = some .int := by
  intro k hk c fs h
  have h0 : (List.range 35).all (fun k => match mmLay[k]? with | some (.inr (c, fs)) => (match mmCls[c]? with | some (_, T, N) => decide (fs.length = N) && (List.range fs.length).all (fun f => decide (fs[f]? = some none → (T f).2.2.2 = false ∧ (T f).2.2.1 = "I")) | none => false) | _ => true) = true := by decide +kernel
  have h2 := List.all_eq_true.mp h0 k (List.mem_range.mpr hk)
  rw [h] at h2
  simp only at h2
  split at h2
  · rename_i C T N hc
    simp only [Bool.and_eq_true, decide_eq_true_eq] at h2
    refine ⟨C, T, N, hc, h2.1, fun f hf => ?_⟩
    have h3 := List.all_eq_true.mp h2.2 f (List.mem_range.mpr (List.getElem?_eq_some_iff.mp hf).1)
    have h4 := (of_decide_eq_true h3) hf
    refine ⟨h4.1, ?_⟩
    rw [h4.2]
    decide +kernel
  · cases h2
/-! locals -/
def mmK (ad : Nat → Nat) (ls : List Value) : List (Nat × Value) := (List.range ls.length).filterMap fun i => match ls[i]? with
  | some Value.null => none
  | some v => some (i, mmV ad v)
  | none => none
theorem mmK_mem {ad : Nat → Nat} {ls : List Value} {q : Nat × Value} : q ∈ mmK ad ls ↔ ∃ v, ls[q.1]? = some v ∧ v ≠ .null ∧ q.2 = mmV ad v := by
  obtain ⟨i, w⟩ := q
  simp only [mmK, List.mem_filterMap, List.mem_range]
  constructor
  · rintro ⟨j, hj, h⟩
    split at h
    · cases h
    · rename_i v hv hnn
      cases h
      exact ⟨v, hnn, fun h => hv h, rfl⟩
    · cases h
  · rintro ⟨v, h1, h2, h3⟩
    refine ⟨i, (List.getElem?_eq_some_iff.mp h1).1, ?_⟩
    rw [h1]
    subst h3
    split
    · rename_i hh
      exact absurd (Option.some.inj hh) h2
    · rename_i v2 _ hh
      cases hh
      rfl
    · rename_i hh
      cases hh
def mmLR (ad : Nat → Nat) (lsR : Array Slot) (ls : List Value) : Prop := lv_has lsR ls.length (mmK ad ls)
theorem mmLR.at {ad : Nat → Nat} {lsR : Array Slot} {ls : List Value} (h : mmLR ad lsR ls) {i : Nat} {v : Value} (hi : ls[i]? = some v) (hv : v ≠ .null) : lsR[i]? = some (.val (mmV ad v)) := h.2.2 (i, mmV ad v) (mmK_mem.mpr ⟨v, hi, hv, rfl⟩)
theorem mmV_cat (ad : Nat → Nat) (v : Value) : (mmV ad v).category = v.category := by cases v <;> rfl
theorem mmLR.less {ad : Nat → Nat} {lsR : Array Slot} {ls : List Value} {n : Nat} {l : List (Nat × Value)} (h : lv_has lsR n l) (hn : n = ls.length) (hs : ∀ q ∈ mmK ad ls, q ∈ l) : mmLR ad lsR ls := by
  subst hn
  exact ⟨h.1, h.2.1, fun q hq => h.2.2 q (hs q hq)⟩
theorem mmLR.st1 {ad : Nat → Nat} {lsR : Array Slot} {ls ls' : List Value} {i : Nat} {v x : Value} (hs : mmSt1 ls i v = some ls') (hx : v ≠ .null → x = mmV ad v)
    (h : lv_has lsR ls.length ((i, x) :: (mmK ad ls).filter (fun q => !(q.1 == i) && !(q.1 + 1 == i && q.2.category == 2)))) : mmLR ad lsR ls' := by
  unfold mmSt1 at hs
  split at hs
  · rename_i hc
    obtain ⟨h1, h2, h3⟩ := hc
    cases hs
    refine mmLR.less h (by simp) (fun q hq => ?_)
    obtain ⟨w, hw, hwn, hq2⟩ := mmK_mem.mp hq
    obtain ⟨j, y⟩ := q
    simp only at hw hq2
    subst hq2
    by_cases hj : j = i
    · subst hj
      rw [List.getElem?_set_self h1] at hw
      cases hw
      rw [← hx hwn]
      exact List.mem_cons_self
    · rw [List.getElem?_set_ne (Ne.symm hj)] at hw
      refine List.mem_cons_of_mem _ (List.mem_filter.mpr ⟨mmK_mem.mpr ⟨w, hw, hwn, rfl⟩, ?_⟩)
      simp only [Bool.and_eq_true, Bool.not_eq_true', beq_eq_false_iff_ne, ne_eq, Bool.and_eq_false_imp, beq_iff_eq]
      refine ⟨hj, fun he => ?_⟩
      rw [mmV_cat]
      rcases h3 with h3 | h3
      · omega
      · rw [show i - 1 = j by omega, List.getD_eq_getElem?_getD, hw] at h3
        simp only [Option.getD_some] at h3
        omega
  · cases hs
theorem mmLR.st2 {ad : Nat → Nat} {lsR : Array Slot} {ls ls' : List Value} {i : Nat} {v x : Value} (hs : mmSt2 ls i v = some ls') (hx : x = mmV ad v)
    (h : lv_has lsR ls.length ((i, x) :: (mmK ad ls).filter (fun q => !(q.1 == i) && (!(q.1 == i + 1) && !(q.1 + 1 == i && q.2.category == 2))))) : mmLR ad lsR ls' := by
  unfold mmSt2 at hs
  split at hs
  · rename_i hc
    obtain ⟨h1, h2, h3⟩ := hc
    cases hs
    refine mmLR.less h (by simp) (fun q hq => ?_)
    obtain ⟨w, hw, hwn, hq2⟩ := mmK_mem.mp hq
    obtain ⟨j, y⟩ := q
    simp only at hw hq2
    subst hq2
    by_cases hj1 : j = i + 1
    · subst hj1
      rw [List.getElem?_set_self (by rw [List.length_set]; exact h1)] at hw
      cases hw
      exact absurd rfl hwn
    · rw [List.getElem?_set_ne (Ne.symm hj1)] at hw
      by_cases hj : j = i
      · subst hj
        rw [List.getElem?_set_self (by omega)] at hw
        cases hw
        rw [← hx]
        exact List.mem_cons_self
      · rw [List.getElem?_set_ne (Ne.symm hj)] at hw
        refine List.mem_cons_of_mem _ (List.mem_filter.mpr ⟨mmK_mem.mpr ⟨w, hw, hwn, rfl⟩, ?_⟩)
        simp only [Bool.and_eq_true, Bool.not_eq_true', beq_eq_false_iff_ne, ne_eq, Bool.and_eq_false_imp, beq_iff_eq]
        refine ⟨hj, hj1, fun he => ?_⟩
        rw [mmV_cat]
        rcases h3 with h3 | h3
        · omega
        · rw [show i - 1 = j by omega, List.getD_eq_getElem?_getD, hw] at h3
          simp only [Option.getD_some] at h3
          omega
  · cases hs
theorem mmTg_eq {pc t : Nat} {off : Int} (h : mmTg pc off = some t) : (pc : Int) + off = (t : Int) := by
  unfold mmTg at h
  split at h
  · rename_i hc
    cases h
    omega
  · cases h
theorem mmX_in {i : Int32} {n j : Nat} (h : mmX i n = some j) : vp_in i n ∧ i.toNatClampNeg = j := by
  unfold mmX at h
  split at h
  · cases h
  · rename_i hc
    cases h
    exact ⟨hc, rfl⟩
