/-! WHAT THE KITCHEN MACHINE'S MEMORY IS in the real heap; when it is in order -/
def kCe (G : Nat → ClassId) (ad : Nat → Nat) (M : kM) (k : Nat) : va_E := match M.1 k with
  | .inl (t, m, g) => .inl (G t, m, .inl g)
  | .inr (.inl (t, m, v)) => .inl (G t, m, .inr (.inr (.inr (.inr (fun j => (v j).map ad)))))
  | .inr (.inr (.inl fs)) => .inr (4, [mmV ad (fs 0), mmV ad (fs 1), mmV ad (fs 2), mmV ad (fs 3), mmV ad (fs 4)])
  | .inr (.inr (.inr (b, j))) => mmCe G (fun i => ad (b + i)) (M.2.1 b, ((fun _ => 0), 0)) j
def kW (G : Nat → ClassId) (ad : Nat → Nat) (M : kM) : va_W := (List.range (kN M)).map fun k => (ad (k + 1), kCe G ad M (k + 1))
abbrev kTy (G : Nat → ClassId) : List (ClassId × FieldType) := [(G 0, .int), (G 1, .boolean), (G 2, .array .int), (G 3, .array .boolean)]
def vOk (n : Nat) (v : Value) : Prop := match v with
  | .ref k => k ≤ n
  | _ => True
abbrev vsOk (n : Nat) (l : List Value) : Prop := ∀ v ∈ l, vOk n v
def kOc (n k : Nat) (H : Nat → kC) : Prop := match H k with
  | .inl (t, _, _) => t < 2
  | .inr (.inl (t, _, v)) => (t = 2 ∨ t = 3) ∧ ∀ j i, v j = some i → i ≤ n
  | .inr (.inr (.inl fs)) => ∀ f, vOk n (fs f)
  | .inr (.inr (.inr (b, j))) => 0 < b ∧ j < 35 ∧ k = b + j ∧ b + 34 ≤ n ∧ ∀ i, i < 35 → H (b + i) = .inr (.inr (.inr (b, i)))
def kOk (L : Nat) (xs : Nat → Int32) (M : kM) : Prop := M.1 0 = .inl (9, L, xs) ∧ ∀ k, 0 < k → k ≤ kN M → kOc (kN M) k M.1
theorem kU_self {α : Type} (f : Nat → α) (k : Nat) (v : α) : kU f k v k = v := by simp [kU]
theorem kU_ne {α : Type} {f : Nat → α} {k a : Nat} {v : α} (h : a ≠ k) : kU f k v a = f a := by simp [kU, h]
theorem vOk.up {n m : Nat} {v : Value} (h : vOk n v) (hn : n ≤ m) : vOk m v := by
  cases v <;> first | trivial | exact Nat.le_trans h hn
theorem vsOk.up {n m : Nat} {l : List Value} (h : vsOk n l) (hn : n ≤ m) : vsOk m l := fun v hv => (h v hv).up hn
theorem mmV_eq {ad ad' : Nat → Nat} {n : Nat} (h : ∀ k, k ≤ n → ad' k = ad k) {v : Value} (hv : vOk n v) : mmV ad' v = mmV ad v := by
  cases v <;> first | rfl | exact congrArg Value.ref (h _ hv)
theorem mmVs_eq {ad ad' : Nat → Nat} {n : Nat} (h : ∀ k, k ≤ n → ad' k = ad k) {l : List Value} (hv : vsOk n l) : l.map (mmV ad') = l.map (mmV ad) := List.map_congr_left fun v hm => mmV_eq h (hv v hm)
theorem mmLR_eq {ad ad' : Nat → Nat} {n : Nat} (h : ∀ k, k ≤ n → ad' k = ad k) {lsR : Array Slot} {ls : List Value} (hv : vsOk n ls) (hL : mmLR ad lsR ls) : mmLR ad' lsR ls := by
  refine mmLR.less hL rfl (fun q hq => ?_)
  obtain ⟨v, h1, h2, h3⟩ := mmK_mem.mp hq
  refine mmK_mem.mpr ⟨v, h1, h2, ?_⟩
  rw [h3, mmV_eq h (hv v (List.mem_of_getElem? h1))]
theorem kOc.kitchen {n k : Nat} {H : Nat → kC} {b j : Nat} (h : kOc n k H) (he : H k = .inr (.inr (.inr (b, j)))) : 0 < b ∧ j < 35 ∧ k = b + j ∧ b + 34 ≤ n ∧ ∀ i, i < 35 → H (b + i) = .inr (.inr (.inr (b, i))) := by
  unfold kOc at h
  rw [he] at h
  exact h
theorem kOc.sim {n k : Nat} {H : Nat → kC} {fs : Nat → Value} (h : kOc n k H) (he : H k = .inr (.inr (.inl fs))) : ∀ f, vOk n (fs f) := by
  unfold kOc at h
  rw [he] at h
  exact h
theorem kOc.refs {n k : Nat} {H : Nat → kC} {t m : Nat} {v : Nat → Option Nat} (h : kOc n k H) (he : H k = .inr (.inl (t, m, v))) : (t = 2 ∨ t = 3) ∧ ∀ j i, v j = some i → i ≤ n := by
  unfold kOc at h
  rw [he] at h
  exact h
theorem kOc.nums {n k : Nat} {H : Nat → kC} {t m : Nat} {g : Nat → Int32} (h : kOc n k H) (he : H k = .inl (t, m, g)) : t < 2 := by
  unfold kOc at h
  rw [he] at h
  exact h
theorem kOk.at {L : Nat} {xs : Nat → Int32} {M : kM} (h : kOk L xs M) {k : Nat} (h0 : 0 < k) (hk : k ≤ kN M) : kOc (kN M) k M.1 := h.2 k h0 hk
theorem mmFs_cg {ad ad' : Nat → Nat} (g : Nat → Int32) : ∀ (fs : List (Option Nat)) (i : Nat), (∀ j, some j ∈ fs → ad' j = ad j) → mmFs ad' g i fs = mmFs ad g i fs
  | [], _, _ => rfl
  | some j :: r, i, h => by
    simp only [mmFs]
    rw [h j List.mem_cons_self, mmFs_cg g r (i + 1) (fun x hx => h x (List.mem_cons_of_mem _ hx))]
  | none :: r, i, h => by
    simp only [mmFs]
    rw [mmFs_cg g r (i + 1) (fun x hx => h x (List.mem_cons_of_mem _ hx))]
theorem mmLay_in : ∀ k, k < 35 → ∀ c fs, mmLay[k]? = some (.inr (c, fs)) → ∀ j, some j ∈ fs → j < 35 := by
  intro k hk c fs h j hj
  have h0 : (List.range 35).all (fun k => match mmLay[k]? with | some (.inr (_, fs)) => fs.all (fun o => match o with | some j => decide (j < 35) | none => true) | _ => true) = true := by decide +kernel
  have h2 := List.all_eq_true.mp h0 k (List.mem_range.mpr hk)
  rw [h] at h2
  have h3 := List.all_eq_true.mp h2 _ hj
  exact of_decide_eq_true h3
theorem mmCe_cg {G : Nat → ClassId} {ad ad' : Nat → Nat} {M : mmM} {k : Nat} (hk : k < 35) (h : ∀ j, j < 35 → ad' j = ad j) : mmCe G ad' M k = mmCe G ad M k := by
  unfold mmCe
  split
  · rfl
  · rfl
  · rfl
  · rename_i o ho
    obtain ⟨c, fs⟩ := o
    rw [mmFs_cg (M.1 k) fs 0 (fun j hj => h j (mmLay_in k hk c fs ho j hj))]
  · rfl
theorem kCe_cg {G : Nat → ClassId} {ad ad' : Nat → Nat} {M M' : kM} {k n : Nat} (h : ∀ j, j ≤ n → ad' j = ad j) (ho : kOc n k M.1) (he : M'.1 k = M.1 k) (hK : ∀ b, b + 34 ≤ n → M'.2.1 b = M.2.1 b) : kCe G ad' M' k = kCe G ad M k := by
  unfold kCe
  rw [he]
  cases hc : M.1 k with
  | inl a => rfl
  | inr a =>
    cases a with
    | inl a =>
      obtain ⟨t, m, v⟩ := a
      have h1 := (ho.refs hc).2
      have h2 : (fun j => (v j).map ad') = (fun j => (v j).map ad) := by
        funext j
        cases hv : v j with
        | none => rfl
        | some i => simp [h i (h1 j i hv)]
      simp only [h2]
    | inr a =>
      cases a with
      | inl fs =>
        have h1 := ho.sim hc
        simp only [mmV_eq h (h1 0), mmV_eq h (h1 1), mmV_eq h (h1 2), mmV_eq h (h1 3), mmV_eq h (h1 4)]
      | inr a =>
        obtain ⟨b, j⟩ := a
        obtain ⟨h1, h2, h3, h4, -⟩ := ho.kitchen hc
        simp only [hK b h4]
        exact mmCe_cg h2 (fun i hi => h _ (by omega))
theorem kW_len {G : Nat → ClassId} {ad : Nat → Nat} {M : kM} : (kW G ad M).length = kN M := by simp [kW]
theorem kW_at {G : Nat → ClassId} {ad : Nat → Nat} {M : kM} {k : Nat} (h0 : 0 < k) (h : k ≤ kN M) : (kW G ad M)[k - 1]? = some (ad k, kCe G ad M k) := by
  obtain ⟨j, rfl⟩ : ∃ j, k = j + 1 := ⟨k - 1, by omega⟩
  simp [kW, List.getElem?_map, List.getElem?_range (show j < kN M by omega)]
theorem kW_of {G : Nat → ClassId} {ad : Nat → Nat} {M : kM} {i : Nat} {q : Nat × va_E} (h : (kW G ad M)[i]? = some q) : i + 1 ≤ kN M ∧ q = (ad (i + 1), kCe G ad M (i + 1)) := by
  have hl := (List.getElem?_eq_some_iff.mp h).1
  rw [kW_len] at hl
  have h2 := kW_at (G := G) (ad := ad) (M := M) (k := i + 1) (by omega) (by omega)
  rw [show i + 1 - 1 = i by omega, h] at h2
  exact ⟨by omega, Option.some.inj h2⟩
/-- one cell is written -/
theorem kW_set {G : Nat → ClassId} {ad : Nat → Nat} {L : Nat} {xs : Nat → Int32} {M : kM} (hO : kOk L xs M) {k : Nat} {v : kC} (h0 : 0 < k) (hk : k ≤ kN M) : (kW G ad M).set (k - 1) (ad k, kCe G ad (kI M k v) k) = kW G ad (kI M k v) := by
  apply List.ext_getElem?
  intro j
  by_cases hj : j < kN M
  · by_cases hjk : j = k - 1
    · subst hjk
      rw [List.getElem?_set_self (by rw [kW_len]; exact hj), kW_at h0 (show k ≤ kN (kI M k v) from hk)]
    · rw [List.getElem?_set_ne (Ne.symm hjk)]
      have h1 := kW_at (G := G) (ad := ad) (M := M) (k := j + 1) (by omega) (by omega)
      have h2 := kW_at (G := G) (ad := ad) (M := kI M k v) (k := j + 1) (by omega) (show j + 1 ≤ kN M by omega)
      rw [show j + 1 - 1 = j by omega] at h1 h2
      rw [h1, h2, kCe_cg (M := M) (M' := kI M k v) (n := kN M) (fun _ _ => rfl) (hO.at (by omega) (by omega)) (kU_ne (by omega)) (fun _ _ => rfl)]
  · rw [List.getElem?_eq_none (by rw [List.length_set, kW_len]; omega), List.getElem?_eq_none (by rw [kW_len]; show kN M ≤ j; omega)]
/-- a new cell -/
theorem kW_app {G : Nat → ClassId} {ad : Nat → Nat} {L : Nat} {xs : Nat → Int32} {M : kM} (hO : kOk L xs M) {v : kC} {n q : Nat} : kW G (kU ad (kN M + 1) q) (kA M v n) = kW G ad M ++ [(q, kCe G (kU ad (kN M + 1) q) (kA M v n) (kN M + 1))] := by
  apply List.ext_getElem?
  intro j
  have hl : (kW G ad M).length = kN M := kW_len
  by_cases hj : j < kN M
  · have h1 := kW_at (G := G) (ad := ad) (M := M) (k := j + 1) (by omega) (by omega)
    have h2 := kW_at (G := G) (ad := kU ad (kN M + 1) q) (M := kA M v n) (k := j + 1) (by omega) (show j + 1 ≤ kN M + 1 by omega)
    rw [show j + 1 - 1 = j by omega] at h1 h2
    rw [List.getElem?_append_left (by omega), h1, h2, kU_ne (by omega), kCe_cg (M := M) (M' := kA M v n) (n := kN M) (fun i hi => kU_ne (by omega)) (hO.at (by omega) (by omega)) (kU_ne (show j + 1 ≠ kN M + 1 by omega)) (fun _ _ => rfl)]
  · by_cases hj2 : j = kN M
    · subst hj2
      have h2 := kW_at (G := G) (ad := kU ad (kN M + 1) q) (M := kA M v n) (k := kN M + 1) (by omega) (Nat.le_refl _)
      rw [show kN M + 1 - 1 = kN M by omega] at h2
      rw [List.getElem?_append_right (by omega), h2, hl, Nat.sub_self, kU_self]
      rfl
    · rw [List.getElem?_eq_none (by rw [kW_len]; show kN M + 1 ≤ j; omega), List.getElem?_eq_none (by rw [List.length_append, hl]; simp; omega)]
theorem kOc.up {n m k : Nat} {H H' : Nat → kC} (h : kOc n k H) (hk : k ≤ n) (hn : n ≤ m) (he : ∀ j, j ≤ n → H' j = H j) : kOc m k H' := by
  unfold kOc
  rw [he k hk]
  cases hc : H k with
  | inl a => exact h.nums hc
  | inr a =>
    cases a with
    | inl a => exact ⟨(h.refs hc).1, fun j i hv => Nat.le_trans ((h.refs hc).2 j i hv) hn⟩
    | inr a =>
      cases a with
      | inl fs => exact fun f => (h.sim hc f).up hn
      | inr a =>
        obtain ⟨b, j⟩ := a
        obtain ⟨h1, h2, h3, h4, h5⟩ := h.kitchen hc
        exact ⟨h1, h2, h3, by omega, fun i hi => by rw [he _ (by omega)]; exact h5 i hi⟩
theorem kOk.app {L : Nat} {xs : Nat → Int32} {M : kM} (hO : kOk L xs M) {v : kC} {n : Nat} (hv : kOc (kN M + 1) (kN M + 1) (kU M.1 (kN M + 1) v)) : kOk L xs (kA M v n) := by
  refine ⟨show kU M.1 (kN M + 1) v 0 = _ from (kU_ne (by omega)).trans hO.1, fun k h0 hk => ?_⟩
  have hk : k ≤ kN M + 1 := hk
  show kOc (kN M + 1) k (kU M.1 (kN M + 1) v)
  by_cases h : k = kN M + 1
  · subst h
    exact hv
  · exact (hO.at h0 (by omega)).up (by omega) (show kN M ≤ kN M + 1 by omega) (fun j hj => kU_ne (by omega))
/-- a cell that is no kitchen's gets other contents of its kind -/
theorem kOk.put {L : Nat} {xs : Nat → Int32} {M : kM} (hO : kOk L xs M) {k : Nat} {v : kC} (h0 : 0 < k) (hn : ∀ b j, M.1 k ≠ .inr (.inr (.inr (b, j)))) (hv : kOc (kN M) k (kU M.1 k v)) : kOk L xs (kI M k v) := by
  refine ⟨(kU_ne (by omega)).trans hO.1, fun i hi hin => ?_⟩
  by_cases h : i = k
  · subst h
    exact hv
  · have h1 := hO.at hi hin
    have he : (kI M k v).1 i = M.1 i := kU_ne h
    show kOc (kN M) i (kU M.1 k v)
    unfold kOc
    rw [kU_ne h]
    cases hc : M.1 i with
    | inl a => exact h1.nums hc
    | inr a =>
      cases a with
      | inl a => exact h1.refs hc
      | inr a =>
        cases a with
        | inl fs => exact h1.sim hc
        | inr a =>
          obtain ⟨b, j⟩ := a
          obtain ⟨g1, g2, g3, g4, g5⟩ := h1.kitchen hc
          refine ⟨g1, g2, g3, g4, fun x hx => ?_⟩
          rw [kU_ne (fun h => hn b x (by rw [← h]; exact g5 x hx))]
          exact g5 x hx
