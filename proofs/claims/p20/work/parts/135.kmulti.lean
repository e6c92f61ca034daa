/-! new boolean[16][16] -/
/-- where the new ones lie -/
def kLa (ad : Nat → Nat) (n q : Nat) (r : Nat → Nat) : Nat → Nat := fun k => if k = n + 1 then q else if n + 1 < k ∧ k < n + 18 then r (k - n - 2) else ad k
theorem kLa_old {ad : Nat → Nat} {n q : Nat} {r : Nat → Nat} {k : Nat} (h : k ≤ n) : kLa ad n q r k = ad k := by
  unfold kLa
  rw [if_neg (by omega), if_neg (by omega)]
theorem kLa_q {ad : Nat → Nat} {n q : Nat} {r : Nat → Nat} : kLa ad n q r (n + 1) = q := by simp [kLa]
theorem kLa_r {ad : Nat → Nat} {n q : Nat} {r : Nat → Nat} {i : Nat} (h : i < 16) : kLa ad n q r (n + 2 + i) = r i := by
  unfold kLa
  rw [if_neg (by omega), if_pos (by omega), show n + 2 + i - n - 2 = i by omega]
theorem kQ_old {H : Nat → kC} {b k : Nat} (h : k < b) : kQ H b k = H k := by
  unfold kQ
  rw [if_neg (by omega), if_neg (by omega)]
theorem kQ_q {H : Nat → kC} {b : Nat} : kQ H b b = .inr (.inl (3, 16, fun i => if i < 16 then some (b + 1 + i) else none)) := by simp [kQ]
theorem kQ_r {H : Nat → kC} {b i : Nat} (h : i < 16) : kQ H b (b + 1 + i) = .inl (1, 16, kG0) := by
  unfold kQ
  rw [if_neg (by omega), if_pos (by omega)]
def kLw (G : Nat → ClassId) (q : Nat) (r : Nat → Nat) : va_W := [(q, .inl (G 3, 16, .inr (.inr (.inr (.inr (fun i => if i < 16 then some (r i) else none))))))] ++ (List.range 16).map (fun i => (r i, .inl (G 1, 16, .inl kG0)))
theorem kLw_len {G : Nat → ClassId} {q : Nat} {r : Nat → Nat} : (kLw G q r).length = 17 := by simp [kLw]
theorem kW_L {G : Nat → ClassId} {ad : Nat → Nat} {L : Nat} {xs : Nat → Int32} {M : kM} (hO : kOk L xs M) {q : Nat} {r : Nat → Nat} : kW G (kLa ad (kN M) q r) (kL M) = kW G ad M ++ kLw G q r := by
  apply List.ext_getElem?
  intro j
  have hl : (kW G ad M).length = kN M := kW_len
  by_cases hj : j < kN M
  · have h1 := kW_at (G := G) (ad := ad) (M := M) (k := j + 1) (by omega) (by omega)
    have h2 := kW_at (G := G) (ad := kLa ad (kN M) q r) (M := kL M) (k := j + 1) (by omega) (show j + 1 ≤ kN M + 17 by omega)
    rw [show j + 1 - 1 = j by omega] at h1 h2
    rw [List.getElem?_append_left (by omega), h1, h2, kLa_old (by omega), kCe_cg (M := M) (M' := kL M) (n := kN M) (fun i hi => kLa_old hi) (hO.at (by omega) (by omega)) (kQ_old (show j + 1 < kN M + 1 by omega)) (fun _ _ => rfl)]
  · rw [List.getElem?_append_right (by omega), hl]
    by_cases hj2 : j = kN M
    · subst hj2
      have h2 := kW_at (G := G) (ad := kLa ad (kN M) q r) (M := kL M) (k := kN M + 1) (by omega) (show kN M + 1 ≤ kN M + 17 by omega)
      rw [show kN M + 1 - 1 = kN M by omega] at h2
      rw [h2, Nat.sub_self, kLa_q]
      have h3 : kCe G (kLa ad (kN M) q r) (kL M) (kN M + 1) = .inl (G 3, 16, .inr (.inr (.inr (.inr (fun i => if i < 16 then some (r i) else none))))) := by
        unfold kCe
        rw [show (kL M).1 (kN M + 1) = .inr (.inl (3, 16, fun i => if i < 16 then some (kN M + 1 + 1 + i) else none)) from kQ_q]
        have h4 : (fun j => (if j < 16 then some (kN M + 1 + 1 + j) else none : Option Nat).map (kLa ad (kN M) q r)) = (fun i => if i < 16 then some (r i) else none) := by
          funext j
          by_cases h5 : j < 16
          · simp only [h5, if_true, Option.map_some]
            rw [show kN M + 1 + 1 + j = kN M + 2 + j by omega, kLa_r h5]
          · simp [h5]
        simp only [h4]
      rw [h3]
      rfl
    · by_cases hj3 : j < kN M + 17
      · obtain ⟨i, hi⟩ : ∃ i, j = kN M + 1 + i := ⟨j - kN M - 1, by omega⟩
        subst hi
        have h2 := kW_at (G := G) (ad := kLa ad (kN M) q r) (M := kL M) (k := kN M + 2 + i) (by omega) (show kN M + 2 + i ≤ kN M + 17 by omega)
        rw [show kN M + 2 + i - 1 = kN M + 1 + i by omega] at h2
        rw [h2, kLa_r (by omega), show kN M + 1 + i - kN M = i + 1 by omega]
        have h3 : kCe G (kLa ad (kN M) q r) (kL M) (kN M + 2 + i) = .inl (G 1, 16, .inl kG0) := by
          unfold kCe
          rw [show (kL M).1 (kN M + 2 + i) = .inl (1, 16, kG0) from by
            show kQ M.1 (kN M + 1) (kN M + 2 + i) = _
            rw [show kN M + 2 + i = kN M + 1 + 1 + i by omega]
            exact kQ_r (by omega)]
        rw [h3]
        unfold kLw
        rw [List.getElem?_append_right (by simp)]
        simp [List.getElem?_map, List.getElem?_range (show i < 16 by omega)]
      · rw [List.getElem?_eq_none (by rw [kW_len]; show kN M + 17 ≤ j; omega), List.getElem?_eq_none (by rw [kLw_len]; omega)]
theorem kOk.multi {L : Nat} {xs : Nat → Int32} {M : kM} (hO : kOk L xs M) : kOk L xs (kL M) := by
  refine ⟨show kQ M.1 (kN M + 1) 0 = _ from (kQ_old (by omega)).trans hO.1, fun k h0 hk => ?_⟩
  have hk : k ≤ kN M + 17 := hk
  show kOc (kN M + 17) k (kQ M.1 (kN M + 1))
  by_cases h : k ≤ kN M
  · exact (hO.at h0 h).up h (by omega) (fun j hj => kQ_old (by omega))
  · by_cases h2 : k = kN M + 1
    · subst h2
      unfold kOc
      rw [kQ_q]
      refine ⟨Or.inr rfl, fun j i hj => ?_⟩
      simp only at hj
      split at hj
      · cases hj
        omega
      · cases hj
    · obtain ⟨i, rfl⟩ : ∃ i, k = kN M + 1 + 1 + i := ⟨k - kN M - 2, by omega⟩
      unfold kOc
      rw [kQ_r (by omega)]
      show 1 < 2
      omega
section
variable {p : Program} {l : Launch} {e : Env} {R : Room} {s : State} {m : MethodId} {args : Array Value} {below : List Frame} {meth : Method} {c : Code} {H : Heap} {locs : List Loc} {cells slots : Nat} {Q : State → Prop}
set_option maxHeartbeats 4000000 in
set_option maxRecDepth 100000 in
theorem km_multi {D : va_G} {G : Nat → ClassId} {ad : Nat → Nat} {L : Nat} {xs : Nat → Int32} {M : kM} {cc : ByteArray} {own : String} {A : Nat → Prop} {pc : Nat} {ls r : List Value} {lsR : Array Slot}
    (hx : p.tables.exec = Jvm.exec) (hb : c.code = cc) (how : mmOwn[4]? = some own) (hown : s.vm.findClass own = some m.cls)
    (hts : ∀ w ∈ mmBW, w.before args s = true) (hK : va_K D mmCls (kTy G) s) (hoZ : va_AOA .boolean s) (hX : kXs L xs ad A s) (hA : ∀ q : Nat, s.heap.size ≤ q → A q)
    (hc1 : cells + 17 ≤ R.cells) (hc2 : slots + 272 ≤ R.slots)
    (hP : va_P D mmCls (kW G ad M) H) (hD : va_D A (kW G ad M)) (hS : va_S A s.heap H locs) (hL : mmLR ad lsR ls) (hO : kOk L xs M) (hls : vsOk (kN M) ls) (hr : vsOk (kN M) r)
    (hd : decode cc pc = .ok (.multianewarray 36 2, 4))
    (kk : kKt p l e R s m args below meth c Q D G ad A L xs cells slots M (pc + 4) ls (.ref (kN M + 1) :: r) (kL M)) :
    W p l e R s m args below meth c H locs cells slots Q (F0 m pc lsR (.int 16 :: .int 16 :: r.map (mmV ad))) := by
  cases how
  have hcy : s.vm.findClass (FieldType.array .boolean).toString = some (G 1) := (hK.2 1 _ rfl).2
  refine va_mna (X := kW G ad M) (L := []) (f := fun _ => .inl (G 1, 16, .inl kG0)) (ty := .boolean) (z := (16, .inl kG0)) (N' := 16) (K' := 16) hx hb hown (hts _ kwa_36) hoZ (hts _ kwa_Z) hcy hK (by simpa [va_pl] using hP) (by simpa [va_pl] using hD) hS hA (by decide) (by decide) (by decide) (by decide) (by decide) (by decide) (by decide) rfl rfl (by omega) (by omega) (fun cA => arrV_new cA 16 (.int 0)) hd (fun q rr cA H1 hinj hnl hK1 hP1 hD1 hS1 => ?_)
  obtain rfl : cA = G 3 := Option.some.inj ((hK1.2 4 _ rfl).2.symm.trans (hK.2 3 _ rfl).2)
  have he : ((kW G ad M ++ [(q, .inl (G 3, 16, .inr (.inr (.inr (.inr (fun i => if i < 16 then some (rr i) else none))))))]) ++ va_pl ([] ++ (List.range 16).map rr) (vr_up (fun _ => .inl (G 1, 16, .inl kG0)) ((List.range 16).map rr) (.inl (G 1, (16, .inl kG0))))) = kW G ad M ++ kLw G q rr := by
    rw [List.append_assoc]
    congr 1
    unfold kLw va_pl
    congr 1
    rw [List.nil_append, List.map_map]
    apply List.map_congr_left
    intro i hi
    simp only [Function.comp]
    rw [vr_up_in (List.mem_map.mpr ⟨i, hi, rfl⟩)]
  rw [he, ← kW_L hO] at hP1 hD1
  have had : ∀ k, k ≤ kN M → kLa ad (kN M) q rr k = ad k := fun k hk => kLa_old hk
  have h9 := kk (kLa ad (kN M) q rr) lsR H1 locs (cells + 17) (slots + 272) had (mmLR_eq had hls hL) hP1 hD1 hS1 hO.multi (hls.up (show kN M ≤ kN M + 17 by omega)) (vsOk.c (show kN M + 1 ≤ kN M + 17 by omega) (hr.up (show kN M ≤ kN M + 17 by omega))) (show kN M ≤ kN M + 17 by omega) (by show cells + 17 + kCs M = cells + (kCs M + 17); omega) (by show slots + 272 + kSs M = slots + (kSs M + 272); omega)
  rw [List.map_cons, mmV, kLa_q, mmVs_eq had hr] at h9
  exact h9
end
