/-! the sim's rows: without, add; what is kept -/
theorem dd_app {L : List Dd} {x : Dd} {d : Nat} (hd : d < L.length) : dd (L ++ [x]) d = dd L d := by
  unfold dd
  rw [List.getD_eq_getElem?_getD, List.getD_eq_getElem?_getD, List.getElem?_append_left hd]
theorem dd_last {L : List Dd} {x : Dd} : dd (L ++ [x]) L.length = x := by
  unfold dd
  rw [List.getD_eq_getElem?_getD, List.getElem?_append_right (Nat.le_refl _), Nat.sub_self]
  rfl
theorem dd_erase {L : List Dd} {d i : Nat} : dd (L.eraseIdx d) i = if i < d then dd L i else dd L (i + 1) := by
  unfold dd
  rw [List.getD_eq_getElem?_getD, List.getElem?_eraseIdx]
  split
  · rw [List.getD_eq_getElem?_getD]
  · rw [List.getD_eq_getElem?_getD]
theorem okL.app {L : List Dd} (h : okL L) {x : Dd} (hx : okD x) : okL (L ++ [x]) := fun y hy => by
  rcases List.mem_append.mp hy with hy | hy
  · exact h y hy
  · rw [List.mem_singleton.mp hy]; exact hx
theorem kI_kI {M : kM} {k : Nat} {a b : kC} : kI (kI M k a) k b = kI M k b := by
  unfold kI
  congr 1
  funext x
  by_cases h : x = k
  · subst h; simp [kU]
  · simp [kU, h]
theorem nA_n {n : Nat} (h : n ≤ 1000) {k : Nat → Option kOut} : nA (nI n) k = k n := by
  unfold nA
  rw [nI_clamp (by omega), if_neg]
  rintro (h1 | h1)
  · exact nI_pos (show n < 2147483648 by omega) h1
  · omega
/-- the script and the kitchens lie where they lay -/
def kKp : kC → Bool
  | .inl (t, _, _) => decide (t = 9)
  | .inr (.inr (.inr _)) => true
  | _ => false
def Fr (M M' : kM) : Prop := kN M ≤ kN M' ∧ ∀ k, k ≤ kN M → kKp (M.1 k) = true → M'.1 k = M.1 k
theorem Fr.rf (M : kM) : Fr M M := ⟨Nat.le_refl _, fun _ _ _ => rfl⟩
theorem Fr.tr {A B C : kM} (h : Fr A B) (g : Fr B C) : Fr A C := ⟨Nat.le_trans h.1 g.1, fun k hk hp => by
  have e := h.2 k hk hp
  exact (g.2 k (Nat.le_trans hk h.1) (by rw [e]; exact hp)).trans e⟩
theorem Fr.ki {M : kM} {k : Nat} {v : kC} (h : kKp (M.1 k) = false) : Fr M (kI M k v) := ⟨Nat.le_refl _, fun a _ hp => kI_ne (fun e => by rw [e, h] at hp; cases hp)⟩
theorem Fr.ka {M : kM} {v : kC} {n : Nat} : Fr M (kA M v n) := ⟨kA_ex.1, fun k hk _ => kA_ex.2.1 k hk⟩
theorem Fr.kv {M : kM} {b x : Nat} {f : Nat → Nat → Int32} : Fr M (kV M b f x) := ⟨Nat.le_refl _, fun _ _ _ => rfl⟩
theorem kA_self {M : kM} {v : kC} {n : Nat} : (kA M v n).1 (kN M + 1) = v := kU_self _ _ _
/-- copied from j on -/
def cpy (j n : Nat) (v f : Nat → Option Nat) : Nat → Option Nat := fun i => if j ≤ i ∧ i < n then v i else f i
theorem cpy_s {j n : Nat} (hj : j < n) {v f : Nat → Option Nat} {x : Nat} (h : v j = some x) : cpy (j + 1) n v (kU f j (some x)) = cpy j n v f := by
  funext i
  unfold cpy
  by_cases hi : i = j
  · subst hi
    rw [if_neg (by omega), if_pos ⟨Nat.le_refl _, hj⟩, kU_self, h]
  · rw [kU_ne hi]
    by_cases h2 : j ≤ i ∧ i < n
    · rw [if_pos (by omega), if_pos h2]
    · rw [if_neg (by omega), if_neg h2]
theorem cpy_n {n : Nat} {v f : Nat → Option Nat} : cpy n n v f = f := by
  funext i
  unfold cpy
  rw [if_neg (by omega)]
section
variable {M0 : kM} {dk o len : Nat} {vv : Nat → Option Nat} {r : Nat → Nat} {gg : Nat → Nat → Int32}
theorem l_k80 {s ra pa ha gu kk : Nat} (hS : M0.1 s = .inr (.inr (.inl (kSm dk gu kk pa ha)))) (hso : s ≠ o) (hdo : dk ≠ o) (hD : M0.1 dk = .inr (.inl (2, len, vv))) (hlen : len < 1000) (hr : ∀ d, d < len → vv d = some (r d) ∧ M0.1 (r d) = .inl (0, 5, gg d) ∧ r d ≠ o) : ∀ (n j : Nat), j + n = len → ∀ f : Nat → Option Nat, kn 80 13 [.ref s, .ref ra, .ref o, .int (nI j)] [] (kI M0 o (.inr (.inl (2, len + 1, f)))) = kn 80 37 [.ref s, .ref ra, .ref o, .int (nI len)] [] (kI M0 o (.inr (.inl (2, len + 1, cpy j len vv f))))
  | 0, j, hj, f => by
    obtain rfl : j = len := by omega
    rw [cpy_n, k_80_13]
    simp only [k_80_14, k_80_15, k_80_18, k_80_19, sm_0, sm_c, ct_i, ct_r, ct_n, ct_l, ct_d, tl_s, tl_n, oK_s, cS_s, cI_0, cI_9, cA_s, cR_s, cQ_s, cN_i, cN_r, cO_s, rS_s, rK_s, cK_i, cK_j, cK_d, if_true, if_false, true_or, or_true, Nat.reduceAdd, Nat.reduceLeDiff, Nat.zero_le, Nat.reduceEqDiff, Nat.reduceSub, eq_self, Nat.le_refl, ne_eq, not_false_eq_true, i1_0, i0_1, kSm_0, kSm_1, kSm_2, kSm_3, kSm_4, x5_0, x5_1, x5_2, x5_3, x5_4, kI_ne hso, kI_ne hdo, hS, hD, Int32.le_refl]
  | n + 1, j, hj, f => by
    obtain ⟨v1, v2, v3⟩ := hr j (by omega)
    have ih := l_k80 (ra := ra) hS hso hdo hD hlen hr n (j + 1) (by omega) (kU f j (some (r j)))
    have hle : (nI len ≤ nI j) = False := eq_false (nI_ge (by omega) (by omega))
    have hx : mmX (nI j) len = some j := mmX_nI (by omega) (by omega)
    have hx1 : mmX (nI j) (len + 1) = some j := mmX_nI (by omega) (by omega)
    rw [cpy_s (by omega) v1] at ih
    rw [← ih, k_80_13]
    simp only [k_80_14, k_80_15, k_80_18, k_80_19, k_80_22, k_80_23, k_80_24, k_80_25, k_80_28, k_80_29, k_80_30, sm_0, sm_c, ct_i, ct_r, ct_n, ct_l, ct_d, tl_s, tl_n, oK_s, cS_s, cI_0, cI_9, cA_s, cR_s, cQ_s, cN_i, cN_r, cO_s, rS_s, rK_s, cK_i, cK_j, cK_d, if_true, if_false, true_or, or_true, Nat.reduceAdd, Nat.reduceLeDiff, Nat.zero_le, Nat.reduceEqDiff, Nat.reduceSub, eq_self, Nat.le_refl, ne_eq, not_false_eq_true, i1_0, i0_1, kSm_0, kSm_1, kSm_2, kSm_3, kSm_4, x5_0, x5_1, x5_2, x5_3, x5_4, kI_ne hso, kI_ne hdo, kI_ne v3, kI_self, kI_kI, hS, hD, hle, hx, hx1, v1, v2]
    rw [k_80_31 (ct_r _), k_80_34, nI_1]
theorem l_k72 {d : Nat} (hd : d < len) (hdo : dk ≠ o) (hD : M0.1 dk = .inr (.inl (2, len, vv))) (hlen : len < 1000) (hr : ∀ d, d < len → vv d = some (r d) ∧ M0.1 (r d) = .inl (0, 5, gg d) ∧ r d ≠ o) : ∀ (n j : Nat), j + n = len - 1 → ∀ f : Nat → Option Nat, kn 72 10 [.ref dk, .int (nI d), .ref o, .int (nI j)] [] (kI M0 o (.inr (.inl (2, len - 1, f)))) = some (some (.ref o), kI M0 o (.inr (.inl (2, len - 1, cpy j (len - 1) (fun i => if i < d then vv i else vv (i + 1)) f))))
  | 0, j, hj, f => by
    obtain rfl : j = len - 1 := by omega
    rw [cpy_n, k_72_10]
    simp only [k_72_11, k_72_12, k_72_13, k_72_39, k_72_40, sm_0, sm_c, ct_i, ct_r, ct_n, ct_l, ct_d, tl_s, tl_n, oK_s, cS_s, cI_0, cI_9, cA_s, cR_s, cQ_s, cN_i, cN_r, cO_s, rS_s, rK_s, cK_i, cK_j, cK_d, if_true, if_false, true_or, or_true, Nat.reduceAdd, Nat.reduceLeDiff, Nat.zero_le, Nat.reduceEqDiff, Nat.reduceSub, eq_self, Nat.le_refl, ne_eq, not_false_eq_true, i1_0, i0_1, kSm_0, kSm_1, kSm_2, kSm_3, kSm_4, x5_0, x5_1, x5_2, x5_3, x5_4, kI_self, Int32.le_refl]
  | n + 1, j, hj, f => by
    have hle : (nI (len - 1) ≤ nI j) = False := eq_false (nI_ge (by omega) (by omega))
    have hx1 : mmX (nI j) (len - 1) = some j := mmX_nI (by omega) (by omega)
    by_cases hjd : j < d
    · obtain ⟨v1, v2, v3⟩ := hr j (by omega)
      have ih := l_k72 hd hdo hD hlen hr n (j + 1) (by omega) (kU f j (some (r j)))
      rw [cpy_s (by omega) (by rw [if_pos hjd]; exact v1)] at ih
      have hx : mmX (nI j) len = some j := mmX_nI (by omega) (by omega)
      have hdd : (nI d ≤ nI j) = False := eq_false (nI_ge hjd (by omega))
      rw [← ih, k_72_10]
      simp only [k_72_11, k_72_12, k_72_13, k_72_16, k_72_17, k_72_18, k_72_19, k_72_20, k_72_21, k_72_24, k_72_25, k_72_31, k_72_32, sm_0, sm_c, ct_i, ct_r, ct_n, ct_l, ct_d, tl_s, tl_n, oK_s, cS_s, cI_0, cI_9, cA_s, cR_s, cQ_s, cN_i, cN_r, cO_s, rS_s, rK_s, cK_i, cK_j, cK_d, if_true, if_false, true_or, or_true, Nat.reduceAdd, Nat.reduceLeDiff, Nat.zero_le, Nat.reduceEqDiff, Nat.reduceSub, eq_self, Nat.le_refl, ne_eq, not_false_eq_true, i1_0, i0_1, kSm_0, kSm_1, kSm_2, kSm_3, kSm_4, x5_0, x5_1, x5_2, x5_3, x5_4, kI_ne hdo, kI_ne v3, kI_self, kI_kI, hD, hle, hdd, hx, hx1, v1, v2]
      rw [k_72_33 (ct_r _), k_72_36, nI_1]
    · obtain ⟨v1, v2, v3⟩ := hr (j + 1) (by omega)
      have ih := l_k72 hd hdo hD hlen hr n (j + 1) (by omega) (kU f j (some (r (j + 1))))
      rw [cpy_s (by omega) (by rw [if_neg hjd]; exact v1)] at ih
      have hx : mmX (nI (j + 1)) len = some (j + 1) := mmX_nI (by omega) (by omega)
      have hdd : (nI d ≤ nI j) = True := eq_true (nI_le (by omega) (by omega))
      rw [← ih, k_72_10]
      simp only [k_72_11, k_72_12, k_72_13, k_72_16, k_72_17, k_72_18, k_72_19, k_72_20, k_72_21, k_72_28, k_72_29, k_72_30, k_72_31, k_72_32, sm_0, sm_c, ct_i, ct_r, ct_n, ct_l, ct_d, tl_s, tl_n, oK_s, cS_s, cI_0, cI_9, cA_s, cR_s, cQ_s, cN_i, cN_r, cO_s, rS_s, rK_s, cK_i, cK_j, cK_d, if_true, if_false, true_or, or_true, Nat.reduceAdd, Nat.reduceLeDiff, Nat.zero_le, Nat.reduceEqDiff, Nat.reduceSub, eq_self, Nat.le_refl, ne_eq, not_false_eq_true, i1_0, i0_1, kSm_0, kSm_1, kSm_2, kSm_3, kSm_4, x5_0, x5_1, x5_2, x5_3, x5_4, kI_ne hdo, kI_ne v3, kI_self, kI_kI, hD, hle, hdd, hx1, nI_1, hx, v1, v2]
      rw [k_72_33 (ct_r _), k_72_36, nI_1]
end
/-- a sim that can be read and written -/
def SimI (M : kM) (s : Nat) (L : List Dd) (w : Int32) (kk : Nat) : Prop := ∃ (dk gu pa ha : Nat) (vv : Nat → Option Nat) (r : Nat → Nat) (gg : Nat → Nat → Int32) (gw pl hu : Nat → Int32), SmR M s dk gu kk pa ha vv r gg gw L w ∧ SmN M s dk gu r L ∧ M.1 pa = .inl (0, 16, pl) ∧ M.1 ha = .inl (0, 16, hu) ∧ pa ≤ kN M ∧ ha ≤ kN M ∧ pa ≠ ha ∧ zb pl ∧ zb hu
theorem SimI.ey {M M' : kM} {s kk : Nat} {L : List Dd} {w : Int32} (h : SimI M s L w kk) (h1 : kN M ≤ kN M') (h2 : ∀ k, k ≤ kN M → M'.1 k = M.1 k) : SimI M' s L w kk := by
  obtain ⟨dk, gu, pa, ha, vv, r, gg, gw, pl, hu, hR, hn, hp, hh, np, nh, hne, zp, zh⟩ := h
  obtain ⟨q1, q2, q3, q4, q5⟩ := hR
  obtain ⟨n1, n2, n3, n4⟩ := hn
  refine ⟨dk, gu, pa, ha, vv, r, gg, gw, pl, hu, ⟨(h2 _ n1).trans q1, (h2 _ n2).trans q2, fun d hd => ?_, (h2 _ n3).trans q4, q5⟩, ⟨by omega, by omega, by omega, fun d hd => Nat.le_trans (n4 d hd) h1⟩, (h2 _ np).trans hp, (h2 _ nh).trans hh, by omega, by omega, hne, zp, zh⟩
  obtain ⟨a1, a2, a3⟩ := q3 d hd
  exact ⟨a1, (h2 _ (n4 d hd)).trans a2, a3⟩
theorem SimI.len {M : kM} {s kk : Nat} {L : List Dd} {w : Int32} (h : SimI M s L w kk) : L.length ≤ 30 := by
  obtain ⟨dk, gu, pa, ha, vv, r, gg, gw, pl, hu, hR, -⟩ := h
  exact hR.2.2.2.2.2.1
theorem SimI.ok {M : kM} {s kk : Nat} {L : List Dd} {w : Int32} (h : SimI M s L w kk) : okL L := by
  obtain ⟨dk, gu, pa, ha, vv, r, gg, gw, pl, hu, hR, -⟩ := h
  exact hR.2.2.2.2.2.2
theorem kSm_u0 {dk gu kk pa ha o : Nat} : kU (kSm dk gu kk pa ha) 0 (.ref o) = kSm o gu kk pa ha := by
  funext f
  unfold kU kSm
  split <;> rfl
theorem kSm_u2 {dk gu kk pa ha k : Nat} : kU (kSm dk gu kk pa ha) 2 (.int (nI k)) = kSm dk gu k pa ha := by
  funext f
  unfold kU kSm
  by_cases h : f = 2
  · subst h; rfl
  · rw [if_neg h]
    by_cases h0 : f = 0
    · rw [if_pos h0, if_pos h0]
    · by_cases h1 : f = 1
      · rw [if_neg h0, if_neg h0, if_pos h1, if_pos h1]
      · rw [if_neg h0, if_neg h0, if_neg h1, if_neg h1, if_neg h, if_neg h]
/-- the cost in cells and slots -/
def kLe (M M' : kM) (c z : Nat) : Prop := kCs M' ≤ kCs M + c ∧ kSs M' ≤ kSs M + z
theorem kLe.tr {A B C : kM} {a b c d : Nat} (h : kLe A B a b) (g : kLe B C c d) : kLe A C (a + c) (b + d) := ⟨by have := h.1; have := g.1; omega, by have := h.2; have := g.2; omega⟩
theorem kLe.mo {A B : kM} {a b c d : Nat} (h : kLe A B a b) (h1 : a ≤ c) (h2 : b ≤ d) : kLe A B c d := ⟨by have := h.1; omega, by have := h.2; omega⟩
