/-! the sim: floorCost; where the pots that are there are -/
theorem paR_pl {th : Int32} {cl co : Nat → Int32} {kk : Nat} (hk : 1 ≤ kk) (hk2 : kk ≤ 16) (hco : cSm 10000 co) : ∀ (n c : Nat), c + n = 16 → ∀ (left : Int32) (pl as : Nat → Int32), s16 left → pcn left 16 ≤ n → (∀ p, p < 16 → ((0 ≤ pl p) ↔ (bt th p = true ∧ bt left p = false)) ∧ (bt left p = true → bt th p = true)) → ∀ p, p < 16 → ((0 ≤ (paR cl co (nI kk) n left c pl as).2.1 p) ↔ bt th p = true)
  | 0, c, hc, left, pl, as, hs, hp, hI => by
    have h0 : left = 0 := Classical.byContradiction fun h => by
      obtain ⟨i, hi, hb⟩ := bit_ex hs h
      have := pcn_pos 16 i hi hb
      omega
    intro p hp
    rw [paR]
    have := (hI p hp).1
    rw [h0, b_0] at this
    simpa using this
  | n + 1, c, hc, left, pl, as, hs, hp, hI => by
    by_cases h0 : left = 0
    · rw [paR, if_pos h0]
      intro p hp
      have := (hI p hp).1
      rw [h0, b_0] at this
      simpa using this
    · obtain ⟨p, hp16, hb, e⟩ := nxt_in (cl := cl) hk hk2 hco hs h0
      have hpc := pcn_rm hp16 hb 16 (Nat.le_refl _)
      rw [if_pos hp16] at hpc
      rw [paR, if_neg h0, e, atP_p hp16]
      refine paR_pl hk hk2 hco n (c + 1) (by omega) _ _ _ (s16_and hs) (by omega) (fun q hq => ?_)
      have hr : bt (left &&& (bI (nI p) ^^^ (-1))) q = (bt left q && decide (¬ q = p)) := by
        rw [b_and, bt_not _ (by omega), bt_bI hp16]; simp
      rw [hr]
      by_cases hqp : q = p
      · subst hqp
        rw [upd_at]
        have h1 := (hI q hq).2 hb
        have h2 : (0 : Int32) ≤ nI c := Int32.not_lt.mp (nI_pos (by omega))
        simp [h1, h2]
      · rw [upd_ne hqp]
        have := hI q hq
        simpa [hqp] using this
theorem PL_pos {L : List Dd} {w : Int32} {kk : Nat} (hO : okL L) (hl : L.length ≤ 30) (hw : s16 w) (hk : 1 ≤ kk) (hk2 : kk ≤ 16) {p : Nat} (hp : p < 16) : (0 ≤ PL L w kk p) ↔ bt (STU L w).1 p = true :=
  paR_pl hk hk2 (cSm_STU hO hl) 16 0 (by omega) _ _ _ (s16_th hO hw) (pcn_le _ 16) (fun q hq => by
    have h1 : n16 q = -1 := by unfold n16; rw [if_pos hq]
    have h2 : ¬ ((0 : Int32) ≤ -1) := by decide
    rw [h1]
    cases bt (STU L w).1 q <;> simp [h2]) p hp
theorem HG_neg {L : List Dd} {w : Int32} {kk : Nat} (hO : okL L) (hl : L.length ≤ 30) (hw : s16 w) (hk : 1 ≤ kk) (hk2 : kk ≤ 16) {p : Nat} (hp : p < 16) : ((HG L w kk).1 p < 0) ↔ (HG L w kk).1 p = -1 := by
  rcases (HG_inv hO hl hw hk hk2).1.2 p hp with h | ⟨x, hx, h⟩
  · rw [h]; exact ⟨fun _ => rfl, fun _ => by decide⟩
  · rw [h]; exact ⟨fun hh => absurd hh (nI_pos (by omega)), fun hh => absurd hh (nI_m1 hx)⟩
/-- on the floor, by hand -/
theorem fl_hand {L : List Dd} {w : Int32} {kk : Nat} (hO : okL L) (hl : L.length ≤ 30) (hw : s16 w) (hk : 1 ≤ kk) (hk2 : kk ≤ 16) {p : Nat} (hp : p < 16) : bt (HG L w kk).2.2 p = (bt (STU L w).1 p && decide ((HG L w kk).1 p < 0)) := by
  rw [(HG_inv hO hl hw hk hk2).2.2 p hp]
  congr 1
  exact decide_eq_decide.mpr (HG_neg hO hl hw hk hk2 hp).symm
section
variable {M : kM} {s dk gu kk pa ha : Nat} {vv : Nat → Option Nat} {r : Nat → Nat} {gg : Nat → Nat → Int32} {gw : Nat → Int32} {L : List Dd} {w : Int32}
theorem l_k70 (hR : SmR M s dk gu kk pa ha vv r gg gw L w) (hp : M.1 pa = .inl (0, 16, PL L w kk)) (hh : M.1 ha = .inl (0, 16, (HG L w kk).1)) (hw : s16 w) (hk : 1 ≤ kk) (hk2 : kk ≤ 16) : ∀ (n q : Nat), q + n = 16 → ∀ c : Int32, kn 70 4 [.ref s, .int c, .int (nI q)] [] M = some (some (.int (coR (STU L w).2.2.2 (HG L w kk).2.2 n c)), M)
  | 0, q, hq, c => by
    obtain rfl : q = 16 := by omega
    rw [k_70_4]
    simp only [k_70_5, k_70_7, k_70_46, k_70_47, sm_0, sm_c, ct_i, ct_r, ct_n, ct_l, ct_d, tl_s, tl_n, oK_s, cS_s, cI_0, cI_9, cA_s, cR_s, cQ_s, cN_i, cN_r, cO_s, rS_s, rK_s, cK_i, cK_j, cK_d, if_true, if_false, true_or, or_true, Nat.reduceAdd, Nat.reduceLeDiff, Nat.zero_le, Nat.reduceEqDiff, Nat.reduceSub, eq_self, Nat.le_refl, ne_eq, not_false_eq_true, i1_0, i0_1, kSm_0, kSm_1, kSm_2, kSm_3, kSm_4, x5_0, x5_1, x5_2, x5_3, x5_4, nI_16, Int32.le_refl, coR]
  | n + 1, q, hq, c => by
    have ih := fun c => l_k70 hR hp hh hw hk hk2 n (q + 1) (by omega) c
    have hle : ((16 : Int32) ≤ nI q) = False := p_hi (by omega)
    have hx := x16_16 (show q < 16 by omega)
    have hO := hR.2.2.2.2.2.2
    have hl := hR.2.2.2.2.2.1
    have hS := hR.1
    have cq := s_k64 hR (p := q)
    rw [csR_co (w := w) (show q < 16 by omega) hO] at cq
    have hf := fl_hand hO hl hw hk hk2 (show q < 16 by omega)
    have hpl := PL_pos hO hl hw hk hk2 (show q < 16 by omega)
    rw [coR, show 15 - n = q by omega, hf]
    rw [k_70_4]
    simp only [k_70_5, k_70_7, k_70_10, k_70_11, k_70_12, k_70_15, k_70_16, k_70_17, sm_0, sm_c, ct_i, ct_r, ct_n, ct_l, ct_d, tl_s, tl_n, oK_s, cS_s, cI_0, cI_9, cA_s, cR_s, cQ_s, cN_i, cN_r, cO_s, rS_s, rK_s, cK_i, cK_j, cK_d, if_true, if_false, true_or, or_true, Nat.reduceAdd, Nat.reduceLeDiff, Nat.zero_le, Nat.reduceEqDiff, Nat.reduceSub, eq_self, Nat.le_refl, ne_eq, not_false_eq_true, i1_0, i0_1, kSm_0, kSm_1, kSm_2, kSm_3, kSm_4, x5_0, x5_1, x5_2, x5_3, x5_4, hle, hx, hS, hp]
    have fin : ∀ v : Int32, kn 70 38 [.ref s, .int c, .int (nI q)] [.int v, .int c] M = some (some (.int (coR (STU L w).2.2.2 (HG L w kk).2.2 n (c + v))), M) := fun v => by
      rw [k_70_38, k_70_39 (ct_r _), k_70_40 (ct_i _), k_70_43, nI_1, ih]
    cases hth : bt (STU L w).1 q with
    | false =>
      have h1 : PL L w kk q < 0 := Int32.not_le.mp (fun h => by rw [hpl, hth] at h; cases h)
      simp only [h1, if_true, Bool.false_and, Bool.false_eq_true, if_false]
      rw [k_70_37, fin, Int32.add_zero]
    | true =>
      have h1 : ¬ PL L w kk q < 0 := Int32.not_lt.mpr (hpl.mpr hth)
      simp only [h1, if_false, Bool.true_and]
      by_cases h2 : (HG L w kk).1 q < 0
      · have h3 : ((0 : Int32) ≤ (HG L w kk).1 q) = False := eq_false (Int32.not_le.mpr h2)
        simp only [k_70_20, k_70_21, k_70_24, k_70_25, k_70_26, k_70_29, k_70_30, k_70_31, k_70_34, sm_0, sm_c, ct_i, ct_r, ct_n, ct_l, ct_d, tl_s, tl_n, oK_s, cS_s, cI_0, cI_9, cA_s, cR_s, cQ_s, cN_i, cN_r, cO_s, rS_s, rK_s, cK_i, cK_j, cK_d, if_true, if_false, true_or, or_true, Nat.reduceAdd, Nat.reduceLeDiff, Nat.zero_le, Nat.reduceEqDiff, Nat.reduceSub, eq_self, Nat.le_refl, ne_eq, not_false_eq_true, i1_0, i0_1, kSm_0, kSm_1, kSm_2, kSm_3, kSm_4, x5_0, x5_1, x5_2, x5_3, x5_4, hx, hS, hh, h3, h2, decide_true, cq, fin]
      · have h3 : ((0 : Int32) ≤ (HG L w kk).1 q) = True := eq_true (Int32.not_lt.mp h2)
        simp only [k_70_20, k_70_21, k_70_24, k_70_25, k_70_26, k_70_37, sm_0, sm_c, ct_i, ct_r, ct_n, ct_l, ct_d, tl_s, tl_n, oK_s, cS_s, cI_0, cI_9, cA_s, cR_s, cQ_s, cN_i, cN_r, cO_s, rS_s, rK_s, cK_i, cK_j, cK_d, if_true, if_false, true_or, or_true, Nat.reduceAdd, Nat.reduceLeDiff, Nat.zero_le, Nat.reduceEqDiff, Nat.reduceSub, eq_self, Nat.le_refl, ne_eq, not_false_eq_true, i1_0, i0_1, kSm_0, kSm_1, kSm_2, kSm_3, kSm_4, x5_0, x5_1, x5_2, x5_3, x5_4, hx, hS, hh, h3, h2, decide_false, Bool.false_eq_true, fin, Int32.add_zero]
theorem s_k70 (hR : SmR M s dk gu kk pa ha vv r gg gw L w) (hp : M.1 pa = .inl (0, 16, PL L w kk)) (hh : M.1 ha = .inl (0, 16, (HG L w kk).1)) (hw : s16 w) (hk : 1 ≤ kk) (hk2 : kk ≤ 16) : kn 70 0 [.ref s, .null, .null] [] M = some (some (.int (coR (STU L w).2.2.2 (HG L w kk).2.2 16 0)), M) := by
  have hl := l_k70 hR hp hh hw hk hk2 16 0 rfl 0
  rw [nI_0] at hl
  simp only [k_70_0, k_70_1, k_70_2, k_70_3, sm_0, sm_c, ct_i, ct_r, ct_n, ct_l, ct_d, tl_s, tl_n, oK_s, cS_s, cI_0, cI_9, cA_s, cR_s, cQ_s, cN_i, cN_r, cO_s, rS_s, rK_s, cK_i, cK_j, cK_d, if_true, if_false, true_or, or_true, Nat.reduceAdd, Nat.reduceLeDiff, Nat.zero_le, Nat.reduceEqDiff, Nat.reduceSub, eq_self, Nat.le_refl, ne_eq, not_false_eq_true, i1_0, i0_1, kSm_0, kSm_1, kSm_2, kSm_3, kSm_4, x5_0, x5_1, x5_2, x5_3, x5_4]
  exact hl
end
/-! the law: below, cell; the sim's rows: without, add -/
theorem nI_div {a b : Nat} (ha : a < 2147483648) (hb : b < 2147483648) : nI a / nI b = nI (a / b) := by
  apply Int32.toBitVec_inj.mp
  show (BitVec.ofNat 32 a).sdiv (BitVec.ofNat 32 b) = BitVec.ofNat 32 (a / b)
  have h1 : (BitVec.ofNat 32 a).msb = false := by
    rw [BitVec.msb_eq_decide, BitVec.toNat_ofNat]
    exact decide_eq_false (by omega)
  have h2 : (BitVec.ofNat 32 b).msb = false := by
    rw [BitVec.msb_eq_decide, BitVec.toNat_ofNat]
    exact decide_eq_false (by omega)
  rw [BitVec.sdiv_eq, h1, h2]
  apply BitVec.eq_of_toNat_eq
  have h3 : a / b ≤ a := Nat.div_le_self a b
  simp only [BitVec.udiv_eq, BitVec.toNat_udiv, BitVec.toNat_ofNat]
  rw [Nat.mod_eq_of_lt (show a < 2 ^ 32 by omega), Nat.mod_eq_of_lt (show b < 2 ^ 32 by omega), Nat.mod_eq_of_lt (show a / b < 2 ^ 32 by omega)]
theorem and_nI (v : Int32) : ∃ m, m < 2147483648 ∧ v &&& 2147483647 = nI m := by
  refine ⟨v.toBitVec.toNat % 2147483648, Nat.mod_lt _ (by decide), ?_⟩
  apply b_ext
  intro i hi
  rw [b_and, show (2147483647 : Int32) = nI 2147483647 from rfl, bt_nI _ hi, bt_nI _ hi, show (2147483648 : Nat) = 2 ^ 31 from rfl, Nat.testBit_mod_two_pow, show (2147483647 : Nat) = 2 ^ 31 - 1 from rfl, Nat.testBit_two_pow_sub_one, Bool.and_comm]
  rfl
theorem s_k77 {M : kM} {v : Int32} {n : Nat} (h1 : 1 ≤ n) (hn : n < 2147483648) : ∃ q, q < n ∧ kn 77 0 [.int v, .int (nI n)] [] M = some (some (.int (nI q)), M) := by
  obtain ⟨m, hm, e⟩ := and_nI v
  refine ⟨m % n, Nat.mod_lt _ h1, ?_⟩
  have hne : ¬ nI n = 0 := nI_ne0 h1 hn
  have hmod : nI m - nI m / nI n * nI n = nI (m % n) := by
    rw [nI_div hm hn, nI_mul, nI_sub (Nat.div_mul_le_self m n)]
    congr 1
    have := Nat.div_add_mod m n
    rw [Nat.mul_comm] at this
    omega
  simp only [k_77_0, k_77_1, k_77_3, k_77_4, sm_0, sm_c, ct_i, ct_r, ct_n, ct_l, ct_d, tl_s, tl_n, oK_s, cS_s, cI_0, cI_9, cA_s, cR_s, cQ_s, cN_i, cN_r, cO_s, rS_s, rK_s, cK_i, cK_j, cK_d, if_true, if_false, true_or, or_true, Nat.reduceAdd, Nat.reduceLeDiff, Nat.zero_le, Nat.reduceEqDiff, Nat.reduceSub, eq_self, Nat.le_refl, ne_eq, not_false_eq_true, i1_0, i0_1, kSm_0, kSm_1, kSm_2, kSm_3, kSm_4, x5_0, x5_1, x5_2, x5_3, x5_4, e, k_77_5 hne, k_77_6, hmod]
theorem s_k78 {M : kM} {n : Nat} {xs : Nat → Int32} (h : M.1 0 = .inl (9, n, xs)) (hn : n < 2147483648) {i : Nat} (hi : i < 2147483648) : ∃ v, kn 78 0 [.ref 0, .int (nI i)] [] M = some (some (.int v), M) := by
  by_cases hin : i < n
  · have h1 : (nI n ≤ nI i) = False := eq_false (nI_ge hin hn)
    have h2 : mmX (nI i) n = some i := mmX_nI hin hn
    exact ⟨xs i, by simp only [k_78_0, k_78_1, k_78_2, k_78_3, k_78_6, k_78_7, k_78_8, k_78_9, k_78_18, sm_0, sm_c, ct_i, ct_r, ct_n, ct_l, ct_d, tl_s, tl_n, oK_s, cS_s, cI_0, cI_9, cA_s, cR_s, cQ_s, cN_i, cN_r, cO_s, rS_s, rK_s, cK_i, cK_j, cK_d, if_true, if_false, true_or, or_true, Nat.reduceAdd, Nat.reduceLeDiff, Nat.zero_le, Nat.reduceEqDiff, Nat.reduceSub, eq_self, Nat.le_refl, ne_eq, not_false_eq_true, i1_0, i0_1, kSm_0, kSm_1, kSm_2, kSm_3, kSm_4, x5_0, x5_1, x5_2, x5_3, x5_4, h, h1, h2]⟩
  · have h1 : (nI n ≤ nI i) = True := eq_true (nI_le (by omega) hi)
    exact ⟨_, by simp only [k_78_0, k_78_1, k_78_2, k_78_3, k_78_12, k_78_14, k_78_15, k_78_16, k_78_17, k_78_18, sm_0, sm_c, ct_i, ct_r, ct_n, ct_l, ct_d, tl_s, tl_n, oK_s, cS_s, cI_0, cI_9, cA_s, cR_s, cQ_s, cN_i, cN_r, cO_s, rS_s, rK_s, cK_i, cK_j, cK_d, if_true, if_false, true_or, or_true, Nat.reduceAdd, Nat.reduceLeDiff, Nat.zero_le, Nat.reduceEqDiff, Nat.reduceSub, eq_self, Nat.le_refl, ne_eq, not_false_eq_true, i1_0, i0_1, kSm_0, kSm_1, kSm_2, kSm_3, kSm_4, x5_0, x5_1, x5_2, x5_3, x5_4, h, h1]; rfl⟩
