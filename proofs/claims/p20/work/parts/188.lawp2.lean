/-! the law: a round, the pots put together; the hooks -/
section
variable {M : kM} {b s n kk ca ga : Nat} {xs : Nat → Int32} {L : List Dd} {w : Int32} {p : Nat} {z3 x4 x10 x11 x12 x13 y14 y15 y16 y17 : Int32} {dg : Int64} {v19 v20 v21 v22 v23 v24 v25 : Value}
theorem p_end (h : LI M b s n xs L w kk) (hp : p < 16) (hca : M.1 ca = .inl (0, 16, (STU L w).2.2.2)) {f : Nat → Int32} (hga : M.1 ga = .inl (0, 8, f)) (hne : ca ≠ ga) {y22 : Int32} : ∃ M', kn 82 894 [.ref 0, .ref b, .ref s, .int z3, .int x4, .int (nI L.length), .int (nI kk), .long dg, .null, .ref ca, .int x10, .int x11, .int x12, .int x13, .int y14, .int y15, .int y16, .int y17, .ref ga, .int (nI p), .int ((HG L w kk).1 p), .int (b01 (bt (STU L w).1 p)), .int y22, .int (fiR (HG L w kk).1 ((STU L w).2.1 p) 16 0), .int 16, v25] [] M = kn 82 620 [.ref 0, .ref b, .ref s, .int z3, .int x4, .int (nI L.length), .int (nI kk), .long dg, .null, .ref ca, .int x10, .int x11, .int x12, .int x13, .int y14, .int (y15 + b01 (bt (HG L w kk).2.2 p)), .int (if bt (HG L w kk).2.2 p = true then y16 + (STU L w).2.2.2 p else y16), .int y17, .ref ga, .int (nI (p + 1)), .int ((HG L w kk).1 p), .int (b01 (bt (STU L w).1 p)), .int y22, .int (fiR (HG L w kk).1 ((STU L w).2.1 p) 16 0), .int 16, v25] [] M' ∧ (M' = M ∨ ∃ c, M' = kI M ga c) ∧ M'.1 ga = .inl (0, 8, if (HG L w kk).1 p < 0 then f else upd f ((HG L w kk).1 p).toNatClampNeg (f ((HG L w kk).1 p).toNatClampNeg + 1)) ∧ M'.1 ca = .inl (0, 16, (STU L w).2.2.2) := by
  have hlen := h.2.2.2.1.len
  have hO := h.2.2.2.1.ok
  obtain ⟨hw, hk1, hk8⟩ := h.2.2.2.2
  have hx := x16_16 hp
  have n10 : ((1 : Int32) = 0) = False := by decide
  have hf := fl_hand (w := w) hO hlen hw hk1 (show kk ≤ 16 by omega) hp
  have hKR := HG_KR (w := w) hO hlen hw hk1 (show kk ≤ 16 by omega)
  have fin : ∀ (M : kM) (y15 y16 : Int32), kn 82 947 [.ref 0, .ref b, .ref s, .int z3, .int x4, .int (nI L.length), .int (nI kk), .long dg, .null, .ref ca, .int x10, .int x11, .int x12, .int x13, .int y14, .int y15, .int y16, .int y17, .ref ga, .int (nI p), .int ((HG L w kk).1 p), .int (b01 (bt (STU L w).1 p)), .int y22, .int (fiR (HG L w kk).1 ((STU L w).2.1 p) 16 0), .int 16, v25] [] M = kn 82 620 [.ref 0, .ref b, .ref s, .int z3, .int x4, .int (nI L.length), .int (nI kk), .long dg, .null, .ref ca, .int x10, .int x11, .int x12, .int x13, .int y14, .int y15, .int y16, .int y17, .ref ga, .int (nI (p + 1)), .int ((HG L w kk).1 p), .int (b01 (bt (STU L w).1 p)), .int y22, .int (fiR (HG L w kk).1 ((STU L w).2.1 p) 16 0), .int 16, v25] [] M := fun M y15 y16 => by
    rw [k_82_947 (ct_r _), k_82_950, nI_1]
  by_cases hn : (HG L w kk).1 p < 0
  · refine ⟨M, ?_, Or.inl rfl, by rw [if_pos hn]; exact hga, hca⟩
    cases hth : bt (STU L w).1 p with
    | false =>
      rw [hth] at hf
      have hf : bt (HG L w kk).2.2 p = false := hf
      have hn := eq_true hn
      rw [hth] at fin
      rw [hf, if_neg (by decide), show y15 + b01 false = y15 from Int32.add_zero _, ← fin]
      simp only [k_82_894, k_82_896, k_82_908, k_82_910, sm_0, sm_c, ct_i, ct_r, ct_n, ct_l, ct_d, tl_s, tl_n, oK_s, cS_s, cI_0, cI_9, cA_s, cR_s, cQ_s, cN_i, cN_r, cO_s, rS_s, rK_s, cK_i, cK_j, cK_d, if_true, if_false, true_or, or_true, Nat.reduceAdd, Nat.reduceLeDiff, Nat.zero_le, Nat.reduceEqDiff, Nat.reduceSub, eq_self, Nat.le_refl, ne_eq, not_false_eq_true, not_true_eq_false, i1_0, i0_1, kSm_0, kSm_1, kSm_2, kSm_3, kSm_4, x5_0, x5_1, x5_2, x5_3, x5_4, hn, b01, Bool.false_eq_true]
    | true =>
      rw [hth, Bool.true_and, decide_eq_true hn] at hf
      have hful := fiR_full (rv := (STU L w).2.1 p) hKR hk8 ((HG_V (L := L) (w := w) (kk := kk) hO hlen hw hk1 (by omega)).2 p hp hf)
      have hn := eq_true hn
      rw [hth] at fin
      rw [hf, if_pos rfl, show y15 + b01 true = y15 + 1 from rfl, ← fin]
      simp only [k_82_894, k_82_896, k_82_908, k_82_910, k_82_913, k_82_915, sm_0, sm_c, ct_i, ct_r, ct_n, ct_l, ct_d, tl_s, tl_n, oK_s, cS_s, cI_0, cI_9, cA_s, cR_s, cQ_s, cN_i, cN_r, cO_s, rS_s, rK_s, cK_i, cK_j, cK_d, if_true, if_false, true_or, or_true, Nat.reduceAdd, Nat.reduceLeDiff, Nat.zero_le, Nat.reduceEqDiff, Nat.reduceSub, eq_self, Nat.le_refl, ne_eq, not_false_eq_true, not_true_eq_false, i1_0, i0_1, kSm_0, kSm_1, kSm_2, kSm_3, kSm_4, x5_0, x5_1, x5_2, x5_3, x5_4, hn, b01, n10]
      rw [k_82_921 (ct_i _)]
      simp only [k_82_924, k_82_926, k_82_928, k_82_930, k_82_931, sm_0, sm_c, ct_i, ct_r, ct_n, ct_l, ct_d, tl_s, tl_n, oK_s, cS_s, cI_0, cI_9, cA_s, cR_s, cQ_s, cN_i, cN_r, cO_s, rS_s, rK_s, cK_i, cK_j, cK_d, if_true, if_false, true_or, or_true, Nat.reduceAdd, Nat.reduceLeDiff, Nat.zero_le, Nat.reduceEqDiff, Nat.reduceSub, eq_self, Nat.le_refl, ne_eq, not_false_eq_true, not_true_eq_false, i1_0, i0_1, kSm_0, kSm_1, kSm_2, kSm_3, kSm_4, x5_0, x5_1, x5_2, x5_3, x5_4, hca, hx]
      rw [k_82_932 (ct_i _)]
      simp only [k_82_934, k_82_936, k_82_937, k_82_939, k_82_940, k_82_941, k_82_942, sm_0, sm_c, ct_i, ct_r, ct_n, ct_l, ct_d, tl_s, tl_n, oK_s, cS_s, cI_0, cI_9, cA_s, cR_s, cQ_s, cN_i, cN_r, cO_s, rS_s, rK_s, cK_i, cK_j, cK_d, if_true, if_false, true_or, or_true, Nat.reduceAdd, Nat.reduceLeDiff, Nat.zero_le, Nat.reduceEqDiff, Nat.reduceSub, eq_self, Nat.le_refl, ne_eq, not_false_eq_true, not_true_eq_false, i1_0, i0_1, kSm_0, kSm_1, kSm_2, kSm_3, kSm_4, x5_0, x5_1, x5_2, x5_3, x5_4, hful]
  · obtain ⟨x, hxk, ex⟩ := (hKR p hp).resolve_left (fun e => hn (by rw [e]; decide))
    have hx8 : mmX (nI x) 8 = some x := mmX_nI (by omega) (by omega)
    have hf : bt (HG L w kk).2.2 p = false := by rw [hf, decide_eq_false hn, Bool.and_false]
    refine ⟨kI M ga (.inl (0, 8, upd f x (f x + 1))), ?_, Or.inr ⟨_, rfl⟩, by rw [if_neg hn, ex, nI_clamp (by omega)]; exact kI_self, (kI_ne hne).trans hca⟩
    have hn := eq_false hn
    rw [hf, if_neg (by decide), show y15 + b01 false = y15 from Int32.add_zero _, ← fin]
    rw [ex] at hn ⊢
    cases bt (STU L w).1 p with
    | false =>
      simp only [k_82_894, k_82_896, k_82_899, k_82_901, k_82_903, k_82_904, k_82_905, k_82_906, k_82_907, sm_0, sm_c, ct_i, ct_r, ct_n, ct_l, ct_d, tl_s, tl_n, oK_s, cS_s, cI_0, cI_9, cA_s, cR_s, cQ_s, cN_i, cN_r, cO_s, rS_s, rK_s, cK_i, cK_j, cK_d, if_true, if_false, true_or, or_true, Nat.reduceAdd, Nat.reduceLeDiff, Nat.zero_le, Nat.reduceEqDiff, Nat.reduceSub, eq_self, Nat.le_refl, ne_eq, not_false_eq_true, not_true_eq_false, i1_0, i0_1, kSm_0, kSm_1, kSm_2, kSm_3, kSm_4, x5_0, x5_1, x5_2, x5_3, x5_4, hn, hga, hx8]
      simp only [k_82_908, k_82_910, sm_0, sm_c, ct_i, ct_r, ct_n, ct_l, ct_d, tl_s, tl_n, oK_s, cS_s, cI_0, cI_9, cA_s, cR_s, cQ_s, cN_i, cN_r, cO_s, rS_s, rK_s, cK_i, cK_j, cK_d, if_true, if_false, true_or, or_true, Nat.reduceAdd, Nat.reduceLeDiff, Nat.zero_le, Nat.reduceEqDiff, Nat.reduceSub, eq_self, Nat.le_refl, ne_eq, not_false_eq_true, not_true_eq_false, i1_0, i0_1, kSm_0, kSm_1, kSm_2, kSm_3, kSm_4, x5_0, x5_1, x5_2, x5_3, x5_4, b01, Bool.false_eq_true]
    | true =>
      simp only [k_82_894, k_82_896, k_82_899, k_82_901, k_82_903, k_82_904, k_82_905, k_82_906, k_82_907, sm_0, sm_c, ct_i, ct_r, ct_n, ct_l, ct_d, tl_s, tl_n, oK_s, cS_s, cI_0, cI_9, cA_s, cR_s, cQ_s, cN_i, cN_r, cO_s, rS_s, rK_s, cK_i, cK_j, cK_d, if_true, if_false, true_or, or_true, Nat.reduceAdd, Nat.reduceLeDiff, Nat.zero_le, Nat.reduceEqDiff, Nat.reduceSub, eq_self, Nat.le_refl, ne_eq, not_false_eq_true, not_true_eq_false, i1_0, i0_1, kSm_0, kSm_1, kSm_2, kSm_3, kSm_4, x5_0, x5_1, x5_2, x5_3, x5_4, hn, hga, hx8]
      simp only [k_82_908, k_82_910, k_82_913, k_82_915, k_82_918, sm_0, sm_c, ct_i, ct_r, ct_n, ct_l, ct_d, tl_s, tl_n, oK_s, cS_s, cI_0, cI_9, cA_s, cR_s, cQ_s, cN_i, cN_r, cO_s, rS_s, rK_s, cK_i, cK_j, cK_d, if_true, if_false, true_or, or_true, Nat.reduceAdd, Nat.reduceLeDiff, Nat.zero_le, Nat.reduceEqDiff, Nat.reduceSub, eq_self, Nat.le_refl, ne_eq, not_false_eq_true, not_true_eq_false, i1_0, i0_1, kSm_0, kSm_1, kSm_2, kSm_3, kSm_4, x5_0, x5_1, x5_2, x5_3, x5_4, hn, b01, n10]
theorem p_loop {M0 : kM} (h : LI M0 b s n xs L w kk) (ha1 : kN M0 < ca) (ha2 : kN M0 < ga) (hne : ca ≠ ga) : ∀ (m p : Nat), p + m = 16 → ∀ (M : kM) (f : Nat → Int32) (y14 y15 y16 y17 : Int32) (v20 v21 v22 v23 v24 v25 : Value), kEx M0 M → M.1 ca = .inl (0, 16, (STU L w).2.2.2) → M.1 ga = .inl (0, 8, f) → ∃ (M' : kM) (w20 w21 w22 w23 w24 w25 : Value), kn 82 620 [.ref 0, .ref b, .ref s, .int z3, .int x4, .int (nI L.length), .int (nI kk), .long dg, .null, .ref ca, .int x10, .int x11, .int x12, .int x13, .int y14, .int y15, .int y16, .int y17, .ref ga, .int (nI p), v20, v21, v22, v23, v24, v25] [] M = kn 82 953 [.ref 0, .ref b, .ref s, .int z3, .int x4, .int (nI L.length), .int (nI kk), .long dg, .null, .ref ca, .int x10, .int x11, .int x12, .int x13, .int (fcR (bt (STU L w).1) m y14), .int (fcR (bt (HG L w kk).2.2) m y15), .int (coR (STU L w).2.2.2 (HG L w kk).2.2 m y16), .int (prR (STU L w).2.1 m y17), .ref ga, .int 16, w20, w21, w22, w23, w24, w25] [] M' ∧ kEx M0 M' ∧ M'.1 ga = .inl (0, 8, gaR (HG L w kk).1 m f) ∧ kCs M' = kCs M ∧ kSs M' = kSs M ∧ kN M' = kN M
  | 0, p, hp, M, f, y14, y15, y16, y17, v20, v21, v22, v23, v24, v25, he, hca, hga => by
    obtain rfl : p = 16 := by omega
    refine ⟨M, v20, v21, v22, v23, v24, v25, ?_, he, hga, rfl, rfl, rfl⟩
    rw [k_82_620]
    simp only [k_82_622, k_82_624, sm_0, sm_c, ct_i, ct_r, ct_n, ct_l, ct_d, tl_s, tl_n, oK_s, cS_s, cI_0, cI_9, cA_s, cR_s, cQ_s, cN_i, cN_r, cO_s, rS_s, rK_s, cK_i, cK_j, cK_d, if_true, if_false, true_or, or_true, Nat.reduceAdd, Nat.reduceLeDiff, Nat.zero_le, Nat.reduceEqDiff, Nat.reduceSub, eq_self, Nat.le_refl, ne_eq, not_false_eq_true, not_true_eq_false, i1_0, i0_1, kSm_0, kSm_1, kSm_2, kSm_3, kSm_4, x5_0, x5_1, x5_2, x5_3, x5_4, nI_16, Int32.le_refl, fcR, coR, prR]
  | m + 1, p, hp, M, f, y14, y15, y16, y17, v20, v21, v22, v23, v24, v25, he, hca, hga => by
    have hp16 : p < 16 := by omega
    have hI := h.ex he
    have hb := hI.2.2.1.1
    have hK := hI.2.2.1.2.2
    have hO := hI.2.2.2.1.ok
    have hw := h.2.2.2.2.1
    have e : ((16 : Int32) ≤ nI p) = False := p_hi hp16
    have n10 : ((1 : Int32) = 0) = False := by decide
    have n01 : ((0 : Int32) = 1) = False := by decide
    have u0 : rn none 35 0 [.ref 0, .int (nI p), .int 0] [] (M.2.1 b, zL) = some (.inl (some (.int (b01 (bt (STU L w).1 p)))), (M.2.1 b, zL)) := s_35 hp16 (j := 0) (by omega) (M := (M.2.1 b, zL)) hK
    have u3 : rn none 35 0 [.ref 0, .int (nI p), .int 3] [] (M.2.1 b, zL) = some (.inl (some (.int ((HG L w kk).1 p))), (M.2.1 b, zL)) := s_35 hp16 (j := 3) (by omega) (M := (M.2.1 b, zL)) hK
    have e1 : kn 82 620 [.ref 0, .ref b, .ref s, .int z3, .int x4, .int (nI L.length), .int (nI kk), .long dg, .null, .ref ca, .int x10, .int x11, .int x12, .int x13, .int y14, .int y15, .int y16, .int y17, .ref ga, .int (nI p), v20, v21, v22, v23, v24, v25] [] M = kn 82 663 [.ref 0, .ref b, .ref s, .int z3, .int x4, .int (nI L.length), .int (nI kk), .long dg, .null, .ref ca, .int x10, .int x11, .int x12, .int x13, .int y14, .int y15, .int y16, .int y17, .ref ga, .int (nI p), .int ((HG L w kk).1 p), .int (b01 (bt (STU L w).1 p)), .int 0, .int 0, .int 0, v25] [] M := by
      rw [k_82_620]
      simp only [k_82_622, k_82_624, k_82_627, k_82_628, k_82_630, k_82_631, sm_0, sm_c, ct_i, ct_r, ct_n, ct_l, ct_d, tl_s, tl_n, oK_s, cS_s, cI_0, cI_9, cA_s, cR_s, cQ_s, cN_i, cN_r, cO_s, rS_s, rK_s, cK_i, cK_j, cK_d, if_true, if_false, true_or, or_true, Nat.reduceAdd, Nat.reduceLeDiff, Nat.zero_le, Nat.reduceEqDiff, Nat.reduceSub, eq_self, Nat.le_refl, ne_eq, not_false_eq_true, not_true_eq_false, i1_0, i0_1, kSm_0, kSm_1, kSm_2, kSm_3, kSm_4, x5_0, x5_1, x5_2, x5_3, x5_4, e, hb, u3, kV_id]
      rw [k_82_634 (ct_i _)]
      cases hth : bt (STU L w).1 p with
      | false =>
        rw [hth] at u0
        simp only [k_82_636, k_82_637, k_82_639, k_82_640, k_82_643, k_82_644, k_82_651, sm_0, sm_c, ct_i, ct_r, ct_n, ct_l, ct_d, tl_s, tl_n, oK_s, cS_s, cI_0, cI_9, cA_s, cR_s, cQ_s, cN_i, cN_r, cO_s, rS_s, rK_s, cK_i, cK_j, cK_d, if_true, if_false, true_or, or_true, Nat.reduceAdd, Nat.reduceLeDiff, Nat.zero_le, Nat.reduceEqDiff, Nat.reduceSub, eq_self, Nat.le_refl, ne_eq, not_false_eq_true, not_true_eq_false, i1_0, i0_1, kSm_0, kSm_1, kSm_2, kSm_3, kSm_4, x5_0, x5_1, x5_2, x5_3, x5_4, hb, u0, kV_id, b01, Bool.false_eq_true, n01]
        rw [k_82_652 (ct_i _), k_82_654, k_82_655 (ct_i _), k_82_657, k_82_658 (ct_i _), k_82_660, k_82_661 (ct_i _)]
      | true =>
        rw [hth] at u0
        simp only [k_82_636, k_82_637, k_82_639, k_82_640, k_82_643, k_82_644, k_82_647, k_82_648, sm_0, sm_c, ct_i, ct_r, ct_n, ct_l, ct_d, tl_s, tl_n, oK_s, cS_s, cI_0, cI_9, cA_s, cR_s, cQ_s, cN_i, cN_r, cO_s, rS_s, rK_s, cK_i, cK_j, cK_d, if_true, if_false, true_or, or_true, Nat.reduceAdd, Nat.reduceLeDiff, Nat.zero_le, Nat.reduceEqDiff, Nat.reduceSub, eq_self, Nat.le_refl, ne_eq, not_false_eq_true, not_true_eq_false, i1_0, i0_1, kSm_0, kSm_1, kSm_2, kSm_3, kSm_4, x5_0, x5_1, x5_2, x5_3, x5_4, hb, u0, kV_id, b01]
        rw [k_82_652 (ct_i _), k_82_654, k_82_655 (ct_i _), k_82_657, k_82_658 (ct_i _), k_82_660, k_82_661 (ct_i _)]
    obtain ⟨w25, e2⟩ := p_q (ca := ca) (ga := ga) (z3 := z3) (x4 := x4) (x10 := x10) (x11 := x11) (x12 := x12) (x13 := x13) (y14 := y14) (y15 := y15) (y16 := y16) (y17 := y17) (dg := dg) hI hp16 16 0 rfl 0 0 v25
    rw [nI_0, fcR_bc (s16_cl hw hO p hp16) (fun q hq => rfl)] at e2
    have e3 := p_chk (ca := ca) (ga := ga) (z3 := z3) (x4 := x4) (x10 := x10) (x11 := x11) (x12 := x12) (x13 := x13) (y14 := y14) (y15 := y15) (y16 := y16) (y17 := y17) (dg := dg) (v25 := w25) hI hp16 hca (fi := fiR (HG L w kk).1 ((STU L w).2.1 p) 16 0)
    obtain ⟨M1, e4, r1, r2, r3⟩ := p_end (z3 := z3) (x4 := x4) (x10 := x10) (x11 := x11) (x12 := x12) (x13 := x13) (y14 := y14 + b01 (bt (STU L w).1 p)) (y15 := y15) (y16 := y16) (y17 := y17 + bc ((STU L w).2.1 p)) (dg := dg) (v25 := w25) hI hp16 hca hga hne (y22 := bc ((STU L w).2.1 p))
    have he1 : kEx M0 M1 := by
      rcases r1 with rfl | ⟨c, rfl⟩
      · exact he
      · exact he.ki ha2
    have hcs : kCs M1 = kCs M ∧ kSs M1 = kSs M ∧ kN M1 = kN M := by
      rcases r1 with rfl | ⟨c, rfl⟩
      · exact ⟨rfl, rfl, rfl⟩
      · exact ⟨rfl, rfl, rfl⟩
    obtain ⟨M2, z20, z21, z22, z23, z24, z25, e5, s1, s2, s3, s4, s5⟩ := p_loop h ha1 ha2 hne m (p + 1) (by omega) M1 _ (y14 + b01 (bt (STU L w).1 p)) (y15 + b01 (bt (HG L w kk).2.2 p)) (if bt (HG L w kk).2.2 p = true then y16 + (STU L w).2.2.2 p else y16) (y17 + bc ((STU L w).2.1 p)) (.int ((HG L w kk).1 p)) (.int (b01 (bt (STU L w).1 p))) (.int (bc ((STU L w).2.1 p))) (.int (fiR (HG L w kk).1 ((STU L w).2.1 p) 16 0)) (.int 16) w25 he1 r3 r2
    refine ⟨M2, z20, z21, z22, z23, z24, z25, ?_, s1, ?_, by omega, by omega, by omega⟩
    · rw [e1, e2, e3, e4, e5, fcR, fcR, coR, prR, show 15 - m = p by omega]
    · rw [s2, gaR, show 15 - m = p by omega]
theorem g_loop (h : LI M b s n xs L w kk) {f : Nat → Int32} (hga : M.1 ga = .inl (0, 8, f)) (hf : ∀ x, x < kk → f x = bc ((HG L w kk).2.1 x)) : ∀ (m hh : Nat), hh + m = kk → ∀ c : Int32, kn 82 959 [.ref 0, .ref b, .ref s, .int z3, .int x4, .int (nI L.length), .int (nI kk), .long dg, .null, .ref ca, .int x10, .int x11, .int x12, .int x13, .int y14, .int y15, .int y16, .int y17, .ref ga, .int c, .int (nI hh), v21, v22, v23, v24, v25] [] M = kn 82 1006 [.ref 0, .ref b, .ref s, .int z3, .int x4, .int (nI L.length), .int (nI kk), .long dg, .null, .ref ca, .int x10, .int x11, .int x12, .int x13, .int y14, .int y15, .int y16, .int y17, .ref ga, .int (uhR (HG L w kk).2.1 kk m c), .int (nI kk), v21, v22, v23, v24, v25] [] M
  | 0, hh, hq, c => by
    obtain rfl : hh = kk := by omega
    rw [k_82_959]
    simp only [k_82_961, k_82_963, sm_0, sm_c, ct_i, ct_r, ct_n, ct_l, ct_d, tl_s, tl_n, oK_s, cS_s, cI_0, cI_9, cA_s, cR_s, cQ_s, cN_i, cN_r, cO_s, rS_s, rK_s, cK_i, cK_j, cK_d, if_true, if_false, true_or, or_true, Nat.reduceAdd, Nat.reduceLeDiff, Nat.zero_le, Nat.reduceEqDiff, Nat.reduceSub, eq_self, Nat.le_refl, ne_eq, not_false_eq_true, not_true_eq_false, i1_0, i0_1, kSm_0, kSm_1, kSm_2, kSm_3, kSm_4, x5_0, x5_1, x5_2, x5_3, x5_4, Int32.le_refl, uhR]
  | m + 1, hh, hq, c => by
    have hb := h.2.2.1.1
    have hK := h.2.2.1.2.2
    obtain ⟨hw, hk1, hk8⟩ := h.2.2.2.2
    have hle : (nI kk ≤ nI hh) = False := eq_false (nI_ge (by omega) (by omega))
    have hx : mmX (nI hh) 8 = some hh := mmX_nI (by omega) (by omega)
    have u := s_37 (kk := kk) (i := hh) (by omega) (by omega) (M := (M.2.1 b, zL)) hK
    have hfx := hf hh (by omega)
    rw [uhR, show kk - (m + 1) = hh by omega, ← g_loop h hga hf m (hh + 1) (by omega) (c + b01 (decide (0 < bc ((HG L w kk).2.1 hh))))]
    rw [k_82_959]
    by_cases hc : 0 < bc ((HG L w kk).2.1 hh)
    · have hc2 := eq_false (Int32.not_le.mpr hc)
      simp only [k_82_961, k_82_963, k_82_966, k_82_967, k_82_969, k_82_972, k_82_974, k_82_976, k_82_977, k_82_980, k_82_981, k_82_982, k_82_984, k_82_986, k_82_988, k_82_989, k_82_992, k_82_993, k_82_996, k_82_997, sm_0, sm_c, ct_i, ct_r, ct_n, ct_l, ct_d, tl_s, tl_n, oK_s, cS_s, cI_0, cI_9, cA_s, cR_s, cQ_s, cN_i, cN_r, cO_s, rS_s, rK_s, cK_i, cK_j, cK_d, if_true, if_false, true_or, or_true, Nat.reduceAdd, Nat.reduceLeDiff, Nat.zero_le, Nat.reduceEqDiff, Nat.reduceSub, eq_self, Nat.le_refl, ne_eq, not_false_eq_true, not_true_eq_false, i1_0, i0_1, kSm_0, kSm_1, kSm_2, kSm_3, kSm_4, x5_0, x5_1, x5_2, x5_3, x5_4, hle, hb, u, kV_id, hga, hx, hfx, hc2, decide_eq_true hc, b01]
      rw [k_82_998 (ct_r _), k_82_1000 (ct_i _), k_82_1003, nI_1]
    · have hc2 := eq_true (Int32.not_lt.mp hc)
      simp only [k_82_961, k_82_963, k_82_966, k_82_967, k_82_969, k_82_972, k_82_974, k_82_976, k_82_977, k_82_980, k_82_981, k_82_982, k_82_984, k_82_986, k_82_988, k_82_989, k_82_992, k_82_993, k_82_996, k_82_997, sm_0, sm_c, ct_i, ct_r, ct_n, ct_l, ct_d, tl_s, tl_n, oK_s, cS_s, cI_0, cI_9, cA_s, cR_s, cQ_s, cN_i, cN_r, cO_s, rS_s, rK_s, cK_i, cK_j, cK_d, if_true, if_false, true_or, or_true, Nat.reduceAdd, Nat.reduceLeDiff, Nat.zero_le, Nat.reduceEqDiff, Nat.reduceSub, eq_self, Nat.le_refl, ne_eq, not_false_eq_true, not_true_eq_false, i1_0, i0_1, kSm_0, kSm_1, kSm_2, kSm_3, kSm_4, x5_0, x5_1, x5_2, x5_3, x5_4, hle, hb, u, kV_id, hga, hx, hfx, hc2, decide_eq_false hc, b01, Bool.false_eq_true]
      rw [k_82_998 (ct_r _), k_82_1000 (ct_i _), k_82_1003, nI_1]
end
