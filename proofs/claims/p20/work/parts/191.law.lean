/-! the law: all of it -/
section
variable {M : kM} {b s n kk i : Nat} {xs : Nat → Int32} {L : List Dd} {w : Int32} {x4 : Int32} {v4 v5 v6 v7 v8 v9 v10 v11 v12 v13 v14 v15 v16 v17 v18 v19 v20 v21 v22 v23 v24 v25 : Value}
theorem act_it (h : LI M b s n xs L w kk) {j : Nat} (hj : j < 2) : ∃ (M' : kM) (L2 : List Dd) (w2 : Int32) (k2 : Nat), kn 82 48 [.ref 0, .ref b, .ref s, .int (nI i), .int x4, .int (nI j), v6, v7, v8, v9, v10, v11, v12, v13, v14, v15, v16, v17, v18, v19, v20, v21, v22, v23, v24, v25] [] M = kn 82 48 [.ref 0, .ref b, .ref s, .int (nI i), .int x4, .int (nI (j + 1)), v6, v7, v8, v9, v10, v11, v12, v13, v14, v15, v16, v17, v18, v19, v20, v21, v22, v23, v24, v25] [] M' ∧ LI M' b s n xs L2 w2 k2 ∧ kLe M M' 3 42 := by
  obtain ⟨M1, L1, w1, k1, u, h1, c1⟩ := s_k79 (v := (x4 >>> (2 * nI j &&& 31)) + 193 * nI j) h
  refine ⟨M1, L1, w1, k1, ?_, h1, c1⟩
  have e : ((2 : Int32) ≤ nI j) = False := eq_false (nI_ge (a := j) (b := 2) hj (by omega))
  have n1 : ((1 : Int32) = 0) = False := by decide
  rw [k_82_48]
  simp only [k_82_50, k_82_51, k_82_54, k_82_55, k_82_56, k_82_58, k_82_59, k_82_61, k_82_62, k_82_63, k_82_66, k_82_68, k_82_69, k_82_70, k_82_73, sm_0, sm_c, ct_i, ct_r, ct_n, ct_l, ct_d, tl_s, tl_n, oK_s, cS_s, cI_0, cI_9, cA_s, cR_s, cQ_s, cN_i, cN_r, cO_s, rS_s, rK_s, cK_i, cK_j, cK_d, if_true, if_false, true_or, or_true, Nat.reduceAdd, Nat.reduceLeDiff, Nat.zero_le, Nat.reduceEqDiff, Nat.reduceSub, eq_self, Nat.le_refl, ne_eq, not_false_eq_true, not_true_eq_false, i1_0, i0_1, kSm_0, kSm_1, kSm_2, kSm_3, kSm_4, x5_0, x5_1, x5_2, x5_3, x5_4, e, u, n1]
  rw [k_82_78 (ct_i _), k_82_81, nI_1]
theorem r_start (h : LI M b s n xs L w kk) (hi : i < 8) : ∃ (M0 : kM) (L2 : List Dd) (w2 : Int32) (k2 : Nat) (x4 : Int32), kn 82 22 [.ref 0, .ref b, .ref s, .int (nI i), v4, v5, v6, v7, v8, v9, v10, v11, v12, v13, v14, v15, v16, v17, v18, v19, v20, v21, v22, v23, v24, v25] [] M = kn 82 125 [.ref 0, .ref b, .ref s, .int (nI i), .int x4, .int (nI L2.length), .int (nI k2), .long (aDig L2 w2 k2), .null, .ref (kN M0 + 1), .int 0, .int 0, .int 0, .int 0, .int 0, v15, v16, v17, v18, v19, v20, v21, v22, v23, v24, v25] [] (kA M0 (.inl (0, 16, kG0)) 16) ∧ LI M0 b s n xs L2 w2 k2 ∧ kLe M M0 6 84 := by
  obtain ⟨cv, ec⟩ := s_k78 (i := 3 + i) h.1 h.2.1 (by omega)
  have e : ((8 : Int32) ≤ nI i) = False := eq_false (nI_ge (a := i) (b := 8) hi (by omega))
  have e3 : (3 : Int32) + nI i = nI (3 + i) := nI_add 3 i
  have e1 : kn 82 22 [.ref 0, .ref b, .ref s, .int (nI i), v4, v5, v6, v7, v8, v9, v10, v11, v12, v13, v14, v15, v16, v17, v18, v19, v20, v21, v22, v23, v24, v25] [] M = kn 82 48 [.ref 0, .ref b, .ref s, .int (nI i), .int ((cv >>> (1 &&& 31)) + 263 * nI i), .int 0, v6, v7, v8, v9, v10, v11, v12, v13, v14, v15, v16, v17, v18, v19, v20, v21, v22, v23, v24, v25] [] M := by
    rw [k_82_22]
    simp only [k_82_23, k_82_25, k_82_28, k_82_29, k_82_30, k_82_31, k_82_32, sm_0, sm_c, ct_i, ct_r, ct_n, ct_l, ct_d, tl_s, tl_n, oK_s, cS_s, cI_0, cI_9, cA_s, cR_s, cQ_s, cN_i, cN_r, cO_s, rS_s, rK_s, cK_i, cK_j, cK_d, if_true, if_false, true_or, or_true, Nat.reduceAdd, Nat.reduceLeDiff, Nat.zero_le, Nat.reduceEqDiff, Nat.reduceSub, eq_self, Nat.le_refl, ne_eq, not_false_eq_true, not_true_eq_false, i1_0, i0_1, kSm_0, kSm_1, kSm_2, kSm_3, kSm_4, x5_0, x5_1, x5_2, x5_3, x5_4, e, e3, ec]
    simp only [k_82_35, k_82_36, k_82_37, k_82_40, k_82_41, k_82_42, k_82_43, k_82_45, k_82_46, sm_0, sm_c, ct_i, ct_r, ct_n, ct_l, ct_d, tl_s, tl_n, oK_s, cS_s, cI_0, cI_9, cA_s, cR_s, cQ_s, cN_i, cN_r, cO_s, rS_s, rK_s, cK_i, cK_j, cK_d, if_true, if_false, true_or, or_true, Nat.reduceAdd, Nat.reduceLeDiff, Nat.zero_le, Nat.reduceEqDiff, Nat.reduceSub, eq_self, Nat.le_refl, ne_eq, not_false_eq_true, not_true_eq_false, i1_0, i0_1, kSm_0, kSm_1, kSm_2, kSm_3, kSm_4, x5_0, x5_1, x5_2, x5_3, x5_4]
  obtain ⟨M1, L1, w1, k1, a1, h1, c1⟩ := act_it (i := i) (x4 := (cv >>> (1 &&& 31)) + 263 * nI i) (v6 := v6) (v7 := v7) (v8 := v8) (v9 := v9) (v10 := v10) (v11 := v11) (v12 := v12) (v13 := v13) (v14 := v14) (v15 := v15) (v16 := v16) (v17 := v17) (v18 := v18) (v19 := v19) (v20 := v20) (v21 := v21) (v22 := v22) (v23 := v23) (v24 := v24) (v25 := v25) h (j := 0) (by omega)
  obtain ⟨M2, L2, w2, k2, a2, h2, c2⟩ := act_it (i := i) (x4 := (cv >>> (1 &&& 31)) + 263 * nI i) (v6 := v6) (v7 := v7) (v8 := v8) (v9 := v9) (v10 := v10) (v11 := v11) (v12 := v12) (v13 := v13) (v14 := v14) (v15 := v15) (v16 := v16) (v17 := v17) (v18 := v18) (v19 := v19) (v20 := v20) (v21 := v21) (v22 := v22) (v23 := v23) (v24 := v24) (v25 := v25) h1 (j := 1) (by omega)
  rw [nI_0] at a1
  refine ⟨M2, L2, w2, k2, (cv >>> (1 &&& 31)) + 263 * nI i, ?_, h2, (c1.tr c2).mo (by omega) (by omega)⟩
  rw [e1, a1, a2]
  generalize (cv >>> (1 &&& 31)) + 263 * nI i = x4
  have hb := h2.2.2.1.1
  have hK := h2.2.2.1.2.2
  have u0 : rn none 36 0 [.ref 0, .int 0] [] (M2.2.1 b, zL) = some (.inl (some (.int (nI L2.length))), (M2.2.1 b, zL)) := s_36 (j := 0) (by omega) (M := (M2.2.1 b, zL)) hK
  have u1 : rn none 36 0 [.ref 0, .int 1] [] (M2.2.1 b, zL) = some (.inl (some (.int (nI k2))), (M2.2.1 b, zL)) := s_36 (j := 1) (by omega) (M := (M2.2.1 b, zL)) hK
  have u43 := s_43 (L := L2) (w := w2) (kk := k2) (M := (M2.2.1 b, zL)) hK
  have eg : ((2 : Int32) ≤ nI (1 + 1)) = True := eq_true (Int32.le_refl _)
  have e16 : ∀ k, nA 16 k = k 16 := fun k => rfl
  rw [k_82_48]
  simp only [k_82_50, k_82_51, k_82_84, k_82_85, k_82_86, sm_0, sm_c, ct_i, ct_r, ct_n, ct_l, ct_d, tl_s, tl_n, oK_s, cS_s, cI_0, cI_9, cA_s, cR_s, cQ_s, cN_i, cN_r, cO_s, rS_s, rK_s, cK_i, cK_j, cK_d, if_true, if_false, true_or, or_true, Nat.reduceAdd, Nat.reduceLeDiff, Nat.zero_le, Nat.reduceEqDiff, Nat.reduceSub, eq_self, Nat.le_refl, ne_eq, not_false_eq_true, not_true_eq_false, i1_0, i0_1, kSm_0, kSm_1, kSm_2, kSm_3, kSm_4, x5_0, x5_1, x5_2, x5_3, x5_4, eg, hb, u0, kV_id]
  rw [k_82_89 (ct_i _)]
  simp only [k_82_91, k_82_92, k_82_93, sm_0, sm_c, ct_i, ct_r, ct_n, ct_l, ct_d, tl_s, tl_n, oK_s, cS_s, cI_0, cI_9, cA_s, cR_s, cQ_s, cN_i, cN_r, cO_s, rS_s, rK_s, cK_i, cK_j, cK_d, if_true, if_false, true_or, or_true, Nat.reduceAdd, Nat.reduceLeDiff, Nat.zero_le, Nat.reduceEqDiff, Nat.reduceSub, eq_self, Nat.le_refl, ne_eq, not_false_eq_true, not_true_eq_false, i1_0, i0_1, kSm_0, kSm_1, kSm_2, kSm_3, kSm_4, x5_0, x5_1, x5_2, x5_3, x5_4, hb, u1, kV_id]
  rw [k_82_96 (ct_i _)]
  simp only [k_82_98, k_82_99, sm_0, sm_c, ct_i, ct_r, ct_n, ct_l, ct_d, tl_s, tl_n, oK_s, cS_s, cI_0, cI_9, cA_s, cR_s, cQ_s, cN_i, cN_r, cO_s, rS_s, rK_s, cK_i, cK_j, cK_d, if_true, if_false, true_or, or_true, Nat.reduceAdd, Nat.reduceLeDiff, Nat.zero_le, Nat.reduceEqDiff, Nat.reduceSub, eq_self, Nat.le_refl, ne_eq, not_false_eq_true, not_true_eq_false, i1_0, i0_1, kSm_0, kSm_1, kSm_2, kSm_3, kSm_4, x5_0, x5_1, x5_2, x5_3, x5_4, hb, u43, kV_id]
  rw [k_82_102 (ct_i _)]
  simp only [k_82_104, k_82_106, sm_0, sm_c, ct_i, ct_r, ct_n, ct_l, ct_d, tl_s, tl_n, oK_s, cS_s, cI_0, cI_9, cA_s, cR_s, cQ_s, cN_i, cN_r, cO_s, rS_s, rK_s, cK_i, cK_j, cK_d, if_true, if_false, true_or, or_true, Nat.reduceAdd, Nat.reduceLeDiff, Nat.zero_le, Nat.reduceEqDiff, Nat.reduceSub, eq_self, Nat.le_refl, ne_eq, not_false_eq_true, not_true_eq_false, i1_0, i0_1, kSm_0, kSm_1, kSm_2, kSm_3, kSm_4, x5_0, x5_1, x5_2, x5_3, x5_4, e16]
  rw [k_82_108 ct_n]
  simp only [k_82_110, k_82_111, k_82_113, k_82_114, k_82_116, k_82_117, k_82_119, k_82_120, k_82_122, k_82_123, sm_0, sm_c, ct_i, ct_r, ct_n, ct_l, ct_d, tl_s, tl_n, oK_s, cS_s, cI_0, cI_9, cA_s, cR_s, cQ_s, cN_i, cN_r, cO_s, rS_s, rK_s, cK_i, cK_j, cK_d, if_true, if_false, true_or, or_true, Nat.reduceAdd, Nat.reduceLeDiff, Nat.zero_le, Nat.reduceEqDiff, Nat.reduceSub, eq_self, Nat.le_refl, ne_eq, not_false_eq_true, not_true_eq_false, i1_0, i0_1, kSm_0, kSm_1, kSm_2, kSm_3, kSm_4, x5_0, x5_1, x5_2, x5_3, x5_4]
theorem d540 {ca : Nat} {dg : Int64} {z3 : Int32} (h : LI M b s n xs L w kk) : kn 82 540 [.ref 0, .ref b, .ref s, .int z3, .int x4, .int (nI L.length), .int (nI kk), .long dg, .null, .ref ca, .int (cnt isP4 L 0), .int (cnt (spd (HG L w kk).1) L 0), .int (wns (HG L w kk).1 L 0), .int (sbh w L 0), .int (nI L.length), v15, v16, v17, v18, v19, v20, v21, v22, v23, v24, v25] [] M = kn 82 620 [.ref 0, .ref b, .ref s, .int z3, .int x4, .int (nI L.length), .int (nI kk), .long dg, .null, .ref ca, .int (cnt isP4 L 0), .int (cnt (spd (HG L w kk).1) L 0), .int (wns (HG L w kk).1 L 0), .int (sbh w L 0), .int 0, .int 0, .int 0, .int 0, .ref (kN M + 1), .int 0, v20, v21, v22, v23, v24, v25] [] (kA M (.inl (0, 8, kG0)) 8) := by
  have hb := h.2.2.1.1
  have hK := h.2.2.1.2.2
  have hl := h.2.2.2.1.len
  have c6 : rn none 36 0 [.ref 0, .int 6] [] (M.2.1 b, zL) = some (.inl (some (.int (cnt isP4 L 0))), (M.2.1 b, zL)) := s_36 (j := 6) (by omega) (M := (M.2.1 b, zL)) hK
  have c7 : rn none 36 0 [.ref 0, .int 7] [] (M.2.1 b, zL) = some (.inl (some (.int (cnt (spd (HG L w kk).1) L 0))), (M.2.1 b, zL)) := s_36 (j := 7) (by omega) (M := (M.2.1 b, zL)) hK
  have c9 : rn none 36 0 [.ref 0, .int 9] [] (M.2.1 b, zL) = some (.inl (some (.int (wns (HG L w kk).1 L 0))), (M.2.1 b, zL)) := s_36 (j := 9) (by omega) (M := (M.2.1 b, zL)) hK
  have u42 := s_42 (L := L) (w := w) (kk := kk) (M := (M.2.1 b, zL)) hK
  have hc := cmp_self (mean_fin (w := w) hl)
  have e8 : ∀ k, nA 8 k = k 8 := fun k => rfl
  have e1 : kn 82 540 [.ref 0, .ref b, .ref s, .int z3, .int x4, .int (nI L.length), .int (nI kk), .long dg, .null, .ref ca, .int (cnt isP4 L 0), .int (cnt (spd (HG L w kk).1) L 0), .int (wns (HG L w kk).1 L 0), .int (sbh w L 0), .int (nI L.length), v15, v16, v17, v18, v19, v20, v21, v22, v23, v24, v25] [] M = kn 82 599 [.ref 0, .ref b, .ref s, .int z3, .int x4, .int (nI L.length), .int (nI kk), .long dg, .null, .ref ca, .int (cnt isP4 L 0), .int (cnt (spd (HG L w kk).1) L 0), .int (wns (HG L w kk).1 L 0), .int (sbh w L 0), .int (nI L.length), v15, v16, v17, v18, v19, v20, v21, v22, v23, v24, v25] [] M := by
    by_cases h0 : L.length = 0
    · have e : (nI L.length = 0) = True := by rw [h0]; exact eq_true rfl
      have hm : aMean L w = FP.dconst0 := by unfold aMean; rw [if_pos h0]
      rw [hm] at hc u42
      simp only [k_82_540, k_82_542, k_82_543, k_82_545, k_82_548, k_82_551, k_82_553, k_82_554, k_82_556, k_82_559, k_82_562, k_82_564, k_82_565, k_82_567, k_82_570, k_82_573, k_82_574, k_82_577, k_82_579, k_82_582, k_82_583, k_82_586, k_82_588, k_82_589, k_82_591, k_82_592, k_82_593, k_82_594, sm_0, sm_c, ct_i, ct_r, ct_n, ct_l, ct_d, tl_s, tl_n, oK_s, cS_s, cI_0, cI_9, cA_s, cR_s, cQ_s, cN_i, cN_r, cO_s, rS_s, rK_s, cK_i, cK_j, cK_d, if_true, if_false, true_or, or_true, Nat.reduceAdd, Nat.reduceLeDiff, Nat.zero_le, Nat.reduceEqDiff, Nat.reduceSub, eq_self, Nat.le_refl, ne_eq, not_false_eq_true, not_true_eq_false, i1_0, i0_1, kSm_0, kSm_1, kSm_2, kSm_3, kSm_4, x5_0, x5_1, x5_2, x5_3, x5_4, hb, c6, c7, c9, u42, kV_id, e, hc]
    · have e : (nI L.length = 0) = False := eq_false (nI_ne0 (by omega) (by omega))
      have hm : aMean L w = FP.ddiv (FP.i2d (sbh w L 0)) (FP.i2d (nI L.length)) := by unfold aMean; rw [if_neg h0]
      have hok := mean_ok (w := w) hl h0
      rw [hm] at hc u42
      simp only [k_82_540, k_82_542, k_82_543, k_82_545, k_82_548, k_82_551, k_82_553, k_82_554, k_82_556, k_82_559, k_82_562, k_82_564, k_82_565, k_82_567, k_82_570, k_82_573, k_82_574, k_82_577, k_82_579, k_82_582, k_82_583, k_82_586, k_82_588, k_82_589, k_82_591, k_82_592, k_82_593, k_82_594, sm_0, sm_c, ct_i, ct_r, ct_n, ct_l, ct_d, tl_s, tl_n, oK_s, cS_s, cI_0, cI_9, cA_s, cR_s, cQ_s, cN_i, cN_r, cO_s, rS_s, rK_s, cK_i, cK_j, cK_d, if_true, if_false, true_or, or_true, Nat.reduceAdd, Nat.reduceLeDiff, Nat.zero_le, Nat.reduceEqDiff, Nat.reduceSub, eq_self, Nat.le_refl, ne_eq, not_false_eq_true, not_true_eq_false, i1_0, i0_1, kSm_0, kSm_1, kSm_2, kSm_3, kSm_4, x5_0, x5_1, x5_2, x5_3, x5_4, hb, c6, c7, c9, u42, kV_id, e, k_82_592 hok, hc]
  rw [e1]
  simp only [k_82_599, k_82_600, k_82_602, k_82_603, k_82_605, k_82_606, k_82_608, k_82_609, k_82_611, k_82_613, sm_0, sm_c, ct_i, ct_r, ct_n, ct_l, ct_d, tl_s, tl_n, oK_s, cS_s, cI_0, cI_9, cA_s, cR_s, cQ_s, cN_i, cN_r, cO_s, rS_s, rK_s, cK_i, cK_j, cK_d, if_true, if_false, true_or, or_true, Nat.reduceAdd, Nat.reduceLeDiff, Nat.zero_le, Nat.reduceEqDiff, Nat.reduceSub, eq_self, Nat.le_refl, ne_eq, not_false_eq_true, not_true_eq_false, i1_0, i0_1, kSm_0, kSm_1, kSm_2, kSm_3, kSm_4, x5_0, x5_1, x5_2, x5_3, x5_4, e8]
  rw [k_82_615 (ct_i _)]
  simp only [k_82_617, k_82_618, sm_0, sm_c, ct_i, ct_r, ct_n, ct_l, ct_d, tl_s, tl_n, oK_s, cS_s, cI_0, cI_9, cA_s, cR_s, cQ_s, cN_i, cN_r, cO_s, rS_s, rK_s, cK_i, cK_j, cK_d, if_true, if_false, true_or, or_true, Nat.reduceAdd, Nat.reduceLeDiff, Nat.zero_le, Nat.reduceEqDiff, Nat.reduceSub, eq_self, Nat.le_refl, ne_eq, not_false_eq_true, not_true_eq_false, i1_0, i0_1, kSm_0, kSm_1, kSm_2, kSm_3, kSm_4, x5_0, x5_1, x5_2, x5_3, x5_4]
theorem r_round (h : LI M b s n xs L w kk) (hi : i < 8) : ∃ (M' : kM) (L2 : List Dd) (w2 : Int32) (k2 : Nat) (y4 y5 y6 y7 y8 y9 y10 y11 y12 y13 y14 y15 y16 y17 y18 y19 y20 y21 y22 y23 y24 y25 : Value), kn 82 22 [.ref 0, .ref b, .ref s, .int (nI i), v4, v5, v6, v7, v8, v9, v10, v11, v12, v13, v14, v15, v16, v17, v18, v19, v20, v21, v22, v23, v24, v25] [] M = kn 82 22 [.ref 0, .ref b, .ref s, .int (nI (i + 1)), y4, y5, y6, y7, y8, y9, y10, y11, y12, y13, y14, y15, y16, y17, y18, y19, y20, y21, y22, y23, y24, y25] [] M' ∧ LI M' b s n xs L2 w2 k2 ∧ kLe M M' 148 2860 := by
  obtain ⟨M0, L2, w2, k2, x4, e0, h0, c0⟩ := r_start (v4 := v4) (v5 := v5) (v6 := v6) (v7 := v7) (v8 := v8) (v9 := v9) (v10 := v10) (v11 := v11) (v12 := v12) (v13 := v13) (v14 := v14) (v15 := v15) (v16 := v16) (v17 := v17) (v18 := v18) (v19 := v19) (v20 := v20) (v21 := v21) (v22 := v22) (v23 := v23) (v24 := v24) (v25 := v25) h hi
  have hO := h0.2.2.2.1.ok
  have hlen := h0.2.2.2.1.len
  obtain ⟨hw, hk1, hk8⟩ := h0.2.2.2.2
  have x1 : kEx M0 (kA M0 (.inl (0, 16, kG0)) 16) := kA_ex
  have ca1 : (kA M0 (.inl (0, 16, kG0)) 16).1 (kN M0 + 1) = .inl (0, 16, kG0) := kA_self
  have l1 : kLe M0 (kA M0 (.inl (0, 16, kG0)) 16) 1 16 := ⟨Nat.le_refl _, Nat.le_refl _⟩
  have N1 : kN (kA M0 (.inl (0, 16, kG0)) 16) = kN M0 + 1 := rfl
  generalize kA M0 (.inl (0, 16, kG0)) 16 = M1 at e0 x1 ca1 l1 N1
  obtain ⟨M2, w15, w16, w17, w18, w19, w20, w21, w22, w23, w24, e1, x2, ca2, l2, N2⟩ := d_loop (ca := kN M0 + 1) (z3 := nI i) (x4 := x4) (dg := aDig L2 w2 k2) (v25 := v25) h0 (by omega) L2.length 0 (by omega) M1 kG0 0 0 0 0 v15 v16 v17 v18 v19 v20 v21 v22 v23 v24 x1 ca1
  rw [nI_0, List.drop_zero] at e1
  rw [List.drop_zero] at ca2
  have hcs : coF L2 kG0 = (STU L2 w2).2.2.2 := STU_co.symm
  rw [hcs] at ca2
  have h2 := h0.ex x2
  have e2 := d540 (ca := kN M0 + 1) (dg := aDig L2 w2 k2) (z3 := nI i) (x4 := x4) (v15 := w15) (v16 := w16) (v17 := w17) (v18 := w18) (v19 := w19) (v20 := w20) (v21 := w21) (v22 := w22) (v23 := w23) (v24 := w24) (v25 := v25) h2
  have x3 : kEx M0 (kA M2 (.inl (0, 8, kG0)) 8) := x2.tr kA_ex
  have ca3 : (kA M2 (.inl (0, 8, kG0)) 8).1 (kN M0 + 1) = .inl (0, 16, (STU L2 w2).2.2.2) := (kA_ex.2.1 _ (by omega)).trans ca2
  have ga3 : (kA M2 (.inl (0, 8, kG0)) 8).1 (kN M2 + 1) = .inl (0, 8, kG0) := kA_self
  have l3 : kLe M2 (kA M2 (.inl (0, 8, kG0)) 8) 1 8 := ⟨Nat.le_refl _, Nat.le_refl _⟩
  generalize kA M2 (.inl (0, 8, kG0)) 8 = M3 at e2 x3 ca3 ga3 l3
  obtain ⟨M4, y20, y21, y22, y23, y24, y25, e3, x4', ga4, c4, s4, N4⟩ := p_loop (z3 := nI i) (x4 := x4) (x10 := cnt isP4 L2 0) (x11 := cnt (spd (HG L2 w2 k2).1) L2 0) (x12 := wns (HG L2 w2 k2).1 L2 0) (x13 := sbh w2 L2 0) (dg := aDig L2 w2 k2) h0 (ca := kN M0 + 1) (ga := kN M2 + 1) (by omega) (by omega) (by omega) 16 0 rfl M3 kG0 0 0 0 0 w20 w21 w22 w23 w24 v25 x3 ca3 ga3
  have hth := s16_th (w := w2) hO hw
  have hI := HG_inv (w := w2) hO hlen hw hk1 (show k2 ≤ 16 by omega)
  have hPA := hI.1
  have hKR := HG_KR (w := w2) hO hlen hw hk1 (show k2 ≤ 16 by omega)
  rw [nI_0, fcR_bc hth (fun q hq => rfl), fcR_bc hI.2.1 (fun q hq => rfl)] at e3
  have h4 := h0.ex x4'
  have e4 := g_loop (ca := kN M0 + 1) (z3 := nI i) (x4 := x4) (x10 := cnt isP4 L2 0) (x11 := cnt (spd (HG L2 w2 k2).1) L2 0) (x12 := wns (HG L2 w2 k2).1 L2 0) (x13 := sbh w2 L2 0) (y14 := bc (STU L2 w2).1) (y15 := bc (HG L2 w2 k2).2.2) (y16 := coR (STU L2 w2).2.2.2 (HG L2 w2 k2).2.2 16 0) (y17 := prR (STU L2 w2).2.1 16 0) (dg := aDig L2 w2 k2) (v21 := y21) (v22 := y22) (v23 := y23) (v24 := y24) (v25 := y25) h4 ga4 (fun x hx => by
    rw [gaR_at hPA.2 (by omega) 16 (Nat.le_refl _)]
    exact hang_bc hPA (by omega)) k2 0 (by omega) 0
  rw [nI_0, uhR_huR hPA hKR (show k2 ≤ 16 by omega) k2 (Nat.le_refl _) 0, show k2 + (16 - k2) = 16 by omega] at e4
  obtain ⟨M5, e5, h5, l5⟩ := r_chk (ca := kN M0 + 1) (ga := kN M2 + 1) (z3 := nI i) (x4 := x4) (x10 := cnt isP4 L2 0) (x11 := cnt (spd (HG L2 w2 k2).1) L2 0) (x12 := wns (HG L2 w2 k2).1 L2 0) (x13 := sbh w2 L2 0) (dg := aDig L2 w2 k2) (v20 := .int (nI k2)) (v21 := y21) (v22 := y22) (v23 := y23) (v24 := y24) (v25 := y25) h4
  obtain ⟨M6, z20, c20, e6, h6, l6⟩ := r_few (ca := kN M0 + 1) (ga := kN M2 + 1) (z3 := nI i) (x4 := x4) (x10 := cnt isP4 L2 0) (x11 := cnt (spd (HG L2 w2 k2).1) L2 0) (x12 := wns (HG L2 w2 k2).1 L2 0) (x13 := sbh w2 L2 0) (y16 := coR (STU L2 w2).2.2.2 (HG L2 w2 k2).2.2 16 0) (y17 := prR (STU L2 w2).2.1 16 0) (y19 := huR (HG L2 w2 k2).2.1 16 0) (dg := aDig L2 w2 k2) (v20 := .int (nI k2)) (v21 := y21) (v22 := y22) (v23 := y23) (v24 := y24) (v25 := y25) h5
  obtain ⟨M7, z21, z22, e7, h7, l7⟩ := r_adv (ca := kN M0 + 1) (ga := kN M2 + 1) (z3 := nI i) (x4 := x4) (x10 := cnt isP4 L2 0) (x11 := cnt (spd (HG L2 w2 k2).1) L2 0) (x12 := wns (HG L2 w2 k2).1 L2 0) (x13 := sbh w2 L2 0) (y16 := coR (STU L2 w2).2.2.2 (HG L2 w2 k2).2.2 16 0) (y17 := prR (STU L2 w2).2.1 16 0) (y19 := huR (HG L2 w2 k2).2.1 16 0) (dg := aDig L2 w2 k2) (v20 := z20) (v21 := y21) (v22 := y22) (v23 := y23) (v24 := y24) (v25 := y25) h6 rfl c20
  have l4 : kLe M3 M4 0 0 := ⟨by omega, by omega⟩
  have hle : kLe M M7 148 2860 := ((((((((c0.tr l1).tr l2).tr l3).tr l4).tr l5).tr l6).tr l7).mo (by omega) (by omega))
  have eq : kn 82 22 [.ref 0, .ref b, .ref s, .int (nI i), v4, v5, v6, v7, v8, v9, v10, v11, v12, v13, v14, v15, v16, v17, v18, v19, v20, v21, v22, v23, v24, v25] [] M = kn 82 22 [.ref 0, .ref b, .ref s, .int (nI (i + 1)), .int x4, .int (nI L2.length), .int (nI k2), .long (aDig L2 w2 k2), .null, .ref (kN M0 + 1), .int (cnt isP4 L2 0), .int (cnt (spd (HG L2 w2 k2).1) L2 0), .int (wns (HG L2 w2 k2).1 L2 0), .int (sbh w2 L2 0), .int (bc (STU L2 w2).1), .int (bc (HG L2 w2 k2).2.2), .int (coR (STU L2 w2).2.2.2 (HG L2 w2 k2).2.2 16 0), .int (prR (STU L2 w2).2.1 16 0), .ref (kN M2 + 1), .int (huR (HG L2 w2 k2).2.1 16 0), z20, z21, z22, y23, y24, y25] [] M7 := by
    rw [e0, e1, e2, e3, k_82_953, k_82_954 (ct_r _), k_82_956, k_82_957 (ct_i _), e4, e5, e6, e7, k_82_1273 (ct_r _), k_82_1276, nI_1]
  exact ⟨M7, L2, w2, k2, _, _, _, _, _, _, _, _, _, _, _, _, _, _, _, _, _, _, _, _, _, _, eq, h7, hle⟩
theorem l_k82 : ∀ (j i : Nat), i + j = 8 → ∀ (M : kM) (L : List Dd) (w : Int32) (kk : Nat) (v4 v5 v6 v7 v8 v9 v10 v11 v12 v13 v14 v15 v16 v17 v18 v19 v20 v21 v22 v23 v24 v25 : Value), LI M b s n xs L w kk → ∃ M', kn 82 22 [.ref 0, .ref b, .ref s, .int (nI i), v4, v5, v6, v7, v8, v9, v10, v11, v12, v13, v14, v15, v16, v17, v18, v19, v20, v21, v22, v23, v24, v25] [] M = some (some (.int 1), M') ∧ kLe M M' (148 * j + 84) (2860 * j + 908)
  | 0, i, hi, M, L, w, kk, v4, v5, v6, v7, v8, v9, v10, v11, v12, v13, v14, v15, v16, v17, v18, v19, v20, v21, v22, v23, v24, v25, h => by
    obtain rfl : i = 8 := by omega
    obtain ⟨M', u, c⟩ := s_k71 h
    refine ⟨M', ?_, c.mo (by omega) (by omega)⟩
    have e : ((8 : Int32) ≤ nI 8) = True := eq_true (Int32.le_refl _)
    obtain ⟨-, -, -, ⟨dk, gu, pa, ha, vv, r, gg, gw, pl, hu, hR, -⟩, -⟩ := h
    have q1 := hR.1
    rw [k_82_22]
    simp only [k_82_23, k_82_25, k_82_1279, k_82_1280, k_82_1281, k_82_1284, sm_0, sm_c, ct_i, ct_r, ct_n, ct_l, ct_d, tl_s, tl_n, oK_s, cS_s, cI_0, cI_9, cA_s, cR_s, cQ_s, cN_i, cN_r, cO_s, rS_s, rK_s, cK_i, cK_j, cK_d, if_true, if_false, true_or, or_true, Nat.reduceAdd, Nat.reduceLeDiff, Nat.zero_le, Nat.reduceEqDiff, Nat.reduceSub, eq_self, Nat.le_refl, ne_eq, not_false_eq_true, not_true_eq_false, i1_0, i0_1, kSm_0, kSm_1, kSm_2, kSm_3, kSm_4, x5_0, x5_1, x5_2, x5_3, x5_4, e, q1, u]
  | j + 1, i, hi, M, L, w, kk, v4, v5, v6, v7, v8, v9, v10, v11, v12, v13, v14, v15, v16, v17, v18, v19, v20, v21, v22, v23, v24, v25, h => by
    obtain ⟨M1, L1, w1, k1, y4, y5, y6, y7, y8, y9, y10, y11, y12, y13, y14, y15, y16, y17, y18, y19, y20, y21, y22, y23, y24, y25, e1, h1, c1⟩ := r_round (i := i) (v4 := v4) (v5 := v5) (v6 := v6) (v7 := v7) (v8 := v8) (v9 := v9) (v10 := v10) (v11 := v11) (v12 := v12) (v13 := v13) (v14 := v14) (v15 := v15) (v16 := v16) (v17 := v17) (v18 := v18) (v19 := v19) (v20 := v20) (v21 := v21) (v22 := v22) (v23 := v23) (v24 := v24) (v25 := v25) h (by omega)
    obtain ⟨M2, e2, c2⟩ := l_k82 j (i + 1) (by omega) M1 L1 w1 k1 y4 y5 y6 y7 y8 y9 y10 y11 y12 y13 y14 y15 y16 y17 y18 y19 y20 y21 y22 y23 y24 y25 h1
    exact ⟨M2, e1.trans e2, (c1.tr c2).mo (by omega) (by omega)⟩
/-- the law answers true -/
theorem s_k82 (hs : M.1 0 = .inl (9, n, xs)) (hn : n < 2147483648) : ∃ M', kn 82 0 [.ref 0, .null, .null, .null, .null, .null, .null, .null, .null, .null, .null, .null, .null, .null, .null, .null, .null, .null, .null, .null, .null, .null, .null, .null, .null, .null] [] M = some (some (.int 1), M') ∧ kLe M M' 1400 26000 := by
  have hs0 : (kK M).1 0 = .inl (9, n, xs) := (kK_lo (Nat.zero_le _)).trans hs
  obtain ⟨M1, s, L1, w1, k1, e1, h1, c1⟩ := s_k81 hs0 hn (kt_first (M := M))
  obtain ⟨M2, e2, c2⟩ := l_k82 8 0 rfl M1 L1 w1 k1 .null .null .null .null .null .null .null .null .null .null .null .null .null .null .null .null .null .null .null .null .null .null h1
  rw [nI_0] at e2
  have c0 : kLe M (kK M) 35 688 := ⟨Nat.le_refl _, Nat.le_refl _⟩
  refine ⟨M2, ?_, ((c0.tr c1).tr c2).mo (by omega) (by omega)⟩
  rw [← e2, k_82_0 (by decide), k_82_7 (ct_r _)]
  simp only [k_82_8, k_82_9, k_82_10, sm_0, sm_c, ct_i, ct_r, ct_n, ct_l, ct_d, tl_s, tl_n, oK_s, cS_s, cI_0, cI_9, cA_s, cR_s, cQ_s, cN_i, cN_r, cO_s, rS_s, rK_s, cK_i, cK_j, cK_d, if_true, if_false, true_or, or_true, Nat.reduceAdd, Nat.reduceLeDiff, Nat.zero_le, Nat.reduceEqDiff, Nat.reduceSub, eq_self, Nat.le_refl, ne_eq, not_false_eq_true, not_true_eq_false, i1_0, i0_1, kSm_0, kSm_1, kSm_2, kSm_3, kSm_4, x5_0, x5_1, x5_2, x5_3, x5_4, e1]
  rw [k_82_13 (ct_r _)]
  simp only [k_82_14, k_82_15, k_82_18, k_82_19, k_82_20, k_82_21, sm_0, sm_c, ct_i, ct_r, ct_n, ct_l, ct_d, tl_s, tl_n, oK_s, cS_s, cI_0, cI_9, cA_s, cR_s, cQ_s, cN_i, cN_r, cO_s, rS_s, rK_s, cK_i, cK_j, cK_d, if_true, if_false, true_or, or_true, Nat.reduceAdd, Nat.reduceLeDiff, Nat.zero_le, Nat.reduceEqDiff, Nat.reduceSub, eq_self, Nat.le_refl, ne_eq, not_false_eq_true, not_true_eq_false, i1_0, i0_1, kSm_0, kSm_1, kSm_2, kSm_3, kSm_4, x5_0, x5_1, x5_2, x5_3, x5_4]
end
