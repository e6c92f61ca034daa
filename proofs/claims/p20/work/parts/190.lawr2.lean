/-! the law: a round, fewest and advise -/
section
variable {M : kM} {b s n kk ca ga : Nat} {xs : Nat → Int32} {L : List Dd} {w : Int32} {z3 x4 x10 x11 x12 x13 y16 y17 y19 : Int32} {dg : Int64} {v20 v21 v22 v23 v24 v25 : Value}
theorem r_would {k : Nat} (h : LI M b s n xs L w kk) (h1 : 1 ≤ k) (hk : k ≤ 16) : ∃ f', rn none 39 0 [.ref 0, .int (nI k)] [] (M.2.1 b, zL) = some (.inl (some (.int (bc (HG L w k).2.2))), (f', zL)) ∧ LI (kV M b f' 0) b s n xs L w kk := by
  obtain ⟨f', u, c, -⟩ := s_39 (kk := kk) h1 hk (M := (M.2.1 b, zL)) h.2.2.1.2.2
  exact ⟨f', u, h.mut c⟩
theorem r_few (h : LI M b s n xs L w kk) : ∃ (M' : kM) (v20' : Value), v20'.category = 1 ∧ kn 82 1081 [.ref 0, .ref b, .ref s, .int z3, .int x4, .int (nI L.length), .int (nI kk), .long dg, .null, .ref ca, .int x10, .int x11, .int x12, .int x13, .int (bc (STU L w).1), .int (bc (HG L w kk).2.2), .int y16, .int y17, .ref ga, .int y19, v20, v21, v22, v23, v24, v25] [] M = kn 82 1167 [.ref 0, .ref b, .ref s, .int z3, .int x4, .int (nI L.length), .int (nI kk), .long dg, .null, .ref ca, .int x10, .int x11, .int x12, .int x13, .int (bc (STU L w).1), .int (bc (HG L w kk).2.2), .int y16, .int y17, .ref ga, .int y19, v20', v21, v22, v23, v24, v25] [] M' ∧ LI M' b s n xs L w kk ∧ kLe M M' 0 0 := by
  have hb := h.2.2.1.1
  have hK := h.2.2.1.2.2
  have hO := h.2.2.2.1.ok
  have hlen := h.2.2.2.1.len
  obtain ⟨hw, hk1, hk8⟩ := h.2.2.2.2
  have hth := s16_th (w := w) hO hw
  obtain ⟨f1, u40, c40, -⟩ := s_40 (kk := kk) (M := (M.2.1 b, zL)) hK
  have h1 := h.mut c40
  have e1 : kn 82 1081 [.ref 0, .ref b, .ref s, .int z3, .int x4, .int (nI L.length), .int (nI kk), .long dg, .null, .ref ca, .int x10, .int x11, .int x12, .int x13, .int (bc (STU L w).1), .int (bc (HG L w kk).2.2), .int y16, .int y17, .ref ga, .int y19, v20, v21, v22, v23, v24, v25] [] M = kn 82 1087 [.ref 0, .ref b, .ref s, .int z3, .int x4, .int (nI L.length), .int (nI kk), .long dg, .null, .ref ca, .int x10, .int x11, .int x12, .int x13, .int (bc (STU L w).1), .int (bc (HG L w kk).2.2), .int y16, .int y17, .ref ga, .int y19, .int (aFew L w), v21, v22, v23, v24, v25] [] (kV M b f1 0) := by
    simp only [k_82_1081, k_82_1082, sm_0, sm_c, ct_i, ct_r, ct_n, ct_l, ct_d, tl_s, tl_n, oK_s, cS_s, cI_0, cI_9, cA_s, cR_s, cQ_s, cN_i, cN_r, cO_s, rS_s, rK_s, cK_i, cK_j, cK_d, if_true, if_false, true_or, or_true, Nat.reduceAdd, Nat.reduceLeDiff, Nat.zero_le, Nat.reduceEqDiff, Nat.reduceSub, eq_self, Nat.le_refl, ne_eq, not_false_eq_true, not_true_eq_false, i1_0, i0_1, kSm_0, kSm_1, kSm_2, kSm_3, kSm_4, x5_0, x5_1, x5_2, x5_3, x5_4, hb, u40]
    rw [k_82_1085 (ct_i _)]
  have hl1 : kLe M (kV M b f1 0) 0 0 := ⟨Nat.le_refl _, Nat.le_refl _⟩
  rw [e1]
  generalize kV M b f1 0 = M1 at h1 hl1
  clear hb hK e1 u40 c40
  have hb := h1.2.2.1.1
  by_cases h0 : (STU L w).1 = 0
  · have hf : aFew L w = 0 := by unfold aFew; rw [if_pos h0]
    have hb0 : bc (STU L w).1 = 0 := by rw [bc_0 hth]; exact h0
    have n16 : ((16 : Int32) < 0) = False := by decide
    have n1 : ((0 : Int32) ≤ 1) = True := by decide
    refine ⟨M1, .int 0, rfl, ?_, h1, hl1⟩
    rw [hf, hb0]
    have e2 : kn 82 1087 [.ref 0, .ref b, .ref s, .int z3, .int x4, .int (nI L.length), .int (nI kk), .long dg, .null, .ref ca, .int x10, .int x11, .int x12, .int x13, .int 0, .int (bc (HG L w kk).2.2), .int y16, .int y17, .ref ga, .int y19, .int 0, v21, v22, v23, v24, v25] [] M1 = kn 82 1148 [.ref 0, .ref b, .ref s, .int z3, .int x4, .int (nI L.length), .int (nI kk), .long dg, .null, .ref ca, .int x10, .int x11, .int x12, .int x13, .int 0, .int (bc (HG L w kk).2.2), .int y16, .int y17, .ref ga, .int y19, .int 0, v21, v22, v23, v24, v25] [] M1 := by
      simp only [k_82_1087, k_82_1089, k_82_1092, k_82_1093, k_82_1097, k_82_1099, k_82_1102, k_82_1103, k_82_1107, k_82_1110, k_82_1112, k_82_1114, k_82_1117, k_82_1119, k_82_1131, k_82_1133, k_82_1134, sm_0, sm_c, ct_i, ct_r, ct_n, ct_l, ct_d, tl_s, tl_n, oK_s, cS_s, cI_0, cI_9, cA_s, cR_s, cQ_s, cN_i, cN_r, cO_s, rS_s, rK_s, cK_i, cK_j, cK_d, if_true, if_false, true_or, or_true, Nat.reduceAdd, Nat.reduceLeDiff, Nat.zero_le, Nat.reduceEqDiff, Nat.reduceSub, eq_self, Nat.le_refl, ne_eq, not_false_eq_true, not_true_eq_false, i1_0, i0_1, kSm_0, kSm_1, kSm_2, kSm_3, kSm_4, x5_0, x5_1, x5_2, x5_3, x5_4, n16, Int32.le_refl, n1]
    rw [e2]
    by_cases hfl : bc (HG L w kk).2.2 = 0
    · have hfl := eq_true hfl
      simp only [k_82_1148, k_82_1150, k_82_1153, k_82_1155, sm_0, sm_c, ct_i, ct_r, ct_n, ct_l, ct_d, tl_s, tl_n, oK_s, cS_s, cI_0, cI_9, cA_s, cR_s, cQ_s, cN_i, cN_r, cO_s, rS_s, rK_s, cK_i, cK_j, cK_d, if_true, if_false, true_or, or_true, Nat.reduceAdd, Nat.reduceLeDiff, Nat.zero_le, Nat.reduceEqDiff, Nat.reduceSub, eq_self, Nat.le_refl, ne_eq, not_false_eq_true, not_true_eq_false, i1_0, i0_1, kSm_0, kSm_1, kSm_2, kSm_3, kSm_4, x5_0, x5_1, x5_2, x5_3, x5_4, hfl, Int32.le_refl]
    · have hfl := eq_false hfl
      simp only [k_82_1148, k_82_1150, sm_0, sm_c, ct_i, ct_r, ct_n, ct_l, ct_d, tl_s, tl_n, oK_s, cS_s, cI_0, cI_9, cA_s, cR_s, cQ_s, cN_i, cN_r, cO_s, rS_s, rK_s, cK_i, cK_j, cK_d, if_true, if_false, true_or, or_true, Nat.reduceAdd, Nat.reduceLeDiff, Nat.zero_le, Nat.reduceEqDiff, Nat.reduceSub, eq_self, Nat.le_refl, ne_eq, not_false_eq_true, not_true_eq_false, i1_0, i0_1, kSm_0, kSm_1, kSm_2, kSm_3, kSm_4, x5_0, x5_1, x5_2, x5_3, x5_4, hfl]
  · obtain ⟨k, k1, k16, hf, hk0, hkj⟩ := fwR_spec hO hlen hw 15 (Nat.le_refl _)
    have hf : aFew L w = nI k := by unfold aFew; rw [if_neg h0]; exact hf
    have hb0 : (bc (STU L w).1 = 0) = False := by rw [bc_0 hth]; exact eq_false h0
    have hbp : (bc (STU L w).1 ≤ 0) = False := eq_false (Int32.not_le.mpr (by rw [bc_pos hth]; exact h0))
    have q0 : (nI k = 0) = False := eq_false (nI_ne0 (by omega) (by omega))
    have q16 : ((16 : Int32) < nI k) = False := eq_false (Int32.not_lt.mpr (show nI k ≤ nI 16 from nI_le k16 (by omega)))
    have qp : (nI k ≤ 0) = False := eq_false (Int32.not_le.mpr (nI_lt (a := 0) (b := k) (by omega) (by omega)))
    obtain ⟨f2, u39, h2⟩ := r_would h1 (k := k) (by omega) k16
    have e2 : kn 82 1087 [.ref 0, .ref b, .ref s, .int z3, .int x4, .int (nI L.length), .int (nI kk), .long dg, .null, .ref ca, .int x10, .int x11, .int x12, .int x13, .int (bc (STU L w).1), .int (bc (HG L w kk).2.2), .int y16, .int y17, .ref ga, .int y19, .int (nI k), v21, v22, v23, v24, v25] [] M1 = kn 82 1131 [.ref 0, .ref b, .ref s, .int z3, .int x4, .int (nI L.length), .int (nI kk), .long dg, .null, .ref ca, .int x10, .int x11, .int x12, .int x13, .int (bc (STU L w).1), .int (bc (HG L w kk).2.2), .int y16, .int y17, .ref ga, .int y19, .int (nI k), v21, v22, v23, v24, v25] [] (kV M1 b f2 0) := by
      simp only [k_82_1087, k_82_1089, k_82_1096, k_82_1097, k_82_1099, k_82_1106, k_82_1107, k_82_1110, k_82_1112, k_82_1114, k_82_1117, k_82_1119, k_82_1122, k_82_1123, k_82_1125, k_82_1128, sm_0, sm_c, ct_i, ct_r, ct_n, ct_l, ct_d, tl_s, tl_n, oK_s, cS_s, cI_0, cI_9, cA_s, cR_s, cQ_s, cN_i, cN_r, cO_s, rS_s, rK_s, cK_i, cK_j, cK_d, if_true, if_false, true_or, or_true, Nat.reduceAdd, Nat.reduceLeDiff, Nat.zero_le, Nat.reduceEqDiff, Nat.reduceSub, eq_self, Nat.le_refl, ne_eq, not_false_eq_true, not_true_eq_false, i1_0, i0_1, kSm_0, kSm_1, kSm_2, kSm_3, kSm_4, x5_0, x5_1, x5_2, x5_3, x5_4, q0, hb0, q16, qp, hb, u39, hk0]
    have hl2 : kLe M1 (kV M1 b f2 0) 0 0 := ⟨Nat.le_refl _, Nat.le_refl _⟩
    rw [hf, e2]
    generalize kV M1 b f2 0 = M2 at h2 hl2
    have hb2 := h2.2.2.1.1
    have e3 : ∃ M3, kn 82 1131 [.ref 0, .ref b, .ref s, .int z3, .int x4, .int (nI L.length), .int (nI kk), .long dg, .null, .ref ca, .int x10, .int x11, .int x12, .int x13, .int (bc (STU L w).1), .int (bc (HG L w kk).2.2), .int y16, .int y17, .ref ga, .int y19, .int (nI k), v21, v22, v23, v24, v25] [] M2 = kn 82 1148 [.ref 0, .ref b, .ref s, .int z3, .int x4, .int (nI L.length), .int (nI kk), .long dg, .null, .ref ca, .int x10, .int x11, .int x12, .int x13, .int (bc (STU L w).1), .int (bc (HG L w kk).2.2), .int y16, .int y17, .ref ga, .int y19, .int (nI k), v21, v22, v23, v24, v25] [] M3 ∧ LI M3 b s n xs L w kk ∧ kLe M2 M3 0 0 := by
      by_cases hk1' : k = 1
      · refine ⟨M2, ?_, h2, ⟨Nat.le_refl _, Nat.le_refl _⟩⟩
        have e : (nI k ≤ 1) = True := by rw [hk1']; exact eq_true (Int32.le_refl _)
        simp only [k_82_1131, k_82_1133, k_82_1134, sm_0, sm_c, ct_i, ct_r, ct_n, ct_l, ct_d, tl_s, tl_n, oK_s, cS_s, cI_0, cI_9, cA_s, cR_s, cQ_s, cN_i, cN_r, cO_s, rS_s, rK_s, cK_i, cK_j, cK_d, if_true, if_false, true_or, or_true, Nat.reduceAdd, Nat.reduceLeDiff, Nat.zero_le, Nat.reduceEqDiff, Nat.reduceSub, eq_self, Nat.le_refl, ne_eq, not_false_eq_true, not_true_eq_false, i1_0, i0_1, kSm_0, kSm_1, kSm_2, kSm_3, kSm_4, x5_0, x5_1, x5_2, x5_3, x5_4, e]
      · have e : (nI k ≤ 1) = False := eq_false (nI_ge (a := 1) (b := k) (by omega) (by omega))
        have hsub : nI k - 1 = nI (k - 1) := nI_sub (a := k) (b := 1) (by omega)
        obtain ⟨f3, u39, h3⟩ := r_would h2 (k := k - 1) (by omega) (by omega)
        have hnz := eq_false (hkj (k - 1) (by omega) (by omega))
        refine ⟨kV M2 b f3 0, ?_, h3, ⟨Nat.le_refl _, Nat.le_refl _⟩⟩
        simp only [k_82_1131, k_82_1133, k_82_1134, k_82_1137, k_82_1138, k_82_1140, k_82_1141, k_82_1142, k_82_1145, sm_0, sm_c, ct_i, ct_r, ct_n, ct_l, ct_d, tl_s, tl_n, oK_s, cS_s, cI_0, cI_9, cA_s, cR_s, cQ_s, cN_i, cN_r, cO_s, rS_s, rK_s, cK_i, cK_j, cK_d, if_true, if_false, true_or, or_true, Nat.reduceAdd, Nat.reduceLeDiff, Nat.zero_le, Nat.reduceEqDiff, Nat.reduceSub, eq_self, Nat.le_refl, ne_eq, not_false_eq_true, not_true_eq_false, i1_0, i0_1, kSm_0, kSm_1, kSm_2, kSm_3, kSm_4, x5_0, x5_1, x5_2, x5_3, x5_4, e, hsub, hb2, u39, hnz]
    obtain ⟨M3, e3, h3, l3⟩ := e3
    refine ⟨M3, .int (nI k), rfl, ?_, h3, ((hl1.tr hl2).tr l3).mo (by omega) (by omega)⟩
    rw [e3]
    by_cases hfl : bc (HG L w kk).2.2 = 0
    · have hkk : (nI k ≤ nI kk) = True := eq_true (nI_le (by
        apply Classical.byContradiction
        intro hgt
        exact hkj kk (by omega) (by omega) hfl) (by omega))
      have hfl := eq_true hfl
      simp only [k_82_1148, k_82_1150, k_82_1153, k_82_1155, k_82_1158, k_82_1160, k_82_1162, sm_0, sm_c, ct_i, ct_r, ct_n, ct_l, ct_d, tl_s, tl_n, oK_s, cS_s, cI_0, cI_9, cA_s, cR_s, cQ_s, cN_i, cN_r, cO_s, rS_s, rK_s, cK_i, cK_j, cK_d, if_true, if_false, true_or, or_true, Nat.reduceAdd, Nat.reduceLeDiff, Nat.zero_le, Nat.reduceEqDiff, Nat.reduceSub, eq_self, Nat.le_refl, ne_eq, not_false_eq_true, not_true_eq_false, i1_0, i0_1, kSm_0, kSm_1, kSm_2, kSm_3, kSm_4, x5_0, x5_1, x5_2, x5_3, x5_4, hfl, hbp, hkk]
    · have hfl := eq_false hfl
      simp only [k_82_1148, k_82_1150, sm_0, sm_c, ct_i, ct_r, ct_n, ct_l, ct_d, tl_s, tl_n, oK_s, cS_s, cI_0, cI_9, cA_s, cR_s, cQ_s, cN_i, cN_r, cO_s, rS_s, rK_s, cK_i, cK_j, cK_d, if_true, if_false, true_or, or_true, Nat.reduceAdd, Nat.reduceLeDiff, Nat.zero_le, Nat.reduceEqDiff, Nat.reduceSub, eq_self, Nat.le_refl, ne_eq, not_false_eq_true, not_true_eq_false, i1_0, i0_1, kSm_0, kSm_1, kSm_2, kSm_3, kSm_4, x5_0, x5_1, x5_2, x5_3, x5_4, hfl]
theorem r_adv (h : LI M b s n xs L w kk) (hdg : dg = aDig L w kk) (c20 : v20.category = 1) : ∃ (M' : kM) (v21' v22' : Value), kn 82 1167 [.ref 0, .ref b, .ref s, .int z3, .int x4, .int (nI L.length), .int (nI kk), .long dg, .null, .ref ca, .int x10, .int x11, .int x12, .int x13, .int (bc (STU L w).1), .int (bc (HG L w kk).2.2), .int y16, .int y17, .ref ga, .int y19, v20, v21, v22, v23, v24, v25] [] M = kn 82 1273 [.ref 0, .ref b, .ref s, .int z3, .int x4, .int (nI L.length), .int (nI kk), .long dg, .null, .ref ca, .int x10, .int x11, .int x12, .int x13, .int (bc (STU L w).1), .int (bc (HG L w kk).2.2), .int y16, .int y17, .ref ga, .int y19, v20, v21', v22', v23, v24, v25] [] M' ∧ LI M' b s n xs L w kk ∧ kLe M M' 140 2752 := by
  have hb := h.2.2.1.1
  have hK := h.2.2.1.2.2
  have hO := h.2.2.2.1.ok
  have hlen := h.2.2.2.1.len
  obtain ⟨hw, hk1, hk8⟩ := h.2.2.2.2
  obtain ⟨f1, u41, c41, -⟩ := s_41 (kk := kk) (show kk ≤ 16 by omega) (M := (M.2.1 b, zL)) hK
  have h1 := h.mut c41
  have e1 : kn 82 1167 [.ref 0, .ref b, .ref s, .int z3, .int x4, .int (nI L.length), .int (nI kk), .long dg, .null, .ref ca, .int x10, .int x11, .int x12, .int x13, .int (bc (STU L w).1), .int (bc (HG L w kk).2.2), .int y16, .int y17, .ref ga, .int y19, v20, v21, v22, v23, v24, v25] [] M = kn 82 1173 [.ref 0, .ref b, .ref s, .int z3, .int x4, .int (nI L.length), .int (nI kk), .long dg, .null, .ref ca, .int x10, .int x11, .int x12, .int x13, .int (bc (STU L w).1), .int (bc (HG L w kk).2.2), .int y16, .int y17, .ref ga, .int y19, v20, .int (aAdv L w kk), v22, v23, v24, v25] [] (kV M b f1 0) := by
    simp only [k_82_1167, k_82_1168, sm_0, sm_c, ct_i, ct_r, ct_n, ct_l, ct_d, tl_s, tl_n, oK_s, cS_s, cI_0, cI_9, cA_s, cR_s, cQ_s, cN_i, cN_r, cO_s, rS_s, rK_s, cK_i, cK_j, cK_d, if_true, if_false, true_or, or_true, Nat.reduceAdd, Nat.reduceLeDiff, Nat.zero_le, Nat.reduceEqDiff, Nat.reduceSub, eq_self, Nat.le_refl, ne_eq, not_false_eq_true, not_true_eq_false, i1_0, i0_1, kSm_0, kSm_1, kSm_2, kSm_3, kSm_4, x5_0, x5_1, x5_2, x5_3, x5_4, hb, u41]
    rw [k_82_1171 c20]
  have hl1 : kLe M (kV M b f1 0) 0 0 := ⟨Nat.le_refl _, Nat.le_refl _⟩
  rw [e1]
  generalize kV M b f1 0 = M1 at h1 hl1
  clear hb hK e1 u41 c41
  have hb := h1.2.2.1.1
  have u43 := s_43 (L := L) (w := w) (kk := kk) (M := (M1.2.1 b, zL)) h1.2.2.1.2.2
  have hlg := lg_self (aDig L w kk)
  rcases advR_spec (g := fun d => aCnt (L.eraseIdx d) w kk 8) L.length 0 (-1) 0 (by omega) (Or.inl ⟨rfl, rfl⟩) with ⟨ha, h0⟩ | ⟨x, hx, ha, hmin⟩
  · have ha : aAdv L w kk = -1 := ha
    have h0 : L.length = 0 := by omega
    refine ⟨M1, .int (-1), v22, ?_, h1, hl1.mo (by omega) (by omega)⟩
    have e0 : (nI L.length = 0) = True := by rw [h0]; exact eq_true rfl
    have i01 : ((0 : Int32) ≤ -1) = False := by decide
    have i02 : (nI L.length ≤ -1) = False := by rw [h0]; exact i01
    rw [ha, hdg]
    simp only [k_82_1173, k_82_1175, k_82_1178, k_82_1179, k_82_1183, k_82_1185, k_82_1188, k_82_1189, k_82_1193, k_82_1196, k_82_1198, k_82_1200, k_82_1203, k_82_1204, k_82_1207, k_82_1209, k_82_1210, sm_0, sm_c, ct_i, ct_r, ct_n, ct_l, ct_d, tl_s, tl_n, oK_s, cS_s, cI_0, cI_9, cA_s, cR_s, cQ_s, cN_i, cN_r, cO_s, rS_s, rK_s, cK_i, cK_j, cK_d, if_true, if_false, true_or, or_true, Nat.reduceAdd, Nat.reduceLeDiff, Nat.zero_le, Nat.reduceEqDiff, Nat.reduceSub, eq_self, Nat.le_refl, ne_eq, not_false_eq_true, not_true_eq_false, i1_0, i0_1, kSm_0, kSm_1, kSm_2, kSm_3, kSm_4, x5_0, x5_1, x5_2, x5_3, x5_4, i01, i02, e0, hb, u43, kV_id, hlg]
    simp only [k_82_1215, k_82_1217, k_82_1220, sm_0, sm_c, ct_i, ct_r, ct_n, ct_l, ct_d, tl_s, tl_n, oK_s, cS_s, cI_0, cI_9, cA_s, cR_s, cQ_s, cN_i, cN_r, cO_s, rS_s, rK_s, cK_i, cK_j, cK_d, if_true, if_false, true_or, or_true, Nat.reduceAdd, Nat.reduceLeDiff, Nat.zero_le, Nat.reduceEqDiff, Nat.reduceSub, eq_self, Nat.le_refl, ne_eq, not_false_eq_true, not_true_eq_false, i1_0, i0_1, kSm_0, kSm_1, kSm_2, kSm_3, kSm_4, x5_0, x5_1, x5_2, x5_3, x5_4, e0]
  · have ha : aAdv L w kk = nI x := ha
    rw [Nat.zero_add] at hx
    have e0 : (nI L.length = 0) = False := eq_false (nI_ne0 (by omega) (by omega))
    have i01 : ((0 : Int32) ≤ nI x) = True := eq_true (Int32.not_lt.mp (nI_pos (by omega)))
    have i02 : (nI L.length ≤ nI x) = False := eq_false (nI_ge hx (by omega))
    have ul : ∀ v, kn 77 0 [.int v, .int (nI L.length)] [] M1 = some (some (.int (nI (blw v L.length))), M1) := fun v => s_bl (by omega) (by omega)
    have hy := blw_lt (v := x4 >>> (4 &&& 31)) (n := L.length) (by omega)
    have e2 : kn 82 1173 [.ref 0, .ref b, .ref s, .int z3, .int x4, .int (nI L.length), .int (nI kk), .long dg, .null, .ref ca, .int x10, .int x11, .int x12, .int x13, .int (bc (STU L w).1), .int (bc (HG L w kk).2.2), .int y16, .int y17, .ref ga, .int y19, v20, .int (nI x), v22, v23, v24, v25] [] M1 = kn 82 1234 [.ref 0, .ref b, .ref s, .int z3, .int x4, .int (nI L.length), .int (nI kk), .long dg, .null, .ref ca, .int x10, .int x11, .int x12, .int x13, .int (bc (STU L w).1), .int (bc (HG L w kk).2.2), .int y16, .int y17, .ref ga, .int y19, v20, .int (nI x), .int (nI (blw (x4 >>> (4 &&& 31)) L.length)), v23, v24, v25] [] M1 := by
      rw [hdg]
      simp only [k_82_1173, k_82_1175, k_82_1182, k_82_1183, k_82_1185, k_82_1192, k_82_1193, k_82_1196, k_82_1198, k_82_1200, k_82_1203, k_82_1204, k_82_1207, k_82_1209, k_82_1210, sm_0, sm_c, ct_i, ct_r, ct_n, ct_l, ct_d, tl_s, tl_n, oK_s, cS_s, cI_0, cI_9, cA_s, cR_s, cQ_s, cN_i, cN_r, cO_s, rS_s, rK_s, cK_i, cK_j, cK_d, if_true, if_false, true_or, or_true, Nat.reduceAdd, Nat.reduceLeDiff, Nat.zero_le, Nat.reduceEqDiff, Nat.reduceSub, eq_self, Nat.le_refl, ne_eq, not_false_eq_true, not_true_eq_false, i1_0, i0_1, kSm_0, kSm_1, kSm_2, kSm_3, kSm_4, x5_0, x5_1, x5_2, x5_3, x5_4, i01, i02, e0, hb, u43, kV_id, hlg]
      simp only [k_82_1215, k_82_1217, k_82_1223, k_82_1225, k_82_1226, k_82_1227, k_82_1229, sm_0, sm_c, ct_i, ct_r, ct_n, ct_l, ct_d, tl_s, tl_n, oK_s, cS_s, cI_0, cI_9, cA_s, cR_s, cQ_s, cN_i, cN_r, cO_s, rS_s, rK_s, cK_i, cK_j, cK_d, if_true, if_false, true_or, or_true, Nat.reduceAdd, Nat.reduceLeDiff, Nat.zero_le, Nat.reduceEqDiff, Nat.reduceSub, eq_self, Nat.le_refl, ne_eq, not_false_eq_true, not_true_eq_false, i1_0, i0_1, kSm_0, kSm_1, kSm_2, kSm_3, kSm_4, x5_0, x5_1, x5_2, x5_3, x5_4, e0, ul]
      rw [k_82_1232 (ct_i _)]
    rw [ha, e2]
    generalize blw (x4 >>> (4 &&& 31)) L.length = y at hy
    have hm := hmin y (by omega)
    obtain ⟨M2, w2, h2, l2⟩ := s_k83 hx h1
    obtain ⟨M3, w3, h3, l3⟩ := s_k83 hy h2
    have hgt := eq_false (Int32.not_lt.mpr hm.1)
    have e3 : kn 82 1234 [.ref 0, .ref b, .ref s, .int z3, .int x4, .int (nI L.length), .int (nI kk), .long dg, .null, .ref ca, .int x10, .int x11, .int x12, .int x13, .int (bc (STU L w).1), .int (bc (HG L w kk).2.2), .int y16, .int y17, .ref ga, .int y19, v20, .int (nI x), .int (nI y), v23, v24, v25] [] M1 = kn 82 1249 [.ref 0, .ref b, .ref s, .int z3, .int x4, .int (nI L.length), .int (nI kk), .long dg, .null, .ref ca, .int x10, .int x11, .int x12, .int x13, .int (bc (STU L w).1), .int (bc (HG L w kk).2.2), .int y16, .int y17, .ref ga, .int y19, v20, .int (nI x), .int (nI y), v23, v24, v25] [] M3 := by
      simp only [k_82_1234, k_82_1235, k_82_1237, k_82_1240, k_82_1241, k_82_1243, k_82_1246, sm_0, sm_c, ct_i, ct_r, ct_n, ct_l, ct_d, tl_s, tl_n, oK_s, cS_s, cI_0, cI_9, cA_s, cR_s, cQ_s, cN_i, cN_r, cO_s, rS_s, rK_s, cK_i, cK_j, cK_d, if_true, if_false, true_or, or_true, Nat.reduceAdd, Nat.reduceLeDiff, Nat.zero_le, Nat.reduceEqDiff, Nat.reduceSub, eq_self, Nat.le_refl, ne_eq, not_false_eq_true, not_true_eq_false, i1_0, i0_1, kSm_0, kSm_1, kSm_2, kSm_3, kSm_4, x5_0, x5_1, x5_2, x5_3, x5_4, w2, w3, hgt]
    rw [e3]
    by_cases hyx : y < x
    · have hlt : (nI x ≤ nI y) = False := eq_false (nI_ge hyx (by omega))
      obtain ⟨M4, w4, h4, l4⟩ := s_k83 hx h3
      obtain ⟨M5, w5, h5, l5⟩ := s_k83 hy h4
      have hne := eq_false (hm.2 hyx)
      refine ⟨M5, .int (nI x), .int (nI y), ?_, h5, ((((hl1.tr l2).tr l3).tr l4).tr l5).mo (by omega) (by omega)⟩
      simp only [k_82_1249, k_82_1251, k_82_1253, k_82_1256, k_82_1257, k_82_1259, k_82_1262, k_82_1263, k_82_1265, k_82_1268, sm_0, sm_c, ct_i, ct_r, ct_n, ct_l, ct_d, tl_s, tl_n, oK_s, cS_s, cI_0, cI_9, cA_s, cR_s, cQ_s, cN_i, cN_r, cO_s, rS_s, rK_s, cK_i, cK_j, cK_d, if_true, if_false, true_or, or_true, Nat.reduceAdd, Nat.reduceLeDiff, Nat.zero_le, Nat.reduceEqDiff, Nat.reduceSub, eq_self, Nat.le_refl, ne_eq, not_false_eq_true, not_true_eq_false, i1_0, i0_1, kSm_0, kSm_1, kSm_2, kSm_3, kSm_4, x5_0, x5_1, x5_2, x5_3, x5_4, hlt, w4, w5, hne]
    · have hlt : (nI x ≤ nI y) = True := eq_true (nI_le (by omega) (by omega))
      refine ⟨M3, .int (nI x), .int (nI y), ?_, h3, ((hl1.tr l2).tr l3).mo (by omega) (by omega)⟩
      simp only [k_82_1249, k_82_1251, k_82_1253, sm_0, sm_c, ct_i, ct_r, ct_n, ct_l, ct_d, tl_s, tl_n, oK_s, cS_s, cI_0, cI_9, cA_s, cR_s, cQ_s, cN_i, cN_r, cO_s, rS_s, rK_s, cK_i, cK_j, cK_d, if_true, if_false, true_or, or_true, Nat.reduceAdd, Nat.reduceLeDiff, Nat.zero_le, Nat.reduceEqDiff, Nat.reduceSub, eq_self, Nat.le_refl, ne_eq, not_false_eq_true, not_true_eq_false, i1_0, i0_1, kSm_0, kSm_1, kSm_2, kSm_3, kSm_4, x5_0, x5_1, x5_2, x5_3, x5_4, hlt]
end
