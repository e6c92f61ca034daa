/-! the law: a round, the deeds put together -/
section
variable {M : kM} {b s n kk ca : Nat} {xs : Nat → Int32} {L : List Dd} {w : Int32} {d : Nat} {z3 x4 x10 x11 x12 x13 : Int32} {dg : Int64} {v15 v16 v17 v18 v19 v20 v21 v22 v23 v24 v25 : Value}
theorem spd_law {d : Dd} (h : okD d) (hO : okL L) (hl : L.length ≤ 30) (hw : s16 w) (hk : 1 ≤ kk) (hk2 : kk ≤ 16) (h1 : d.2.2.2.2 = 1) : ∃ p u, p < 16 ∧ u < 16 ∧ d.1 = nI p ∧ d.2.1 = nI u ∧ spd (HG L w kk).1 d = (decide (¬ (HG L w kk).1 p < 0) && decide ((HG L w kk).1 p = (HG L w kk).1 u)) := by
  obtain ⟨p, hp, e⟩ := h.1
  obtain ⟨-, ⟨u, hu, e2⟩, -⟩ := h.2.2.2.2.resolve_left (by rw [h1]; decide)
  refine ⟨p, u, hp, hu, e, e2, ?_⟩
  rw [spd_hand h hO hl hw hk hk2, h1, e, e2, nI_clamp (by omega), nI_clamp (by omega)]
  simp
theorem d_tail (h : LI M b s n xs L w kk) (hd : d < L.length) : kn 82 378 [.ref 0, .ref b, .ref s, .int z3, .int x4, .int (nI L.length), .int (nI kk), .long dg, .null, .ref ca, .int x10, .int x11, .int x12, .int x13, .int (nI d), .int (dd L d).1, .int (dd L d).2.1, .int (dd L d).2.2.1, .int (dd L d).2.2.2.1, .int (dd L d).2.2.2.2, .int (bc (liveL (L.drop (d + 1)) w)), .int 16, v22, v23, v24, v25] [] M = kn 82 125 [.ref 0, .ref b, .ref s, .int z3, .int x4, .int (nI L.length), .int (nI kk), .long dg, .null, .ref ca, .int (if isP4 (dd L d) = true then x10 + 1 else x10), .int (if spd (HG L w kk).1 (dd L d) = true then x11 + 1 else x11), .int (if spd (HG L w kk).1 (dd L d) = true then x12 else x12 + (dd L d).2.2.2.1), .int (x13 + bc (liveL (L.drop (d + 1)) w)), .int (nI (d + 1)), .int (dd L d).1, .int (dd L d).2.1, .int (dd L d).2.2.1, .int (dd L d).2.2.2.1, .int (dd L d).2.2.2.2, .int (bc (liveL (L.drop (d + 1)) w)), .int (b01 (spd (HG L w kk).1 (dd L d))), v22, v23, v24, v25] [] M := by
  have hb := h.2.2.1.1
  have hK := h.2.2.1.2.2
  have hlen := h.2.2.2.1.len
  have hO := h.2.2.2.1.ok
  obtain ⟨hw, hk1, hk8⟩ := h.2.2.2.2
  have hok := hO _ (dd_mem hd)
  have n10 : ((1 : Int32) = 0) = False := by decide
  have u5 : rn none 32 0 [.ref 0, .int (nI d), .int 5] [] (M.2.1 b, zL) = some (.inl (some (.int (bc (liveL (L.drop (d + 1)) w)))), (M.2.1 b, zL)) := s_32 hd (j := 5) (by omega) (M := (M.2.1 b, zL)) hK
  have u6 : rn none 32 0 [.ref 0, .int (nI d), .int 6] [] (M.2.1 b, zL) = some (.inl (some (.int (bc (liveL (L.drop d) w)))), (M.2.1 b, zL)) := s_32 hd (j := 6) (by omega) (M := (M.2.1 b, zL)) hK
  have u38 := s_38 (kk := kk) (M := (M.2.1 b, zL)) hK
  have hcr : (crw w L (bc (liveL L w)) < bc (liveL (L.drop (d + 1)) w)) = False := eq_false (Int32.not_lt.mpr (crw_ge L d _ hd))
  have e1 : kn 82 378 [.ref 0, .ref b, .ref s, .int z3, .int x4, .int (nI L.length), .int (nI kk), .long dg, .null, .ref ca, .int x10, .int x11, .int x12, .int x13, .int (nI d), .int (dd L d).1, .int (dd L d).2.1, .int (dd L d).2.2.1, .int (dd L d).2.2.2.1, .int (dd L d).2.2.2.2, .int (bc (liveL (L.drop (d + 1)) w)), .int 16, v22, v23, v24, v25] [] M = kn 82 431 [.ref 0, .ref b, .ref s, .int z3, .int x4, .int (nI L.length), .int (nI kk), .long dg, .null, .ref ca, .int x10, .int x11, .int x12, .int (x13 + bc (liveL (L.drop (d + 1)) w)), .int (nI d), .int (dd L d).1, .int (dd L d).2.1, .int (dd L d).2.2.1, .int (dd L d).2.2.2.1, .int (dd L d).2.2.2.2, .int (bc (liveL (L.drop (d + 1)) w)), .int 16, v22, v23, v24, v25] [] M := by
    by_cases hd0 : d = 0
    · have e0 : (nI d ≤ 0) = True := by rw [hd0]; exact eq_true (Int32.le_refl _)
      simp only [k_82_378, k_82_380, k_82_382, k_82_383, k_82_385, k_82_387, k_82_388, k_82_390, k_82_391, k_82_394, k_82_397, k_82_399, k_82_400, k_82_403, k_82_406, k_82_408, sm_0, sm_c, ct_i, ct_r, ct_n, ct_l, ct_d, tl_s, tl_n, oK_s, cS_s, cI_0, cI_9, cA_s, cR_s, cQ_s, cN_i, cN_r, cO_s, rS_s, rK_s, cK_i, cK_j, cK_d, if_true, if_false, true_or, or_true, Nat.reduceAdd, Nat.reduceLeDiff, Nat.zero_le, Nat.reduceEqDiff, Nat.reduceSub, eq_self, Nat.le_refl, ne_eq, not_false_eq_true, not_true_eq_false, i1_0, i0_1, kSm_0, kSm_1, kSm_2, kSm_3, kSm_4, x5_0, x5_1, x5_2, x5_3, x5_4, hb, u5, u38, kV_id, hcr, e0]
    · have e0 : (nI d ≤ 0) = False := eq_false (fun hh => by
        have := nI_lt (a := 0) (b := d) (by omega) (by omega)
        exact Int32.not_lt.mpr hh this)
      have hsub : nI d - 1 = nI (d - 1) := nI_sub (a := d) (b := 1) (by omega)
      have u5b : rn none 32 0 [.ref 0, .int (nI (d - 1)), .int 5] [] (M.2.1 b, zL) = some (.inl (some (.int (bc (liveL (L.drop (d - 1 + 1)) w)))), (M.2.1 b, zL)) := s_32 (show d - 1 < L.length by omega) (j := 5) (by omega) (M := (M.2.1 b, zL)) hK
      rw [show d - 1 + 1 = d by omega] at u5b
      simp only [k_82_378, k_82_380, k_82_382, k_82_383, k_82_385, k_82_387, k_82_388, k_82_390, k_82_391, k_82_394, k_82_397, k_82_399, k_82_400, k_82_403, k_82_406, k_82_408, k_82_411, k_82_412, k_82_414, k_82_416, k_82_419, k_82_420, k_82_422, k_82_423, k_82_424, k_82_425, k_82_428, sm_0, sm_c, ct_i, ct_r, ct_n, ct_l, ct_d, tl_s, tl_n, oK_s, cS_s, cI_0, cI_9, cA_s, cR_s, cQ_s, cN_i, cN_r, cO_s, rS_s, rK_s, cK_i, cK_j, cK_d, if_true, if_false, true_or, or_true, Nat.reduceAdd, Nat.reduceLeDiff, Nat.zero_le, Nat.reduceEqDiff, Nat.reduceSub, eq_self, Nat.le_refl, ne_eq, not_false_eq_true, not_true_eq_false, i1_0, i0_1, kSm_0, kSm_1, kSm_2, kSm_3, kSm_4, x5_0, x5_1, x5_2, x5_3, x5_4, hb, u5, u6, u5b, u38, kV_id, hcr, e0, hsub]
  rw [e1]
  generalize x13 + bc (liveL (L.drop (d + 1)) w) = y13
  have e2 : kn 82 431 [.ref 0, .ref b, .ref s, .int z3, .int x4, .int (nI L.length), .int (nI kk), .long dg, .null, .ref ca, .int x10, .int x11, .int x12, .int y13, .int (nI d), .int (dd L d).1, .int (dd L d).2.1, .int (dd L d).2.2.1, .int (dd L d).2.2.2.1, .int (dd L d).2.2.2.2, .int (bc (liveL (L.drop (d + 1)) w)), .int 16, v22, v23, v24, v25] [] M = kn 82 488 [.ref 0, .ref b, .ref s, .int z3, .int x4, .int (nI L.length), .int (nI kk), .long dg, .null, .ref ca, .int x10, .int x11, .int x12, .int y13, .int (nI d), .int (dd L d).1, .int (dd L d).2.1, .int (dd L d).2.2.1, .int (dd L d).2.2.2.1, .int (dd L d).2.2.2.2, .int (bc (liveL (L.drop (d + 1)) w)), .int (b01 (spd (HG L w kk).1 (dd L d))), v22, v23, v24, v25] [] M := by
    rcases hok.2.2.2.2 with h0 | ⟨h1, hu, hv⟩
    · have hs : spd (HG L w kk).1 (dd L d) = false := by unfold spd; rw [h0]; simp
      rw [hs, h0]
      simp only [k_82_431, k_82_433, k_82_449, k_82_451, k_82_485, sm_0, sm_c, ct_i, ct_r, ct_n, ct_l, ct_d, tl_s, tl_n, oK_s, cS_s, cI_0, cI_9, cA_s, cR_s, cQ_s, cN_i, cN_r, cO_s, rS_s, rK_s, cK_i, cK_j, cK_d, if_true, if_false, true_or, or_true, Nat.reduceAdd, Nat.reduceLeDiff, Nat.zero_le, Nat.reduceEqDiff, Nat.reduceSub, eq_self, Nat.le_refl, ne_eq, not_false_eq_true, not_true_eq_false, i1_0, i0_1, kSm_0, kSm_1, kSm_2, kSm_3, kSm_4, x5_0, x5_1, x5_2, x5_3, x5_4, b01, Bool.false_eq_true]
      rw [k_82_486 (ct_i _)]
    · obtain ⟨p, u, hp, hu16, ep, eu, hs⟩ := spd_law (w := w) hok hO hlen hw hk1 (show kk ≤ 16 by omega) h1
      have u3p : rn none 35 0 [.ref 0, .int (nI p), .int 3] [] (M.2.1 b, zL) = some (.inl (some (.int ((HG L w kk).1 p))), (M.2.1 b, zL)) := s_35 hp (j := 3) (by omega) (M := (M.2.1 b, zL)) hK
      have u3u : rn none 35 0 [.ref 0, .int (nI u), .int 3] [] (M.2.1 b, zL) = some (.inl (some (.int ((HG L w kk).1 u))), (M.2.1 b, zL)) := s_35 hu16 (j := 3) (by omega) (M := (M.2.1 b, zL)) hK
      have hu0 : ((0 : Int32) ≤ nI u) = True := eq_true (Int32.not_lt.mp (nI_pos (by omega)))
      rw [hs, h1, hv, ep, eu]
      by_cases hneg : (HG L w kk).1 p < 0
      · have hneg := eq_true hneg
        simp only [k_82_431, k_82_433, k_82_436, k_82_438, k_82_439, k_82_442, k_82_444, k_82_447, k_82_448, k_82_449, k_82_451, k_82_454, k_82_455, k_82_457, k_82_458, k_82_461, k_82_485, sm_0, sm_c, ct_i, ct_r, ct_n, ct_l, ct_d, tl_s, tl_n, oK_s, cS_s, cI_0, cI_9, cA_s, cR_s, cQ_s, cN_i, cN_r, cO_s, rS_s, rK_s, cK_i, cK_j, cK_d, if_true, if_false, true_or, or_true, Nat.reduceAdd, Nat.reduceLeDiff, Nat.zero_le, Nat.reduceEqDiff, Nat.reduceSub, eq_self, Nat.le_refl, ne_eq, not_false_eq_true, not_true_eq_false, i1_0, i0_1, kSm_0, kSm_1, kSm_2, kSm_3, kSm_4, x5_0, x5_1, x5_2, x5_3, x5_4, n10, hu0, hb, u3p, kV_id, hneg, decide_false, Bool.false_and, b01, Bool.false_eq_true]
        rw [k_82_486 (ct_i _)]
      · have hneg := eq_false hneg
        by_cases he : (HG L w kk).1 p = (HG L w kk).1 u
        · have he := eq_true he
          simp only [k_82_431, k_82_433, k_82_436, k_82_438, k_82_439, k_82_442, k_82_444, k_82_447, k_82_448, k_82_449, k_82_451, k_82_454, k_82_455, k_82_457, k_82_458, k_82_461, k_82_464, k_82_465, k_82_467, k_82_468, k_82_471, k_82_472, k_82_474, k_82_475, k_82_478, k_82_481, k_82_482, sm_0, sm_c, ct_i, ct_r, ct_n, ct_l, ct_d, tl_s, tl_n, oK_s, cS_s, cI_0, cI_9, cA_s, cR_s, cQ_s, cN_i, cN_r, cO_s, rS_s, rK_s, cK_i, cK_j, cK_d, if_true, if_false, true_or, or_true, Nat.reduceAdd, Nat.reduceLeDiff, Nat.zero_le, Nat.reduceEqDiff, Nat.reduceSub, eq_self, Nat.le_refl, ne_eq, not_false_eq_true, not_true_eq_false, i1_0, i0_1, kSm_0, kSm_1, kSm_2, kSm_3, kSm_4, x5_0, x5_1, x5_2, x5_3, x5_4, n10, hu0, hb, u3p, u3u, kV_id, hneg, he, decide_true, Bool.true_and, b01]
          rw [k_82_486 (ct_i _)]
        · have he := eq_false he
          simp only [k_82_431, k_82_433, k_82_436, k_82_438, k_82_439, k_82_442, k_82_444, k_82_447, k_82_448, k_82_449, k_82_451, k_82_454, k_82_455, k_82_457, k_82_458, k_82_461, k_82_464, k_82_465, k_82_467, k_82_468, k_82_471, k_82_472, k_82_474, k_82_475, k_82_478, k_82_485, sm_0, sm_c, ct_i, ct_r, ct_n, ct_l, ct_d, tl_s, tl_n, oK_s, cS_s, cI_0, cI_9, cA_s, cR_s, cQ_s, cN_i, cN_r, cO_s, rS_s, rK_s, cK_i, cK_j, cK_d, if_true, if_false, true_or, or_true, Nat.reduceAdd, Nat.reduceLeDiff, Nat.zero_le, Nat.reduceEqDiff, Nat.reduceSub, eq_self, Nat.le_refl, ne_eq, not_false_eq_true, not_true_eq_false, i1_0, i0_1, kSm_0, kSm_1, kSm_2, kSm_3, kSm_4, x5_0, x5_1, x5_2, x5_3, x5_4, n10, hu0, hb, u3p, u3u, kV_id, hneg, he, decide_true, decide_false, Bool.true_and, b01, Bool.false_eq_true]
          rw [k_82_486 (ct_i _)]
  rw [e2]
  have e3 : ∀ c, kn 82 488 [.ref 0, .ref b, .ref s, .int z3, .int x4, .int (nI L.length), .int (nI kk), .long dg, .null, .ref ca, .int x10, .int x11, .int x12, .int y13, .int (nI d), .int (dd L d).1, .int (dd L d).2.1, .int (dd L d).2.2.1, .int (dd L d).2.2.2.1, .int (dd L d).2.2.2.2, .int (bc (liveL (L.drop (d + 1)) w)), .int (b01 c), v22, v23, v24, v25] [] M = kn 82 125 [.ref 0, .ref b, .ref s, .int z3, .int x4, .int (nI L.length), .int (nI kk), .long dg, .null, .ref ca, .int (if isP4 (dd L d) = true then x10 + 1 else x10), .int (if c = true then x11 + 1 else x11), .int (if c = true then x12 else x12 + (dd L d).2.2.2.1), .int y13, .int (nI (d + 1)), .int (dd L d).1, .int (dd L d).2.1, .int (dd L d).2.2.1, .int (dd L d).2.2.2.1, .int (dd L d).2.2.2.2, .int (bc (liveL (L.drop (d + 1)) w)), .int (b01 c), v22, v23, v24, v25] [] M := by
    intro c
    have e4 : kn 82 488 [.ref 0, .ref b, .ref s, .int z3, .int x4, .int (nI L.length), .int (nI kk), .long dg, .null, .ref ca, .int x10, .int x11, .int x12, .int y13, .int (nI d), .int (dd L d).1, .int (dd L d).2.1, .int (dd L d).2.2.1, .int (dd L d).2.2.2.1, .int (dd L d).2.2.2.2, .int (bc (liveL (L.drop (d + 1)) w)), .int (b01 c), v22, v23, v24, v25] [] M = kn 82 503 [.ref 0, .ref b, .ref s, .int z3, .int x4, .int (nI L.length), .int (nI kk), .long dg, .null, .ref ca, .int (if isP4 (dd L d) = true then x10 + 1 else x10), .int x11, .int x12, .int y13, .int (nI d), .int (dd L d).1, .int (dd L d).2.1, .int (dd L d).2.2.1, .int (dd L d).2.2.2.1, .int (dd L d).2.2.2.2, .int (bc (liveL (L.drop (d + 1)) w)), .int (b01 c), v22, v23, v24, v25] [] M := by
      unfold isP4
      rcases hok.2.2.2.2 with h0 | ⟨h1, -⟩
      · rw [h0]
        simp only [k_82_488, k_82_490, k_82_492, k_82_495, k_82_496, k_82_499, k_82_500, sm_0, sm_c, ct_i, ct_r, ct_n, ct_l, ct_d, tl_s, tl_n, oK_s, cS_s, cI_0, cI_9, cA_s, cR_s, cQ_s, cN_i, cN_r, cO_s, rS_s, rK_s, cK_i, cK_j, cK_d, if_true, if_false, true_or, or_true, Nat.reduceAdd, Nat.reduceLeDiff, Nat.zero_le, Nat.reduceEqDiff, Nat.reduceSub, eq_self, Nat.le_refl, ne_eq, not_false_eq_true, not_true_eq_false, i1_0, i0_1, kSm_0, kSm_1, kSm_2, kSm_3, kSm_4, x5_0, x5_1, x5_2, x5_3, x5_4, decide_false, Bool.false_eq_true, Int32.add_zero]
        rw [k_82_501 (ct_r _)]
      · rw [h1]
        simp only [k_82_488, k_82_490, k_82_492, k_82_495, k_82_496, k_82_499, k_82_500, sm_0, sm_c, ct_i, ct_r, ct_n, ct_l, ct_d, tl_s, tl_n, oK_s, cS_s, cI_0, cI_9, cA_s, cR_s, cQ_s, cN_i, cN_r, cO_s, rS_s, rK_s, cK_i, cK_j, cK_d, if_true, if_false, true_or, or_true, Nat.reduceAdd, Nat.reduceLeDiff, Nat.zero_le, Nat.reduceEqDiff, Nat.reduceSub, eq_self, Nat.le_refl, ne_eq, not_false_eq_true, not_true_eq_false, i1_0, i0_1, kSm_0, kSm_1, kSm_2, kSm_3, kSm_4, x5_0, x5_1, x5_2, x5_3, x5_4, n10, decide_true]
        rw [k_82_501 (ct_r _)]
    rw [e4]
    generalize (if isP4 (dd L d) = true then x10 + 1 else x10) = y10
    cases c with
    | true =>
      simp only [k_82_503, k_82_505, k_82_507, k_82_510, k_82_511, k_82_514, k_82_515, sm_0, sm_c, ct_i, ct_r, ct_n, ct_l, ct_d, tl_s, tl_n, oK_s, cS_s, cI_0, cI_9, cA_s, cR_s, cQ_s, cN_i, cN_r, cO_s, rS_s, rK_s, cK_i, cK_j, cK_d, if_true, if_false, true_or, or_true, Nat.reduceAdd, Nat.reduceLeDiff, Nat.zero_le, Nat.reduceEqDiff, Nat.reduceSub, eq_self, Nat.le_refl, ne_eq, not_false_eq_true, not_true_eq_false, i1_0, i0_1, kSm_0, kSm_1, kSm_2, kSm_3, kSm_4, x5_0, x5_1, x5_2, x5_3, x5_4, n10, b01]
      rw [k_82_516 (ct_i _)]
      simp only [k_82_518, k_82_520, k_82_522, k_82_525, k_82_526, k_82_529, k_82_531, sm_0, sm_c, ct_i, ct_r, ct_n, ct_l, ct_d, tl_s, tl_n, oK_s, cS_s, cI_0, cI_9, cA_s, cR_s, cQ_s, cN_i, cN_r, cO_s, rS_s, rK_s, cK_i, cK_j, cK_d, if_true, if_false, true_or, or_true, Nat.reduceAdd, Nat.reduceLeDiff, Nat.zero_le, Nat.reduceEqDiff, Nat.reduceSub, eq_self, Nat.le_refl, ne_eq, not_false_eq_true, not_true_eq_false, i1_0, i0_1, kSm_0, kSm_1, kSm_2, kSm_3, kSm_4, x5_0, x5_1, x5_2, x5_3, x5_4, n10, b01, Int32.add_zero]
      rw [k_82_532 (ct_i _), k_82_534 (ct_i _), k_82_537, nI_1]
    | false =>
      simp only [k_82_503, k_82_505, k_82_507, k_82_510, k_82_511, k_82_514, k_82_515, sm_0, sm_c, ct_i, ct_r, ct_n, ct_l, ct_d, tl_s, tl_n, oK_s, cS_s, cI_0, cI_9, cA_s, cR_s, cQ_s, cN_i, cN_r, cO_s, rS_s, rK_s, cK_i, cK_j, cK_d, if_true, if_false, true_or, or_true, Nat.reduceAdd, Nat.reduceLeDiff, Nat.zero_le, Nat.reduceEqDiff, Nat.reduceSub, eq_self, Nat.le_refl, ne_eq, not_false_eq_true, not_true_eq_false, i1_0, i0_1, kSm_0, kSm_1, kSm_2, kSm_3, kSm_4, x5_0, x5_1, x5_2, x5_3, x5_4, b01, Bool.false_eq_true, Int32.add_zero]
      rw [k_82_516 (ct_i _)]
      simp only [k_82_518, k_82_520, k_82_522, k_82_525, k_82_526, k_82_529, k_82_531, sm_0, sm_c, ct_i, ct_r, ct_n, ct_l, ct_d, tl_s, tl_n, oK_s, cS_s, cI_0, cI_9, cA_s, cR_s, cQ_s, cN_i, cN_r, cO_s, rS_s, rK_s, cK_i, cK_j, cK_d, if_true, if_false, true_or, or_true, Nat.reduceAdd, Nat.reduceLeDiff, Nat.zero_le, Nat.reduceEqDiff, Nat.reduceSub, eq_self, Nat.le_refl, ne_eq, not_false_eq_true, not_true_eq_false, i1_0, i0_1, kSm_0, kSm_1, kSm_2, kSm_3, kSm_4, x5_0, x5_1, x5_2, x5_3, x5_4, b01, Bool.false_eq_true]
      rw [k_82_532 (ct_i _), k_82_534 (ct_i _), k_82_537, nI_1]
  rw [e3]
theorem d_loop {M0 : kM} (h : LI M0 b s n xs L w kk) (hca : kN M0 < ca) : ∀ (m d : Nat), d + m = L.length → ∀ (M : kM) (co : Nat → Int32) (x10 x11 x12 x13 : Int32) (v15 v16 v17 v18 v19 v20 v21 v22 v23 v24 : Value), kEx M0 M → M.1 ca = .inl (0, 16, co) → ∃ (M' : kM) (w15 w16 w17 w18 w19 w20 w21 w22 w23 w24 : Value), kn 82 125 [.ref 0, .ref b, .ref s, .int z3, .int x4, .int (nI L.length), .int (nI kk), .long dg, .null, .ref ca, .int x10, .int x11, .int x12, .int x13, .int (nI d), v15, v16, v17, v18, v19, v20, v21, v22, v23, v24, v25] [] M = kn 82 540 [.ref 0, .ref b, .ref s, .int z3, .int x4, .int (nI L.length), .int (nI kk), .long dg, .null, .ref ca, .int (cnt isP4 (L.drop d) x10), .int (cnt (spd (HG L w kk).1) (L.drop d) x11), .int (wns (HG L w kk).1 (L.drop d) x12), .int (sbh w (L.drop d) x13), .int (nI L.length), w15, w16, w17, w18, w19, w20, w21, w22, w23, w24, v25] [] M' ∧ kEx M0 M' ∧ M'.1 ca = .inl (0, 16, coF (L.drop d) co) ∧ kLe M M' 0 0 ∧ kN M' = kN M
  | 0, d, hd, M, co, x10, x11, x12, x13, v15, v16, v17, v18, v19, v20, v21, v22, v23, v24, he, hco => by
    obtain rfl : d = L.length := by omega
    refine ⟨M, v15, v16, v17, v18, v19, v20, v21, v22, v23, v24, ?_, he, by rw [List.drop_length]; exact hco, ⟨Nat.le_refl _, Nat.le_refl _⟩, rfl⟩
    rw [k_82_125, List.drop_length]
    simp only [k_82_127, k_82_129, sm_0, sm_c, ct_i, ct_r, ct_n, ct_l, ct_d, tl_s, tl_n, oK_s, cS_s, cI_0, cI_9, cA_s, cR_s, cQ_s, cN_i, cN_r, cO_s, rS_s, rK_s, cK_i, cK_j, cK_d, if_true, if_false, true_or, or_true, Nat.reduceAdd, Nat.reduceLeDiff, Nat.zero_le, Nat.reduceEqDiff, Nat.reduceSub, eq_self, Nat.le_refl, ne_eq, not_false_eq_true, not_true_eq_false, i1_0, i0_1, kSm_0, kSm_1, kSm_2, kSm_3, kSm_4, x5_0, x5_1, x5_2, x5_3, x5_4, Int32.le_refl, cnt, wns, sbh]
  | m + 1, d, hd, M, co, x10, x11, x12, x13, v15, v16, v17, v18, v19, v20, v21, v22, v23, v24, he, hco => by
    have hdl : d < L.length := by omega
    have hb' : b ≠ ca := by have := h.2.2.1.2.1; omega
    have hlen := h.2.2.2.1.len
    have hO := h.2.2.2.1.ok
    have hw := h.2.2.2.2.1
    have e1 := d_head (z3 := z3) (x4 := x4) (x10 := x10) (x11 := x11) (x12 := x12) (x13 := x13) (dg := dg) (v15 := v15) (v16 := v16) (v17 := v17) (v18 := v18) (v19 := v19) (v20 := v20) (v21 := v21) (v22 := v22) (v23 := v23) (v24 := v24) (v25 := v25) (h.ex he) hdl hco hb'
    have he1 := he.ki (c := .inl (0, 16, adC (adC (adC co (dd L d).1 (dd L d).2.2.2.1) (dd L d).2.1 (dd L d).2.2.2.1) (dd L d).2.2.1 (dd L d).2.2.2.1)) hca
    have hco1 : (kI M ca (.inl (0, 16, adC (adC (adC co (dd L d).1 (dd L d).2.2.2.1) (dd L d).2.1 (dd L d).2.2.2.1) (dd L d).2.2.1 (dd L d).2.2.2.1))).1 ca = .inl (0, 16, adC (adC (adC co (dd L d).1 (dd L d).2.2.2.1) (dd L d).2.1 (dd L d).2.2.2.1) (dd L d).2.2.1 (dd L d).2.2.2.1) := kI_self
    have hl1 : kLe M (kI M ca (.inl (0, 16, adC (adC (adC co (dd L d).1 (dd L d).2.2.2.1) (dd L d).2.1 (dd L d).2.2.2.1) (dd L d).2.2.1 (dd L d).2.2.2.1))) 0 0 := ⟨Nat.le_refl _, Nat.le_refl _⟩
    have hN1 : kN (kI M ca (.inl (0, 16, adC (adC (adC co (dd L d).1 (dd L d).2.2.2.1) (dd L d).2.1 (dd L d).2.2.2.1) (dd L d).2.2.1 (dd L d).2.2.2.1))) = kN M := rfl
    generalize kI M ca (.inl (0, 16, adC (adC (adC co (dd L d).1 (dd L d).2.2.2.1) (dd L d).2.1 (dd L d).2.2.2.1) (dd L d).2.2.1 (dd L d).2.2.2.1)) = M1 at e1 he1 hco1 hl1 hN1
    have hI := h.ex he1
    obtain ⟨w22, w23, w24, e3⟩ := d_q (ca := ca) (z3 := z3) (x4 := x4) (x10 := x10) (x11 := x11) (x12 := x12) (x13 := x13) (dg := dg) (v25 := v25) hI hdl 16 0 rfl 0 v22 v23 v24
    rw [nI_0, fcR_bc (s16_liveL hw (hO.drop (d + 1))) (fun q hq => rfl)] at e3
    have e4 := d_tail (ca := ca) (z3 := z3) (x4 := x4) (x10 := x10) (x11 := x11) (x12 := x12) (x13 := x13) (dg := dg) (v22 := w22) (v23 := w23) (v24 := w24) (v25 := v25) hI hdl
    obtain ⟨M2, y15, y16, y17, y18, y19, y20, y21, y22, y23, y24, e5, r1, r2, r3, r4⟩ := d_loop h hca m (d + 1) (by omega) M1 _ (if isP4 (dd L d) = true then x10 + 1 else x10) (if spd (HG L w kk).1 (dd L d) = true then x11 + 1 else x11) (if spd (HG L w kk).1 (dd L d) = true then x12 else x12 + (dd L d).2.2.2.1) (x13 + bc (liveL (L.drop (d + 1)) w)) (.int (dd L d).1) (.int (dd L d).2.1) (.int (dd L d).2.2.1) (.int (dd L d).2.2.2.1) (.int (dd L d).2.2.2.2) (.int (bc (liveL (L.drop (d + 1)) w))) (.int (b01 (spd (HG L w kk).1 (dd L d)))) w22 w23 w24 he1 hco1
    refine ⟨M2, y15, y16, y17, y18, y19, y20, y21, y22, y23, y24, ?_, r1, ?_, (hl1.tr r3).mo (by omega) (by omega), by omega⟩
    · have e2 : kn 82 226 [.ref 0, .ref b, .ref s, .int z3, .int x4, .int (nI L.length), .int (nI kk), .long dg, .null, .ref ca, .int x10, .int x11, .int x12, .int x13, .int (nI d), .int (dd L d).1, .int (dd L d).2.1, .int (dd L d).2.2.1, .int (dd L d).2.2.2.1, .int (dd L d).2.2.2.2, v20, v21, v22, v23, v24, v25] [] M1 = kn 82 232 [.ref 0, .ref b, .ref s, .int z3, .int x4, .int (nI L.length), .int (nI kk), .long dg, .null, .ref ca, .int x10, .int x11, .int x12, .int x13, .int (nI d), .int (dd L d).1, .int (dd L d).2.1, .int (dd L d).2.2.1, .int (dd L d).2.2.2.1, .int (dd L d).2.2.2.2, .int 0, .int 0, v22, v23, v24, v25] [] M1 := by
        rw [k_82_226, k_82_227 (ct_i _), k_82_229, k_82_230 (ct_i _)]
      rw [e1, e2, e3, e4, e5, drop_dd hdl]
      rfl
    · rw [r2, drop_dd hdl]
      rfl
end
