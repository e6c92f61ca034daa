/-! the law: a round, what is counted, tried and advised -/
theorem LI.mut {M : kM} {b s n kk : Nat} {xs : Nat → Int32} {L : List Dd} {w : Int32} (h : LI M b s n xs L w kk) {f : Nat → Nat → Int32} (hC : Cls f L w kk) : LI (kV M b f 0) b s n xs L w kk := LI.nx h (Fr.rf M) h.2.2.2.1 hC h.2.2.2.2.1 h.2.2.2.2.2.1 h.2.2.2.2.2.2
theorem lg_self (a : Int64) : lg_cmp a a = 0 := by
  unfold lg_cmp
  simp
section
variable {M : kM} {b s n kk ca ga : Nat} {xs : Nat → Int32} {L : List Dd} {w : Int32} {z3 x4 x10 x11 x12 x13 y16 y17 y19 : Int32} {dg : Int64} {v20 v21 v22 v23 v24 v25 : Value}
theorem r_chk (h : LI M b s n xs L w kk) : ∃ M', kn 82 1006 [.ref 0, .ref b, .ref s, .int z3, .int x4, .int (nI L.length), .int (nI kk), .long dg, .null, .ref ca, .int x10, .int x11, .int x12, .int x13, .int (bc (STU L w).1), .int (bc (HG L w kk).2.2), .int (coR (STU L w).2.2.2 (HG L w kk).2.2 16 0), .int (prR (STU L w).2.1 16 0), .ref ga, .int (huR (HG L w kk).2.1 16 0), v20, v21, v22, v23, v24, v25] [] M = kn 82 1081 [.ref 0, .ref b, .ref s, .int z3, .int x4, .int (nI L.length), .int (nI kk), .long dg, .null, .ref ca, .int x10, .int x11, .int x12, .int x13, .int (bc (STU L w).1), .int (bc (HG L w kk).2.2), .int (coR (STU L w).2.2.2 (HG L w kk).2.2 16 0), .int (prR (STU L w).2.1 16 0), .ref ga, .int (huR (HG L w kk).2.1 16 0), v20, v21, v22, v23, v24, v25] [] M' ∧ LI M' b s n xs L w kk ∧ kLe M M' 0 0 := by
  have hb := h.2.2.1.1
  have hK := h.2.2.1.2.2
  have hO := h.2.2.2.1.ok
  obtain ⟨hw, hk1, hk8⟩ := h.2.2.2.2
  have c2 : rn none 36 0 [.ref 0, .int 2] [] (M.2.1 b, zL) = some (.inl (some (.int (bc (STU L w).1))), (M.2.1 b, zL)) := s_36 (j := 2) (by omega) (M := (M.2.1 b, zL)) hK
  have c3 : rn none 36 0 [.ref 0, .int 3] [] (M.2.1 b, zL) = some (.inl (some (.int (aCnt L w kk 3))), (M.2.1 b, zL)) := s_36 (j := 3) (by omega) (M := (M.2.1 b, zL)) hK
  have c4 : rn none 36 0 [.ref 0, .int 4] [] (M.2.1 b, zL) = some (.inl (some (.int (bc (HG L w kk).2.2))), (M.2.1 b, zL)) := s_36 (j := 4) (by omega) (M := (M.2.1 b, zL)) hK
  have c5 : rn none 36 0 [.ref 0, .int 5] [] (M.2.1 b, zL) = some (.inl (some (.int (huR (HG L w kk).2.1 16 0))), (M.2.1 b, zL)) := s_36 (j := 5) (by omega) (M := (M.2.1 b, zL)) hK
  have c8 : rn none 36 0 [.ref 0, .int 8] [] (M.2.1 b, zL) = some (.inl (some (.int (coR (STU L w).2.2.2 (HG L w kk).2.2 16 0))), (M.2.1 b, zL)) := s_36 (j := 8) (by omega) (M := (M.2.1 b, zL)) hK
  have hp2 := pairs_2 (kk := kk) hO hw
  obtain ⟨f', u39, c39, -⟩ := s_39 (kk := kk) hk1 (show kk ≤ 16 by omega) (M := (M.2.1 b, zL)) hK
  have h1 := h.mut c39
  have hb1 := h1.2.2.1.1
  have u38 := s_38 (kk := kk) (M := (f', zL)) c39
  have hcr := eq_true (crowd_th hO hw)
  refine ⟨kV M b f' 0, ?_, h1, ⟨Nat.le_refl _, Nat.le_refl _⟩⟩
  rw [hp2]
  simp only [k_82_1006, k_82_1008, k_82_1009, k_82_1010, k_82_1013, k_82_1016, k_82_1018, k_82_1019, k_82_1020, k_82_1021, k_82_1024, k_82_1025, k_82_1028, k_82_1030, k_82_1031, k_82_1032, k_82_1035, k_82_1038, k_82_1040, k_82_1041, k_82_1042, k_82_1045, k_82_1048, k_82_1050, k_82_1051, k_82_1053, k_82_1056, k_82_1059, k_82_1060, k_82_1062, k_82_1065, k_82_1067, sm_0, sm_c, ct_i, ct_r, ct_n, ct_l, ct_d, tl_s, tl_n, oK_s, cS_s, cI_0, cI_9, cA_s, cR_s, cQ_s, cN_i, cN_r, cO_s, rS_s, rK_s, cK_i, cK_j, cK_d, if_true, if_false, true_or, or_true, Nat.reduceAdd, Nat.reduceLeDiff, Nat.zero_le, Nat.reduceEqDiff, Nat.reduceSub, eq_self, Nat.le_refl, ne_eq, not_false_eq_true, not_true_eq_false, i1_0, i0_1, kSm_0, kSm_1, kSm_2, kSm_3, kSm_4, x5_0, x5_1, x5_2, x5_3, x5_4, hb, c2, c3, c4, c5, c8, u39, kV_id]
  simp only [k_82_1070, k_82_1071, k_82_1074, k_82_1076, sm_0, sm_c, ct_i, ct_r, ct_n, ct_l, ct_d, tl_s, tl_n, oK_s, cS_s, cI_0, cI_9, cA_s, cR_s, cQ_s, cN_i, cN_r, cO_s, rS_s, rK_s, cK_i, cK_j, cK_d, if_true, if_false, true_or, or_true, Nat.reduceAdd, Nat.reduceLeDiff, Nat.zero_le, Nat.reduceEqDiff, Nat.reduceSub, eq_self, Nat.le_refl, ne_eq, not_false_eq_true, not_true_eq_false, i1_0, i0_1, kSm_0, kSm_1, kSm_2, kSm_3, kSm_4, x5_0, x5_1, x5_2, x5_3, x5_4, kV_1, kV_at, hb, u38, hcr]
  congr 1
  show kV (kV M b f' 0) b f' 0 = kV M b f' 0
  have := kV_id (kV M b f' 0) b
  rw [kV_at] at this
  exact this
end
