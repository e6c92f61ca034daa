/-! the law: a round, deed by deed -/
theorem LI.ex {M M' : kM} {b s n kk : Nat} {xs : Nat → Int32} {L : List Dd} {w : Int32} (h : LI M b s n xs L w kk) (he : kEx M M') : LI M' b s n xs L w kk := by
  obtain ⟨h1, h2, h3, h4, h5⟩ := h
  exact ⟨(he.2.1 _ (Nat.zero_le _)).trans h1, h2, ⟨(he.2.1 _ (by have := h3.2.1; omega)).trans h3.1, Nat.le_trans h3.2.1 he.1, by rw [he.2.2 _ h3.2.1]; exact h3.2.2⟩, h4.ey he.1 he.2.1, h5⟩
theorem kEx.ki {M0 M : kM} {k : Nat} {c : kC} (h : kEx M0 M) (hk : kN M0 < k) : kEx M0 (kI M k c) := ⟨h.1, fun a ha => (kI_ne (by omega)).trans (h.2.1 a ha), h.2.2⟩
section
variable {M : kM} {b s n kk ca : Nat} {xs : Nat → Int32} {L : List Dd} {w : Int32} {d : Nat} {z3 x4 x10 x11 x12 x13 : Int32} {dg : Int64} {v15 v16 v17 v18 v19 v20 v21 v22 v23 v24 v25 : Value}
theorem d_head (h : LI M b s n xs L w kk) (hd : d < L.length) {co : Nat → Int32} (hca : M.1 ca = .inl (0, 16, co)) (hb' : b ≠ ca) : kn 82 125 [.ref 0, .ref b, .ref s, .int z3, .int x4, .int (nI L.length), .int (nI kk), .long dg, .null, .ref ca, .int x10, .int x11, .int x12, .int x13, .int (nI d), v15, v16, v17, v18, v19, v20, v21, v22, v23, v24, v25] [] M = kn 82 226 [.ref 0, .ref b, .ref s, .int z3, .int x4, .int (nI L.length), .int (nI kk), .long dg, .null, .ref ca, .int x10, .int x11, .int x12, .int x13, .int (nI d), .int (dd L d).1, .int (dd L d).2.1, .int (dd L d).2.2.1, .int (dd L d).2.2.2.1, .int (dd L d).2.2.2.2, v20, v21, v22, v23, v24, v25] [] (kI M ca (.inl (0, 16, adC (adC (adC co (dd L d).1 (dd L d).2.2.2.1) (dd L d).2.1 (dd L d).2.2.2.1) (dd L d).2.2.1 (dd L d).2.2.2.1))) := by
  have hb := h.2.2.1.1
  have hK := h.2.2.1.2.2
  have hlen := h.2.2.2.1.len
  have hok := h.2.2.2.1.ok _ (dd_mem hd)
  have hle : (nI L.length ≤ nI d) = False := eq_false (nI_ge hd (by omega))
  have u0 : rn none 32 0 [.ref 0, .int (nI d), .int 0] [] (M.2.1 b, zL) = some (.inl (some (.int (dd L d).1)), (M.2.1 b, zL)) := s_32 hd (j := 0) (by omega) (M := (M.2.1 b, zL)) hK
  have u1 : rn none 32 0 [.ref 0, .int (nI d), .int 1] [] (M.2.1 b, zL) = some (.inl (some (.int (dd L d).2.1)), (M.2.1 b, zL)) := s_32 hd (j := 1) (by omega) (M := (M.2.1 b, zL)) hK
  have u2 : rn none 32 0 [.ref 0, .int (nI d), .int 2] [] (M.2.1 b, zL) = some (.inl (some (.int (dd L d).2.2.1)), (M.2.1 b, zL)) := s_32 hd (j := 2) (by omega) (M := (M.2.1 b, zL)) hK
  have u3 : rn none 32 0 [.ref 0, .int (nI d), .int 3] [] (M.2.1 b, zL) = some (.inl (some (.int (dd L d).2.2.2.1)), (M.2.1 b, zL)) := s_32 hd (j := 3) (by omega) (M := (M.2.1 b, zL)) hK
  have u4 : rn none 32 0 [.ref 0, .int (nI d), .int 4] [] (M.2.1 b, zL) = some (.inl (some (.int (dd L d).2.2.2.2)), (M.2.1 b, zL)) := s_32 hd (j := 4) (by omega) (M := (M.2.1 b, zL)) hK
  have e1 : kn 82 125 [.ref 0, .ref b, .ref s, .int z3, .int x4, .int (nI L.length), .int (nI kk), .long dg, .null, .ref ca, .int x10, .int x11, .int x12, .int x13, .int (nI d), v15, v16, v17, v18, v19, v20, v21, v22, v23, v24, v25] [] M = kn 82 186 [.ref 0, .ref b, .ref s, .int z3, .int x4, .int (nI L.length), .int (nI kk), .long dg, .null, .ref ca, .int x10, .int x11, .int x12, .int x13, .int (nI d), .int (dd L d).1, .int (dd L d).2.1, .int (dd L d).2.2.1, .int (dd L d).2.2.2.1, .int (dd L d).2.2.2.2, v20, v21, v22, v23, v24, v25] [] M := by
    rw [k_82_125]
    simp only [k_82_127, k_82_129, k_82_132, k_82_133, k_82_135, k_82_136, sm_0, sm_c, ct_i, ct_r, ct_n, ct_l, ct_d, tl_s, tl_n, oK_s, cS_s, cI_0, cI_9, cA_s, cR_s, cQ_s, cN_i, cN_r, cO_s, rS_s, rK_s, cK_i, cK_j, cK_d, if_true, if_false, true_or, or_true, Nat.reduceAdd, Nat.reduceLeDiff, Nat.zero_le, Nat.reduceEqDiff, Nat.reduceSub, eq_self, Nat.le_refl, ne_eq, not_false_eq_true, not_true_eq_false, i1_0, i0_1, kSm_0, kSm_1, kSm_2, kSm_3, kSm_4, x5_0, x5_1, x5_2, x5_3, x5_4, hle, hb, u0, kV_id]
    rw [k_82_139 (ct_i _)]
    simp only [k_82_141, k_82_142, k_82_144, k_82_145, sm_0, sm_c, ct_i, ct_r, ct_n, ct_l, ct_d, tl_s, tl_n, oK_s, cS_s, cI_0, cI_9, cA_s, cR_s, cQ_s, cN_i, cN_r, cO_s, rS_s, rK_s, cK_i, cK_j, cK_d, if_true, if_false, true_or, or_true, Nat.reduceAdd, Nat.reduceLeDiff, Nat.zero_le, Nat.reduceEqDiff, Nat.reduceSub, eq_self, Nat.le_refl, ne_eq, not_false_eq_true, not_true_eq_false, i1_0, i0_1, kSm_0, kSm_1, kSm_2, kSm_3, kSm_4, x5_0, x5_1, x5_2, x5_3, x5_4, hb, u1, kV_id]
    rw [k_82_148 (ct_i _)]
    simp only [k_82_150, k_82_151, k_82_153, k_82_154, sm_0, sm_c, ct_i, ct_r, ct_n, ct_l, ct_d, tl_s, tl_n, oK_s, cS_s, cI_0, cI_9, cA_s, cR_s, cQ_s, cN_i, cN_r, cO_s, rS_s, rK_s, cK_i, cK_j, cK_d, if_true, if_false, true_or, or_true, Nat.reduceAdd, Nat.reduceLeDiff, Nat.zero_le, Nat.reduceEqDiff, Nat.reduceSub, eq_self, Nat.le_refl, ne_eq, not_false_eq_true, not_true_eq_false, i1_0, i0_1, kSm_0, kSm_1, kSm_2, kSm_3, kSm_4, x5_0, x5_1, x5_2, x5_3, x5_4, hb, u2, kV_id]
    rw [k_82_157 (ct_i _)]
    simp only [k_82_159, k_82_160, k_82_162, k_82_163, sm_0, sm_c, ct_i, ct_r, ct_n, ct_l, ct_d, tl_s, tl_n, oK_s, cS_s, cI_0, cI_9, cA_s, cR_s, cQ_s, cN_i, cN_r, cO_s, rS_s, rK_s, cK_i, cK_j, cK_d, if_true, if_false, true_or, or_true, Nat.reduceAdd, Nat.reduceLeDiff, Nat.zero_le, Nat.reduceEqDiff, Nat.reduceSub, eq_self, Nat.le_refl, ne_eq, not_false_eq_true, not_true_eq_false, i1_0, i0_1, kSm_0, kSm_1, kSm_2, kSm_3, kSm_4, x5_0, x5_1, x5_2, x5_3, x5_4, hb, u3, kV_id]
    rw [k_82_166 (ct_i _)]
    rcases hok.2.2.2.2 with h0 | ⟨h1, -⟩
    · have n01 : ((0 : Int32) = 1) = False := by decide
      rw [h0] at u4 ⊢
      simp only [k_82_168, k_82_169, k_82_171, k_82_172, k_82_175, k_82_176, k_82_183, sm_0, sm_c, ct_i, ct_r, ct_n, ct_l, ct_d, tl_s, tl_n, oK_s, cS_s, cI_0, cI_9, cA_s, cR_s, cQ_s, cN_i, cN_r, cO_s, rS_s, rK_s, cK_i, cK_j, cK_d, if_true, if_false, true_or, or_true, Nat.reduceAdd, Nat.reduceLeDiff, Nat.zero_le, Nat.reduceEqDiff, Nat.reduceSub, eq_self, Nat.le_refl, ne_eq, not_false_eq_true, not_true_eq_false, i1_0, i0_1, kSm_0, kSm_1, kSm_2, kSm_3, kSm_4, x5_0, x5_1, x5_2, x5_3, x5_4, hb, u4, kV_id, n01]
      rw [k_82_184 (ct_i _)]
    · rw [h1] at u4 ⊢
      simp only [k_82_168, k_82_169, k_82_171, k_82_172, k_82_175, k_82_176, k_82_179, k_82_180, sm_0, sm_c, ct_i, ct_r, ct_n, ct_l, ct_d, tl_s, tl_n, oK_s, cS_s, cI_0, cI_9, cA_s, cR_s, cQ_s, cN_i, cN_r, cO_s, rS_s, rK_s, cK_i, cK_j, cK_d, if_true, if_false, true_or, or_true, Nat.reduceAdd, Nat.reduceLeDiff, Nat.zero_le, Nat.reduceEqDiff, Nat.reduceSub, eq_self, Nat.le_refl, ne_eq, not_false_eq_true, not_true_eq_false, i1_0, i0_1, kSm_0, kSm_1, kSm_2, kSm_3, kSm_4, x5_0, x5_1, x5_2, x5_3, x5_4, hb, u4, kV_id]
      rw [k_82_184 (ct_i _)]
  rw [e1]
  obtain ⟨⟨p, hp, ep⟩, hu, hv, -⟩ := hok
  rw [ep, adC_p hp]
  have hxp := x16_16 hp
  have hcc : ∀ x : Int32, (Value.int x).category = 1 := fun _ => rfl
  generalize (dd L d).2.2.2.1 = t
  have s1 : kn 82 186 [.ref 0, .ref b, .ref s, .int z3, .int x4, .int (nI L.length), .int (nI kk), .long dg, .null, .ref ca, .int x10, .int x11, .int x12, .int x13, .int (nI d), .int (nI p), .int (dd L d).2.1, .int (dd L d).2.2.1, .int t, .int (dd L d).2.2.2.2, v20, v21, v22, v23, v24, v25] [] M = kn 82 196 [.ref 0, .ref b, .ref s, .int z3, .int x4, .int (nI L.length), .int (nI kk), .long dg, .null, .ref ca, .int x10, .int x11, .int x12, .int x13, .int (nI d), .int (nI p), .int (dd L d).2.1, .int (dd L d).2.2.1, .int t, .int (dd L d).2.2.2.2, v20, v21, v22, v23, v24, v25] [] (kI M ca (.inl (0, 16, upd co p (co p + t)))) := by
    simp only [k_82_186, k_82_188, k_82_190, k_82_191, k_82_192, k_82_194, k_82_195, sm_0, sm_c, ct_i, ct_r, ct_n, ct_l, ct_d, tl_s, tl_n, oK_s, cS_s, cI_0, cI_9, cA_s, cR_s, cQ_s, cN_i, cN_r, cO_s, rS_s, rK_s, cK_i, cK_j, cK_d, if_true, if_false, true_or, or_true, Nat.reduceAdd, Nat.reduceLeDiff, Nat.zero_le, Nat.reduceEqDiff, Nat.reduceSub, eq_self, Nat.le_refl, ne_eq, not_false_eq_true, not_true_eq_false, i1_0, i0_1, kSm_0, kSm_1, kSm_2, kSm_3, kSm_4, x5_0, x5_1, x5_2, x5_3, x5_4, hca, hxp]
  rw [s1]
  have m10 : ((-1 : Int32) < 0) = True := by decide
  generalize upd co p (co p + t) = co2
  rcases hu with hu | ⟨u, hu16, eu⟩
  · rw [hu, adC_m1]
    rcases hv with hv | ⟨v, hv16, ev⟩
    · rw [hv, adC_m1]
      simp only [k_82_196, k_82_198, k_82_211, k_82_213, sm_0, sm_c, ct_i, ct_r, ct_n, ct_l, ct_d, tl_s, tl_n, oK_s, cS_s, cI_0, cI_9, cA_s, cR_s, cQ_s, cN_i, cN_r, cO_s, rS_s, rK_s, cK_i, cK_j, cK_d, if_true, if_false, true_or, or_true, Nat.reduceAdd, Nat.reduceLeDiff, Nat.zero_le, Nat.reduceEqDiff, Nat.reduceSub, eq_self, Nat.le_refl, ne_eq, not_false_eq_true, not_true_eq_false, i1_0, i0_1, kSm_0, kSm_1, kSm_2, kSm_3, kSm_4, x5_0, x5_1, x5_2, x5_3, x5_4, m10]
    · have hxv := x16_16 hv16
      have hlv : (nI v < 0) = False := p_lo (by omega)
      rw [ev, adC_p hv16]
      simp only [k_82_196, k_82_198, k_82_211, k_82_213, k_82_216, k_82_218, k_82_220, k_82_221, k_82_222, k_82_224, k_82_225, sm_0, sm_c, ct_i, ct_r, ct_n, ct_l, ct_d, tl_s, tl_n, oK_s, cS_s, cI_0, cI_9, cA_s, cR_s, cQ_s, cN_i, cN_r, cO_s, rS_s, rK_s, cK_i, cK_j, cK_d, if_true, if_false, true_or, or_true, Nat.reduceAdd, Nat.reduceLeDiff, Nat.zero_le, Nat.reduceEqDiff, Nat.reduceSub, eq_self, Nat.le_refl, ne_eq, not_false_eq_true, not_true_eq_false, i1_0, i0_1, kSm_0, kSm_1, kSm_2, kSm_3, kSm_4, x5_0, x5_1, x5_2, x5_3, x5_4, m10, hlv, hxv, kI_self, kI_kI]
  · have hxu := x16_16 hu16
    have hlu : (nI u < 0) = False := p_lo (by omega)
    rw [eu, adC_p hu16]
    rcases hv with hv | ⟨v, hv16, ev⟩
    · rw [hv, adC_m1]
      simp only [k_82_196, k_82_198, k_82_201, k_82_203, k_82_205, k_82_206, k_82_207, k_82_209, k_82_210, k_82_211, k_82_213, sm_0, sm_c, ct_i, ct_r, ct_n, ct_l, ct_d, tl_s, tl_n, oK_s, cS_s, cI_0, cI_9, cA_s, cR_s, cQ_s, cN_i, cN_r, cO_s, rS_s, rK_s, cK_i, cK_j, cK_d, if_true, if_false, true_or, or_true, Nat.reduceAdd, Nat.reduceLeDiff, Nat.zero_le, Nat.reduceEqDiff, Nat.reduceSub, eq_self, Nat.le_refl, ne_eq, not_false_eq_true, not_true_eq_false, i1_0, i0_1, kSm_0, kSm_1, kSm_2, kSm_3, kSm_4, x5_0, x5_1, x5_2, x5_3, x5_4, m10, hlu, hxu, kI_self, kI_kI]
    · have hxv := x16_16 hv16
      have hlv : (nI v < 0) = False := p_lo (by omega)
      rw [ev, adC_p hv16]
      simp only [k_82_196, k_82_198, k_82_201, k_82_203, k_82_205, k_82_206, k_82_207, k_82_209, k_82_210, k_82_211, k_82_213, k_82_216, k_82_218, k_82_220, k_82_221, k_82_222, k_82_224, k_82_225, sm_0, sm_c, ct_i, ct_r, ct_n, ct_l, ct_d, tl_s, tl_n, oK_s, cS_s, cI_0, cI_9, cA_s, cR_s, cQ_s, cN_i, cN_r, cO_s, rS_s, rK_s, cK_i, cK_j, cK_d, if_true, if_false, true_or, or_true, Nat.reduceAdd, Nat.reduceLeDiff, Nat.zero_le, Nat.reduceEqDiff, Nat.reduceSub, eq_self, Nat.le_refl, ne_eq, not_false_eq_true, not_true_eq_false, i1_0, i0_1, kSm_0, kSm_1, kSm_2, kSm_3, kSm_4, x5_0, x5_1, x5_2, x5_3, x5_4, hlu, hxu, hlv, hxv, kI_self, kI_kI]
theorem d_qa (h : LI M b s n xs L w kk) (hd : d < L.length) {q : Nat} (hq : q < 16) {c : Int32} : kn 82 232 [.ref 0, .ref b, .ref s, .int z3, .int x4, .int (nI L.length), .int (nI kk), .long dg, .null, .ref ca, .int x10, .int x11, .int x12, .int x13, .int (nI d), .int (dd L d).1, .int (dd L d).2.1, .int (dd L d).2.2.1, .int (dd L d).2.2.2.1, .int (dd L d).2.2.2.2, .int c, .int (nI q), v22, v23, v24, v25] [] M = kn 82 302 [.ref 0, .ref b, .ref s, .int z3, .int x4, .int (nI L.length), .int (nI kk), .long dg, .null, .ref ca, .int x10, .int x11, .int x12, .int x13, .int (nI d), .int (dd L d).1, .int (dd L d).2.1, .int (dd L d).2.2.1, .int (dd L d).2.2.2.1, .int (dd L d).2.2.2.2, .int (c + b01 (bt (liveL (L.drop (d + 1)) w) q)), .int (nI q), .int (b01 (bt (liveL (L.drop (d + 1)) w) q)), v23, v24, v25] [] M := by
  have hb := h.2.2.1.1
  have hK := h.2.2.1.2.2
  have hlen := h.2.2.2.1.len
  have hO := h.2.2.2.1.ok
  have hok := hO _ (dd_mem hd)
  have e : ((16 : Int32) ≤ nI q) = False := p_hi hq
  have u := s_33 (kk := kk) hd hq (M := (M.2.1 b, zL)) hK
  have n10 : ((1 : Int32) = 0) = False := by decide
  have e1 : kn 82 232 [.ref 0, .ref b, .ref s, .int z3, .int x4, .int (nI L.length), .int (nI kk), .long dg, .null, .ref ca, .int x10, .int x11, .int x12, .int x13, .int (nI d), .int (dd L d).1, .int (dd L d).2.1, .int (dd L d).2.2.1, .int (dd L d).2.2.2.1, .int (dd L d).2.2.2.2, .int c, .int (nI q), v22, v23, v24, v25] [] M = kn 82 264 [.ref 0, .ref b, .ref s, .int z3, .int x4, .int (nI L.length), .int (nI kk), .long dg, .null, .ref ca, .int x10, .int x11, .int x12, .int x13, .int (nI d), .int (dd L d).1, .int (dd L d).2.1, .int (dd L d).2.2.1, .int (dd L d).2.2.2.1, .int (dd L d).2.2.2.2, .int (c + b01 (bt (liveL (L.drop (d + 1)) w) q)), .int (nI q), .int (b01 (bt (liveL (L.drop (d + 1)) w) q)), v23, v24, v25] [] M := by
    rw [k_82_232]
    simp only [k_82_234, k_82_236, k_82_239, k_82_240, k_82_242, k_82_244, sm_0, sm_c, ct_i, ct_r, ct_n, ct_l, ct_d, tl_s, tl_n, oK_s, cS_s, cI_0, cI_9, cA_s, cR_s, cQ_s, cN_i, cN_r, cO_s, rS_s, rK_s, cK_i, cK_j, cK_d, if_true, if_false, true_or, or_true, Nat.reduceAdd, Nat.reduceLeDiff, Nat.zero_le, Nat.reduceEqDiff, Nat.reduceSub, eq_self, Nat.le_refl, ne_eq, not_false_eq_true, not_true_eq_false, i1_0, i0_1, kSm_0, kSm_1, kSm_2, kSm_3, kSm_4, x5_0, x5_1, x5_2, x5_3, x5_4, e, hb, u, kV_id]
    rw [k_82_247 (ct_i _)]
    cases bt (liveL (L.drop (d + 1)) w) q with
    | true =>
      simp only [k_82_249, k_82_251, k_82_253, k_82_256, k_82_257, k_82_260, k_82_261, sm_0, sm_c, ct_i, ct_r, ct_n, ct_l, ct_d, tl_s, tl_n, oK_s, cS_s, cI_0, cI_9, cA_s, cR_s, cQ_s, cN_i, cN_r, cO_s, rS_s, rK_s, cK_i, cK_j, cK_d, if_true, if_false, true_or, or_true, Nat.reduceAdd, Nat.reduceLeDiff, Nat.zero_le, Nat.reduceEqDiff, Nat.reduceSub, eq_self, Nat.le_refl, ne_eq, not_false_eq_true, not_true_eq_false, i1_0, i0_1, kSm_0, kSm_1, kSm_2, kSm_3, kSm_4, x5_0, x5_1, x5_2, x5_3, x5_4, b01, n10]
      rw [k_82_262 (ct_i _)]
    | false =>
      simp only [k_82_249, k_82_251, k_82_253, k_82_256, k_82_257, k_82_260, k_82_261, sm_0, sm_c, ct_i, ct_r, ct_n, ct_l, ct_d, tl_s, tl_n, oK_s, cS_s, cI_0, cI_9, cA_s, cR_s, cQ_s, cN_i, cN_r, cO_s, rS_s, rK_s, cK_i, cK_j, cK_d, if_true, if_false, true_or, or_true, Nat.reduceAdd, Nat.reduceLeDiff, Nat.zero_le, Nat.reduceEqDiff, Nat.reduceSub, eq_self, Nat.le_refl, ne_eq, not_false_eq_true, not_true_eq_false, i1_0, i0_1, kSm_0, kSm_1, kSm_2, kSm_3, kSm_4, x5_0, x5_1, x5_2, x5_3, x5_4, b01, Bool.false_eq_true]
      rw [k_82_262 (ct_i _)]
  rw [e1]
  cases hX : bt (liveL (L.drop (d + 1)) w) q with
  | false =>
    simp only [k_82_264, k_82_266, sm_0, sm_c, ct_i, ct_r, ct_n, ct_l, ct_d, tl_s, tl_n, oK_s, cS_s, cI_0, cI_9, cA_s, cR_s, cQ_s, cN_i, cN_r, cO_s, rS_s, rK_s, cK_i, cK_j, cK_d, if_true, if_false, true_or, or_true, Nat.reduceAdd, Nat.reduceLeDiff, Nat.zero_le, Nat.reduceEqDiff, Nat.reduceSub, eq_self, Nat.le_refl, ne_eq, not_false_eq_true, not_true_eq_false, i1_0, i0_1, kSm_0, kSm_1, kSm_2, kSm_3, kSm_4, x5_0, x5_1, x5_2, x5_3, x5_4, b01, Bool.false_eq_true]
  | true =>
    obtain ⟨⟨p, hp, ep⟩, -⟩ := hok
    by_cases hqp : q = p
    · have hqp2 : (nI q = (dd L d).1) = True := by rw [ep, hqp]; exact eq_true rfl
      simp only [k_82_264, k_82_266, k_82_269, k_82_271, k_82_273, sm_0, sm_c, ct_i, ct_r, ct_n, ct_l, ct_d, tl_s, tl_n, oK_s, cS_s, cI_0, cI_9, cA_s, cR_s, cQ_s, cN_i, cN_r, cO_s, rS_s, rK_s, cK_i, cK_j, cK_d, if_true, if_false, true_or, or_true, Nat.reduceAdd, Nat.reduceLeDiff, Nat.zero_le, Nat.reduceEqDiff, Nat.reduceSub, eq_self, Nat.le_refl, ne_eq, not_false_eq_true, not_true_eq_false, i1_0, i0_1, kSm_0, kSm_1, kSm_2, kSm_3, kSm_4, x5_0, x5_1, x5_2, x5_3, x5_4, b01, n10, hqp2]
    · have hqp2 : (nI q = (dd L d).1) = False := by rw [ep]; exact eq_false (fun hh => hqp ((nI_eq (by omega) (by omega)).mp hh))
      have u34 := s_34 (kk := kk) hq hp (M := (M.2.1 b, zL)) hK
      rw [← ep] at u34
      cases hcl : bt ((STU L w).2.1 q) p with
      | true =>
        rw [hcl] at u34
        simp only [k_82_264, k_82_266, k_82_269, k_82_271, k_82_273, k_82_276, k_82_277, k_82_279, k_82_281, k_82_284, k_82_285, sm_0, sm_c, ct_i, ct_r, ct_n, ct_l, ct_d, tl_s, tl_n, oK_s, cS_s, cI_0, cI_9, cA_s, cR_s, cQ_s, cN_i, cN_r, cO_s, rS_s, rK_s, cK_i, cK_j, cK_d, if_true, if_false, true_or, or_true, Nat.reduceAdd, Nat.reduceLeDiff, Nat.zero_le, Nat.reduceEqDiff, Nat.reduceSub, eq_self, Nat.le_refl, ne_eq, not_false_eq_true, not_true_eq_false, i1_0, i0_1, kSm_0, kSm_1, kSm_2, kSm_3, kSm_4, x5_0, x5_1, x5_2, x5_3, x5_4, b01, n10, hqp2, hb, u34, kV_id]
      | false =>
        rw [hcl] at u34
        have hc : (dd L d).2.2.2.2 = 1 ∧ (dd L d).2.1 = nI q := Classical.byContradiction (fun hn => by
          have := clash_live (w := w) hO hd hp hq hqp ep hX hn
          rw [hcl] at this
          cases this)
        have n01 : ((0 : Int32) = 1) = False := by decide
        have c1 := hc.1
        have c2 := eq_true hc.2
        rw [c1]
        simp only [k_82_264, k_82_266, k_82_269, k_82_271, k_82_273, k_82_276, k_82_277, k_82_279, k_82_281, k_82_284, k_82_285, k_82_288, k_82_290, k_82_293, k_82_295, k_82_297, sm_0, sm_c, ct_i, ct_r, ct_n, ct_l, ct_d, tl_s, tl_n, oK_s, cS_s, cI_0, cI_9, cA_s, cR_s, cQ_s, cN_i, cN_r, cO_s, rS_s, rK_s, cK_i, cK_j, cK_d, if_true, if_false, true_or, or_true, Nat.reduceAdd, Nat.reduceLeDiff, Nat.zero_le, Nat.reduceEqDiff, Nat.reduceSub, eq_self, Nat.le_refl, ne_eq, not_false_eq_true, not_true_eq_false, i1_0, i0_1, kSm_0, kSm_1, kSm_2, kSm_3, kSm_4, x5_0, x5_1, x5_2, x5_3, x5_4, b01, n10, n01, hqp2, hb, u34, kV_id, c2, Bool.false_eq_true]
theorem d_qb (h : LI M b s n xs L w kk) (hd : d < L.length) {q : Nat} (hq : q < 16) {c : Int32} : ∃ v23' v24', kn 82 302 [.ref 0, .ref b, .ref s, .int z3, .int x4, .int (nI L.length), .int (nI kk), .long dg, .null, .ref ca, .int x10, .int x11, .int x12, .int x13, .int (nI d), .int (dd L d).1, .int (dd L d).2.1, .int (dd L d).2.2.1, .int (dd L d).2.2.2.1, .int (dd L d).2.2.2.2, .int c, .int (nI q), .int (b01 (bt (liveL (L.drop (d + 1)) w) q)), v23, v24, v25] [] M = kn 82 232 [.ref 0, .ref b, .ref s, .int z3, .int x4, .int (nI L.length), .int (nI kk), .long dg, .null, .ref ca, .int x10, .int x11, .int x12, .int x13, .int (nI d), .int (dd L d).1, .int (dd L d).2.1, .int (dd L d).2.2.1, .int (dd L d).2.2.2.1, .int (dd L d).2.2.2.2, .int c, .int (nI (q + 1)), .int (b01 (bt (liveL (L.drop (d + 1)) w) q)), v23', v24', v25] [] M := by
  have hb := h.2.2.1.1
  have hK := h.2.2.1.2.2
  have hlen := h.2.2.2.1.len
  have hO := h.2.2.2.1.ok
  have n10 : ((1 : Int32) = 0) = False := by decide
  have fin : ∀ v23 v24, kn 82 372 [.ref 0, .ref b, .ref s, .int z3, .int x4, .int (nI L.length), .int (nI kk), .long dg, .null, .ref ca, .int x10, .int x11, .int x12, .int x13, .int (nI d), .int (dd L d).1, .int (dd L d).2.1, .int (dd L d).2.2.1, .int (dd L d).2.2.2.1, .int (dd L d).2.2.2.2, .int c, .int (nI q), .int (b01 (bt (liveL (L.drop (d + 1)) w) q)), v23, v24, v25] [] M = kn 82 232 [.ref 0, .ref b, .ref s, .int z3, .int x4, .int (nI L.length), .int (nI kk), .long dg, .null, .ref ca, .int x10, .int x11, .int x12, .int x13, .int (nI d), .int (dd L d).1, .int (dd L d).2.1, .int (dd L d).2.2.1, .int (dd L d).2.2.2.1, .int (dd L d).2.2.2.2, .int c, .int (nI (q + 1)), .int (b01 (bt (liveL (L.drop (d + 1)) w) q)), v23, v24, v25] [] M := fun v23 v24 => by
    rw [k_82_372 (ct_i _), k_82_375, nI_1]
  by_cases hd0 : d = 0
  · refine ⟨v23, v24, ?_⟩
    rw [← fin]
    have e0 : (nI d = 0) = True := by rw [hd0]; exact eq_true rfl
    simp only [k_82_302, k_82_304, k_82_307, sm_0, sm_c, ct_i, ct_r, ct_n, ct_l, ct_d, tl_s, tl_n, oK_s, cS_s, cI_0, cI_9, cA_s, cR_s, cQ_s, cN_i, cN_r, cO_s, rS_s, rK_s, cK_i, cK_j, cK_d, if_true, if_false, true_or, or_true, Nat.reduceAdd, Nat.reduceLeDiff, Nat.zero_le, Nat.reduceEqDiff, Nat.reduceSub, eq_self, Nat.le_refl, ne_eq, not_false_eq_true, not_true_eq_false, i1_0, i0_1, kSm_0, kSm_1, kSm_2, kSm_3, kSm_4, x5_0, x5_1, x5_2, x5_3, x5_4, e0]
  · have e0 : (nI d = 0) = False := eq_false (nI_ne0 (by omega) (by omega))
    have hsub : nI d - 1 = nI (d - 1) := nI_sub (a := d) (b := 1) (by omega)
    have u := s_33 (kk := kk) (show d - 1 < L.length by omega) hq (M := (M.2.1 b, zL)) hK
    rw [show d - 1 + 1 = d by omega, live_prev (w := w) hO hd hq] at u
    refine ⟨.int (b01 ((decide (nI q = (dd L d).2.1) || decide (nI q = (dd L d).2.2.1)) || (bt (liveL (L.drop (d + 1)) w) q && decide (¬ nI q = (dd L d).1)))), .int (b01 (decide (nI q = (dd L d).2.1) || decide (nI q = (dd L d).2.2.1))), ?_⟩
    rw [← fin]
    have s1 : kn 82 302 [.ref 0, .ref b, .ref s, .int z3, .int x4, .int (nI L.length), .int (nI kk), .long dg, .null, .ref ca, .int x10, .int x11, .int x12, .int x13, .int (nI d), .int (dd L d).1, .int (dd L d).2.1, .int (dd L d).2.2.1, .int (dd L d).2.2.2.1, .int (dd L d).2.2.2.2, .int c, .int (nI q), .int (b01 (bt (liveL (L.drop (d + 1)) w) q)), v23, v24, v25] [] M = kn 82 322 [.ref 0, .ref b, .ref s, .int z3, .int x4, .int (nI L.length), .int (nI kk), .long dg, .null, .ref ca, .int x10, .int x11, .int x12, .int x13, .int (nI d), .int (dd L d).1, .int (dd L d).2.1, .int (dd L d).2.2.1, .int (dd L d).2.2.2.1, .int (dd L d).2.2.2.2, .int c, .int (nI q), .int (b01 (bt (liveL (L.drop (d + 1)) w) q)), .int (b01 ((decide (nI q = (dd L d).2.1) || decide (nI q = (dd L d).2.2.1)) || (bt (liveL (L.drop (d + 1)) w) q && decide (¬ nI q = (dd L d).1)))), v24, v25] [] M := by
      simp only [k_82_302, k_82_304, k_82_310, k_82_311, k_82_313, k_82_315, k_82_316, k_82_317, sm_0, sm_c, ct_i, ct_r, ct_n, ct_l, ct_d, tl_s, tl_n, oK_s, cS_s, cI_0, cI_9, cA_s, cR_s, cQ_s, cN_i, cN_r, cO_s, rS_s, rK_s, cK_i, cK_j, cK_d, if_true, if_false, true_or, or_true, Nat.reduceAdd, Nat.reduceLeDiff, Nat.zero_le, Nat.reduceEqDiff, Nat.reduceSub, eq_self, Nat.le_refl, ne_eq, not_false_eq_true, not_true_eq_false, i1_0, i0_1, kSm_0, kSm_1, kSm_2, kSm_3, kSm_4, x5_0, x5_1, x5_2, x5_3, x5_4, e0, hsub, hb, u, kV_id]
      rw [k_82_320 (ct_i _)]
    rw [s1]
    by_cases h1 : nI q = (dd L d).2.1
    · have h1 := eq_true h1
      simp only [k_82_322, k_82_324, k_82_326, k_82_329, k_82_331, k_82_333, k_82_336, k_82_337, sm_0, sm_c, ct_i, ct_r, ct_n, ct_l, ct_d, tl_s, tl_n, oK_s, cS_s, cI_0, cI_9, cA_s, cR_s, cQ_s, cN_i, cN_r, cO_s, rS_s, rK_s, cK_i, cK_j, cK_d, if_true, if_false, true_or, or_true, Nat.reduceAdd, Nat.reduceLeDiff, Nat.zero_le, Nat.reduceEqDiff, Nat.reduceSub, eq_self, Nat.le_refl, ne_eq, not_false_eq_true, not_true_eq_false, i1_0, i0_1, kSm_0, kSm_1, kSm_2, kSm_3, kSm_4, x5_0, x5_1, x5_2, x5_3, x5_4, h1, decide_true, Bool.true_or, b01]
      rw [k_82_341 (ct_i _)]
      simp only [k_82_343, k_82_345, k_82_347, k_82_350, k_82_352, k_82_355, k_82_357, k_82_359, k_82_362, k_82_363, k_82_366, k_82_367, sm_0, sm_c, ct_i, ct_r, ct_n, ct_l, ct_d, tl_s, tl_n, oK_s, cS_s, cI_0, cI_9, cA_s, cR_s, cQ_s, cN_i, cN_r, cO_s, rS_s, rK_s, cK_i, cK_j, cK_d, if_true, if_false, true_or, or_true, Nat.reduceAdd, Nat.reduceLeDiff, Nat.zero_le, Nat.reduceEqDiff, Nat.reduceSub, eq_self, Nat.le_refl, ne_eq, not_false_eq_true, not_true_eq_false, i1_0, i0_1, kSm_0, kSm_1, kSm_2, kSm_3, kSm_4, x5_0, x5_1, x5_2, x5_3, x5_4, n10]
    · have h1 := eq_false h1
      by_cases h2 : nI q = (dd L d).2.2.1
      · have h2 := eq_true h2
        simp only [k_82_322, k_82_324, k_82_326, k_82_329, k_82_331, k_82_333, k_82_336, k_82_337, sm_0, sm_c, ct_i, ct_r, ct_n, ct_l, ct_d, tl_s, tl_n, oK_s, cS_s, cI_0, cI_9, cA_s, cR_s, cQ_s, cN_i, cN_r, cO_s, rS_s, rK_s, cK_i, cK_j, cK_d, if_true, if_false, true_or, or_true, Nat.reduceAdd, Nat.reduceLeDiff, Nat.zero_le, Nat.reduceEqDiff, Nat.reduceSub, eq_self, Nat.le_refl, ne_eq, not_false_eq_true, not_true_eq_false, i1_0, i0_1, kSm_0, kSm_1, kSm_2, kSm_3, kSm_4, x5_0, x5_1, x5_2, x5_3, x5_4, h1, h2, decide_true, decide_false, Bool.true_or, Bool.or_true, b01]
        rw [k_82_341 (ct_i _)]
        simp only [k_82_343, k_82_345, k_82_347, k_82_350, k_82_352, k_82_355, k_82_357, k_82_359, k_82_362, k_82_363, k_82_366, k_82_367, sm_0, sm_c, ct_i, ct_r, ct_n, ct_l, ct_d, tl_s, tl_n, oK_s, cS_s, cI_0, cI_9, cA_s, cR_s, cQ_s, cN_i, cN_r, cO_s, rS_s, rK_s, cK_i, cK_j, cK_d, if_true, if_false, true_or, or_true, Nat.reduceAdd, Nat.reduceLeDiff, Nat.zero_le, Nat.reduceEqDiff, Nat.reduceSub, eq_self, Nat.le_refl, ne_eq, not_false_eq_true, not_true_eq_false, i1_0, i0_1, kSm_0, kSm_1, kSm_2, kSm_3, kSm_4, x5_0, x5_1, x5_2, x5_3, x5_4, n10]
      · have h2 := eq_false h2
        cases bt (liveL (L.drop (d + 1)) w) q with
        | false =>
          simp only [k_82_322, k_82_324, k_82_326, k_82_329, k_82_331, k_82_333, k_82_336, k_82_337, k_82_340, sm_0, sm_c, ct_i, ct_r, ct_n, ct_l, ct_d, tl_s, tl_n, oK_s, cS_s, cI_0, cI_9, cA_s, cR_s, cQ_s, cN_i, cN_r, cO_s, rS_s, rK_s, cK_i, cK_j, cK_d, if_true, if_false, true_or, or_true, Nat.reduceAdd, Nat.reduceLeDiff, Nat.zero_le, Nat.reduceEqDiff, Nat.reduceSub, eq_self, Nat.le_refl, ne_eq, not_false_eq_true, not_true_eq_false, i1_0, i0_1, kSm_0, kSm_1, kSm_2, kSm_3, kSm_4, x5_0, x5_1, x5_2, x5_3, x5_4, h1, h2, decide_false, Bool.or_false, Bool.false_and, b01, Bool.false_eq_true]
          rw [k_82_341 (ct_i _)]
          simp only [k_82_343, k_82_345, k_82_347, k_82_350, k_82_352, k_82_366, k_82_367, sm_0, sm_c, ct_i, ct_r, ct_n, ct_l, ct_d, tl_s, tl_n, oK_s, cS_s, cI_0, cI_9, cA_s, cR_s, cQ_s, cN_i, cN_r, cO_s, rS_s, rK_s, cK_i, cK_j, cK_d, if_true, if_false, true_or, or_true, Nat.reduceAdd, Nat.reduceLeDiff, Nat.zero_le, Nat.reduceEqDiff, Nat.reduceSub, eq_self, Nat.le_refl, ne_eq, not_false_eq_true, not_true_eq_false, i1_0, i0_1, kSm_0, kSm_1, kSm_2, kSm_3, kSm_4, x5_0, x5_1, x5_2, x5_3, x5_4]
        | true =>
          by_cases h3 : nI q = (dd L d).1
          · have h3 := eq_true h3
            simp only [k_82_322, k_82_324, k_82_326, k_82_329, k_82_331, k_82_333, k_82_336, k_82_337, k_82_340, sm_0, sm_c, ct_i, ct_r, ct_n, ct_l, ct_d, tl_s, tl_n, oK_s, cS_s, cI_0, cI_9, cA_s, cR_s, cQ_s, cN_i, cN_r, cO_s, rS_s, rK_s, cK_i, cK_j, cK_d, if_true, if_false, true_or, or_true, Nat.reduceAdd, Nat.reduceLeDiff, Nat.zero_le, Nat.reduceEqDiff, Nat.reduceSub, eq_self, Nat.le_refl, ne_eq, not_false_eq_true, not_true_eq_false, i1_0, i0_1, kSm_0, kSm_1, kSm_2, kSm_3, kSm_4, x5_0, x5_1, x5_2, x5_3, x5_4, h1, h2, h3, decide_false, Bool.or_false, Bool.and_false, b01, Bool.false_eq_true]
            rw [k_82_341 (ct_i _)]
            simp only [k_82_343, k_82_345, k_82_347, k_82_350, k_82_352, k_82_355, k_82_357, k_82_359, k_82_366, k_82_367, sm_0, sm_c, ct_i, ct_r, ct_n, ct_l, ct_d, tl_s, tl_n, oK_s, cS_s, cI_0, cI_9, cA_s, cR_s, cQ_s, cN_i, cN_r, cO_s, rS_s, rK_s, cK_i, cK_j, cK_d, if_true, if_false, true_or, or_true, Nat.reduceAdd, Nat.reduceLeDiff, Nat.zero_le, Nat.reduceEqDiff, Nat.reduceSub, eq_self, Nat.le_refl, ne_eq, not_false_eq_true, not_true_eq_false, i1_0, i0_1, kSm_0, kSm_1, kSm_2, kSm_3, kSm_4, x5_0, x5_1, x5_2, x5_3, x5_4, n10, h3]
          · have h3 := eq_false h3
            simp only [k_82_322, k_82_324, k_82_326, k_82_329, k_82_331, k_82_333, k_82_336, k_82_337, k_82_340, sm_0, sm_c, ct_i, ct_r, ct_n, ct_l, ct_d, tl_s, tl_n, oK_s, cS_s, cI_0, cI_9, cA_s, cR_s, cQ_s, cN_i, cN_r, cO_s, rS_s, rK_s, cK_i, cK_j, cK_d, if_true, if_false, true_or, or_true, Nat.reduceAdd, Nat.reduceLeDiff, Nat.zero_le, Nat.reduceEqDiff, Nat.reduceSub, eq_self, Nat.le_refl, ne_eq, not_false_eq_true, not_true_eq_false, i1_0, i0_1, kSm_0, kSm_1, kSm_2, kSm_3, kSm_4, x5_0, x5_1, x5_2, x5_3, x5_4, h1, h2, h3, decide_false, decide_true, Bool.false_or, Bool.true_and, b01, Bool.false_eq_true]
            rw [k_82_341 (ct_i _)]
            simp only [k_82_343, k_82_345, k_82_347, k_82_350, k_82_352, k_82_355, k_82_357, k_82_359, k_82_362, k_82_363, k_82_367, sm_0, sm_c, ct_i, ct_r, ct_n, ct_l, ct_d, tl_s, tl_n, oK_s, cS_s, cI_0, cI_9, cA_s, cR_s, cQ_s, cN_i, cN_r, cO_s, rS_s, rK_s, cK_i, cK_j, cK_d, if_true, if_false, true_or, or_true, Nat.reduceAdd, Nat.reduceLeDiff, Nat.zero_le, Nat.reduceEqDiff, Nat.reduceSub, eq_self, Nat.le_refl, ne_eq, not_false_eq_true, not_true_eq_false, i1_0, i0_1, kSm_0, kSm_1, kSm_2, kSm_3, kSm_4, x5_0, x5_1, x5_2, x5_3, x5_4, n10, h3]
theorem d_q (h : LI M b s n xs L w kk) (hd : d < L.length) : ∀ (m q : Nat), q + m = 16 → ∀ (c : Int32) (v22 v23 v24 : Value), ∃ v22' v23' v24', kn 82 232 [.ref 0, .ref b, .ref s, .int z3, .int x4, .int (nI L.length), .int (nI kk), .long dg, .null, .ref ca, .int x10, .int x11, .int x12, .int x13, .int (nI d), .int (dd L d).1, .int (dd L d).2.1, .int (dd L d).2.2.1, .int (dd L d).2.2.2.1, .int (dd L d).2.2.2.2, .int c, .int (nI q), v22, v23, v24, v25] [] M = kn 82 378 [.ref 0, .ref b, .ref s, .int z3, .int x4, .int (nI L.length), .int (nI kk), .long dg, .null, .ref ca, .int x10, .int x11, .int x12, .int x13, .int (nI d), .int (dd L d).1, .int (dd L d).2.1, .int (dd L d).2.2.1, .int (dd L d).2.2.2.1, .int (dd L d).2.2.2.2, .int (fcR (fun q => bt (liveL (L.drop (d + 1)) w) q) m c), .int 16, v22', v23', v24', v25] [] M
  | 0, q, hq, c, v22, v23, v24 => by
    obtain rfl : q = 16 := by omega
    refine ⟨v22, v23, v24, ?_⟩
    rw [k_82_232]
    simp only [k_82_234, k_82_236, sm_0, sm_c, ct_i, ct_r, ct_n, ct_l, ct_d, tl_s, tl_n, oK_s, cS_s, cI_0, cI_9, cA_s, cR_s, cQ_s, cN_i, cN_r, cO_s, rS_s, rK_s, cK_i, cK_j, cK_d, if_true, if_false, true_or, or_true, Nat.reduceAdd, Nat.reduceLeDiff, Nat.zero_le, Nat.reduceEqDiff, Nat.reduceSub, eq_self, Nat.le_refl, ne_eq, not_false_eq_true, not_true_eq_false, i1_0, i0_1, kSm_0, kSm_1, kSm_2, kSm_3, kSm_4, x5_0, x5_1, x5_2, x5_3, x5_4, nI_16, Int32.le_refl, fcR]
  | m + 1, q, hq, c, v22, v23, v24 => by
    have e1 := d_qa (ca := ca) (z3 := z3) (x4 := x4) (x10 := x10) (x11 := x11) (x12 := x12) (x13 := x13) (dg := dg) (v22 := v22) (v23 := v23) (v24 := v24) (v25 := v25) h hd (show q < 16 by omega) (c := c)
    obtain ⟨w23, w24, e2⟩ := d_qb (ca := ca) (z3 := z3) (x4 := x4) (x10 := x10) (x11 := x11) (x12 := x12) (x13 := x13) (dg := dg) (v23 := v23) (v24 := v24) (v25 := v25) h hd (show q < 16 by omega) (c := c + b01 (bt (liveL (L.drop (d + 1)) w) q))
    obtain ⟨w22, w23', w24', e3⟩ := d_q h hd m (q + 1) (by omega) (c + b01 (bt (liveL (L.drop (d + 1)) w) q)) (.int (b01 (bt (liveL (L.drop (d + 1)) w) q))) w23 w24
    refine ⟨w22, w23', w24', ?_⟩
    rw [e1, e2, e3, fcR, show 15 - m = q by omega]
end
