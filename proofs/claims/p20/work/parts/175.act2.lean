/-! the law: act, deed by deed -/
section
variable {M : kM} {b s n kk m p t : Nat} {xs : Nat → Int32} {L : List Dd} {w v x6 x7 : Int32}
theorem kA_ex2 {M : kM} {v c : kC} {n : Nat} : ∀ k, k ≤ kN M → (kI (kA M v n) (kN M + 1) c).1 k = M.1 k := fun k hk => (kI_ne (by omega)).trans (kA_ex.2.1 k hk)
theorem LI.row {M : kM} {b s n kk : Nat} {xs : Nat → Int32} {L : List Dd} {w : Int32} (h : LI M b s n xs L w kk) (g : Nat → Int32) : SimI (kI (kA M (.inl (0, 5, kG0)) 5) (kN M + 1) (.inl (0, 5, g))) s L w kk ∧ Fr M (kI (kA M (.inl (0, 5, kG0)) 5) (kN M + 1) (.inl (0, 5, g))) :=
  ⟨h.2.2.2.1.ey (Nat.le_succ _) kA_ex2, ⟨Nat.le_succ _, fun k hk _ => kA_ex2 k hk⟩⟩
theorem act_cook (h : LI M b s n xs L w kk) (hp : p < 16) (h6 : x6 = -1 ∨ isP x6) (h7 : x7 = -1 ∨ isP x7) (t1 : 1 ≤ t) (t9 : t ≤ 9) : ∃ (M' : kM) (L2 : List Dd), kn 79 144 [.ref b, .ref s, .int v, .int (nI L.length), .int (nI m), .int (nI p), .int x6, .int x7, .int (nI t), .null, .null] [] M = some (some (.int 1), M') ∧ LI M' b s n xs L2 w kk ∧ kLe M M' 3 42 := by
  obtain ⟨hsc, hn31, hK, hS, hw, hk1, hk8⟩ := h
  have hh : LI M b s n xs L w kk := ⟨hsc, hn31, hK, hS, hw, hk1, hk8⟩
  have g1 := potB_p hp
  have g2 := ponB_i h6
  have g3 := ponB_i h7
  have g4 := wtB_n t1 t9
  by_cases hl : L.length < 30
  · obtain ⟨M1, hM1⟩ : ∃ M1, M1 = kI (kA M (.inl (0, 5, kG0)) 5) (kN M + 1) (.inl (0, 5, upd (upd (upd (upd (upd kG0 0 (nI p)) 1 x6) 2 x7) 3 (nI t)) 4 0)) := ⟨_, rfl⟩
    have hrow := hh.row (upd (upd (upd (upd (upd kG0 0 (nI p)) 1 x6) 2 x7) 3 (nI t)) 4 0)
    rw [← hM1] at hrow
    have hra : M1.1 (kN M + 1) = .inl (0, 5, upd (upd (upd (upd (upd kG0 0 (nI p)) 1 x6) 2 x7) 3 (nI t)) 4 0) := by rw [hM1]; exact kI_self
    have hN1 : kN M1 = kN M + 1 := by rw [hM1]; rfl
    obtain ⟨M2, u80, r1, r2, r3, r4⟩ := s_k80 (x := (nI p, x6, x7, nI t, 0)) hrow.1 hra (by omega) (by simp [upd]) (by simp [upd]) (by simp [upd]) (by simp [upd]) (by simp [upd]) (okD_c g1 g2 g3 g4) hl
    have hf : Fr M M2 := hrow.2.tr r2
    have hb2 := (hf.kt hK).1
    have e21 : M2.2.1 = M.2.1 := by rw [r3, hM1]; rfl
    obtain ⟨f', u27, c27, -⟩ := s_27 (kk := kk) (by omega) (p := nI p) (u := x6) (v := x7) (t := nI t) (M := (M.2.1 b, zL)) hK.2.2 g1 g2 g3 g4 hl
    have hle : ((30 : Int32) ≤ nI L.length) = False := eq_false (nI_ge (a := L.length) (b := 30) hl (by omega))
    have hx5 : ∀ k, nA 5 k = k 5 := fun k => rfl
    refine ⟨kV M2 b f' 0, L ++ [(nI p, x6, x7, nI t, 0)], ?_, LI.nx hh hf r1 c27 hw hk1 hk8, ?_⟩
    · have e1 : kn 79 144 [.ref b, .ref s, .int v, .int (nI L.length), .int (nI m), .int (nI p), .int x6, .int x7, .int (nI t), .null, .null] [] M = kn 79 181 [.ref b, .ref s, .int v, .int (nI L.length), .int (nI m), .int (nI p), .int x6, .int x7, .int (nI t), .null, .null] [] M2 := by
        rw [k_79_144]
        simp only [k_79_145, k_79_147, k_79_150, k_79_151, k_79_152, k_79_154, k_79_155, k_79_156, k_79_158, k_79_159, k_79_160, k_79_161, k_79_163, k_79_164, k_79_165, k_79_166, k_79_168, k_79_169, k_79_170, k_79_171, k_79_173, k_79_174, k_79_175, k_79_176, k_79_177, sm_0, sm_c, ct_i, ct_r, ct_n, ct_l, ct_d, tl_s, tl_n, oK_s, cS_s, cI_0, cI_9, cA_s, cR_s, cQ_s, cN_i, cN_r, cO_s, rS_s, rK_s, cK_i, cK_j, cK_d, if_true, if_false, true_or, or_true, Nat.reduceAdd, Nat.reduceLeDiff, Nat.zero_le, Nat.reduceEqDiff, Nat.reduceSub, eq_self, Nat.le_refl, ne_eq, not_false_eq_true, not_true_eq_false, i1_0, i0_1, kSm_0, kSm_1, kSm_2, kSm_3, kSm_4, x5_0, x5_1, x5_2, x5_3, x5_4, hle, hx5, kA_self, kI_self, kI_kI, ← hM1]
        rw [k_79_178 (by decide), u80]
        rfl
      rw [e1]
      simp only [k_79_181, k_79_182, k_79_184, k_79_186, k_79_188, k_79_190, k_79_193, k_79_195, k_79_196, k_79_198, k_79_201, k_79_203, k_79_204, k_79_207, k_79_208, k_79_211, k_79_212, sm_0, sm_c, ct_i, ct_r, ct_n, ct_l, ct_d, tl_s, tl_n, oK_s, cS_s, cI_0, cI_9, cA_s, cR_s, cQ_s, cN_i, cN_r, cO_s, rS_s, rK_s, cK_i, cK_j, cK_d, if_true, if_false, true_or, or_true, Nat.reduceAdd, Nat.reduceLeDiff, Nat.zero_le, Nat.reduceEqDiff, Nat.reduceSub, eq_self, Nat.le_refl, ne_eq, not_false_eq_true, not_true_eq_false, i1_0, i0_1, kSm_0, kSm_1, kSm_2, kSm_3, kSm_4, x5_0, x5_1, x5_2, x5_3, x5_4, hb2, e21, u27, hle]
    · have : kLe M M1 1 5 := by rw [hM1]; exact ⟨Nat.le_refl _, Nat.le_refl _⟩
      exact (this.tr r4).mo (by omega) (by omega)
  · have hl30 : L.length = 30 := by have := hS.len; omega
    have hle : ((30 : Int32) ≤ nI L.length) = True := by rw [hl30]; exact eq_true (Int32.le_refl _)
    have heq : (nI L.length = 30) = True := by rw [hl30]; exact eq_true rfl
    have u27 := s_27z (p := nI p) (u := x6) (v := x7) (t := nI t) (M := (M.2.1 b, zL)) hK.2.2 g1 g2 g3 g4 hl30
    refine ⟨kV M b (M.2.1 b) 1, L, ?_, LI.nx hh (Fr.rf _) hS hK.2.2 hw hk1 hk8, ⟨by show kCs M + 1 ≤ _; omega, by show kSs M + 6 * 1 ≤ _; omega⟩⟩
    have hb := hK.1
    simp only [k_79_144, k_79_145, k_79_147, k_79_181, k_79_182, k_79_184, k_79_186, k_79_188, k_79_190, sm_0, sm_c, ct_i, ct_r, ct_n, ct_l, ct_d, tl_s, tl_n, oK_s, cS_s, cI_0, cI_9, cA_s, cR_s, cQ_s, cN_i, cN_r, cO_s, rS_s, rK_s, cK_i, cK_j, cK_d, if_true, if_false, true_or, or_true, Nat.reduceAdd, Nat.reduceLeDiff, Nat.zero_le, Nat.reduceEqDiff, Nat.reduceSub, eq_self, Nat.le_refl, ne_eq, not_false_eq_true, not_true_eq_false, i1_0, i0_1, kSm_0, kSm_1, kSm_2, kSm_3, kSm_4, x5_0, x5_1, x5_2, x5_3, x5_4, hle, hb, u27, cK_x, hk_190]
    rw [k_79_215]
    simp only [k_79_216, k_79_218, k_79_221, k_79_222, k_79_225, k_79_226, sm_0, sm_c, ct_i, ct_r, ct_n, ct_l, ct_d, tl_s, tl_n, oK_s, cS_s, cI_0, cI_9, cA_s, cR_s, cQ_s, cN_i, cN_r, cO_s, rS_s, rK_s, cK_i, cK_j, cK_d, if_true, if_false, true_or, or_true, Nat.reduceAdd, Nat.reduceLeDiff, Nat.zero_le, Nat.reduceEqDiff, Nat.reduceSub, eq_self, Nat.le_refl, ne_eq, not_false_eq_true, not_true_eq_false, i1_0, i0_1, kSm_0, kSm_1, kSm_2, kSm_3, kSm_4, x5_0, x5_1, x5_2, x5_3, x5_4, heq, not_true_eq_false]
    rfl
theorem act_pour (h : LI M b s n xs L w kk) (hp : p < 16) (hm : m = 16 ∨ m = 7) (t1 : 1 ≤ t) (t9 : t ≤ 9) : ∃ (M' : kM) (L2 : List Dd), kn 79 227 [.ref b, .ref s, .int v, .int (nI L.length), .int (nI m), .int (nI p), .int x6, .int x7, .int (nI t), .null, .null] [] M = some (some (.int 1), M') ∧ LI M' b s n xs L2 w kk ∧ kLe M M' 3 42 := by
  obtain ⟨hsc, hn31, hK, hS, hw, hk1, hk8⟩ := h
  have hh : LI M b s n xs L w kk := ⟨hsc, hn31, hK, hS, hw, hk1, hk8⟩
  have um : ∀ v, kn 77 0 [.int v, .int (nI m)] [] M = some (some (.int (nI (blw v m))), M) := fun v => s_bl (by omega) (by omega)
  have hu := blw_lt (v := v >>> (7 &&& 31)) (n := m) (by omega)
  have e0 : kn 79 227 [.ref b, .ref s, .int v, .int (nI L.length), .int (nI m), .int (nI p), .int x6, .int x7, .int (nI t), .null, .null] [] M = kn 79 238 [.ref b, .ref s, .int v, .int (nI L.length), .int (nI m), .int (nI p), .int x6, .int x7, .int (nI t), .int (nI (blw (v >>> (7 &&& 31)) m)), .null] [] M := by
    rw [k_79_227]
    simp only [k_79_228, k_79_230, k_79_231, k_79_233, k_79_236, sm_0, sm_c, ct_i, ct_r, ct_n, ct_l, ct_d, tl_s, tl_n, oK_s, cS_s, cI_0, cI_9, cA_s, cR_s, cQ_s, cN_i, cN_r, cO_s, rS_s, rK_s, cK_i, cK_j, cK_d, if_true, if_false, true_or, or_true, Nat.reduceAdd, Nat.reduceLeDiff, Nat.zero_le, Nat.reduceEqDiff, Nat.reduceSub, eq_self, Nat.le_refl, ne_eq, not_false_eq_true, not_true_eq_false, i1_0, i0_1, kSm_0, kSm_1, kSm_2, kSm_3, kSm_4, x5_0, x5_1, x5_2, x5_3, x5_4, um]
  rw [e0]
  generalize blw (v >>> (7 &&& 31)) m = u at hu
  have g1 := potB_p hp
  have g2 : potB (nI u) = true := potB_p (by omega)
  have g4 := wtB_n t1 t9
  by_cases hl : L.length < 30
  · obtain ⟨M1, hM1⟩ : ∃ M1, M1 = kI (kA M (.inl (0, 5, kG0)) 5) (kN M + 1) (.inl (0, 5, upd (upd (upd (upd (upd kG0 0 (nI p)) 1 (nI u)) 2 (-1)) 3 (nI t)) 4 1)) := ⟨_, rfl⟩
    have hrow := hh.row (upd (upd (upd (upd (upd kG0 0 (nI p)) 1 (nI u)) 2 (-1)) 3 (nI t)) 4 1)
    rw [← hM1] at hrow
    have hra : M1.1 (kN M + 1) = .inl (0, 5, upd (upd (upd (upd (upd kG0 0 (nI p)) 1 (nI u)) 2 (-1)) 3 (nI t)) 4 1) := by rw [hM1]; exact kI_self
    have hN1 : kN M1 = kN M + 1 := by rw [hM1]; rfl
    obtain ⟨M2, u80, r1, r2, r3, r4⟩ := s_k80 (x := (nI p, nI u, -1, nI t, 1)) hrow.1 hra (by omega) (by simp [upd]) (by simp [upd]) (by simp [upd]) (by simp [upd]) (by simp [upd]) (okD_p g1 g2 g4) hl
    have hf : Fr M M2 := hrow.2.tr r2
    have hb2 := (hf.kt hK).1
    have e21 : M2.2.1 = M.2.1 := by rw [r3, hM1]; rfl
    obtain ⟨f', u28, c28, -⟩ := s_28 (kk := kk) (by omega) (p := nI p) (u := nI u) (t := nI t) (M := (M.2.1 b, zL)) hK.2.2 g1 g2 g4 hl
    have hle : ((30 : Int32) ≤ nI L.length) = False := eq_false (nI_ge (a := L.length) (b := 30) hl (by omega))
    have hx5 : ∀ k, nA 5 k = k 5 := fun k => rfl
    refine ⟨kV M2 b f' 0, L ++ [(nI p, nI u, -1, nI t, 1)], ?_, LI.nx hh hf r1 c28 hw hk1 hk8, ?_⟩
    · have e1 : kn 79 238 [.ref b, .ref s, .int v, .int (nI L.length), .int (nI m), .int (nI p), .int x6, .int x7, .int (nI t), .int (nI u), .null] [] M = kn 79 274 [.ref b, .ref s, .int v, .int (nI L.length), .int (nI m), .int (nI p), .int x6, .int x7, .int (nI t), .int (nI u), .null] [] M2 := by
        rw [k_79_238]
        simp only [k_79_239, k_79_241, k_79_244, k_79_245, k_79_246, k_79_248, k_79_249, k_79_250, k_79_252, k_79_253, k_79_254, k_79_255, k_79_257, k_79_258, k_79_259, k_79_260, k_79_261, k_79_262, k_79_263, k_79_264, k_79_266, k_79_267, k_79_268, k_79_269, k_79_270, sm_0, sm_c, ct_i, ct_r, ct_n, ct_l, ct_d, tl_s, tl_n, oK_s, cS_s, cI_0, cI_9, cA_s, cR_s, cQ_s, cN_i, cN_r, cO_s, rS_s, rK_s, cK_i, cK_j, cK_d, if_true, if_false, true_or, or_true, Nat.reduceAdd, Nat.reduceLeDiff, Nat.zero_le, Nat.reduceEqDiff, Nat.reduceSub, eq_self, Nat.le_refl, ne_eq, not_false_eq_true, not_true_eq_false, i1_0, i0_1, kSm_0, kSm_1, kSm_2, kSm_3, kSm_4, x5_0, x5_1, x5_2, x5_3, x5_4, hle, hx5, kA_self, kI_self, kI_kI, ← hM1]
        rw [k_79_271 (by decide), u80]
        rfl
      rw [e1]
      simp only [k_79_274, k_79_275, k_79_277, k_79_279, k_79_281, k_79_284, k_79_286, k_79_287, k_79_289, k_79_292, k_79_294, k_79_295, k_79_298, k_79_299, k_79_302, k_79_303, sm_0, sm_c, ct_i, ct_r, ct_n, ct_l, ct_d, tl_s, tl_n, oK_s, cS_s, cI_0, cI_9, cA_s, cR_s, cQ_s, cN_i, cN_r, cO_s, rS_s, rK_s, cK_i, cK_j, cK_d, if_true, if_false, true_or, or_true, Nat.reduceAdd, Nat.reduceLeDiff, Nat.zero_le, Nat.reduceEqDiff, Nat.reduceSub, eq_self, Nat.le_refl, ne_eq, not_false_eq_true, not_true_eq_false, i1_0, i0_1, kSm_0, kSm_1, kSm_2, kSm_3, kSm_4, x5_0, x5_1, x5_2, x5_3, x5_4, hb2, e21, u28, hle]
    · have : kLe M M1 1 5 := by rw [hM1]; exact ⟨Nat.le_refl _, Nat.le_refl _⟩
      exact (this.tr r4).mo (by omega) (by omega)
  · have hl30 : L.length = 30 := by have := hS.len; omega
    have hle : ((30 : Int32) ≤ nI L.length) = True := by rw [hl30]; exact eq_true (Int32.le_refl _)
    have heq : (nI L.length = 30) = True := by rw [hl30]; exact eq_true rfl
    have u28 := s_28z (p := nI p) (u := nI u) (t := nI t) (M := (M.2.1 b, zL)) hK.2.2 g1 g2 g4 hl30
    refine ⟨kV M b (M.2.1 b) 1, L, ?_, LI.nx hh (Fr.rf _) hS hK.2.2 hw hk1 hk8, ⟨by show kCs M + 1 ≤ _; omega, by show kSs M + 6 * 1 ≤ _; omega⟩⟩
    have hb := hK.1
    simp only [k_79_238, k_79_239, k_79_241, k_79_274, k_79_275, k_79_277, k_79_279, k_79_281, sm_0, sm_c, ct_i, ct_r, ct_n, ct_l, ct_d, tl_s, tl_n, oK_s, cS_s, cI_0, cI_9, cA_s, cR_s, cQ_s, cN_i, cN_r, cO_s, rS_s, rK_s, cK_i, cK_j, cK_d, if_true, if_false, true_or, or_true, Nat.reduceAdd, Nat.reduceLeDiff, Nat.zero_le, Nat.reduceEqDiff, Nat.reduceSub, eq_self, Nat.le_refl, ne_eq, not_false_eq_true, not_true_eq_false, i1_0, i0_1, kSm_0, kSm_1, kSm_2, kSm_3, kSm_4, x5_0, x5_1, x5_2, x5_3, x5_4, hle, hb, u28, cK_x, hk_281]
    rw [k_79_306]
    simp only [k_79_307, k_79_309, k_79_312, k_79_313, k_79_316, k_79_317, sm_0, sm_c, ct_i, ct_r, ct_n, ct_l, ct_d, tl_s, tl_n, oK_s, cS_s, cI_0, cI_9, cA_s, cR_s, cQ_s, cN_i, cN_r, cO_s, rS_s, rK_s, cK_i, cK_j, cK_d, if_true, if_false, true_or, or_true, Nat.reduceAdd, Nat.reduceLeDiff, Nat.zero_le, Nat.reduceEqDiff, Nat.reduceSub, eq_self, Nat.le_refl, ne_eq, not_false_eq_true, not_true_eq_false, i1_0, i0_1, kSm_0, kSm_1, kSm_2, kSm_3, kSm_4, x5_0, x5_1, x5_2, x5_3, x5_4, heq, not_true_eq_false]
    rfl
end
