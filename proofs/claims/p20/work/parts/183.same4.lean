/-! the sim: isSame, put together -/
theorem kW_ne {M : kM} {b kk pa : Nat} {L : List Dd} {w : Int32} {pl : Nat → Int32} (h : KtI M b L w kk) (hp : M.1 pa = .inl (0, 16, pl)) : b ≠ pa := cell_ne h.1 hp (by simp)
theorem s_k71 {M : kM} {b s n kk : Nat} {xs : Nat → Int32} {L : List Dd} {w : Int32} (h : LI M b s n xs L w kk) : ∃ M', kn 71 0 [.ref s, .ref b, .null, .null, .null, .null, .null, .null, .null, .null, .null, .null, .null, .null, .null, .null, .null] [] M = some (some (.int 1), M') ∧ kLe M M' 84 908 := by
  obtain ⟨hsc, hn31, hK, ⟨dk, gu, pa, ha, vv, r, gg, gw, pl, hu, hR, hn, hp, hh, np, nh, hne, zp, zh⟩, hw, hk1, hk8⟩ := h
  have hO := hR.2.2.2.2.2.2
  have hl := hR.2.2.2.2.2.1
  obtain ⟨g, c1, eg⟩ := s_k65 hR hn
  have hex1 : kEx M (kLg M g) := kLg_ex
  have hrm : (kLg M g).1 (kN M + 1) = _ := kLg_c
  have hrows : ∀ a, a < 16 → (kLg M g).1 (kN M + 1 + 1 + a) = .inl (1, 16, g a) := fun a ha => kLg_r ha
  have hN1 : kN (kLg M g) = kN M + 17 := rfl
  have hle1 : kLe M (kLg M g) 17 272 := ⟨Nat.le_refl _, Nat.le_refl _⟩
  generalize kLg M g = M1 at c1 hex1 hrm hrows hN1 hle1
  have hR1 := hR.ex hn hex1
  have hn1 := hn.ex hex1
  have hp1 := (hex1.2.1 _ np).trans hp
  have hh1 := (hex1.2.1 _ nh).trans hh
  obtain ⟨M2, g2, lg2, y, hy, c2, hH⟩ := s_k69 hR1 hn1 hp1 hh1 (by omega) (by omega) hne hw hk1 (show kk ≤ 16 by omega) zp zh
  have hR2 := hH.sm hR1 hn1 hp1 hh1
  have hS := hR.1
  have hS1 := hR1.1
  have hS2 := hR2.1
  have hle2 : kLe M1 M2 19 304 := ⟨by rw [hH.2.2.1]; omega, by rw [hH.2.2.2.1]; omega⟩
  have hN2 : kN M2 = kN M + 36 := by rw [hH.2.1, hN1]
  have hI : IsF M2 s b dk gu kk pa ha (kN M + 1) vv r gg gw L w g := by
    obtain ⟨n1, n2, n3, n4⟩ := hn
    have lo := hH.2.2.2.2.1
    refine ⟨hR2, ⟨by omega, by omega, by omega, fun d hd => by have := n4 d hd; omega⟩, hH.2.2.2.2.2.1, hH.2.2.2.2.2.2.1, by omega, by omega, (lo _ (by omega) (by omega) (by omega)).trans hrm, by omega, fun a ha => (lo _ (by omega) (by omega) (by omega)).trans (hrows a ha), eg, ⟨(lo _ (by have := hK.2.1; omega) (kW_ne hK hp) (kW_ne hK hh)).trans ((hex1.2.1 _ (by have := hK.2.1; omega)).trans hK.1), by have := hK.2.1; omega, ?_⟩, hw, hk1, hk8⟩
    rw [hH.1, hex1.2.2 _ hK.2.1]
    exact hK.2.2
  have ua := alv hR2 hw (j := 0) (Nat.zero_le _)
  rw [dn_0, List.drop_zero] at ua
  have e0 : kn 71 0 [.ref s, .ref b, .null, .null, .null, .null, .null, .null, .null, .null, .null, .null, .null, .null, .null, .null, .null] [] M = kn 71 36 [.ref s, .ref b, .ref (kN M + 1), .int (bc (HG L w kk).2.2), .int (bc (liveL L w)), .int 0, .int 0, .int 0, .int 0, .int 0, .null, .null, .null, .null, .null, .null, .null] [] M2 := by
    simp only [k_71_0, k_71_1, sm_0, sm_c, ct_i, ct_r, ct_n, ct_l, ct_d, tl_s, tl_n, oK_s, cS_s, cI_0, cI_9, cA_s, cR_s, cQ_s, cN_i, cN_r, cO_s, rS_s, rK_s, cK_i, cK_j, cK_d, if_true, if_false, true_or, or_true, Nat.reduceAdd, Nat.reduceLeDiff, Nat.zero_le, Nat.reduceEqDiff, Nat.reduceSub, eq_self, Nat.le_refl, ne_eq, not_false_eq_true, not_true_eq_false, i1_0, i0_1, kSm_0, kSm_1, kSm_2, kSm_3, kSm_4, x5_0, x5_1, x5_2, x5_3, x5_4, hS, c1]
    rw [k_71_4 (ct_r _)]
    simp only [k_71_5, k_71_6, k_71_7, k_71_10, sm_0, sm_c, ct_i, ct_r, ct_n, ct_l, ct_d, tl_s, tl_n, oK_s, cS_s, cI_0, cI_9, cA_s, cR_s, cQ_s, cN_i, cN_r, cO_s, rS_s, rK_s, cK_i, cK_j, cK_d, if_true, if_false, true_or, or_true, Nat.reduceAdd, Nat.reduceLeDiff, Nat.zero_le, Nat.reduceEqDiff, Nat.reduceSub, eq_self, Nat.le_refl, ne_eq, not_false_eq_true, not_true_eq_false, i1_0, i0_1, kSm_0, kSm_1, kSm_2, kSm_3, kSm_4, x5_0, x5_1, x5_2, x5_3, x5_4, hS1, c2]
    rw [k_71_13 (ct_r _)]
    simp only [k_71_14, k_71_15, k_71_16, sm_0, sm_c, ct_i, ct_r, ct_n, ct_l, ct_d, tl_s, tl_n, oK_s, cS_s, cI_0, cI_9, cA_s, cR_s, cQ_s, cN_i, cN_r, cO_s, rS_s, rK_s, cK_i, cK_j, cK_d, if_true, if_false, true_or, or_true, Nat.reduceAdd, Nat.reduceLeDiff, Nat.zero_le, Nat.reduceEqDiff, Nat.reduceSub, eq_self, Nat.le_refl, ne_eq, not_false_eq_true, not_true_eq_false, i1_0, i0_1, kSm_0, kSm_1, kSm_2, kSm_3, kSm_4, x5_0, x5_1, x5_2, x5_3, x5_4, hS2, ua]
    rw [k_71_19 (ct_i _)]
    simp only [k_71_21, k_71_22, k_71_24, k_71_25, k_71_27, k_71_28, k_71_30, k_71_31, k_71_33, k_71_34, sm_0, sm_c, ct_i, ct_r, ct_n, ct_l, ct_d, tl_s, tl_n, oK_s, cS_s, cI_0, cI_9, cA_s, cR_s, cQ_s, cN_i, cN_r, cO_s, rS_s, rK_s, cK_i, cK_j, cK_d, if_true, if_false, true_or, or_true, Nat.reduceAdd, Nat.reduceLeDiff, Nat.zero_le, Nat.reduceEqDiff, Nat.reduceSub, eq_self, Nat.le_refl, ne_eq, not_false_eq_true, not_true_eq_false, i1_0, i0_1, kSm_0, kSm_1, kSm_2, kSm_3, kSm_4, x5_0, x5_1, x5_2, x5_3, x5_4]
  obtain ⟨M3, v10, v11, v12, d10, d11, d12, e1, x3, l3⟩ := i_loop (z3 := bc (HG L w kk).2.2) (v13 := .null) (v14 := .null) (v15 := .null) (v16 := .null) L.length 0 (by omega) M2 (bc (liveL L w)) 0 0 0 0 .null .null .null rfl rfl rfl hI
  rw [nI_0, List.drop_zero] at e1
  have hI3 := hI.ex x3
  obtain ⟨M4, hM4⟩ : ∃ M4, M4 = kA M3 (.inl (1, 16, kG0)) 16 := ⟨_, rfl⟩
  have e2 : kn 71 304 [.ref s, .ref b, .ref (kN M + 1), .int (bc (HG L w kk).2.2), .int (crw w L (bc (liveL L w))), .int (sbh w L 0), .int (cnt isP4 L 0), .int (cnt (spd (HG L w kk).1) L 0), .int (wns (HG L w kk).1 L 0), .int (nI L.length), v10, v11, v12, .null, .null, .null, .null] [] M3 = kn 71 319 [.ref s, .ref b, .ref (kN M + 1), .int (bc (HG L w kk).2.2), .int (crw w L (bc (liveL L w))), .int (sbh w L 0), .int (cnt isP4 L 0), .int (cnt (spd (HG L w kk).1) L 0), .int (wns (HG L w kk).1 L 0), .int 0, .int 0, .ref (kN M3 + 1), .int 0, .null, .null, .null, .null] [] M4 := by
    have e16 : ∀ k, nA 16 k = k 16 := fun k => rfl
    simp only [k_71_304, k_71_305 (ct_i _), k_71_307, k_71_308 (ct_i _), k_71_310, k_71_312, k_71_314, k_71_316, sm_0, sm_c, ct_i, ct_r, ct_n, ct_l, ct_d, tl_s, tl_n, oK_s, cS_s, cI_0, cI_9, cA_s, cR_s, cQ_s, cN_i, cN_r, cO_s, rS_s, rK_s, cK_i, cK_j, cK_d, if_true, if_false, true_or, or_true, Nat.reduceAdd, Nat.reduceLeDiff, Nat.zero_le, Nat.reduceEqDiff, Nat.reduceSub, eq_self, Nat.le_refl, ne_eq, not_false_eq_true, not_true_eq_false, i1_0, i0_1, kSm_0, kSm_1, kSm_2, kSm_3, kSm_4, x5_0, x5_1, x5_2, x5_3, x5_4, e16, hM4]
    rw [k_71_317 (ct_r _)]
  have x4 : kEx M3 M4 := by rw [hM4]; exact kA_ex
  obtain ⟨M5, w13, w14, w15, w16, e3, x5, n5, f5, l5⟩ := j_loop (z3 := bc (HG L w kk).2.2) (x4 := crw w L (bc (liveL L w))) (x5 := sbh w L 0) (x6 := cnt isP4 L 0) (x7 := cnt (spd (HG L w kk).1) L 0) (x8 := wns (HG L w kk).1 L 0) hI3 rfl 16 0 rfl M4 0 0 .null .null .null .null kG0 x4 (by rw [hM4]; exact Nat.le_refl _) (by rw [hM4]; exact kA_self)
  rw [nI_0] at e3
  have hI5 := hI3.ex x5
  have hth := s16_th (w := w) hO hw
  have hPA := (HG_inv hO hl hw hk1 (show kk ≤ 16 by omega)).1
  have hKR := HG_KR hO hl hw hk1 (show kk ≤ 16 by omega)
  rw [fcR_bc hth (fun q hq => rfl)] at e3
  obtain ⟨w14', w15', e4⟩ := h_loop (z3 := bc (HG L w kk).2.2) (x4 := crw w L (bc (liveL L w))) (x5 := sbh w L 0) (x6 := cnt isP4 L 0) (x7 := cnt (spd (HG L w kk).1) L 0) (x8 := wns (HG L w kk).1 L 0) (x9 := bc (STU L w).1) (x10 := prR (STU L w).2.1 16 0) (v16 := w16) hI5 f5 (fun x hx => iuR_pa hPA hx rfl) kk 0 (by omega) 0 w14 w15
  rw [nI_0, uhR_huR hPA hKR (show kk ≤ 16 by omega) kk (Nat.le_refl _) 0, show kk + (16 - kk) = 16 by omega] at e4
  have e34 : kn 71 546 [.ref s, .ref b, .ref (kN M + 1), .int (bc (HG L w kk).2.2), .int (crw w L (bc (liveL L w))), .int (sbh w L 0), .int (cnt isP4 L 0), .int (cnt (spd (HG L w kk).1) L 0), .int (wns (HG L w kk).1 L 0), .int (bc (STU L w).1), .int (prR (STU L w).2.1 16 0), .ref (kN M3 + 1), .int 16, w13, w14, w15, w16] [] M5 = kn 71 552 [.ref s, .ref b, .ref (kN M + 1), .int (bc (HG L w kk).2.2), .int (crw w L (bc (liveL L w))), .int (sbh w L 0), .int (cnt isP4 L 0), .int (cnt (spd (HG L w kk).1) L 0), .int (wns (HG L w kk).1 L 0), .int (bc (STU L w).1), .int (prR (STU L w).2.1 16 0), .ref (kN M3 + 1), .int 0, .int 0, w14, w15, w16] [] M5 := by
    simp only [k_71_546, k_71_547, k_71_549, k_71_550, sm_0, sm_c, ct_i, ct_r, ct_n, ct_l, ct_d, tl_s, tl_n, oK_s, cS_s, cI_0, cI_9, cA_s, cR_s, cQ_s, cN_i, cN_r, cO_s, rS_s, rK_s, cK_i, cK_j, cK_d, if_true, if_false, true_or, or_true, Nat.reduceAdd, Nat.reduceLeDiff, Nat.zero_le, Nat.reduceEqDiff, Nat.reduceSub, eq_self, Nat.le_refl, ne_eq, not_false_eq_true, not_true_eq_false, i1_0, i0_1, kSm_0, kSm_1, kSm_2, kSm_3, kSm_4, x5_0, x5_1, x5_2, x5_3, x5_4]
  have e5 := f_row (iu := kN M3 + 1) (x4 := crw w L (bc (liveL L w))) (x5 := sbh w L 0) (v14 := w14') (v15 := w15') (v16 := w16) hI5
  have hI6 := hI5.ex (M' := kI (kA M5 (.inl (0, 10, kG0)) 10) (kN M5 + 1) (.inl (0, 10, W10 L w kk))) kA_kI_ex
  have hwa : (kI (kA M5 (.inl (0, 10, kG0)) 10) (kN M5 + 1) (.inl (0, 10, W10 L w kk))).1 (kN M5 + 1) = .inl (0, 10, W10 L w kk) := kI_self
  have l6 : kLe M5 (kI (kA M5 (.inl (0, 10, kG0)) 10) (kN M5 + 1) (.inl (0, 10, W10 L w kk))) 1 10 := ⟨Nat.le_refl _, Nat.le_refl _⟩
  generalize kI (kA M5 (.inl (0, 10, kG0)) 10) (kN M5 + 1) (.inl (0, 10, W10 L w kk)) = M6 at e5 hI6 hwa l6
  have e6 := f_l710 (iu := kN M3 + 1) (z3 := bc (HG L w kk).2.2) (x4 := crw w L (bc (liveL L w))) (x5 := sbh w L 0) (x6 := cnt isP4 L 0) (x7 := cnt (spd (HG L w kk).1) L 0) (x8 := wns (HG L w kk).1 L 0) (x9 := bc (STU L w).1) (x10 := prR (STU L w).2.1 16 0) (x12 := huR (HG L w kk).2.1 16 0) (v15 := w15') (v16 := w16) hI6 hwa 10 0 rfl
  rw [nI_0] at e6
  have e7 := f_end (iu := kN M3 + 1) (z3 := bc (HG L w kk).2.2) (x6 := cnt isP4 L 0) (x7 := cnt (spd (HG L w kk).1) L 0) (x8 := wns (HG L w kk).1 L 0) (x9 := bc (STU L w).1) (x10 := prR (STU L w).2.1 16 0) (x12 := huR (HG L w kk).2.1 16 0) (wa := kN M5 + 1) (v15 := w15') (v16 := w16) hI6
  refine ⟨M6, ?_, ?_⟩
  · rw [e0, e1, e2, e3, e34, e4, e5, e6, e7]
  · have l4 : kLe M3 M4 1 16 := by rw [hM4]; exact ⟨Nat.le_refl _, Nat.le_refl _⟩
    exact (((((hle1.tr hle2).tr l3).tr l4).tr l5).tr l6).mo (by omega) (by omega)
