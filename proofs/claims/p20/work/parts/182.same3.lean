/-! the sim: isSame, all of it -/
section
variable {M : kM} {s b dk gu kk pa ha rm : Nat} {vv : Nat → Option Nat} {r : Nat → Nat} {gg : Nat → Nat → Int32} {gw : Nat → Int32} {L : List Dd} {w : Int32} {g : Nat → Nat → Int32} {p iu : Nat} {z3 x4 x5 x6 x7 x8 x9 x10 : Int32} {v13 v14 v15 v16 : Value}
theorem j_loop {M0 : kM} (h : IsF M0 s b dk gu kk pa ha rm vv r gg gw L w g) (hiu : iu = kN M0 + 1) : ∀ (n p : Nat), p + n = 16 → ∀ (M : kM) (x9 x10 : Int32) (v13 v14 v15 v16 : Value) (f : Nat → Int32), kEx M0 M → kN M0 + 1 ≤ kN M → M.1 iu = .inl (1, 16, f) → ∃ (M' : kM) (w13 w14 w15 w16 : Value), kn 71 319 [.ref s, .ref b, .ref rm, .int z3, .int x4, .int x5, .int x6, .int x7, .int x8, .int x9, .int x10, .ref iu, .int (nI p), v13, v14, v15, v16] [] M = kn 71 546 [.ref s, .ref b, .ref rm, .int z3, .int x4, .int x5, .int x6, .int x7, .int x8, .int (fcR (bt (STU L w).1) n x9), .int (prR (STU L w).2.1 n x10), .ref iu, .int 16, w13, w14, w15, w16] [] M' ∧ kEx M0 M' ∧ kN M0 + 1 ≤ kN M' ∧ M'.1 iu = .inl (1, 16, iuR (HG L w kk).1 n f) ∧ kLe M M' n (6 * n)
  | 0, p, hp, M, x9, x10, v13, v14, v15, v16, f, he, hN, hf => by
    obtain rfl : p = 16 := by omega
    refine ⟨M, v13, v14, v15, v16, ?_, he, hN, hf, ⟨Nat.le_refl _, Nat.le_refl _⟩⟩
    rw [k_71_319]
    simp only [k_71_321, k_71_323, sm_0, sm_c, ct_i, ct_r, ct_n, ct_l, ct_d, tl_s, tl_n, oK_s, cS_s, cI_0, cI_9, cA_s, cR_s, cQ_s, cN_i, cN_r, cO_s, rS_s, rK_s, cK_i, cK_j, cK_d, if_true, if_false, true_or, or_true, Nat.reduceAdd, Nat.reduceLeDiff, Nat.zero_le, Nat.reduceEqDiff, Nat.reduceSub, eq_self, Nat.le_refl, ne_eq, not_false_eq_true, not_true_eq_false, i1_0, i0_1, kSm_0, kSm_1, kSm_2, kSm_3, kSm_4, x5_0, x5_1, x5_2, x5_3, x5_4, nI_16, Int32.le_refl, fcR, prR]
  | n + 1, p, hp, M, x9, x10, v13, v14, v15, v16, f, he, hN, hf => by
    have hp16 : p < 16 := by omega
    have hI := h.ex he
    have hO := hI.1.2.2.2.2.2.2
    have hw := h.2.2.2.2.2.2.2.2.2.2.2.1
    have e0 : kn 71 319 [.ref s, .ref b, .ref rm, .int z3, .int x4, .int x5, .int x6, .int x7, .int x8, .int x9, .int x10, .ref iu, .int (nI p), v13, v14, v15, v16] [] M = kn 71 332 [.ref s, .ref b, .ref rm, .int z3, .int x4, .int x5, .int x6, .int x7, .int x8, .int x9, .int x10, .ref iu, .int (nI p), .int 0, .int 0, v15, v16] [] M := by
      have e : ((16 : Int32) ≤ nI p) = False := p_hi hp16
      rw [k_71_319]
      simp only [k_71_321, k_71_323, k_71_326, k_71_327, k_71_329, k_71_330, sm_0, sm_c, ct_i, ct_r, ct_n, ct_l, ct_d, tl_s, tl_n, oK_s, cS_s, cI_0, cI_9, cA_s, cR_s, cQ_s, cN_i, cN_r, cO_s, rS_s, rK_s, cK_i, cK_j, cK_d, if_true, if_false, true_or, or_true, Nat.reduceAdd, Nat.reduceLeDiff, Nat.zero_le, Nat.reduceEqDiff, Nat.reduceSub, eq_self, Nat.le_refl, ne_eq, not_false_eq_true, not_true_eq_false, i1_0, i0_1, kSm_0, kSm_1, kSm_2, kSm_3, kSm_4, x5_0, x5_1, x5_2, x5_3, x5_4, e]
    have e1 := j_l332 (iu := iu) (z3 := z3) (x4 := x4) (x5 := x5) (x6 := x6) (x7 := x7) (x8 := x8) (x9 := x9) (x10 := x10) (v15 := v15) (v16 := v16) hI hp16 16 0 rfl 0
    rw [nI_0, fcR_bc (s16_cl hw hO p hp16) (fun q hq => clM_bt hO hp16 hq)] at e1
    have e2 := j_row (iu := iu) (z3 := z3) (x4 := x4) (x5 := x5) (x6 := x6) (x7 := x7) (x8 := x8) (x9 := x9) (x10 := x10) (v15 := v15) (v16 := v16) hI hp16
    have hI1 := hI.ex (M' := kI (kA M (.inl (0, 6, kG0)) 6) (kN M + 1) (.inl (0, 6, W6 L w kk p))) kA_kI_ex
    have hwa : (kI (kA M (.inl (0, 6, kG0)) 6) (kN M + 1) (.inl (0, 6, W6 L w kk p))).1 (kN M + 1) = .inl (0, 6, W6 L w kk p) := kI_self
    have hex := he.tr (C := kI (kA M (.inl (0, 6, kG0)) 6) (kN M + 1) (.inl (0, 6, W6 L w kk p))) kA_kI_ex
    have hle : kLe M (kI (kA M (.inl (0, 6, kG0)) 6) (kN M + 1) (.inl (0, 6, W6 L w kk p))) 1 6 := ⟨Nat.le_refl _, Nat.le_refl _⟩
    have hf1 : (kI (kA M (.inl (0, 6, kG0)) 6) (kN M + 1) (.inl (0, 6, W6 L w kk p))).1 iu = .inl (1, 16, f) := (kA_ex2 _ (by omega)).trans hf
    have hN1 : kN M0 + 1 ≤ kN (kI (kA M (.inl (0, 6, kG0)) 6) (kN M + 1) (.inl (0, 6, W6 L w kk p))) := Nat.le_trans hN (Nat.le_succ _)
    generalize kI (kA M (.inl (0, 6, kG0)) 6) (kN M + 1) (.inl (0, 6, W6 L w kk p)) = M1 at e2 hI1 hwa hex hle hf1 hN1
    have e3 := j_l472 (iu := iu) (z3 := z3) (x4 := x4) (x5 := x5) (x6 := x6) (x7 := x7) (x8 := x8) (x9 := x9) (x10 := x10) (y13 := bc ((STU L w).2.1 p)) (y14 := b01 (bt (STU L w).1 p)) hI1 hp16 hwa 6 0 rfl
    rw [nI_0] at e3
    have hne : iu ≠ s ∧ iu ≠ ha := by
      have a1 := h.2.1.1
      have a2 := h.2.2.2.2.2.1
      omega
    obtain ⟨M2, e4, r1, r2⟩ := j_tail (z3 := z3) (x4 := x4) (x5 := x5) (x6 := x6) (x7 := x7) (x8 := x8) (x9 := x9) (x10 := x10) (y13 := bc ((STU L w).2.1 p)) (y14 := b01 (bt (STU L w).1 p)) hI1 hp16 hwa hf1 hne
    have hex2 : kEx M0 M2 := by
      rcases r1 with rfl | ⟨c, rfl⟩
      · exact hex
      · exact ⟨hex.1, fun k hk => (kI_ne (by omega)).trans (hex.2.1 k hk), hex.2.2⟩
    have hN2 : kN M0 + 1 ≤ kN M2 := by
      rcases r1 with rfl | ⟨c, rfl⟩
      · exact hN1
      · exact hN1
    have hle2 : kLe M M2 1 6 := by
      rcases r1 with rfl | ⟨c, rfl⟩
      · exact hle
      · exact hle
    obtain ⟨M3, w13, w14, w15, w16, e5, s1, s2, s3, s4⟩ := j_loop h hiu n (p + 1) (by omega) M2 _ _ _ _ _ _ _ hex2 hN2 r2
    refine ⟨M3, w13, w14, w15, w16, ?_, s1, s2, ?_, (hle2.tr s4).mo (by omega) (by omega)⟩
    · have i6 : (6 : Int32) = nI 6 := rfl
      rw [e0, e1, e2, e3, e4, e5, fcR, prR, show 15 - n = p by omega]
    · rw [s3, iuR, show 15 - n = p by omega]
theorem h_l567 {x12 : Int32} (h : IsF M s b dk gu kk pa ha rm vv r gg gw L w g) {hh : Nat} : ∀ (n q : Nat), q + n = 16 → ∀ c : Int32, kn 71 567 [.ref s, .ref b, .ref rm, .int z3, .int x4, .int x5, .int x6, .int x7, .int x8, .int x9, .int x10, .ref iu, .int x12, .int (nI hh), .int c, .int (nI q), v16] [] M = kn 71 602 [.ref s, .ref b, .ref rm, .int z3, .int x4, .int x5, .int x6, .int x7, .int x8, .int x9, .int x10, .ref iu, .int x12, .int (nI hh), .int (fcR (fun q => decide ((HG L w kk).1 q = nI hh)) n c), .int 16, v16] [] M
  | 0, q, hq, c => by
    obtain rfl : q = 16 := by omega
    rw [k_71_567]
    simp only [k_71_569, k_71_571, sm_0, sm_c, ct_i, ct_r, ct_n, ct_l, ct_d, tl_s, tl_n, oK_s, cS_s, cI_0, cI_9, cA_s, cR_s, cQ_s, cN_i, cN_r, cO_s, rS_s, rK_s, cK_i, cK_j, cK_d, if_true, if_false, true_or, or_true, Nat.reduceAdd, Nat.reduceLeDiff, Nat.zero_le, Nat.reduceEqDiff, Nat.reduceSub, eq_self, Nat.le_refl, ne_eq, not_false_eq_true, not_true_eq_false, i1_0, i0_1, kSm_0, kSm_1, kSm_2, kSm_3, kSm_4, x5_0, x5_1, x5_2, x5_3, x5_4, nI_16, Int32.le_refl, fcR]
  | n + 1, q, hq, c => by
    have e : ((16 : Int32) ≤ nI q) = False := p_hi (by omega)
    have hx := x16_16 (show q < 16 by omega)
    have q1 := h.1.1
    have q4 := h.2.2.2.1
    rw [fcR, show 15 - n = q by omega, ← h_l567 h n (q + 1) (by omega) (c + b01 (decide ((HG L w kk).1 q = nI hh)))]
    rw [k_71_567]
    by_cases hc : (HG L w kk).1 q = nI hh
    · simp only [k_71_569, k_71_571, k_71_574, k_71_576, k_71_577, k_71_580, k_71_582, k_71_583, k_71_585, k_71_588, k_71_589, k_71_592, k_71_593, sm_0, sm_c, ct_i, ct_r, ct_n, ct_l, ct_d, tl_s, tl_n, oK_s, cS_s, cI_0, cI_9, cA_s, cR_s, cQ_s, cN_i, cN_r, cO_s, rS_s, rK_s, cK_i, cK_j, cK_d, if_true, if_false, true_or, or_true, Nat.reduceAdd, Nat.reduceLeDiff, Nat.zero_le, Nat.reduceEqDiff, Nat.reduceSub, eq_self, Nat.le_refl, ne_eq, not_false_eq_true, not_true_eq_false, i1_0, i0_1, kSm_0, kSm_1, kSm_2, kSm_3, kSm_4, x5_0, x5_1, x5_2, x5_3, x5_4, e, q1, q4, hx, hc, decide_true, b01]
      rw [k_71_594 (ct_i _), k_71_596 (ct_i _), k_71_599, nI_1]
    · have hc2 := eq_false hc
      simp only [k_71_569, k_71_571, k_71_574, k_71_576, k_71_577, k_71_580, k_71_582, k_71_583, k_71_585, k_71_588, k_71_589, k_71_592, k_71_593, sm_0, sm_c, ct_i, ct_r, ct_n, ct_l, ct_d, tl_s, tl_n, oK_s, cS_s, cI_0, cI_9, cA_s, cR_s, cQ_s, cN_i, cN_r, cO_s, rS_s, rK_s, cK_i, cK_j, cK_d, if_true, if_false, true_or, or_true, Nat.reduceAdd, Nat.reduceLeDiff, Nat.zero_le, Nat.reduceEqDiff, Nat.reduceSub, eq_self, Nat.le_refl, ne_eq, not_false_eq_true, not_true_eq_false, i1_0, i0_1, kSm_0, kSm_1, kSm_2, kSm_3, kSm_4, x5_0, x5_1, x5_2, x5_3, x5_4, e, q1, q4, hx, hc2, decide_false, b01, Bool.false_eq_true]
      rw [k_71_594 (ct_i _), k_71_596 (ct_i _), k_71_599, nI_1]
theorem h_loop {f : Nat → Int32} (h : IsF M s b dk gu kk pa ha rm vv r gg gw L w g) (hiu : M.1 iu = .inl (1, 16, f)) (hf : ∀ x, x < 16 → f x = b01 (decide (0 < bc ((HG L w kk).2.1 x)))) : ∀ (n hh : Nat), hh + n = kk → ∀ (c : Int32) (v14 v15 : Value), ∃ (w14 w15 : Value), kn 71 552 [.ref s, .ref b, .ref rm, .int z3, .int x4, .int x5, .int x6, .int x7, .int x8, .int x9, .int x10, .ref iu, .int c, .int (nI hh), v14, v15, v16] [] M = kn 71 639 [.ref s, .ref b, .ref rm, .int z3, .int x4, .int x5, .int x6, .int x7, .int x8, .int x9, .int x10, .ref iu, .int (uhR (HG L w kk).2.1 kk n c), .int (nI kk), w14, w15, v16] [] M
  | 0, hh, hq, c, v14, v15 => by
    obtain rfl : hh = kk := by omega
    refine ⟨v14, v15, ?_⟩
    have q1 := h.1.1
    rw [k_71_552]
    simp only [k_71_554, k_71_555, k_71_558, sm_0, sm_c, ct_i, ct_r, ct_n, ct_l, ct_d, tl_s, tl_n, oK_s, cS_s, cI_0, cI_9, cA_s, cR_s, cQ_s, cN_i, cN_r, cO_s, rS_s, rK_s, cK_i, cK_j, cK_d, if_true, if_false, true_or, or_true, Nat.reduceAdd, Nat.reduceLeDiff, Nat.zero_le, Nat.reduceEqDiff, Nat.reduceSub, eq_self, Nat.le_refl, ne_eq, not_false_eq_true, not_true_eq_false, i1_0, i0_1, kSm_0, kSm_1, kSm_2, kSm_3, kSm_4, x5_0, x5_1, x5_2, x5_3, x5_4, q1, Int32.le_refl, uhR]
  | n + 1, hh, hq, c, v14, v15 => by
    obtain ⟨hw, hk1, hk8⟩ := h.2.2.2.2.2.2.2.2.2.2.2
    have q1 := h.1.1
    have hO := h.1.2.2.2.2.2.2
    have hl := h.1.2.2.2.2.2.1
    have hK := h.2.2.2.2.2.2.2.2.2.2.1
    have hb := hK.1
    have hle : (nI kk ≤ nI hh) = False := eq_false (nI_ge (by omega) (by omega))
    have hx := x16_16 (show hh < 16 by omega)
    have hPA := (HG_inv hO hl hw hk1 (show kk ≤ 16 by omega)).1
    have e1 := h_l567 (iu := iu) (x12 := c) (hh := hh) (z3 := z3) (x4 := x4) (x5 := x5) (x6 := x6) (x7 := x7) (x8 := x8) (x9 := x9) (x10 := x10) (v16 := v16) h 16 0 rfl 0
    rw [nI_0, hang_bc hPA (show hh < 16 by omega)] at e1
    have u := s_37 (kk := kk) (i := hh) (by omega) (by omega) (M := (M.2.1 b, zL)) hK.2.2
    obtain ⟨w14, w15, e2⟩ := h_loop h hiu hf n (hh + 1) (by omega) (c + b01 (decide (0 < bc ((HG L w kk).2.1 hh)))) (.int (bc ((HG L w kk).2.1 hh))) (.int 16)
    refine ⟨w14, w15, ?_⟩
    rw [uhR, show kk - (n + 1) = hh by omega, ← e2]
    have e0 : kn 71 552 [.ref s, .ref b, .ref rm, .int z3, .int x4, .int x5, .int x6, .int x7, .int x8, .int x9, .int x10, .ref iu, .int c, .int (nI hh), v14, v15, v16] [] M = kn 71 567 [.ref s, .ref b, .ref rm, .int z3, .int x4, .int x5, .int x6, .int x7, .int x8, .int x9, .int x10, .ref iu, .int c, .int (nI hh), .int 0, .int 0, v16] [] M := by
      rw [k_71_552]
      simp only [k_71_554, k_71_555, k_71_558, k_71_561, k_71_562, k_71_564, k_71_565, sm_0, sm_c, ct_i, ct_r, ct_n, ct_l, ct_d, tl_s, tl_n, oK_s, cS_s, cI_0, cI_9, cA_s, cR_s, cQ_s, cN_i, cN_r, cO_s, rS_s, rK_s, cK_i, cK_j, cK_d, if_true, if_false, true_or, or_true, Nat.reduceAdd, Nat.reduceLeDiff, Nat.zero_le, Nat.reduceEqDiff, Nat.reduceSub, eq_self, Nat.le_refl, ne_eq, not_false_eq_true, not_true_eq_false, i1_0, i0_1, kSm_0, kSm_1, kSm_2, kSm_3, kSm_4, x5_0, x5_1, x5_2, x5_3, x5_4, q1, hle]
    rw [e0, e1]
    simp only [k_71_602, k_71_603, k_71_605, k_71_608, k_71_610, sm_0, sm_c, ct_i, ct_r, ct_n, ct_l, ct_d, tl_s, tl_n, oK_s, cS_s, cI_0, cI_9, cA_s, cR_s, cQ_s, cN_i, cN_r, cO_s, rS_s, rK_s, cK_i, cK_j, cK_d, if_true, if_false, true_or, or_true, Nat.reduceAdd, Nat.reduceLeDiff, Nat.zero_le, Nat.reduceEqDiff, Nat.reduceSub, eq_self, Nat.le_refl, ne_eq, not_false_eq_true, not_true_eq_false, i1_0, i0_1, kSm_0, kSm_1, kSm_2, kSm_3, kSm_4, x5_0, x5_1, x5_2, x5_3, x5_4, hb, u, kV_id]
    have hfx := hf hh (by omega)
    rw [k_71_615]
    cases hc : decide (0 < bc ((HG L w kk).2.1 hh)) with
    | true =>
      rw [hc] at hfx
      have n1 : ((1 : Int32) = 0) = False := by decide
      simp only [k_71_617, k_71_619, k_71_621, k_71_622, k_71_625, k_71_626, k_71_629, k_71_630, sm_0, sm_c, ct_i, ct_r, ct_n, ct_l, ct_d, tl_s, tl_n, oK_s, cS_s, cI_0, cI_9, cA_s, cR_s, cQ_s, cN_i, cN_r, cO_s, rS_s, rK_s, cK_i, cK_j, cK_d, if_true, if_false, true_or, or_true, Nat.reduceAdd, Nat.reduceLeDiff, Nat.zero_le, Nat.reduceEqDiff, Nat.reduceSub, eq_self, Nat.le_refl, ne_eq, not_false_eq_true, not_true_eq_false, i1_0, i0_1, kSm_0, kSm_1, kSm_2, kSm_3, kSm_4, x5_0, x5_1, x5_2, x5_3, x5_4, hiu, hx, hfx, b01, n1]
      rw [k_71_631 (ct_r _), k_71_633 (ct_i _), k_71_636, nI_1]
    | false =>
      rw [hc] at hfx
      simp only [k_71_617, k_71_619, k_71_621, k_71_622, k_71_625, k_71_626, k_71_629, k_71_630, sm_0, sm_c, ct_i, ct_r, ct_n, ct_l, ct_d, tl_s, tl_n, oK_s, cS_s, cI_0, cI_9, cA_s, cR_s, cQ_s, cN_i, cN_r, cO_s, rS_s, rK_s, cK_i, cK_j, cK_d, if_true, if_false, true_or, or_true, Nat.reduceAdd, Nat.reduceLeDiff, Nat.zero_le, Nat.reduceEqDiff, Nat.reduceSub, eq_self, Nat.le_refl, ne_eq, not_false_eq_true, not_true_eq_false, i1_0, i0_1, kSm_0, kSm_1, kSm_2, kSm_3, kSm_4, x5_0, x5_1, x5_2, x5_3, x5_4, hiu, hx, hfx, b01, Bool.false_eq_true]
      rw [k_71_631 (ct_r _), k_71_633 (ct_i _), k_71_636, nI_1]
theorem x10_0 : mmX 0 10 = some 0 := by decide
theorem x10_1 : mmX 1 10 = some 1 := by decide
theorem x10_2 : mmX 2 10 = some 2 := by decide
theorem x10_3 : mmX 3 10 = some 3 := by decide
theorem x10_4 : mmX 4 10 = some 4 := by decide
theorem x10_5 : mmX 5 10 = some 5 := by decide
theorem x10_6 : mmX 6 10 = some 6 := by decide
theorem x10_7 : mmX 7 10 = some 7 := by decide
theorem x10_8 : mmX 8 10 = some 8 := by decide
theorem x10_9 : mmX 9 10 = some 9 := by decide
def W10 (L : List Dd) (w : Int32) (kk : Nat) : Nat → Int32 := upd (upd (upd (upd (upd (upd (upd (upd (upd (upd kG0 0 (nI L.length)) 1 (nI kk)) 2 (bc (STU L w).1)) 3 (prR (STU L w).2.1 16 0 / 2)) 4 (bc (HG L w kk).2.2)) 5 (huR (HG L w kk).2.1 16 0)) 6 (cnt isP4 L 0)) 7 (cnt (spd (HG L w kk).1) L 0)) 8 (coR (STU L w).2.2.2 (HG L w kk).2.2 16 0)) 9 (wns (HG L w kk).1 L 0)
theorem W10_c {L : List Dd} {w : Int32} {kk j : Nat} (hj : j < 10) : W10 L w kk j = aCnt L w kk j := by
  rcases (show j = 0 ∨ j = 1 ∨ j = 2 ∨ j = 3 ∨ j = 4 ∨ j = 5 ∨ j = 6 ∨ j = 7 ∨ j = 8 ∨ j = 9 by omega) with rfl | rfl | rfl | rfl | rfl | rfl | rfl | rfl | rfl | rfl
  · rfl
  · rfl
  · rfl
  · show prR (STU L w).2.1 16 0 / 2 = prR (STU L w).2.1 16 0 >>> ((1 : Int32) &&& 31)
    obtain ⟨t, ht, e⟩ := prR_n (cl := (STU L w).2.1) 16 0
    rw [nI_0] at e
    rw [e]
    exact half t (by omega)
  · rfl
  · rfl
  · rfl
  · rfl
  · rfl
  · rfl
theorem f_l710 {x12 : Int32} {wa : Nat} (h : IsF M s b dk gu kk pa ha rm vv r gg gw L w g) (hwa : M.1 wa = .inl (0, 10, W10 L w kk)) : ∀ (n j : Nat), j + n = 10 → kn 71 710 [.ref s, .ref b, .ref rm, .int z3, .int x4, .int x5, .int x6, .int x7, .int x8, .int x9, .int x10, .ref iu, .int x12, .ref wa, .int (nI j), v15, v16] [] M = kn 71 739 [.ref s, .ref b, .ref rm, .int z3, .int x4, .int x5, .int x6, .int x7, .int x8, .int x9, .int x10, .ref iu, .int x12, .ref wa, .int 10, v15, v16] [] M
  | 0, j, hj => by
    obtain rfl : j = 10 := by omega
    have e : ((10 : Int32) ≤ nI 10) = True := eq_true (Int32.le_refl _)
    rw [k_71_710]
    simp only [k_71_712, k_71_714, sm_0, sm_c, ct_i, ct_r, ct_n, ct_l, ct_d, tl_s, tl_n, oK_s, cS_s, cI_0, cI_9, cA_s, cR_s, cQ_s, cN_i, cN_r, cO_s, rS_s, rK_s, cK_i, cK_j, cK_d, if_true, if_false, true_or, or_true, Nat.reduceAdd, Nat.reduceLeDiff, Nat.zero_le, Nat.reduceEqDiff, Nat.reduceSub, eq_self, Nat.le_refl, ne_eq, not_false_eq_true, not_true_eq_false, i1_0, i0_1, kSm_0, kSm_1, kSm_2, kSm_3, kSm_4, x5_0, x5_1, x5_2, x5_3, x5_4, e]
    rfl
  | n + 1, j, hj => by
    have e : ((10 : Int32) ≤ nI j) = False := eq_false (nI_ge (a := j) (b := 10) (by omega) (by omega))
    have hK := h.2.2.2.2.2.2.2.2.2.2.1
    have hb := hK.1
    have hx : mmX (nI j) 10 = some j := mmX_nI (by omega) (by omega)
    have u := s_36 (kk := kk) (j := j) (by omega) (M := (M.2.1 b, zL)) hK.2.2
    have hd := W10_c (L := L) (w := w) (kk := kk) (j := j) (by omega)
    rw [← f_l710 h hwa n (j + 1) (by omega)]
    rw [k_71_710]
    simp only [k_71_712, k_71_714, k_71_717, k_71_718, k_71_720, k_71_723, k_71_725, k_71_727, k_71_728, sm_0, sm_c, ct_i, ct_r, ct_n, ct_l, ct_d, tl_s, tl_n, oK_s, cS_s, cI_0, cI_9, cA_s, cR_s, cQ_s, cN_i, cN_r, cO_s, rS_s, rK_s, cK_i, cK_j, cK_d, if_true, if_false, true_or, or_true, Nat.reduceAdd, Nat.reduceLeDiff, Nat.zero_le, Nat.reduceEqDiff, Nat.reduceSub, eq_self, Nat.le_refl, ne_eq, not_false_eq_true, not_true_eq_false, i1_0, i0_1, kSm_0, kSm_1, kSm_2, kSm_3, kSm_4, x5_0, x5_1, x5_2, x5_3, x5_4, e, hb, u, kV_id, hwa, hx, hd]
    rw [k_71_733 (ct_r _), k_71_736, nI_1]
theorem f_row (h : IsF M s b dk gu kk pa ha rm vv r gg gw L w g) : kn 71 639 [.ref s, .ref b, .ref rm, .int (bc (HG L w kk).2.2), .int x4, .int x5, .int (cnt isP4 L 0), .int (cnt (spd (HG L w kk).1) L 0), .int (wns (HG L w kk).1 L 0), .int (bc (STU L w).1), .int (prR (STU L w).2.1 16 0), .ref iu, .int (huR (HG L w kk).2.1 16 0), .int (nI kk), v14, v15, v16] [] M = kn 71 710 [.ref s, .ref b, .ref rm, .int (bc (HG L w kk).2.2), .int x4, .int x5, .int (cnt isP4 L 0), .int (cnt (spd (HG L w kk).1) L 0), .int (wns (HG L w kk).1 L 0), .int (bc (STU L w).1), .int (prR (STU L w).2.1 16 0), .ref iu, .int (huR (HG L w kk).2.1 16 0), .ref (kN M + 1), .int 0, v15, v16] [] (kI (kA M (.inl (0, 10, kG0)) 10) (kN M + 1) (.inl (0, 10, W10 L w kk))) := by
  obtain ⟨hw, hk1, hk8⟩ := h.2.2.2.2.2.2.2.2.2.2.2
  have q1 := h.1.1
  have q2 := h.1.2.1
  have n1 := h.2.1.1
  have n2 := h.2.1.2.1
  have e10 : ∀ k, nA 10 k = k 10 := fun k => rfl
  have hlo : ∀ k d, k ≤ kN M → M.1 k = d → ∀ c, (kI (kA M (.inl (0, 10, kG0)) 10) (kN M + 1) c).1 k = d := fun k d hk e c => (kA_ex2 _ hk).trans e
  have hlo0 : ∀ k d, k ≤ kN M → M.1 k = d → (kA M (.inl (0, 10, kG0)) 10).1 k = d := fun k d hk e => (kA_ex.2.1 _ hk).trans e
  have g1 := hlo _ _ n1 q1
  have g2 := hlo _ _ n2 q2
  have g10 := hlo0 _ _ n1 q1
  have g20 := hlo0 _ _ n2 q2
  have u70 : ∀ c, kn 70 0 [.ref s, .null, .null] [] (kI (kA M (.inl (0, 10, kG0)) 10) (kN M + 1) c) = some (some (.int (coR (STU L w).2.2.2 (HG L w kk).2.2 16 0)), kI (kA M (.inl (0, 10, kG0)) 10) (kN M + 1) c) := fun c => by
    have hI := h.ex (M' := kI (kA M (.inl (0, 10, kG0)) 10) (kN M + 1) c) kA_kI_ex
    exact s_k70 hI.1 hI.2.2.1 hI.2.2.2.1 hw hk1 (by omega)
  have n2' : ¬ (2 : Int32) = 0 := by decide
  have fin : kn 71 705 [.ref s, .ref b, .ref rm, .int (bc (HG L w kk).2.2), .int x4, .int x5, .int (cnt isP4 L 0), .int (cnt (spd (HG L w kk).1) L 0), .int (wns (HG L w kk).1 L 0), .int (bc (STU L w).1), .int (prR (STU L w).2.1 16 0), .ref iu, .int (huR (HG L w kk).2.1 16 0), .int (nI kk), v14, v15, v16] [.ref (kN M + 1)] (kI (kA M (.inl (0, 10, kG0)) 10) (kN M + 1) (.inl (0, 10, W10 L w kk))) = kn 71 710 [.ref s, .ref b, .ref rm, .int (bc (HG L w kk).2.2), .int x4, .int x5, .int (cnt isP4 L 0), .int (cnt (spd (HG L w kk).1) L 0), .int (wns (HG L w kk).1 L 0), .int (bc (STU L w).1), .int (prR (STU L w).2.1 16 0), .ref iu, .int (huR (HG L w kk).2.1 16 0), .ref (kN M + 1), .int 0, v15, v16] [] (kI (kA M (.inl (0, 10, kG0)) 10) (kN M + 1) (.inl (0, 10, W10 L w kk))) := by
    rw [k_71_705 (ct_i _), k_71_707, k_71_708 (ct_r _)]
  rw [← fin]
  unfold W10
  simp only [k_71_639, k_71_641, k_71_643, k_71_644, k_71_645, k_71_646, k_71_649, k_71_650, k_71_651, k_71_652, k_71_653, k_71_654, k_71_657, k_71_658, k_71_659, k_71_660, k_71_662, k_71_663, k_71_664, k_71_665, k_71_667, k_71_668, k_71_669, k_71_670, k_71_671, k_71_672, k_71_673, k_71_674, k_71_675, k_71_676, k_71_678, k_71_679, k_71_680, k_71_682, k_71_684, k_71_685, k_71_686, k_71_688, k_71_690, k_71_691, k_71_692, k_71_694, k_71_695, k_71_698, k_71_699, k_71_700, k_71_702, k_71_704, sm_0, sm_c, ct_i, ct_r, ct_n, ct_l, ct_d, tl_s, tl_n, oK_s, cS_s, cI_0, cI_9, cA_s, cR_s, cQ_s, cN_i, cN_r, cO_s, rS_s, rK_s, cK_i, cK_j, cK_d, if_true, if_false, true_or, or_true, Nat.reduceAdd, Nat.reduceLeDiff, Nat.zero_le, Nat.reduceEqDiff, Nat.reduceSub, eq_self, Nat.le_refl, ne_eq, not_false_eq_true, not_true_eq_false, i1_0, i0_1, kSm_0, kSm_1, kSm_2, kSm_3, kSm_4, x5_0, x5_1, x5_2, x5_3, x5_4, e10, kA_self, kI_self, kI_kI, g1, g2, g10, g20, u70, k_71_668 n2', x10_0, x10_1, x10_2, x10_3, x10_4, x10_5, x10_6, x10_7, x10_8, x10_9]
theorem f_end {x12 : Int32} {wa : Nat} (h : IsF M s b dk gu kk pa ha rm vv r gg gw L w g) : kn 71 739 [.ref s, .ref b, .ref rm, .int z3, .int (crw w L (bc (liveL L w))), .int (sbh w L 0), .int x6, .int x7, .int x8, .int x9, .int x10, .ref iu, .int x12, .ref wa, .int 10, v15, v16] [] M = some (some (.int 1), M) := by
  have hK := h.2.2.2.2.2.2.2.2.2.2.1
  have hb := hK.1
  have q1 := h.1.1
  have q2 := h.1.2.1
  have hl := h.1.2.2.2.2.2.1
  have u38 := s_38 (kk := kk) (M := (M.2.1 b, zL)) hK.2.2
  have u42 := s_42 (kk := kk) (M := (M.2.1 b, zL)) hK.2.2
  have hc := cmp_self (mean_fin (w := w) hl)
  by_cases h0 : L.length = 0
  · have e : (nI L.length = 0) = True := by rw [h0]; exact eq_true rfl
    have hm : aMean L w = FP.dconst0 := by unfold aMean; rw [if_pos h0]
    rw [hm] at hc u42
    simp only [k_71_739, k_71_740, k_71_743, k_71_745, k_71_748, k_71_749, k_71_752, k_71_753, k_71_756, k_71_757, k_71_760, k_71_761, k_71_764, k_71_766, k_71_767, k_71_768, k_71_771, k_71_772, k_71_773, k_71_774, k_71_775, k_71_778, k_71_779, k_71_782, k_71_783, sm_0, sm_c, ct_i, ct_r, ct_n, ct_l, ct_d, tl_s, tl_n, oK_s, cS_s, cI_0, cI_9, cA_s, cR_s, cQ_s, cN_i, cN_r, cO_s, rS_s, rK_s, cK_i, cK_j, cK_d, if_true, if_false, true_or, or_true, Nat.reduceAdd, Nat.reduceLeDiff, Nat.zero_le, Nat.reduceEqDiff, Nat.reduceSub, eq_self, Nat.le_refl, ne_eq, not_false_eq_true, not_true_eq_false, i1_0, i0_1, kSm_0, kSm_1, kSm_2, kSm_3, kSm_4, x5_0, x5_1, x5_2, x5_3, x5_4, hb, u38, u42, kV_id, q1, q2, e, hc]
  · have e : (nI L.length = 0) = False := eq_false (nI_ne0 (by omega) (by omega))
    have hm : aMean L w = FP.ddiv (FP.i2d (sbh w L 0)) (FP.i2d (nI L.length)) := by unfold aMean; rw [if_neg h0]
    have hok := mean_ok (w := w) hl h0
    rw [hm] at hc u42
    simp only [k_71_739, k_71_740, k_71_743, k_71_745, k_71_748, k_71_749, k_71_752, k_71_753, k_71_756, k_71_757, k_71_760, k_71_761, k_71_764, k_71_766, k_71_767, k_71_768, k_71_771, k_71_772, k_71_773, k_71_774, k_71_775, k_71_778, k_71_779, k_71_782, k_71_783, sm_0, sm_c, ct_i, ct_r, ct_n, ct_l, ct_d, tl_s, tl_n, oK_s, cS_s, cI_0, cI_9, cA_s, cR_s, cQ_s, cN_i, cN_r, cO_s, rS_s, rK_s, cK_i, cK_j, cK_d, if_true, if_false, true_or, or_true, Nat.reduceAdd, Nat.reduceLeDiff, Nat.zero_le, Nat.reduceEqDiff, Nat.reduceSub, eq_self, Nat.le_refl, ne_eq, not_false_eq_true, not_true_eq_false, i1_0, i0_1, kSm_0, kSm_1, kSm_2, kSm_3, kSm_4, x5_0, x5_1, x5_2, x5_3, x5_4, hb, u38, u42, kV_id, q1, q2, e, k_71_773 hok, hc]
end
