/-! the law: act, the rest -/
theorem bt_wN {w : Int32} {p : Nat} {c : Bool} (hp : p < 16) {q : Nat} (hq : q < 32) : bt (wN w p c) q = if q = p then c else bt w q := by
  unfold wN
  cases c with
  | true =>
    rw [if_pos rfl, b_or, bt_bI hp]
    by_cases h : q = p
    · simp [h]
    · simp [h]
  | false =>
    rw [if_neg (by decide), b_and, bt_not _ hq, bt_bI hp]
    by_cases h : q = p
    · simp [h]
    · simp [h]
theorem s16_wN {w : Int32} {p : Nat} {c : Bool} (hw : s16 w) (hp : p < 16) : s16 (wN w p c) := fun i hi => by
  by_cases h : i < 32
  · rw [bt_wN hp h, if_neg (by omega), hw i hi]
  · exact b_big (by omega)
section
variable {M : kM} {b s n kk m p t : Nat} {xs : Nat → Int32} {L : List Dd} {w v x6 x7 : Int32}
theorem act_drop (h : LI M b s n xs L w kk) : ∃ (M' : kM) (L2 : List Dd), kn 79 318 [.ref b, .ref s, .int v, .int (nI L.length), .int (nI m), .int (nI p), .int x6, .int x7, .int (nI t), .null, .null] [] M = some (some (.int 1), M') ∧ LI M' b s n xs L2 w kk ∧ kLe M M' 3 42 := by
  have hh := h
  obtain ⟨hsc, hn31, hK, hS, hw, hk1, hk8⟩ := h
  have hlen := hS.len
  by_cases h0 : L.length = 0
  · refine ⟨M, L, ?_, hh, ⟨by omega, by omega⟩⟩
    have e : (nI L.length = 0) = True := by rw [h0]; exact eq_true rfl
    simp only [k_79_318, k_79_319, k_79_322, k_79_323, sm_0, sm_c, ct_i, ct_r, ct_n, ct_l, ct_d, tl_s, tl_n, oK_s, cS_s, cI_0, cI_9, cA_s, cR_s, cQ_s, cN_i, cN_r, cO_s, rS_s, rK_s, cK_i, cK_j, cK_d, if_true, if_false, true_or, or_true, Nat.reduceAdd, Nat.reduceLeDiff, Nat.zero_le, Nat.reduceEqDiff, Nat.reduceSub, eq_self, Nat.le_refl, ne_eq, not_false_eq_true, not_true_eq_false, i1_0, i0_1, kSm_0, kSm_1, kSm_2, kSm_3, kSm_4, x5_0, x5_1, x5_2, x5_3, x5_4, e]
  · have e : (nI L.length = 0) = False := eq_false (nI_ne0 (by omega) (by omega))
    have ul : ∀ v, kn 77 0 [.int v, .int (nI L.length)] [] M = some (some (.int (nI (blw v L.length))), M) := fun v => s_bl (by omega) (by omega)
    have hd := blw_lt (v := v >>> (5 &&& 31)) (n := L.length) (by omega)
    obtain ⟨dk, gu, pa, ha, vv, r, gg, gw, pl, hu, hR, hn, hp, hh2, np, nh, hne, zp, zh⟩ := hS
    have q1 := hR.1
    obtain ⟨M1, u72, r1, r2, r3, r4, r5⟩ := s_k72 hR hn hp hh2 np nh hne zp zh hd
    obtain ⟨f', u29, c29, -⟩ := s_29 (kk := kk) (by omega) (M := (M.2.1 b, zL)) hK.2.2 hd
    have hb2 := (r2.kt hK).1
    have hsub : nI L.length - 1 = nI (L.length - 1) := nI_sub (a := L.length) (b := 1) (by omega)
    refine ⟨kV (kI M1 s (.inr (.inr (.inl (kSm (kN M + 1) gu kk pa ha))))) b f' 0, L.eraseIdx (blw (v >>> (5 &&& 31)) L.length), ?_, LI.nx hh r2 r4 c29 hw hk1 hk8, ⟨Nat.le_trans r5.1 (by omega), Nat.le_trans r5.2 (by omega)⟩⟩
    have e1 : kn 79 318 [.ref b, .ref s, .int v, .int (nI L.length), .int (nI m), .int (nI p), .int x6, .int x7, .int (nI t), .null, .null] [] M = kn 79 346 [.ref b, .ref s, .int v, .int (nI L.length), .int (nI m), .int (nI p), .int x6, .int x7, .int (nI t), .int (nI (blw (v >>> (5 &&& 31)) L.length)), .null] [] (kI M1 s (.inr (.inr (.inl (kSm (kN M + 1) gu kk pa ha))))) := by
      simp only [k_79_318, k_79_319, k_79_322, k_79_323, k_79_324, k_79_325, k_79_326, k_79_327, k_79_328, k_79_331, k_79_333, k_79_334, k_79_335, k_79_338, k_79_340, k_79_343, sm_0, sm_c, ct_i, ct_r, ct_n, ct_l, ct_d, tl_s, tl_n, oK_s, cS_s, cI_0, cI_9, cA_s, cR_s, cQ_s, cN_i, cN_r, cO_s, rS_s, rK_s, cK_i, cK_j, cK_d, if_true, if_false, true_or, or_true, Nat.reduceAdd, Nat.reduceLeDiff, Nat.zero_le, Nat.reduceEqDiff, Nat.reduceSub, eq_self, Nat.le_refl, ne_eq, not_false_eq_true, not_true_eq_false, i1_0, i0_1, kSm_0, kSm_1, kSm_2, kSm_3, kSm_4, x5_0, x5_1, x5_2, x5_3, x5_4, e, ul, q1, u72, r1, kSm_u0]
    rw [e1]
    have e21 : (kI M1 s (.inr (.inr (.inl (kSm (kN M + 1) gu kk pa ha))))).2.1 = M.2.1 := r3
    generalize kI M1 s (.inr (.inr (.inl (kSm (kN M + 1) gu kk pa ha)))) = M2 at hb2 r2 r4 e21
    simp only [k_79_346, k_79_347, k_79_349, k_79_352, k_79_353, k_79_354, k_79_355, k_79_358, k_79_359, k_79_362, k_79_363, sm_0, sm_c, ct_i, ct_r, ct_n, ct_l, ct_d, tl_s, tl_n, oK_s, cS_s, cI_0, cI_9, cA_s, cR_s, cQ_s, cN_i, cN_r, cO_s, rS_s, rK_s, cK_i, cK_j, cK_d, if_true, if_false, true_or, or_true, Nat.reduceAdd, Nat.reduceLeDiff, Nat.zero_le, Nat.reduceEqDiff, Nat.reduceSub, eq_self, Nat.le_refl, ne_eq, not_false_eq_true, not_true_eq_false, i1_0, i0_1, kSm_0, kSm_1, kSm_2, kSm_3, kSm_4, x5_0, x5_1, x5_2, x5_3, x5_4, hb2, e21, u29, hsub]
theorem act_want (h : LI M b s n xs L w kk) (hp : p < 16) : ∃ (M' : kM) (w2 : Int32), kn 79 364 [.ref b, .ref s, .int v, .int (nI L.length), .int (nI m), .int (nI p), .int x6, .int x7, .int (nI t), .null, .null] [] M = some (some (.int 1), M') ∧ LI M' b s n xs L w2 kk ∧ kLe M M' 3 42 := by
  have hh := h
  obtain ⟨hsc, hn31, hK, hS, hw, hk1, hk8⟩ := h
  obtain ⟨dk, gu, pa, ha, vv, r, gg, gw, pl, hu, hR, hn, hp2, hh2, np, nh, hne, zp, zh⟩ := hS
  obtain ⟨q1, q2, q3, q4, q5, q6, q7⟩ := hR
  obtain ⟨n1, n2, n3, n4⟩ := hn
  have u3 : ∀ v, kn 77 0 [.int v, .int 3] [] M = some (some (.int (nI (blw v 3))), M) := fun v => s_bl (n := 3) (by omega) (by omega)
  have hx := x16_16 hp
  have e1 : ∃ c : Bool, kn 79 364 [.ref b, .ref s, .int v, .int (nI L.length), .int (nI m), .int (nI p), .int x6, .int x7, .int (nI t), .null, .null] [] M = kn 79 396 [.ref b, .ref s, .int v, .int (nI L.length), .int (nI m), .int (nI p), .int x6, .int x7, .int (nI t), .int (b01 (bt w p)), .null] [] (kI M gu (.inl (1, 16, upd gw p (b01 c)))) := by
    by_cases hq : nI (blw (v >>> (9 &&& 31)) 3) ≤ 0
    · refine ⟨false, ?_⟩
      have hq := eq_true hq
      simp only [k_79_364, k_79_365, k_79_368, k_79_370, k_79_371, k_79_373, k_79_374, k_79_377, k_79_379, k_79_380, k_79_382, k_79_383, k_79_384, k_79_387, k_79_394, k_79_395, sm_0, sm_c, ct_i, ct_r, ct_n, ct_l, ct_d, tl_s, tl_n, oK_s, cS_s, cI_0, cI_9, cA_s, cR_s, cQ_s, cN_i, cN_r, cO_s, rS_s, rK_s, cK_i, cK_j, cK_d, if_true, if_false, true_or, or_true, Nat.reduceAdd, Nat.reduceLeDiff, Nat.zero_le, Nat.reduceEqDiff, Nat.reduceSub, eq_self, Nat.le_refl, ne_eq, not_false_eq_true, not_true_eq_false, i1_0, i0_1, kSm_0, kSm_1, kSm_2, kSm_3, kSm_4, x5_0, x5_1, x5_2, x5_3, x5_4, q1, q4, hx, u3, hq, q5 p hp, nar01 (Or.inl rfl), b01, Bool.false_eq_true]
    · refine ⟨true, ?_⟩
      have hq := eq_false hq
      simp only [k_79_364, k_79_365, k_79_368, k_79_370, k_79_371, k_79_373, k_79_374, k_79_377, k_79_379, k_79_380, k_79_382, k_79_383, k_79_384, k_79_387, k_79_390, k_79_391, k_79_395, sm_0, sm_c, ct_i, ct_r, ct_n, ct_l, ct_d, tl_s, tl_n, oK_s, cS_s, cI_0, cI_9, cA_s, cR_s, cQ_s, cN_i, cN_r, cO_s, rS_s, rK_s, cK_i, cK_j, cK_d, if_true, if_false, true_or, or_true, Nat.reduceAdd, Nat.reduceLeDiff, Nat.zero_le, Nat.reduceEqDiff, Nat.reduceSub, eq_self, Nat.le_refl, ne_eq, not_false_eq_true, not_true_eq_false, i1_0, i0_1, kSm_0, kSm_1, kSm_2, kSm_3, kSm_4, x5_0, x5_1, x5_2, x5_3, x5_4, q1, q4, hx, u3, hq, q5 p hp, nar01 (Or.inr rfl), b01, Bool.false_eq_true]
  obtain ⟨c, e1⟩ := e1
  obtain ⟨M1, hM1⟩ : ∃ M1, M1 = kI M gu (.inl (1, 16, upd gw p (b01 c))) := ⟨_, rfl⟩
  have hf : Fr M M1 := by rw [hM1]; exact Fr.ki (by rw [q4]; rfl)
  have lo : ∀ k d, M.1 k = d → d ≠ .inl (1, 16, gw) → M1.1 k = d := fun k d e hd => by rw [hM1]; exact (kI_ne (cell_ne e q4 hd)).trans e
  have hS1 : SimI M1 s L (wN w p c) kk := by
    have hN : kN M1 = kN M := by rw [hM1]; rfl
    refine ⟨dk, gu, pa, ha, vv, r, gg, upd gw p (b01 c), pl, hu, ⟨lo _ _ q1 (by simp), lo _ _ q2 (by simp), fun d hd => ?_, by rw [hM1]; exact kI_self, fun q hq => ?_, q6, q7⟩, ⟨by omega, by omega, by omega, fun d hd => by rw [hN]; exact n4 d hd⟩, lo _ _ hp2 (by simp), lo _ _ hh2 (by simp), by omega, by omega, hne, zp, zh⟩
    · obtain ⟨a1, a2, a3⟩ := q3 d hd
      exact ⟨a1, lo _ _ a2 (by simp), a3⟩
    · rw [bt_wN hp (by omega)]
      by_cases hqp : q = p
      · subst hqp
        rw [upd_at, if_pos rfl]
      · rw [upd_ne hqp, if_neg hqp, q5 q hq]
  obtain ⟨f', u30, c30, -⟩ := s_30 (kk := kk) (by omega) hp (b := c) (M := (M.2.1 b, zL)) hK.2.2
  have hb2 := (hf.kt hK).1
  have e21 : M1.2.1 = M.2.1 := by rw [hM1]; rfl
  have hg1 : M1.1 gu = .inl (1, 16, upd gw p (b01 c)) := by rw [hM1]; exact kI_self
  have hs1 := lo _ _ q1 (by simp)
  refine ⟨kV M1 b f' 0, wN w p c, ?_, LI.nx hh hf hS1 c30 (s16_wN hw hp) hk1 hk8, ?_⟩
  · rw [e1, ← hM1]
    simp only [k_79_396, k_79_397, k_79_399, k_79_400, k_79_403, k_79_405, k_79_406, k_79_409, k_79_411, k_79_414, k_79_415, k_79_418, k_79_419, sm_0, sm_c, ct_i, ct_r, ct_n, ct_l, ct_d, tl_s, tl_n, oK_s, cS_s, cI_0, cI_9, cA_s, cR_s, cQ_s, cN_i, cN_r, cO_s, rS_s, rK_s, cK_i, cK_j, cK_d, if_true, if_false, true_or, or_true, Nat.reduceAdd, Nat.reduceLeDiff, Nat.zero_le, Nat.reduceEqDiff, Nat.reduceSub, eq_self, Nat.le_refl, ne_eq, not_false_eq_true, not_true_eq_false, i1_0, i0_1, kSm_0, kSm_1, kSm_2, kSm_3, kSm_4, x5_0, x5_1, x5_2, x5_3, x5_4, hs1, hg1, hx, upd_at, hb2, e21, u30]
  · rw [hM1]
    exact ⟨Nat.le_add_right _ _, Nat.le_add_right _ _⟩
theorem act_hooks (h : LI M b s n xs L w kk) : ∃ (M' : kM) (k2 : Nat), kn 79 420 [.ref b, .ref s, .int v, .int (nI L.length), .int (nI m), .int (nI p), .int x6, .int x7, .int (nI t), .null, .null] [] M = some (some (.int 1), M') ∧ LI M' b s n xs L w k2 ∧ kLe M M' 3 42 := by
  have hh := h
  obtain ⟨hsc, hn31, hK, hS, hw, hk1, hk8⟩ := h
  obtain ⟨dk, gu, pa, ha, vv, r, gg, gw, pl, hu, hR, hn, hp2, hh2, np, nh, hne, zp, zh⟩ := hS
  obtain ⟨q1, q2, q3, q4, q5, q6, q7⟩ := hR
  obtain ⟨n1, n2, n3, n4⟩ := hn
  have u2 : ∀ v, kn 77 0 [.int v, .int 2] [] M = some (some (.int (nI (blw v 2))), M) := fun v => s_bl (n := 2) (by omega) (by omega)
  have u3 : ∀ v, kn 77 0 [.int v, .int 3] [] M = some (some (.int (nI (blw v 3))), M) := fun v => s_bl (n := 3) (by omega) (by omega)
  have u8 : ∀ v, kn 77 0 [.int v, .int 8] [] M = some (some (.int (nI (blw v 8))), M) := fun v => s_bl (n := 8) (by omega) (by omega)
  have ea : ∀ q, (1 : Int32) + nI q = nI (1 + q) := fun q => nI_add 1 q
  have e1 : ∃ k2 : Nat, 1 ≤ k2 ∧ k2 ≤ 8 ∧ kn 79 420 [.ref b, .ref s, .int v, .int (nI L.length), .int (nI m), .int (nI p), .int x6, .int x7, .int (nI t), .null, .null] [] M = kn 79 456 [.ref b, .ref s, .int v, .int (nI L.length), .int (nI m), .int (nI p), .int x6, .int x7, .int (nI t), .int (nI kk), .null] [] (kI M s (.inr (.inr (.inl (kSm dk gu k2 pa ha))))) := by
    by_cases hq : nI (blw (v >>> (9 &&& 31)) 2) = 0
    · refine ⟨1 + blw (v >>> (6 &&& 31)) 8, by omega, by have := blw_lt (v := v >>> (6 &&& 31)) (n := 8) (by omega); omega, ?_⟩
      have hq := eq_true hq
      simp only [k_79_420, k_79_421, k_79_424, k_79_426, k_79_427, k_79_428, k_79_429, k_79_431, k_79_432, k_79_433, k_79_435, k_79_436, k_79_437, k_79_440, k_79_443, k_79_445, k_79_449, k_79_452, k_79_453, sm_0, sm_c, ct_i, ct_r, ct_n, ct_l, ct_d, tl_s, tl_n, oK_s, cS_s, cI_0, cI_9, cA_s, cR_s, cQ_s, cN_i, cN_r, cO_s, rS_s, rK_s, cK_i, cK_j, cK_d, if_true, if_false, true_or, or_true, Nat.reduceAdd, Nat.reduceLeDiff, Nat.zero_le, Nat.reduceEqDiff, Nat.reduceSub, eq_self, Nat.le_refl, ne_eq, not_false_eq_true, not_true_eq_false, i1_0, i0_1, kSm_0, kSm_1, kSm_2, kSm_3, kSm_4, x5_0, x5_1, x5_2, x5_3, x5_4, q1, u2, u8, hq, ea, kSm_u2]
    · refine ⟨1 + blw (v >>> (6 &&& 31)) 3, by omega, by have := blw_lt (v := v >>> (6 &&& 31)) (n := 3) (by omega); omega, ?_⟩
      have hq := eq_false hq
      simp only [k_79_420, k_79_421, k_79_424, k_79_426, k_79_427, k_79_428, k_79_429, k_79_431, k_79_432, k_79_433, k_79_435, k_79_436, k_79_437, k_79_440, k_79_448, k_79_449, k_79_452, k_79_453, sm_0, sm_c, ct_i, ct_r, ct_n, ct_l, ct_d, tl_s, tl_n, oK_s, cS_s, cI_0, cI_9, cA_s, cR_s, cQ_s, cN_i, cN_r, cO_s, rS_s, rK_s, cK_i, cK_j, cK_d, if_true, if_false, true_or, or_true, Nat.reduceAdd, Nat.reduceLeDiff, Nat.zero_le, Nat.reduceEqDiff, Nat.reduceSub, eq_self, Nat.le_refl, ne_eq, not_false_eq_true, not_true_eq_false, i1_0, i0_1, kSm_0, kSm_1, kSm_2, kSm_3, kSm_4, x5_0, x5_1, x5_2, x5_3, x5_4, q1, u2, u3, hq, ea, kSm_u2]
  obtain ⟨k2, h1, h8, e1⟩ := e1
  obtain ⟨M1, hM1⟩ : ∃ M1, M1 = kI M s (.inr (.inr (.inl (kSm dk gu k2 pa ha)))) := ⟨_, rfl⟩
  have hf : Fr M M1 := by rw [hM1]; exact Fr.ki (by rw [q1]; rfl)
  have lo : ∀ k d, M.1 k = d → d ≠ .inr (.inr (.inl (kSm dk gu kk pa ha))) → M1.1 k = d := fun k d e hd => by rw [hM1]; exact (kI_ne (cell_ne e q1 hd)).trans e
  have hs1 : M1.1 s = .inr (.inr (.inl (kSm dk gu k2 pa ha))) := by rw [hM1]; exact kI_self
  have hS1 : SimI M1 s L w k2 := by
    have hN : kN M1 = kN M := by rw [hM1]; rfl
    refine ⟨dk, gu, pa, ha, vv, r, gg, gw, pl, hu, ⟨hs1, lo _ _ q2 (by simp), fun d hd => ?_, lo _ _ q4 (by simp), q5, q6, q7⟩, ⟨by omega, by omega, by omega, fun d hd => by rw [hN]; exact n4 d hd⟩, lo _ _ hp2 (by simp), lo _ _ hh2 (by simp), by omega, by omega, hne, zp, zh⟩
    obtain ⟨a1, a2, a3⟩ := q3 d hd
    exact ⟨a1, lo _ _ a2 (by simp), a3⟩
  obtain ⟨f', u31, c31, -⟩ := s_31 (kk := kk) h1 h8 (M := (M.2.1 b, zL)) hK.2.2
  have hb2 := (hf.kt hK).1
  have e21 : M1.2.1 = M.2.1 := by rw [hM1]; rfl
  refine ⟨kV M1 b f' 0, k2, ?_, LI.nx hh hf hS1 c31 hw h1 h8, ?_⟩
  · rw [e1, ← hM1]
    simp only [k_79_456, k_79_457, k_79_458, k_79_461, k_79_464, k_79_466, k_79_469, k_79_470, k_79_473, k_79_474, sm_0, sm_c, ct_i, ct_r, ct_n, ct_l, ct_d, tl_s, tl_n, oK_s, cS_s, cI_0, cI_9, cA_s, cR_s, cQ_s, cN_i, cN_r, cO_s, rS_s, rK_s, cK_i, cK_j, cK_d, if_true, if_false, true_or, or_true, Nat.reduceAdd, Nat.reduceLeDiff, Nat.zero_le, Nat.reduceEqDiff, Nat.reduceSub, eq_self, Nat.le_refl, ne_eq, not_false_eq_true, not_true_eq_false, i1_0, i0_1, kSm_0, kSm_1, kSm_2, kSm_3, kSm_4, x5_0, x5_1, x5_2, x5_3, x5_4, hs1, hb2, e21, u31]
  · rw [hM1]
    exact ⟨Nat.le_add_right _ _, Nat.le_add_right _ _⟩
/-- one act -/
theorem s_k79 (h : LI M b s n xs L w kk) : ∃ (M' : kM) (L2 : List Dd) (w2 : Int32) (k2 : Nat), kn 79 0 [.ref b, .ref s, .int v, .null, .null, .null, .null, .null, .null, .null, .null] [] M = some (some (.int 1), M') ∧ LI M' b s n xs L2 w2 k2 ∧ kLe M M' 3 42 := by
  obtain ⟨m, p, t, c, x6, x7, hp, h6, h7, t1, t9, hc, hm, e⟩ := act_head (v := v) h
  rw [e]
  have cook : kn 79 84 [.ref b, .ref s, .int v, .int (nI L.length), .int (nI m), .int (nI p), .int x6, .int x7, .int (nI t), .null, .null] [.int (nI c)] M = kn 79 144 [.ref b, .ref s, .int v, .int (nI L.length), .int (nI m), .int (nI p), .int x6, .int x7, .int (nI t), .null, .null] [] M → ∃ (M' : kM) (L2 : List Dd) (w2 : Int32) (k2 : Nat), kn 79 84 [.ref b, .ref s, .int v, .int (nI L.length), .int (nI m), .int (nI p), .int x6, .int x7, .int (nI t), .null, .null] [.int (nI c)] M = some (some (.int 1), M') ∧ LI M' b s n xs L2 w2 k2 ∧ kLe M M' 3 42 := fun e => by
    obtain ⟨M', L2, r1, r2, r3⟩ := act_cook (m := m) (v := v) h hp h6 h7 t1 t9
    exact ⟨M', L2, w, kk, e.trans r1, r2, r3⟩
  have pour : kn 79 84 [.ref b, .ref s, .int v, .int (nI L.length), .int (nI m), .int (nI p), .int x6, .int x7, .int (nI t), .null, .null] [.int (nI c)] M = kn 79 227 [.ref b, .ref s, .int v, .int (nI L.length), .int (nI m), .int (nI p), .int x6, .int x7, .int (nI t), .null, .null] [] M → ∃ (M' : kM) (L2 : List Dd) (w2 : Int32) (k2 : Nat), kn 79 84 [.ref b, .ref s, .int v, .int (nI L.length), .int (nI m), .int (nI p), .int x6, .int x7, .int (nI t), .null, .null] [.int (nI c)] M = some (some (.int 1), M') ∧ LI M' b s n xs L2 w2 k2 ∧ kLe M M' 3 42 := fun e => by
    obtain ⟨M', L2, r1, r2, r3⟩ := act_pour (v := v) (x6 := x6) (x7 := x7) h hp hm t1 t9
    exact ⟨M', L2, w, kk, e.trans r1, r2, r3⟩
  have want : kn 79 84 [.ref b, .ref s, .int v, .int (nI L.length), .int (nI m), .int (nI p), .int x6, .int x7, .int (nI t), .null, .null] [.int (nI c)] M = kn 79 364 [.ref b, .ref s, .int v, .int (nI L.length), .int (nI m), .int (nI p), .int x6, .int x7, .int (nI t), .null, .null] [] M → ∃ (M' : kM) (L2 : List Dd) (w2 : Int32) (k2 : Nat), kn 79 84 [.ref b, .ref s, .int v, .int (nI L.length), .int (nI m), .int (nI p), .int x6, .int x7, .int (nI t), .null, .null] [.int (nI c)] M = some (some (.int 1), M') ∧ LI M' b s n xs L2 w2 k2 ∧ kLe M M' 3 42 := fun e => by
    obtain ⟨M', w2, r1, r2, r3⟩ := act_want (m := m) (t := t) (v := v) (x6 := x6) (x7 := x7) h hp
    exact ⟨M', L, w2, kk, e.trans r1, r2, r3⟩
  rcases (show c = 0 ∨ c = 1 ∨ c = 2 ∨ c = 3 ∨ c = 4 ∨ c = 5 ∨ c = 6 ∨ c = 7 ∨ c = 8 ∨ c = 9 ∨ c = 10 ∨ c = 11 by omega) with rfl | rfl | rfl | rfl | rfl | rfl | rfl | rfl | rfl | rfl | rfl | rfl
  · exact cook k_79_84_0
  · exact cook k_79_84_1
  · exact cook k_79_84_2
  · exact cook k_79_84_3
  · exact cook k_79_84_4
  · exact pour k_79_84_5
  · exact pour k_79_84_6
  · exact pour k_79_84_7
  · obtain ⟨M', L2, r1, r2, r3⟩ := act_drop (m := m) (p := p) (t := t) (v := v) (x6 := x6) (x7 := x7) h
    exact ⟨M', L2, w, kk, (k_79_84_8 (st := [])).trans r1, r2, r3⟩
  · exact want k_79_84_9
  · exact want k_79_84_10
  · obtain ⟨M', k2, r1, r2, r3⟩ := act_hooks (m := m) (p := p) (t := t) (v := v) (x6 := x6) (x7 := x7) h
    exact ⟨M', L, w, k2, (k_79_84_d (st := []) (Or.inr (by decide))).trans r1, r2, r3⟩
end
