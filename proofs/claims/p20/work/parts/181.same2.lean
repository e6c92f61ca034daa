/-! the sim: isSame, the pots -/
theorem x6_0 : mmX 0 6 = some 0 := by decide
theorem x6_1 : mmX 1 6 = some 1 := by decide
theorem x6_2 : mmX 2 6 = some 2 := by decide
theorem x6_3 : mmX 3 6 = some 3 := by decide
theorem x6_4 : mmX 4 6 = some 4 := by decide
theorem x6_5 : mmX 5 6 = some 5 := by decide
def W6 (L : List Dd) (w : Int32) (kk p : Nat) : Nat → Int32 := upd (upd (upd (upd (upd (upd kG0 0 (b01 (bt (STU L w).1 p))) 1 ((STU L w).2.2.2 p)) 2 (bc ((STU L w).2.1 p))) 3 ((HG L w kk).1 p)) 4 (PL L w kk p)) 5 (b01 (bt (HG L w kk).2.2 p))
theorem W6_p {L : List Dd} {w : Int32} {kk p j : Nat} (hj : j < 6) : W6 L w kk p j = aPot L w kk p j := by
  rcases (show j = 0 ∨ j = 1 ∨ j = 2 ∨ j = 3 ∨ j = 4 ∨ j = 5 by omega) with rfl | rfl | rfl | rfl | rfl | rfl <;> rfl
/-- the hooks in use, pot by pot from p on -/
def iuR (hk : Nat → Int32) : Nat → (Nat → Int32) → (Nat → Int32)
  | 0, f => f
  | n + 1, f => iuR hk n (if hk (15 - n) < 0 then f else upd f (hk (15 - n)).toNatClampNeg 1)
theorem iuR_at {hk : Nat → Int32} (hK : ∀ i, i < 16 → hk i = -1 ∨ ∃ h, h < 16 ∧ hk i = nI h) {x : Nat} (hx : x < 16) : ∀ (n : Nat), n ≤ 16 → ∀ f : Nat → Int32, ((∃ q, 16 - n ≤ q ∧ q < 16 ∧ hk q = nI x) → iuR hk n f x = 1) ∧ ((¬ ∃ q, 16 - n ≤ q ∧ q < 16 ∧ hk q = nI x) → iuR hk n f x = f x)
  | 0, _, f => by
    refine ⟨?_, fun _ => rfl⟩
    rintro ⟨q, h1, h2, -⟩
    omega
  | n + 1, hn, f => by
    rw [iuR]
    obtain ⟨i1, i2⟩ := iuR_at hK hx n (by omega) (if hk (15 - n) < 0 then f else upd f (hk (15 - n)).toNatClampNeg 1)
    by_cases h1 : ∃ q, 16 - n ≤ q ∧ q < 16 ∧ hk q = nI x
    · refine ⟨fun _ => i1 h1, fun hn => ?_⟩
      obtain ⟨q, a, b, c⟩ := h1
      exact absurd ⟨q, by omega, b, c⟩ hn
    · rw [i2 h1]
      have out : ∀ q, 16 - (n + 1) ≤ q → q < 16 → hk q = nI x → hk (15 - n) = nI x := fun q a b c => by
        by_cases hq : q = 15 - n
        · rw [← hq]; exact c
        · exact absurd ⟨q, by omega, b, c⟩ h1
      rcases hK (15 - n) (by omega) with hm | ⟨h, hh, hm⟩
      · rw [hm, if_pos (by decide)]
        refine ⟨?_, fun _ => rfl⟩
        rintro ⟨q, a, b, c⟩
        have := out q a b c
        rw [hm] at this
        exact absurd this.symm (nI_m1 hx)
      · rw [hm, if_neg (nI_pos (by omega)), nI_clamp (by omega)]
        by_cases hxh : x = h
        · subst hxh
          rw [upd_at]
          exact ⟨fun _ => rfl, fun hn => absurd ⟨15 - n, by omega, by omega, hm⟩ hn⟩
        · rw [upd_ne hxh]
          refine ⟨?_, fun _ => rfl⟩
          rintro ⟨q, a, b, c⟩
          have := out q a b c
          rw [hm] at this
          exact absurd ((nI_eq (by omega) (by omega)).mp this).symm hxh
theorem iuR_pa {hk pa : Nat → Int32} (h : PAi hk pa) {x : Nat} (hx : x < 16) {f : Nat → Int32} (hf : f x = 0) : iuR hk 16 f x = b01 (decide (0 < bc (pa x))) := by
  obtain ⟨i1, i2⟩ := iuR_at h.2 hx 16 (Nat.le_refl _) f
  have hs := h.s16 hx
  by_cases h0 : pa x = 0
  · rw [show decide (0 < bc (pa x)) = false from decide_eq_false (by rw [bc_pos hs]; exact fun hh => hh h0), i2]
    · exact hf
    · rintro ⟨q, -, hq, e⟩
      have := h.1 x hx q (by omega)
      rw [h0, b_0, e] at this
      simp [hq] at this
  · rw [show decide (0 < bc (pa x)) = true from decide_eq_true (by rw [bc_pos hs]; exact h0), i1]
    · rfl
    · obtain ⟨i, hi, hb⟩ := bit_ex hs h0
      rw [h.1 x hx i (by omega)] at hb
      simp only [Bool.and_eq_true, decide_eq_true_eq] at hb
      exact ⟨i, by omega, hi, hb.2⟩
section
variable {M : kM} {s b dk gu kk pa ha rm : Nat} {vv : Nat → Option Nat} {r : Nat → Nat} {gg : Nat → Nat → Int32} {gw : Nat → Int32} {L : List Dd} {w : Int32} {g : Nat → Nat → Int32} {p iu : Nat} {z3 x4 x5 x6 x7 x8 x9 x10 : Int32} {v13 v14 v15 v16 : Value}
theorem j_l332 (h : IsF M s b dk gu kk pa ha rm vv r gg gw L w g) (hp : p < 16) : ∀ (n q : Nat), q + n = 16 → ∀ c : Int32, kn 71 332 [.ref s, .ref b, .ref rm, .int z3, .int x4, .int x5, .int x6, .int x7, .int x8, .int x9, .int x10, .ref iu, .int (nI p), .int c, .int (nI q), v15, v16] [] M = kn 71 385 [.ref s, .ref b, .ref rm, .int z3, .int x4, .int x5, .int x6, .int x7, .int x8, .int x9, .int x10, .ref iu, .int (nI p), .int (fcR (fun q => clM w L p q) n c), .int 16, v15, v16] [] M
  | 0, q, hq, c => by
    obtain rfl : q = 16 := by omega
    rw [k_71_332]
    simp only [k_71_334, k_71_336, sm_0, sm_c, ct_i, ct_r, ct_n, ct_l, ct_d, tl_s, tl_n, oK_s, cS_s, cI_0, cI_9, cA_s, cR_s, cQ_s, cN_i, cN_r, cO_s, rS_s, rK_s, cK_i, cK_j, cK_d, if_true, if_false, true_or, or_true, Nat.reduceAdd, Nat.reduceLeDiff, Nat.zero_le, Nat.reduceEqDiff, Nat.reduceSub, eq_self, Nat.le_refl, ne_eq, not_false_eq_true, not_true_eq_false, i1_0, i0_1, kSm_0, kSm_1, kSm_2, kSm_3, kSm_4, x5_0, x5_1, x5_2, x5_3, x5_4, nI_16, Int32.le_refl, fcR]
  | n + 1, q, hq, c => by
    have e : ((16 : Int32) ≤ nI q) = False := p_hi (by omega)
    obtain ⟨h1, h2, h3, h4, h5, h6, h7, h8, h9, h10, hK, h12⟩ := h
    have hb := hK.1
    have hO := h1.2.2.2.2.2.2
    have u := s_34 (kk := kk) hp (q := q) (by omega) (M := (M.2.1 b, zL)) hK.2.2
    rw [← clM_bt hO hp (by omega)] at u
    have hx := x16_16 hp
    have hxq := x16_16 (show q < 16 by omega)
    have hi : (if p < 16 then some (rm + 1 + p) else none : Option Nat) = some (rm + 1 + p) := if_pos hp
    have hg := h9 p hp
    have hgq := h10 p hp q (by omega)
    rw [fcR, show 15 - n = q by omega, ← j_l332 ⟨h1, h2, h3, h4, h5, h6, h7, h8, h9, h10, hK, h12⟩ hp n (q + 1) (by omega) (c + b01 (clM w L p q))]
    rw [k_71_332]
    simp only [k_71_334, k_71_336, k_71_339, k_71_340, k_71_342, k_71_344, k_71_347, k_71_348, k_71_350, k_71_351, k_71_353, k_71_354, sm_0, sm_c, ct_i, ct_r, ct_n, ct_l, ct_d, tl_s, tl_n, oK_s, cS_s, cI_0, cI_9, cA_s, cR_s, cQ_s, cN_i, cN_r, cO_s, rS_s, rK_s, cK_i, cK_j, cK_d, if_true, if_false, true_or, or_true, Nat.reduceAdd, Nat.reduceLeDiff, Nat.zero_le, Nat.reduceEqDiff, Nat.reduceSub, eq_self, Nat.le_refl, ne_eq, not_false_eq_true, not_true_eq_false, i1_0, i0_1, kSm_0, kSm_1, kSm_2, kSm_3, kSm_4, x5_0, x5_1, x5_2, x5_3, x5_4, e, hb, u, kV_id, h7, hx, hxq, hi, hg, hgq]
    rw [k_71_359]
    cases hc : clM w L p q with
    | true =>
      have n1 : ((1 : Int32) = 0) = False := by decide
      rw [hc] at hgq
      simp only [k_71_361, k_71_362, k_71_364, k_71_365, k_71_367, k_71_368, k_71_371, k_71_372, k_71_375, k_71_376, sm_0, sm_c, ct_i, ct_r, ct_n, ct_l, ct_d, tl_s, tl_n, oK_s, cS_s, cI_0, cI_9, cA_s, cR_s, cQ_s, cN_i, cN_r, cO_s, rS_s, rK_s, cK_i, cK_j, cK_d, if_true, if_false, true_or, or_true, Nat.reduceAdd, Nat.reduceLeDiff, Nat.zero_le, Nat.reduceEqDiff, Nat.reduceSub, eq_self, Nat.le_refl, ne_eq, not_false_eq_true, not_true_eq_false, i1_0, i0_1, kSm_0, kSm_1, kSm_2, kSm_3, kSm_4, x5_0, x5_1, x5_2, x5_3, x5_4, h7, hx, hxq, hi, hg, hgq, b01, n1]
      rw [k_71_377 (ct_i _), k_71_379 (ct_i _), k_71_382, nI_1]
    | false =>
      rw [hc] at hgq
      simp only [k_71_361, k_71_362, k_71_364, k_71_365, k_71_367, k_71_368, k_71_371, k_71_372, k_71_375, k_71_376, sm_0, sm_c, ct_i, ct_r, ct_n, ct_l, ct_d, tl_s, tl_n, oK_s, cS_s, cI_0, cI_9, cA_s, cR_s, cQ_s, cN_i, cN_r, cO_s, rS_s, rK_s, cK_i, cK_j, cK_d, if_true, if_false, true_or, or_true, Nat.reduceAdd, Nat.reduceLeDiff, Nat.zero_le, Nat.reduceEqDiff, Nat.reduceSub, eq_self, Nat.le_refl, ne_eq, not_false_eq_true, not_true_eq_false, i1_0, i0_1, kSm_0, kSm_1, kSm_2, kSm_3, kSm_4, x5_0, x5_1, x5_2, x5_3, x5_4, h7, hx, hxq, hi, hg, hgq, b01, Bool.false_eq_true]
      rw [k_71_377 (ct_i _), k_71_379 (ct_i _), k_71_382, nI_1]
theorem j_row (h : IsF M s b dk gu kk pa ha rm vv r gg gw L w g) (hp : p < 16) : kn 71 385 [.ref s, .ref b, .ref rm, .int z3, .int x4, .int x5, .int x6, .int x7, .int x8, .int x9, .int x10, .ref iu, .int (nI p), .int (bc ((STU L w).2.1 p)), .int 16, v15, v16] [] M = kn 71 472 [.ref s, .ref b, .ref rm, .int z3, .int x4, .int x5, .int x6, .int x7, .int x8, .int x9, .int x10, .ref iu, .int (nI p), .int (bc ((STU L w).2.1 p)), .int (b01 (bt (STU L w).1 p)), .ref (kN M + 1), .int 0] [] (kI (kA M (.inl (0, 6, kG0)) 6) (kN M + 1) (.inl (0, 6, W6 L w kk p))) := by
  obtain ⟨h1, h2, h3, h4, h5, h6, h7, h8, h9, h10, hK, hw, hk1, hk8⟩ := h
  have hh : IsF M s b dk gu kk pa ha rm vv r gg gw L w g := ⟨h1, h2, h3, h4, h5, h6, h7, h8, h9, h10, hK, hw, hk1, hk8⟩
  have hO := h1.2.2.2.2.2.2
  have hl := h1.2.2.2.2.2.1
  have q1 := h1.1
  have u63 := s_k63 h1 hp
  rw [thR_bt hp hO] at u63
  have hx := x16_16 hp
  have e6 : ∀ k, nA 6 k = k 6 := fun k => rfl
  have hlo : ∀ k d, k ≤ kN M → M.1 k = d → ∀ c, (kI (kA M (.inl (0, 6, kG0)) 6) (kN M + 1) c).1 k = d := fun k d hk e c => (kA_ex2 _ hk).trans e
  have g1 := hlo _ _ h2.1 q1
  have g3 := hlo _ _ h5 h3
  have g4 := hlo _ _ h6 h4
  have u64 : ∀ c, kn 64 0 [.ref s, .int (nI p), .null, .null, .null, .null, .null, .null] [] (kI (kA M (.inl (0, 6, kG0)) 6) (kN M + 1) c) = some (some (.int ((STU L w).2.2.2 p)), kI (kA M (.inl (0, 6, kG0)) 6) (kN M + 1) c) := fun c => by
    rw [s_k64 (hh.ex kA_kI_ex).1, csR_co hp hO]
  have hf := fl_hand hO hl hw hk1 (show kk ≤ 16 by omega) hp
  have e1 : kn 71 385 [.ref s, .ref b, .ref rm, .int z3, .int x4, .int x5, .int x6, .int x7, .int x8, .int x9, .int x10, .ref iu, .int (nI p), .int (bc ((STU L w).2.1 p)), .int 16, v15, v16] [] M = kn 71 393 [.ref s, .ref b, .ref rm, .int z3, .int x4, .int x5, .int x6, .int x7, .int x8, .int x9, .int x10, .ref iu, .int (nI p), .int (bc ((STU L w).2.1 p)), .int (b01 (bt (STU L w).1 p)), v15, v16] [] M := by
    simp only [k_71_385, k_71_386, k_71_388, sm_0, sm_c, ct_i, ct_r, ct_n, ct_l, ct_d, tl_s, tl_n, oK_s, cS_s, cI_0, cI_9, cA_s, cR_s, cQ_s, cN_i, cN_r, cO_s, rS_s, rK_s, cK_i, cK_j, cK_d, if_true, if_false, true_or, or_true, Nat.reduceAdd, Nat.reduceLeDiff, Nat.zero_le, Nat.reduceEqDiff, Nat.reduceSub, eq_self, Nat.le_refl, ne_eq, not_false_eq_true, not_true_eq_false, i1_0, i0_1, kSm_0, kSm_1, kSm_2, kSm_3, kSm_4, x5_0, x5_1, x5_2, x5_3, x5_4, q1, u63]
    rw [k_71_391 (ct_i _)]
  rw [e1]
  have fin : kn 71 467 [.ref s, .ref b, .ref rm, .int z3, .int x4, .int x5, .int x6, .int x7, .int x8, .int x9, .int x10, .ref iu, .int (nI p), .int (bc ((STU L w).2.1 p)), .int (b01 (bt (STU L w).1 p)), v15, v16] [.ref (kN M + 1)] (kI (kA M (.inl (0, 6, kG0)) 6) (kN M + 1) (.inl (0, 6, W6 L w kk p))) = kn 71 472 [.ref s, .ref b, .ref rm, .int z3, .int x4, .int x5, .int x6, .int x7, .int x8, .int x9, .int x10, .ref iu, .int (nI p), .int (bc ((STU L w).2.1 p)), .int (b01 (bt (STU L w).1 p)), .ref (kN M + 1), .int 0] [] (kI (kA M (.inl (0, 6, kG0)) 6) (kN M + 1) (.inl (0, 6, W6 L w kk p))) := by
    rw [k_71_467 (ct_i _), k_71_469, k_71_470 (ct_r _)]
  rw [← fin]
  unfold W6
  cases hth : bt (STU L w).1 p with
  | false =>
    rw [hth] at hf
    rw [hf]
    simp only [k_71_393, k_71_395, k_71_397, k_71_398, k_71_399, k_71_401, k_71_404, k_71_405, k_71_408, k_71_409, k_71_410, k_71_411, k_71_412, k_71_413, k_71_415, k_71_418, k_71_419, k_71_420, k_71_421, k_71_423, k_71_424, k_71_425, k_71_426, k_71_427, k_71_430, k_71_432, k_71_433, k_71_434, k_71_435, k_71_436, k_71_437, k_71_440, k_71_442, k_71_443, k_71_444, k_71_445, k_71_446, k_71_448, k_71_451, k_71_452, k_71_455, k_71_457, k_71_458, k_71_461, k_71_462, k_71_465, k_71_466, sm_0, sm_c, ct_i, ct_r, ct_n, ct_l, ct_d, tl_s, tl_n, oK_s, cS_s, cI_0, cI_9, cA_s, cR_s, cQ_s, cN_i, cN_r, cO_s, rS_s, rK_s, cK_i, cK_j, cK_d, if_true, if_false, true_or, or_true, Nat.reduceAdd, Nat.reduceLeDiff, Nat.zero_le, Nat.reduceEqDiff, Nat.reduceSub, eq_self, Nat.le_refl, ne_eq, not_false_eq_true, not_true_eq_false, i1_0, i0_1, kSm_0, kSm_1, kSm_2, kSm_3, kSm_4, x5_0, x5_1, x5_2, x5_3, x5_4, e6, kA_self, kI_self, kI_kI, g1, g3, g4, u64, hx, x6_0, x6_1, x6_2, x6_3, x6_4, x6_5, b01, Bool.false_and, Bool.false_eq_true]
  | true =>
    have n1 : ((1 : Int32) = 0) = False := by decide
    rw [hth] at hf
    rw [hf]
    by_cases hneg : (HG L w kk).1 p < 0
    · have hn := eq_false (Int32.not_le.mpr hneg)
      simp only [k_71_393, k_71_395, k_71_397, k_71_398, k_71_399, k_71_401, k_71_404, k_71_405, k_71_408, k_71_409, k_71_410, k_71_411, k_71_412, k_71_413, k_71_415, k_71_418, k_71_419, k_71_420, k_71_421, k_71_423, k_71_424, k_71_425, k_71_426, k_71_427, k_71_430, k_71_432, k_71_433, k_71_434, k_71_435, k_71_436, k_71_437, k_71_440, k_71_442, k_71_443, k_71_444, k_71_445, k_71_446, k_71_448, k_71_451, k_71_452, k_71_455, k_71_457, k_71_458, k_71_461, k_71_462, k_71_465, k_71_466, sm_0, sm_c, ct_i, ct_r, ct_n, ct_l, ct_d, tl_s, tl_n, oK_s, cS_s, cI_0, cI_9, cA_s, cR_s, cQ_s, cN_i, cN_r, cO_s, rS_s, rK_s, cK_i, cK_j, cK_d, if_true, if_false, true_or, or_true, Nat.reduceAdd, Nat.reduceLeDiff, Nat.zero_le, Nat.reduceEqDiff, Nat.reduceSub, eq_self, Nat.le_refl, ne_eq, not_false_eq_true, not_true_eq_false, i1_0, i0_1, kSm_0, kSm_1, kSm_2, kSm_3, kSm_4, x5_0, x5_1, x5_2, x5_3, x5_4, e6, kA_self, kI_self, kI_kI, g1, g3, g4, u64, hx, x6_0, x6_1, x6_2, x6_3, x6_4, x6_5, b01, Bool.true_and, n1, hn, hneg, decide_true]
    · have hn := eq_true (Int32.not_lt.mp hneg)
      simp only [k_71_393, k_71_395, k_71_397, k_71_398, k_71_399, k_71_401, k_71_404, k_71_405, k_71_408, k_71_409, k_71_410, k_71_411, k_71_412, k_71_413, k_71_415, k_71_418, k_71_419, k_71_420, k_71_421, k_71_423, k_71_424, k_71_425, k_71_426, k_71_427, k_71_430, k_71_432, k_71_433, k_71_434, k_71_435, k_71_436, k_71_437, k_71_440, k_71_442, k_71_443, k_71_444, k_71_445, k_71_446, k_71_448, k_71_451, k_71_452, k_71_455, k_71_457, k_71_458, k_71_461, k_71_462, k_71_465, k_71_466, sm_0, sm_c, ct_i, ct_r, ct_n, ct_l, ct_d, tl_s, tl_n, oK_s, cS_s, cI_0, cI_9, cA_s, cR_s, cQ_s, cN_i, cN_r, cO_s, rS_s, rK_s, cK_i, cK_j, cK_d, if_true, if_false, true_or, or_true, Nat.reduceAdd, Nat.reduceLeDiff, Nat.zero_le, Nat.reduceEqDiff, Nat.reduceSub, eq_self, Nat.le_refl, ne_eq, not_false_eq_true, not_true_eq_false, i1_0, i0_1, kSm_0, kSm_1, kSm_2, kSm_3, kSm_4, x5_0, x5_1, x5_2, x5_3, x5_4, e6, kA_self, kI_self, kI_kI, g1, g3, g4, u64, hx, x6_0, x6_1, x6_2, x6_3, x6_4, x6_5, b01, Bool.true_and, n1, hn, hneg, decide_false, Bool.false_eq_true]
theorem j_l472 {wa : Nat} {y13 y14 : Int32} (h : IsF M s b dk gu kk pa ha rm vv r gg gw L w g) (hp : p < 16) (hwa : M.1 wa = .inl (0, 6, W6 L w kk p)) : ∀ (n j : Nat), j + n = 6 → kn 71 472 [.ref s, .ref b, .ref rm, .int z3, .int x4, .int x5, .int x6, .int x7, .int x8, .int x9, .int x10, .ref iu, .int (nI p), .int y13, .int y14, .ref wa, .int (nI j)] [] M = kn 71 503 [.ref s, .ref b, .ref rm, .int z3, .int x4, .int x5, .int x6, .int x7, .int x8, .int x9, .int x10, .ref iu, .int (nI p), .int y13, .int y14, .ref wa, .int 6] [] M
  | 0, j, hj => by
    obtain rfl : j = 6 := by omega
    have e : ((6 : Int32) ≤ nI 6) = True := eq_true (Int32.le_refl _)
    rw [k_71_472]
    simp only [k_71_474, k_71_476, sm_0, sm_c, ct_i, ct_r, ct_n, ct_l, ct_d, tl_s, tl_n, oK_s, cS_s, cI_0, cI_9, cA_s, cR_s, cQ_s, cN_i, cN_r, cO_s, rS_s, rK_s, cK_i, cK_j, cK_d, if_true, if_false, true_or, or_true, Nat.reduceAdd, Nat.reduceLeDiff, Nat.zero_le, Nat.reduceEqDiff, Nat.reduceSub, eq_self, Nat.le_refl, ne_eq, not_false_eq_true, not_true_eq_false, i1_0, i0_1, kSm_0, kSm_1, kSm_2, kSm_3, kSm_4, x5_0, x5_1, x5_2, x5_3, x5_4, e]
    rfl
  | n + 1, j, hj => by
    have e : ((6 : Int32) ≤ nI j) = False := eq_false (nI_ge (a := j) (b := 6) (by omega) (by omega))
    have hK := h.2.2.2.2.2.2.2.2.2.2.1
    have hb := hK.1
    have hx : mmX (nI j) 6 = some j := mmX_nI (by omega) (by omega)
    have u := s_35 (kk := kk) hp (j := j) (by omega) (M := (M.2.1 b, zL)) hK.2.2
    have hd := W6_p (L := L) (w := w) (kk := kk) (p := p) (j := j) (by omega)
    rw [← j_l472 h hp hwa n (j + 1) (by omega)]
    rw [k_71_472]
    simp only [k_71_474, k_71_476, k_71_479, k_71_480, k_71_482, k_71_484, k_71_487, k_71_489, k_71_491, k_71_492, sm_0, sm_c, ct_i, ct_r, ct_n, ct_l, ct_d, tl_s, tl_n, oK_s, cS_s, cI_0, cI_9, cA_s, cR_s, cQ_s, cN_i, cN_r, cO_s, rS_s, rK_s, cK_i, cK_j, cK_d, if_true, if_false, true_or, or_true, Nat.reduceAdd, Nat.reduceLeDiff, Nat.zero_le, Nat.reduceEqDiff, Nat.reduceSub, eq_self, Nat.le_refl, ne_eq, not_false_eq_true, not_true_eq_false, i1_0, i0_1, kSm_0, kSm_1, kSm_2, kSm_3, kSm_4, x5_0, x5_1, x5_2, x5_3, x5_4, e, hb, u, kV_id, hwa, hx, hd]
    rw [k_71_497 (ct_r _), k_71_500, nI_1]
/-- the end of a pot's round -/
theorem j_tail {wa : Nat} {y13 y14 : Int32} {f : Nat → Int32} (h : IsF M s b dk gu kk pa ha rm vv r gg gw L w g) (hp : p < 16) (hwa : M.1 wa = .inl (0, 6, W6 L w kk p)) (hiu : M.1 iu = .inl (1, 16, f)) (hne : iu ≠ s ∧ iu ≠ ha) : ∃ M', kn 71 503 [.ref s, .ref b, .ref rm, .int z3, .int x4, .int x5, .int x6, .int x7, .int x8, .int x9, .int x10, .ref iu, .int (nI p), .int y13, .int y14, .ref wa, .int 6] [] M = kn 71 319 [.ref s, .ref b, .ref rm, .int z3, .int x4, .int x5, .int x6, .int x7, .int x8, .int (x9 + b01 (bt (STU L w).1 p)), .int (x10 + y13), .ref iu, .int (nI (p + 1)), .int y13, .int y14, .ref wa, .int 6] [] M' ∧ (M' = M ∨ ∃ c, M' = kI M iu c) ∧ M'.1 iu = .inl (1, 16, if (HG L w kk).1 p < 0 then f else upd f ((HG L w kk).1 p).toNatClampNeg 1) := by
  obtain ⟨h1, h2, h3, h4, h5, h6, h7, h8, h9, h10, hK, hw, hk1, hk8⟩ := h
  have hO := h1.2.2.2.2.2.2
  have hl := h1.2.2.2.2.2.1
  have q1 := h1.1
  have hx := x16_16 hp
  have hW0 : W6 L w kk p 0 = b01 (bt (STU L w).1 p) := rfl
  have e1 : kn 71 503 [.ref s, .ref b, .ref rm, .int z3, .int x4, .int x5, .int x6, .int x7, .int x8, .int x9, .int x10, .ref iu, .int (nI p), .int y13, .int y14, .ref wa, .int 6] [] M = kn 71 519 [.ref s, .ref b, .ref rm, .int z3, .int x4, .int x5, .int x6, .int x7, .int x8, .int (x9 + b01 (bt (STU L w).1 p)), .int (x10 + y13), .ref iu, .int (nI p), .int y13, .int y14, .ref wa, .int 6] [] M := by
    rw [k_71_503]
    simp only [k_71_505, k_71_507, k_71_508, k_71_509, k_71_510, k_71_512, k_71_514, k_71_516, k_71_517, sm_0, sm_c, ct_i, ct_r, ct_n, ct_l, ct_d, tl_s, tl_n, oK_s, cS_s, cI_0, cI_9, cA_s, cR_s, cQ_s, cN_i, cN_r, cO_s, rS_s, rK_s, cK_i, cK_j, cK_d, if_true, if_false, true_or, or_true, Nat.reduceAdd, Nat.reduceLeDiff, Nat.zero_le, Nat.reduceEqDiff, Nat.reduceSub, eq_self, Nat.le_refl, ne_eq, not_false_eq_true, not_true_eq_false, i1_0, i0_1, kSm_0, kSm_1, kSm_2, kSm_3, kSm_4, x5_0, x5_1, x5_2, x5_3, x5_4, hwa, x6_0, hW0]
  rw [e1]
  have hend : ∀ M', kn 71 540 [.ref s, .ref b, .ref rm, .int z3, .int x4, .int x5, .int x6, .int x7, .int x8, .int (x9 + b01 (bt (STU L w).1 p)), .int (x10 + y13), .ref iu, .int (nI p), .int y13, .int y14, .ref wa, .int 6] [] M' = kn 71 319 [.ref s, .ref b, .ref rm, .int z3, .int x4, .int x5, .int x6, .int x7, .int x8, .int (x9 + b01 (bt (STU L w).1 p)), .int (x10 + y13), .ref iu, .int (nI (p + 1)), .int y13, .int y14, .ref wa, .int 6] [] M' := fun M' => by
    rw [k_71_540 (ct_r _), k_71_543, nI_1]
  by_cases hneg : (HG L w kk).1 p < 0
  · refine ⟨M, ?_, Or.inl rfl, by rw [if_pos hneg]; exact hiu⟩
    rw [k_71_519, ← hend]
    have hneg := eq_true hneg
    simp only [k_71_520, k_71_523, k_71_525, k_71_526, sm_0, sm_c, ct_i, ct_r, ct_n, ct_l, ct_d, tl_s, tl_n, oK_s, cS_s, cI_0, cI_9, cA_s, cR_s, cQ_s, cN_i, cN_r, cO_s, rS_s, rK_s, cK_i, cK_j, cK_d, if_true, if_false, true_or, or_true, Nat.reduceAdd, Nat.reduceLeDiff, Nat.zero_le, Nat.reduceEqDiff, Nat.reduceSub, eq_self, Nat.le_refl, ne_eq, not_false_eq_true, not_true_eq_false, i1_0, i0_1, kSm_0, kSm_1, kSm_2, kSm_3, kSm_4, x5_0, x5_1, x5_2, x5_3, x5_4, q1, h4, hx, hneg]
  · obtain ⟨x, hx16, ex⟩ := ((HG_inv hO hl hw hk1 (show kk ≤ 16 by omega)).1.2 p hp).resolve_left (fun e => hneg (by rw [e]; decide))
    refine ⟨kI M iu (.inl (1, 16, upd f x 1)), ?_, Or.inr ⟨_, rfl⟩, by rw [if_neg hneg, ex, nI_clamp (by omega)]; exact kI_self⟩
    have hxx := x16_16 hx16
    rw [ex] at hneg
    have hneg := eq_false hneg
    rw [k_71_519, ← hend]
    simp only [k_71_520, k_71_523, k_71_525, k_71_526, k_71_529, k_71_531, k_71_532, k_71_535, k_71_537, k_71_538, k_71_539, sm_0, sm_c, ct_i, ct_r, ct_n, ct_l, ct_d, tl_s, tl_n, oK_s, cS_s, cI_0, cI_9, cA_s, cR_s, cQ_s, cN_i, cN_r, cO_s, rS_s, rK_s, cK_i, cK_j, cK_d, if_true, if_false, true_or, or_true, Nat.reduceAdd, Nat.reduceLeDiff, Nat.zero_le, Nat.reduceEqDiff, Nat.reduceSub, eq_self, Nat.le_refl, ne_eq, not_false_eq_true, not_true_eq_false, i1_0, i0_1, kSm_0, kSm_1, kSm_2, kSm_3, kSm_4, x5_0, x5_1, x5_2, x5_3, x5_4, q1, h4, hx, ex, hneg, hiu, hxx, nar01 (Or.inr rfl)]
end
