/-! the law: build -/
theorem zb_kG0 : zb kG0 := fun _ _ => rfl
theorem kSim_m {b : Nat} : kSim b = kSm (b + 1) (b + 2) 3 (b + 3) (b + 4) := by
  funext f
  unfold kSim kSm
  split
  · rfl
  · split
    · rfl
    · split
      · rfl
      · rfl
theorem kB_lo {M : kM} {k : Nat} (hk : k ≤ kN M) : (kB M).1 k = M.1 k := by
  show kU (kU (kU (kU (kU M.1 (kN M + 1) _) (kN M + 2) _) (kN M + 3) _) (kN M + 4) _) (kN M + 5) _ k = _
  rw [kU_ne (by omega), kU_ne (by omega), kU_ne (by omega), kU_ne (by omega), kU_ne (by omega)]
theorem SimI_new {M : kM} : SimI (kB M) (kN M + 1) [] 0 3 := by
  have hN : kN (kB M) = kN M + 5 := rfl
  have e1 : (kB M).1 (kN M + 1) = .inr (.inr (.inl (kSm (kN M + 2) (kN M + 3) 3 (kN M + 4) (kN M + 5)))) := by
    show kU (kU (kU (kU (kU M.1 (kN M + 1) _) (kN M + 2) _) (kN M + 3) _) (kN M + 4) _) (kN M + 5) _ (kN M + 1) = _
    rw [kU_ne (by omega), kU_ne (by omega), kU_ne (by omega), kU_ne (by omega), kU_self, kSim_m]
  have e2 : (kB M).1 (kN M + 2) = .inr (.inl (2, 0, kR0)) := by
    show kU (kU (kU (kU (kU M.1 (kN M + 1) _) (kN M + 2) _) (kN M + 3) _) (kN M + 4) _) (kN M + 5) _ (kN M + 2) = _
    rw [kU_ne (by omega), kU_ne (by omega), kU_ne (by omega), kU_self]
  have e3 : (kB M).1 (kN M + 3) = .inl (1, 16, kG0) := by
    show kU (kU (kU (kU (kU M.1 (kN M + 1) _) (kN M + 2) _) (kN M + 3) _) (kN M + 4) _) (kN M + 5) _ (kN M + 3) = _
    rw [kU_ne (by omega), kU_ne (by omega), kU_self]
  have e4 : (kB M).1 (kN M + 4) = .inl (0, 16, kG0) := by
    show kU (kU (kU (kU (kU M.1 (kN M + 1) _) (kN M + 2) _) (kN M + 3) _) (kN M + 4) _) (kN M + 5) _ (kN M + 4) = _
    rw [kU_ne (by omega), kU_self]
  have e5 : (kB M).1 (kN M + 5) = .inl (0, 16, kG0) := kU_self _ _ _
  exact ⟨kN M + 2, kN M + 3, kN M + 4, kN M + 5, kR0, fun _ => 0, fun _ => kG0, kG0, kG0, kG0, ⟨e1, e2, fun d hd => absurd hd (by simp), e3, fun p hp => by rw [b_0]; rfl, by simp, fun x hx => by cases hx⟩, ⟨by omega, by omega, by omega, fun d hd => absurd hd (by simp)⟩, e4, e5, by omega, by omega, by omega, zb_kG0, zb_kG0⟩
theorem kt_first {M : kM} : KtI (kK M) (kN M + 1) [] 0 3 := by
  refine ⟨?_, by show kN M + 1 + 34 ≤ kN M + 35; omega, ?_⟩
  · show kP M.1 (kN M + 1) (kN M + 1) = _
    unfold kP
    rw [if_pos (by omega), Nat.sub_self]
  · show Cls (kU M.2.1 (kN M + 1) kH0 (kN M + 1)) [] 0 3
    rw [kU_self]
    exact first_35.2
theorem kK_lo {M : kM} {k : Nat} (hk : k ≤ kN M) : (kK M).1 k = M.1 k := by
  show kP M.1 (kN M + 1) k = _
  unfold kP
  rw [if_neg (by omega)]
section
variable {M : kM} {b s n kk : Nat} {xs : Nat → Int32} {L : List Dd} {w : Int32}
theorem mod_nI {a c : Nat} (ha : a < 2147483648) (hc : c < 2147483648) : nI a - nI a / nI c * nI c = nI (a % c) := by
  rw [nI_div ha hc, nI_mul, nI_sub (Nat.div_mul_le_self a c)]
  congr 1
  have := Nat.div_add_mod a c
  rw [Nat.mul_comm] at this
  omega
theorem b_step (h : LI M b s n xs L w kk) {i : Nat} (hi : i < 26) {l4 : Value} : ∃ v : Int32, kn 81 10 [.ref b, .ref 0, .ref s, .int (nI i), l4] [] M = kn 81 71 [.ref b, .ref 0, .ref s, .int (nI i), .int v] [] M := by
  obtain ⟨cv, ec⟩ := s_k78 (i := i % 16) h.1 h.2.1 (by omega)
  have r16 : nI i - nI i / 16 * 16 = nI (i % 16) := mod_nI (c := 16) (by omega) (by omega)
  have hle : ((26 : Int32) ≤ nI i) = False := eq_false (nI_ge (a := i) (b := 26) hi (by omega))
  have n16' : ¬ (16 : Int32) = 0 := by decide
  have n4' : ¬ (4 : Int32) = 0 := by decide
  have ul : ∀ v, kn 77 0 [.int v, .int 100000] [] M = some (some (.int (nI (blw v 100000))), M) := fun v => s_bl (n := 100000) (by omega) (by omega)
  have hd : ∃ v0 : Int32, kn 81 10 [.ref b, .ref 0, .ref s, .int (nI i), l4] [] M = kn 81 39 [.ref b, .ref 0, .ref s, .int (nI i), .int v0] [] M := by
    refine ⟨(cv >>> (nI i / 16 * 5 &&& 31)) + 263 * nI i, ?_⟩
    rw [k_81_10]
    simp only [k_81_11, k_81_13, k_81_16, k_81_17, k_81_18, k_81_20, k_81_21, k_81_24, k_81_25, k_81_27, k_81_28, k_81_29, k_81_30, k_81_31, k_81_34, k_81_35, k_81_36, k_81_37, sm_0, sm_c, ct_i, ct_r, ct_n, ct_l, ct_d, tl_s, tl_n, oK_s, cS_s, cI_0, cI_9, cA_s, cR_s, cQ_s, cN_i, cN_r, cO_s, rS_s, rK_s, cK_i, cK_j, cK_d, if_true, if_false, true_or, or_true, Nat.reduceAdd, Nat.reduceLeDiff, Nat.zero_le, Nat.reduceEqDiff, Nat.reduceSub, eq_self, Nat.le_refl, ne_eq, not_false_eq_true, not_true_eq_false, i1_0, i0_1, kSm_0, kSm_1, kSm_2, kSm_3, kSm_4, x5_0, x5_1, x5_2, x5_3, x5_4, hle, k_81_20 n16', r16, ec, k_81_27 n16']
  obtain ⟨v0, hd⟩ := hd
  rw [hd]
  by_cases h14 : i < 14
  · have h2 : ((14 : Int32) ≤ nI i) = False := eq_false (nI_ge (a := i) (b := 14) h14 (by omega))
    by_cases h3 : nI i - nI i / 4 * 4 = 3
    · refine ⟨12 * nI (blw v0 100000) + 6, ?_⟩
      have h3 := eq_true h3
      simp only [k_81_39, k_81_40, k_81_42, k_81_45, k_81_47, k_81_49, k_81_51, k_81_54, k_81_55, k_81_56, k_81_57, k_81_58, k_81_59, k_81_62, k_81_64, k_81_67, k_81_68, k_81_69, sm_0, sm_c, ct_i, ct_r, ct_n, ct_l, ct_d, tl_s, tl_n, oK_s, cS_s, cI_0, cI_9, cA_s, cR_s, cQ_s, cN_i, cN_r, cO_s, rS_s, rK_s, cK_i, cK_j, cK_d, if_true, if_false, true_or, or_true, Nat.reduceAdd, Nat.reduceLeDiff, Nat.zero_le, Nat.reduceEqDiff, Nat.reduceSub, eq_self, Nat.le_refl, ne_eq, not_false_eq_true, not_true_eq_false, i1_0, i0_1, kSm_0, kSm_1, kSm_2, kSm_3, kSm_4, x5_0, x5_1, x5_2, x5_3, x5_4, h2, ul, k_81_57 n4', h3]
    · refine ⟨12 * nI (blw v0 100000) + 2, ?_⟩
      have h3 := eq_false h3
      simp only [k_81_39, k_81_40, k_81_42, k_81_45, k_81_47, k_81_49, k_81_51, k_81_54, k_81_55, k_81_56, k_81_57, k_81_58, k_81_59, k_81_62, k_81_64, k_81_67, k_81_68, k_81_69, sm_0, sm_c, ct_i, ct_r, ct_n, ct_l, ct_d, tl_s, tl_n, oK_s, cS_s, cI_0, cI_9, cA_s, cR_s, cQ_s, cN_i, cN_r, cO_s, rS_s, rK_s, cK_i, cK_j, cK_d, if_true, if_false, true_or, or_true, Nat.reduceAdd, Nat.reduceLeDiff, Nat.zero_le, Nat.reduceEqDiff, Nat.reduceSub, eq_self, Nat.le_refl, ne_eq, not_false_eq_true, not_true_eq_false, i1_0, i0_1, kSm_0, kSm_1, kSm_2, kSm_3, kSm_4, x5_0, x5_1, x5_2, x5_3, x5_4, h2, ul, k_81_57 n4', h3]
  · have h2 : ((14 : Int32) ≤ nI i) = True := eq_true (show nI 14 ≤ nI i from nI_le (by omega) (by omega))
    refine ⟨v0, ?_⟩
    simp only [k_81_39, k_81_40, k_81_42, sm_0, sm_c, ct_i, ct_r, ct_n, ct_l, ct_d, tl_s, tl_n, oK_s, cS_s, cI_0, cI_9, cA_s, cR_s, cQ_s, cN_i, cN_r, cO_s, rS_s, rK_s, cK_i, cK_j, cK_d, if_true, if_false, true_or, or_true, Nat.reduceAdd, Nat.reduceLeDiff, Nat.zero_le, Nat.reduceEqDiff, Nat.reduceSub, eq_self, Nat.le_refl, ne_eq, not_false_eq_true, not_true_eq_false, i1_0, i0_1, kSm_0, kSm_1, kSm_2, kSm_3, kSm_4, x5_0, x5_1, x5_2, x5_3, x5_4, h2]
theorem l_k81 : ∀ (j i : Nat), i + j = 26 → ∀ (M : kM) (L : List Dd) (w : Int32) (kk : Nat) (l4 : Value), LI M b s n xs L w kk → ∃ (M2 : kM) (L2 : List Dd) (w2 : Int32) (k2 : Nat), kn 81 10 [.ref b, .ref 0, .ref s, .int (nI i), l4] [] M = some (some (.ref s), M2) ∧ LI M2 b s n xs L2 w2 k2 ∧ kLe M M2 (3 * j) (42 * j)
  | 0, i, hi, M, L, w, kk, l4, h => by
    obtain rfl : i = 26 := by omega
    refine ⟨M, L, w, kk, ?_, h, ⟨Nat.le_refl _, Nat.le_refl _⟩⟩
    have hle : ((26 : Int32) ≤ nI 26) = True := eq_true (Int32.le_refl _)
    rw [k_81_10]
    simp only [k_81_11, k_81_13, k_81_89, k_81_90, sm_0, sm_c, ct_i, ct_r, ct_n, ct_l, ct_d, tl_s, tl_n, oK_s, cS_s, cI_0, cI_9, cA_s, cR_s, cQ_s, cN_i, cN_r, cO_s, rS_s, rK_s, cK_i, cK_j, cK_d, if_true, if_false, true_or, or_true, Nat.reduceAdd, Nat.reduceLeDiff, Nat.zero_le, Nat.reduceEqDiff, Nat.reduceSub, eq_self, Nat.le_refl, ne_eq, not_false_eq_true, not_true_eq_false, i1_0, i0_1, kSm_0, kSm_1, kSm_2, kSm_3, kSm_4, x5_0, x5_1, x5_2, x5_3, x5_4, hle]
  | j + 1, i, hi, M, L, w, kk, l4, h => by
    obtain ⟨v, e1⟩ := b_step h (i := i) (by omega) (l4 := l4)
    obtain ⟨M1, L1, w1, k1, u79, h1, c1⟩ := s_k79 (v := v) h
    obtain ⟨M2, L2, w2, k2, e2, h2, c2⟩ := l_k81 j (i + 1) (by omega) M1 L1 w1 k1 (.int v) h1
    refine ⟨M2, L2, w2, k2, ?_, h2, (c1.tr c2).mo (by omega) (by omega)⟩
    have e3 : kn 81 71 [.ref b, .ref 0, .ref s, .int (nI i), .int v] [] M = kn 81 10 [.ref b, .ref 0, .ref s, .int (nI (i + 1)), .int v] [] M1 := by
      have n1 : ¬ (1 : Int32) = 0 := by decide
      simp only [k_81_71, k_81_72, k_81_73, k_81_75, k_81_78, sm_0, sm_c, ct_i, ct_r, ct_n, ct_l, ct_d, tl_s, tl_n, oK_s, cS_s, cI_0, cI_9, cA_s, cR_s, cQ_s, cN_i, cN_r, cO_s, rS_s, rK_s, cK_i, cK_j, cK_d, if_true, if_false, true_or, or_true, Nat.reduceAdd, Nat.reduceLeDiff, Nat.zero_le, Nat.reduceEqDiff, Nat.reduceSub, eq_self, Nat.le_refl, ne_eq, not_false_eq_true, not_true_eq_false, i1_0, i0_1, kSm_0, kSm_1, kSm_2, kSm_3, kSm_4, x5_0, x5_1, x5_2, x5_3, x5_4, u79, eq_false n1]
      rw [k_81_83 (ct_r _), k_81_86, nI_1]
    rw [e1, e3, e2]
/-- build -/
theorem s_k81 (hs : M.1 0 = .inl (9, n, xs)) (hn : n < 2147483648) (hK : KtI M b [] 0 3) : ∃ (M2 : kM) (s : Nat) (L2 : List Dd) (w2 : Int32) (k2 : Nat), kn 81 0 [.ref b, .ref 0, .null, .null, .null] [] M = some (some (.ref s), M2) ∧ LI M2 b s n xs L2 w2 k2 ∧ kLe M M2 83 1145 := by
  have h : LI (kB M) b (kN M + 1) n xs [] 0 3 := ⟨(kB_lo (Nat.zero_le _)).trans hs, hn, ⟨(kB_lo (by have := hK.2.1; omega)).trans hK.1, Nat.le_trans hK.2.1 (show kN M ≤ kN M + 5 by omega), hK.2.2⟩, SimI_new, s16_0, by omega, by omega⟩
  obtain ⟨M2, L2, w2, k2, e, h2, c⟩ := l_k81 26 0 rfl (kB M) [] 0 3 .null h
  refine ⟨M2, kN M + 1, L2, w2, k2, ?_, h2, ?_⟩
  · rw [nI_0] at e
    rw [k_81_0 (by decide), k_81_7 (ct_r _), k_81_8, k_81_9 (ct_r _), e]
  · have : kLe M (kB M) 5 53 := ⟨Nat.le_refl _, Nat.le_refl _⟩
    exact this.tr c
end
