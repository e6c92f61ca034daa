/-! Row.used, and what Study does with a deed -/
theorem p_in {x : Int32} (h1 : ¬ x < 0) (h2 : ¬ 16 ≤ x) : ∃ p : Nat, p < 16 ∧ x = nI p := by
  rcases pk_ix x (n := 16) (by omega) with h | h | ⟨j, h3, h4⟩
  · exact absurd h h1
  · exact absurd h h2
  · exact ⟨j, h3, h4⟩
def addC (f : Nat → Int32) (p : Nat) (oth : Int32) : Nat → Int32 := acl p (oth &&& (bI (nI p) ^^^ (-1))) 0 (upd f p (f p ||| (oth &&& (bI (nI p) ^^^ (-1)))))
theorem s_25 {b : Nat} (hb : b = 7 ∨ b = 24) {p : Nat} (hp : p < 16) {oth : Int32} {M : mmM} : rn none 25 0 [.ref b, .int (nI p), .int oth, .null, .null] [] M = some (.inl none, (uC M.1 (b + 3) (addC (M.1 (b + 3)) p oth), M.2)) := by
  have h0 := l_25 hb hp (oth := oth) (riv := oth &&& (bI (nI p) ^^^ (-1))) 16 0 (by omega)
  rw [nI_0] at h0
  rcases hb with rfl | rfl <;>
  simp only [r_25_0, r_25_1, r_25_4, r_25_7, r_25_8, r_25_9, r_25_10, r_25_13, r_25_14, r_25_15, r_25_16, r_25_17, r_25_18, r_25_21, r_25_22, r_25_23, r_25_24, r_25_25, r_25_26, r_25_27, r_25_28, r_25_32, r_25_34, r_25_37, r_25_38, r_25_40, r_25_43, r_25_46, r_25_47, r_25_50, r_25_52, r_25_53, r_25_54, r_25_55, r_25_58, r_25_59, r_25_60, r_25_63, r_25_66, sm_0, sm_c, ct_i, ct_r, ct_n, ct_l, ct_d, cB_l, cB_r, tl_s, tl_n, oB_some, fG_r, fG_i, fP_i, aL_ok, rV_some, aI, uC_self, mmI, if_true, if_false, true_or, or_true, Nat.reduceAdd, Nat.reduceLeDiff, Nat.zero_le, Nat.reduceEqDiff, Nat.reduceSub, eq_self, Nat.le_refl, uC_ne, ne_eq, not_false_eq_true, i1_0, i0_1, i16, mm_eta, fd_0_0, fd_0_1, fd_0_2, fd_0_3, fd_0_4, fd_0_5, fd_0_6, fd_0_7, fd_1_0, fd_1_1, fd_1_2, fd_1_3, fd_1_4, fd_1_5, arr_2, arr_3, arr_4, arr_5, arr_6, fd_7_0, fd_7_1, fd_7_2, fd_7_3, fd_7_4, fd_7_5, fd_7_6, arr_8, arr_9, arr_10, arr_11, arr_12, fd_13_0, fd_13_1, fd_13_2, fd_13_3, fd_13_4, arr_14, arr_15, arr_16, arr_17, fd_18_0, fd_18_1, fd_18_2, fd_18_3, fd_18_4, fd_18_5, arr_19, arr_20, arr_21, arr_22, arr_23, fd_24_0, fd_24_1, fd_24_2, fd_24_3, fd_24_4, fd_24_5, fd_24_6, arr_25, arr_26, arr_27, arr_28, arr_29, fd_30_0, fd_30_1, fd_30_2, fd_30_3, fd_30_4, arr_31, arr_32, arr_33, arr_34, s_56p hp, s_57, mmX_nI hp (by omega : 16 < 2147483648), h0, uC_uC, addC]
theorem s_15 {rb : Nat} (hb : rb = 1 ∨ rb = 18) {d : Nat} (hd : d < 30) {M : mmM} : rn none 15 0 [.ref rb, .int (nI d)] [] M = some (.inl (some (.int (bI (M.1 (rb + 2) d) ||| bI (M.1 (rb + 3) d)))), M) := by
  rcases hb with rfl | rfl <;>
  simp only [r_15_0, r_15_1, r_15_4, r_15_5, r_15_6, r_15_9, r_15_10, r_15_13, r_15_14, r_15_15, r_15_18, r_15_19, sm_0, sm_c, ct_i, ct_r, ct_n, ct_l, ct_d, cB_l, cB_r, tl_s, tl_n, oB_some, fG_r, fG_i, fP_i, aL_ok, rV_some, aI, uC_self, mmI, if_true, if_false, true_or, or_true, Nat.reduceAdd, Nat.reduceLeDiff, Nat.zero_le, Nat.reduceEqDiff, Nat.reduceSub, eq_self, Nat.le_refl, uC_ne, ne_eq, not_false_eq_true, i1_0, i0_1, i16, mm_eta, fd_0_0, fd_0_1, fd_0_2, fd_0_3, fd_0_4, fd_0_5, fd_0_6, fd_0_7, fd_1_0, fd_1_1, fd_1_2, fd_1_3, fd_1_4, fd_1_5, arr_2, arr_3, arr_4, arr_5, arr_6, fd_7_0, fd_7_1, fd_7_2, fd_7_3, fd_7_4, fd_7_5, fd_7_6, arr_8, arr_9, arr_10, arr_11, arr_12, fd_13_0, fd_13_1, fd_13_2, fd_13_3, fd_13_4, arr_14, arr_15, arr_16, arr_17, fd_18_0, fd_18_1, fd_18_2, fd_18_3, fd_18_4, fd_18_5, arr_19, arr_20, arr_21, arr_22, arr_23, fd_24_0, fd_24_1, fd_24_2, fd_24_3, fd_24_4, fd_24_5, fd_24_6, arr_25, arr_26, arr_27, arr_28, arr_29, fd_30_0, fd_30_1, fd_30_2, fd_30_3, fd_30_4, arr_31, arr_32, arr_33, arr_34, s_57, mmX_nI hd (by omega : 30 < 2147483648)]
def adC (g : Nat → Int32) (x w : Int32) : Nat → Int32 := if x < 0 then g else if 16 ≤ x then g else upd g x.toNatClampNeg (g x.toNatClampNeg + w)
theorem mmX_p {x : Int32} (h1 : ¬ x < 0) (h2 : ¬ 16 ≤ x) : mmX x 16 = some x.toNatClampNeg := by
  obtain ⟨p, hp, rfl⟩ := p_in h1 h2
  rw [mmX_nI hp (by omega), nI_clamp (by omega)]
theorem s_23 {b : Nat} (hb : b = 7 ∨ b = 24) {x w : Int32} {M : mmM} : rn none 23 0 [.ref b, .int x, .int w] [] M = some (.inl none, (uC M.1 (b + 5) (adC (M.1 (b + 5)) x w), M.2)) := by
  unfold adC
  by_cases h1 : x < 0
  · rcases hb with rfl | rfl <;> simp only [r_23_0, r_23_1, r_23_4, r_23_7, r_23_8, r_23_11, r_23_12, r_23_13, r_23_14, r_23_15, r_23_16, r_23_17, sm_0, sm_c, ct_i, ct_r, ct_n, ct_l, ct_d, cB_l, cB_r, tl_s, tl_n, oB_some, fG_r, fG_i, fP_i, aL_ok, rV_some, aI, uC_self, mmI, if_true, if_false, true_or, or_true, Nat.reduceAdd, Nat.reduceLeDiff, Nat.zero_le, Nat.reduceEqDiff, Nat.reduceSub, eq_self, Nat.le_refl, uC_ne, ne_eq, not_false_eq_true, i1_0, i0_1, i16, mm_eta, fd_0_0, fd_0_1, fd_0_2, fd_0_3, fd_0_4, fd_0_5, fd_0_6, fd_0_7, fd_1_0, fd_1_1, fd_1_2, fd_1_3, fd_1_4, fd_1_5, arr_2, arr_3, arr_4, arr_5, arr_6, fd_7_0, fd_7_1, fd_7_2, fd_7_3, fd_7_4, fd_7_5, fd_7_6, arr_8, arr_9, arr_10, arr_11, arr_12, fd_13_0, fd_13_1, fd_13_2, fd_13_3, fd_13_4, arr_14, arr_15, arr_16, arr_17, fd_18_0, fd_18_1, fd_18_2, fd_18_3, fd_18_4, fd_18_5, arr_19, arr_20, arr_21, arr_22, arr_23, fd_24_0, fd_24_1, fd_24_2, fd_24_3, fd_24_4, fd_24_5, fd_24_6, arr_25, arr_26, arr_27, arr_28, arr_29, fd_30_0, fd_30_1, fd_30_2, fd_30_3, fd_30_4, arr_31, arr_32, arr_33, arr_34, s_56, h1, uC_id]
  · by_cases h2 : 16 ≤ x
    · rcases hb with rfl | rfl <;> simp only [r_23_0, r_23_1, r_23_4, r_23_7, r_23_8, r_23_11, r_23_12, r_23_13, r_23_14, r_23_15, r_23_16, r_23_17, sm_0, sm_c, ct_i, ct_r, ct_n, ct_l, ct_d, cB_l, cB_r, tl_s, tl_n, oB_some, fG_r, fG_i, fP_i, aL_ok, rV_some, aI, uC_self, mmI, if_true, if_false, true_or, or_true, Nat.reduceAdd, Nat.reduceLeDiff, Nat.zero_le, Nat.reduceEqDiff, Nat.reduceSub, eq_self, Nat.le_refl, uC_ne, ne_eq, not_false_eq_true, i1_0, i0_1, i16, mm_eta, fd_0_0, fd_0_1, fd_0_2, fd_0_3, fd_0_4, fd_0_5, fd_0_6, fd_0_7, fd_1_0, fd_1_1, fd_1_2, fd_1_3, fd_1_4, fd_1_5, arr_2, arr_3, arr_4, arr_5, arr_6, fd_7_0, fd_7_1, fd_7_2, fd_7_3, fd_7_4, fd_7_5, fd_7_6, arr_8, arr_9, arr_10, arr_11, arr_12, fd_13_0, fd_13_1, fd_13_2, fd_13_3, fd_13_4, arr_14, arr_15, arr_16, arr_17, fd_18_0, fd_18_1, fd_18_2, fd_18_3, fd_18_4, fd_18_5, arr_19, arr_20, arr_21, arr_22, arr_23, fd_24_0, fd_24_1, fd_24_2, fd_24_3, fd_24_4, fd_24_5, fd_24_6, arr_25, arr_26, arr_27, arr_28, arr_29, fd_30_0, fd_30_1, fd_30_2, fd_30_3, fd_30_4, arr_31, arr_32, arr_33, arr_34, s_56, h1, h2, uC_id]
    · rcases hb with rfl | rfl <;> simp only [r_23_0, r_23_1, r_23_4, r_23_7, r_23_8, r_23_11, r_23_12, r_23_13, r_23_14, r_23_15, r_23_16, r_23_17, sm_0, sm_c, ct_i, ct_r, ct_n, ct_l, ct_d, cB_l, cB_r, tl_s, tl_n, oB_some, fG_r, fG_i, fP_i, aL_ok, rV_some, aI, uC_self, mmI, if_true, if_false, true_or, or_true, Nat.reduceAdd, Nat.reduceLeDiff, Nat.zero_le, Nat.reduceEqDiff, Nat.reduceSub, eq_self, Nat.le_refl, uC_ne, ne_eq, not_false_eq_true, i1_0, i0_1, i16, mm_eta, fd_0_0, fd_0_1, fd_0_2, fd_0_3, fd_0_4, fd_0_5, fd_0_6, fd_0_7, fd_1_0, fd_1_1, fd_1_2, fd_1_3, fd_1_4, fd_1_5, arr_2, arr_3, arr_4, arr_5, arr_6, fd_7_0, fd_7_1, fd_7_2, fd_7_3, fd_7_4, fd_7_5, fd_7_6, arr_8, arr_9, arr_10, arr_11, arr_12, fd_13_0, fd_13_1, fd_13_2, fd_13_3, fd_13_4, arr_14, arr_15, arr_16, arr_17, fd_18_0, fd_18_1, fd_18_2, fd_18_3, fd_18_4, fd_18_5, arr_19, arr_20, arr_21, arr_22, arr_23, fd_24_0, fd_24_1, fd_24_2, fd_24_3, fd_24_4, fd_24_5, fd_24_6, arr_25, arr_26, arr_27, arr_28, arr_29, fd_30_0, fd_30_1, fd_30_2, fd_30_3, fd_30_4, arr_31, arr_32, arr_33, arr_34, s_56, h1, h2, mmX_p h1 h2]
def potB (x : Int32) : Bool := decide (¬ x < 0) && decide (¬ 16 ≤ x)
def adP (g : Nat → Int32) (x y : Int32) : Nat → Int32 := if x < 0 then g else if 16 ≤ x then g else if y < 0 then g else if 16 ≤ y then g else
  upd (upd g x.toNatClampNeg (g x.toNatClampNeg ||| bI y)) y.toNatClampNeg (upd g x.toNatClampNeg (g x.toNatClampNeg ||| bI y) y.toNatClampNeg ||| bI x)
theorem s_24 {b : Nat} (hb : b = 7 ∨ b = 24) {x y : Int32} {M : mmM} : rn none 24 0 [.ref b, .int x, .int y] [] M = some (.inl none, (uC M.1 (b + 4) (adP (M.1 (b + 4)) x y), M.2)) := by
  unfold adP
  by_cases h1 : x < 0
  · rcases hb with rfl | rfl <;> simp only [r_24_0, r_24_1, r_24_4, r_24_7, r_24_8, r_24_11, r_24_14, r_24_15, r_24_18, r_24_19, r_24_20, r_24_21, r_24_22, r_24_25, r_24_26, r_24_27, r_24_28, r_24_31, r_24_32, r_24_33, r_24_34, r_24_35, r_24_38, r_24_39, r_24_40, sm_0, sm_c, ct_i, ct_r, ct_n, ct_l, ct_d, cB_l, cB_r, tl_s, tl_n, oB_some, fG_r, fG_i, fP_i, aL_ok, rV_some, aI, uC_self, mmI, if_true, if_false, true_or, or_true, Nat.reduceAdd, Nat.reduceLeDiff, Nat.zero_le, Nat.reduceEqDiff, Nat.reduceSub, eq_self, Nat.le_refl, uC_ne, ne_eq, not_false_eq_true, i1_0, i0_1, i16, mm_eta, fd_0_0, fd_0_1, fd_0_2, fd_0_3, fd_0_4, fd_0_5, fd_0_6, fd_0_7, fd_1_0, fd_1_1, fd_1_2, fd_1_3, fd_1_4, fd_1_5, arr_2, arr_3, arr_4, arr_5, arr_6, fd_7_0, fd_7_1, fd_7_2, fd_7_3, fd_7_4, fd_7_5, fd_7_6, arr_8, arr_9, arr_10, arr_11, arr_12, fd_13_0, fd_13_1, fd_13_2, fd_13_3, fd_13_4, arr_14, arr_15, arr_16, arr_17, fd_18_0, fd_18_1, fd_18_2, fd_18_3, fd_18_4, fd_18_5, arr_19, arr_20, arr_21, arr_22, arr_23, fd_24_0, fd_24_1, fd_24_2, fd_24_3, fd_24_4, fd_24_5, fd_24_6, arr_25, arr_26, arr_27, arr_28, arr_29, fd_30_0, fd_30_1, fd_30_2, fd_30_3, fd_30_4, arr_31, arr_32, arr_33, arr_34, s_56, h1, uC_id]
  · by_cases h2 : 16 ≤ x
    · rcases hb with rfl | rfl <;> simp only [r_24_0, r_24_1, r_24_4, r_24_7, r_24_8, r_24_11, r_24_14, r_24_15, r_24_18, r_24_19, r_24_20, r_24_21, r_24_22, r_24_25, r_24_26, r_24_27, r_24_28, r_24_31, r_24_32, r_24_33, r_24_34, r_24_35, r_24_38, r_24_39, r_24_40, sm_0, sm_c, ct_i, ct_r, ct_n, ct_l, ct_d, cB_l, cB_r, tl_s, tl_n, oB_some, fG_r, fG_i, fP_i, aL_ok, rV_some, aI, uC_self, mmI, if_true, if_false, true_or, or_true, Nat.reduceAdd, Nat.reduceLeDiff, Nat.zero_le, Nat.reduceEqDiff, Nat.reduceSub, eq_self, Nat.le_refl, uC_ne, ne_eq, not_false_eq_true, i1_0, i0_1, i16, mm_eta, fd_0_0, fd_0_1, fd_0_2, fd_0_3, fd_0_4, fd_0_5, fd_0_6, fd_0_7, fd_1_0, fd_1_1, fd_1_2, fd_1_3, fd_1_4, fd_1_5, arr_2, arr_3, arr_4, arr_5, arr_6, fd_7_0, fd_7_1, fd_7_2, fd_7_3, fd_7_4, fd_7_5, fd_7_6, arr_8, arr_9, arr_10, arr_11, arr_12, fd_13_0, fd_13_1, fd_13_2, fd_13_3, fd_13_4, arr_14, arr_15, arr_16, arr_17, fd_18_0, fd_18_1, fd_18_2, fd_18_3, fd_18_4, fd_18_5, arr_19, arr_20, arr_21, arr_22, arr_23, fd_24_0, fd_24_1, fd_24_2, fd_24_3, fd_24_4, fd_24_5, fd_24_6, arr_25, arr_26, arr_27, arr_28, arr_29, fd_30_0, fd_30_1, fd_30_2, fd_30_3, fd_30_4, arr_31, arr_32, arr_33, arr_34, s_56, h1, h2, uC_id]
    · by_cases h3 : y < 0
      · rcases hb with rfl | rfl <;> simp only [r_24_0, r_24_1, r_24_4, r_24_7, r_24_8, r_24_11, r_24_14, r_24_15, r_24_18, r_24_19, r_24_20, r_24_21, r_24_22, r_24_25, r_24_26, r_24_27, r_24_28, r_24_31, r_24_32, r_24_33, r_24_34, r_24_35, r_24_38, r_24_39, r_24_40, sm_0, sm_c, ct_i, ct_r, ct_n, ct_l, ct_d, cB_l, cB_r, tl_s, tl_n, oB_some, fG_r, fG_i, fP_i, aL_ok, rV_some, aI, uC_self, mmI, if_true, if_false, true_or, or_true, Nat.reduceAdd, Nat.reduceLeDiff, Nat.zero_le, Nat.reduceEqDiff, Nat.reduceSub, eq_self, Nat.le_refl, uC_ne, ne_eq, not_false_eq_true, i1_0, i0_1, i16, mm_eta, fd_0_0, fd_0_1, fd_0_2, fd_0_3, fd_0_4, fd_0_5, fd_0_6, fd_0_7, fd_1_0, fd_1_1, fd_1_2, fd_1_3, fd_1_4, fd_1_5, arr_2, arr_3, arr_4, arr_5, arr_6, fd_7_0, fd_7_1, fd_7_2, fd_7_3, fd_7_4, fd_7_5, fd_7_6, arr_8, arr_9, arr_10, arr_11, arr_12, fd_13_0, fd_13_1, fd_13_2, fd_13_3, fd_13_4, arr_14, arr_15, arr_16, arr_17, fd_18_0, fd_18_1, fd_18_2, fd_18_3, fd_18_4, fd_18_5, arr_19, arr_20, arr_21, arr_22, arr_23, fd_24_0, fd_24_1, fd_24_2, fd_24_3, fd_24_4, fd_24_5, fd_24_6, arr_25, arr_26, arr_27, arr_28, arr_29, fd_30_0, fd_30_1, fd_30_2, fd_30_3, fd_30_4, arr_31, arr_32, arr_33, arr_34, s_56, h1, h2, h3, uC_id]
      · by_cases h4 : 16 ≤ y
        · rcases hb with rfl | rfl <;> simp only [r_24_0, r_24_1, r_24_4, r_24_7, r_24_8, r_24_11, r_24_14, r_24_15, r_24_18, r_24_19, r_24_20, r_24_21, r_24_22, r_24_25, r_24_26, r_24_27, r_24_28, r_24_31, r_24_32, r_24_33, r_24_34, r_24_35, r_24_38, r_24_39, r_24_40, sm_0, sm_c, ct_i, ct_r, ct_n, ct_l, ct_d, cB_l, cB_r, tl_s, tl_n, oB_some, fG_r, fG_i, fP_i, aL_ok, rV_some, aI, uC_self, mmI, if_true, if_false, true_or, or_true, Nat.reduceAdd, Nat.reduceLeDiff, Nat.zero_le, Nat.reduceEqDiff, Nat.reduceSub, eq_self, Nat.le_refl, uC_ne, ne_eq, not_false_eq_true, i1_0, i0_1, i16, mm_eta, fd_0_0, fd_0_1, fd_0_2, fd_0_3, fd_0_4, fd_0_5, fd_0_6, fd_0_7, fd_1_0, fd_1_1, fd_1_2, fd_1_3, fd_1_4, fd_1_5, arr_2, arr_3, arr_4, arr_5, arr_6, fd_7_0, fd_7_1, fd_7_2, fd_7_3, fd_7_4, fd_7_5, fd_7_6, arr_8, arr_9, arr_10, arr_11, arr_12, fd_13_0, fd_13_1, fd_13_2, fd_13_3, fd_13_4, arr_14, arr_15, arr_16, arr_17, fd_18_0, fd_18_1, fd_18_2, fd_18_3, fd_18_4, fd_18_5, arr_19, arr_20, arr_21, arr_22, arr_23, fd_24_0, fd_24_1, fd_24_2, fd_24_3, fd_24_4, fd_24_5, fd_24_6, arr_25, arr_26, arr_27, arr_28, arr_29, fd_30_0, fd_30_1, fd_30_2, fd_30_3, fd_30_4, arr_31, arr_32, arr_33, arr_34, s_56, h1, h2, h3, h4, uC_id]
        · rcases hb with rfl | rfl <;> simp only [r_24_0, r_24_1, r_24_4, r_24_7, r_24_8, r_24_11, r_24_14, r_24_15, r_24_18, r_24_19, r_24_20, r_24_21, r_24_22, r_24_25, r_24_26, r_24_27, r_24_28, r_24_31, r_24_32, r_24_33, r_24_34, r_24_35, r_24_38, r_24_39, r_24_40, sm_0, sm_c, ct_i, ct_r, ct_n, ct_l, ct_d, cB_l, cB_r, tl_s, tl_n, oB_some, fG_r, fG_i, fP_i, aL_ok, rV_some, aI, uC_self, mmI, if_true, if_false, true_or, or_true, Nat.reduceAdd, Nat.reduceLeDiff, Nat.zero_le, Nat.reduceEqDiff, Nat.reduceSub, eq_self, Nat.le_refl, uC_ne, ne_eq, not_false_eq_true, i1_0, i0_1, i16, mm_eta, fd_0_0, fd_0_1, fd_0_2, fd_0_3, fd_0_4, fd_0_5, fd_0_6, fd_0_7, fd_1_0, fd_1_1, fd_1_2, fd_1_3, fd_1_4, fd_1_5, arr_2, arr_3, arr_4, arr_5, arr_6, fd_7_0, fd_7_1, fd_7_2, fd_7_3, fd_7_4, fd_7_5, fd_7_6, arr_8, arr_9, arr_10, arr_11, arr_12, fd_13_0, fd_13_1, fd_13_2, fd_13_3, fd_13_4, arr_14, arr_15, arr_16, arr_17, fd_18_0, fd_18_1, fd_18_2, fd_18_3, fd_18_4, fd_18_5, arr_19, arr_20, arr_21, arr_22, arr_23, fd_24_0, fd_24_1, fd_24_2, fd_24_3, fd_24_4, fd_24_5, fd_24_6, arr_25, arr_26, arr_27, arr_28, arr_29, fd_30_0, fd_30_1, fd_30_2, fd_30_3, fd_30_4, arr_31, arr_32, arr_33, arr_34, s_56, s_57, h1, h2, h3, h4, mmX_p h1 h2, mmX_p h3 h4, uC_uC]
/-- what a study gathers: there, clashes, poured, cost -/
abbrev stS : Type := Int32 × (Nat → Int32) × (Nat → Int32) × (Nat → Int32)
def put (b : Nat) (s : stS) (f : Nat → Nat → Int32) : Nat → Nat → Int32 := uC (uC (uC (uC f b (upd (f b) 6 s.1)) (b + 3) s.2.1) (b + 4) s.2.2.1) (b + 5) s.2.2.2
def gets (b : Nat) (f : Nat → Nat → Int32) : stS := (f b 6, f (b + 3), f (b + 4), f (b + 5))
theorem put_of {b : Nat} {s : stS} {f F : Nat → Nat → Int32} (h0 : F b = upd (f b) 6 s.1) (h3 : F (b + 3) = s.2.1) (h4 : F (b + 4) = s.2.2.1) (h5 : F (b + 5) = s.2.2.2) (h : ∀ a, a ≠ b → a ≠ b + 3 → a ≠ b + 4 → a ≠ b + 5 → F a = f a) : F = put b s f := by
  funext a
  by_cases e5 : a = b + 5
  · subst e5; simp [put, uC, h5]
  · by_cases e4 : a = b + 4
    · subst e4; simp [put, uC, h4]
    · by_cases e3 : a = b + 3
      · subst e3; simp [put, uC, h3]
      · by_cases e0 : a = b
        · subst e0; simp [put, uC, h0]
        · rw [h a e0 e3 e4 e5]; simp [put, uC, e0, e3, e4, e5]
theorem put_b {b : Nat} {s : stS} {f : Nat → Nat → Int32} : put b s f b = upd (f b) 6 s.1 := by simp [put, uC]
theorem put_3 {b : Nat} {s : stS} {f : Nat → Nat → Int32} : put b s f (b + 3) = s.2.1 := by simp [put, uC]
theorem put_4 {b : Nat} {s : stS} {f : Nat → Nat → Int32} : put b s f (b + 4) = s.2.2.1 := by simp [put, uC]
theorem put_5 {b : Nat} {s : stS} {f : Nat → Nat → Int32} : put b s f (b + 5) = s.2.2.2 := by simp [put, uC]
theorem put_ne {b a : Nat} {s : stS} {f : Nat → Nat → Int32} (h0 : a ≠ b) (h3 : a ≠ b + 3) (h4 : a ≠ b + 4) (h5 : a ≠ b + 5) : put b s f a = f a := by simp [put, uC, h0, h3, h4, h5]
theorem upd_upd (f : Nat → Int32) (k : Nat) (v w : Int32) : upd (upd f k v) k w = upd f k w := by
  funext a
  by_cases h : a = k <;> simp [upd, h]
theorem upd_id (f : Nat → Int32) (k : Nat) : upd f k (f k) = f := by
  funext a
  by_cases h : a = k
  · subst h; simp [upd]
  · simp [upd, h]
theorem put_put {b : Nat} {s s' : stS} {f : Nat → Nat → Int32} : put b s' (put b s f) = put b s' f := by
  refine put_of ?_ put_3 put_4 put_5 (fun a h0 h3 h4 h5 => ?_)
  · rw [put_b, put_b, upd_upd]
  · rw [put_ne h0 h3 h4 h5, put_ne h0 h3 h4 h5]
theorem gets_put {b : Nat} {s : stS} {f : Nat → Nat → Int32} : gets b (put b s f) = s := by
  unfold gets
  rw [put_b, put_3, put_4, put_5, upd_at]
theorem put_gets {b : Nat} {f : Nat → Nat → Int32} : put b (gets b f) f = f := by
  refine (put_of ?_ rfl rfl rfl (fun a _ _ _ _ => rfl)).symm
  exact (upd_id _ _).symm
/-- a deed: the pot filled, the two used, the weight, whether a pouring -/
abbrev Dd : Type := Int32 × Int32 × Int32 × Int32 × Int32
def usd (d : Dd) : Int32 := bI d.2.1 ||| bI d.2.2.1
def tkS (beh : Int32) (d : Dd) (s : stS) : stS :=
  (s.1 ||| (bI d.1 ||| usd d), addC s.2.1 d.1.toNatClampNeg (if d.2.2.2.2 = 0 then beh else beh &&& (bI d.2.1 ^^^ (-1))), (if d.2.2.2.2 = 0 then s.2.2.1 else adP s.2.2.1 d.1 d.2.1), adC (adC (adC s.2.2.2 d.1 d.2.2.2.1) d.2.1 d.2.2.2.1) d.2.2.1 d.2.2.2.1)
def dAt (rb : Nat) (f : Nat → Nat → Int32) (d : Nat) : Dd := (f (rb + 1) d, f (rb + 2) d, f (rb + 3) d, f (rb + 4) d, f (rb + 5) d)
set_option maxHeartbeats 4000000 in
theorem s_22 {b rb : Nat} (hb : (b = 7 ∧ rb = 1) ∨ (b = 24 ∧ rb = 18)) {d p : Nat} (hd : d < 30) (hp : p < 16) {M : mmM} (hf : M.1 (rb + 1) d = nI p) : rn none 22 0 [.ref b, .ref rb, .int (nI d), .null] [] M = some (.inl none, (put b (tkS (M.1 (b + 1) d) (dAt rb M.1 d) (gets b M.1)) M.1, M.2)) := by
  have h30 := mmX_nI hd (by omega : 30 < 2147483648)
  have h7 : (7 : Nat) = 7 ∨ (7 : Nat) = 24 := Or.inl rfl
  have h24 : (24 : Nat) = 7 ∨ (24 : Nat) = 24 := Or.inr rfl
  have h1 : (1 : Nat) = 1 ∨ (1 : Nat) = 18 := Or.inl rfl
  have h18 : (18 : Nat) = 1 ∨ (18 : Nat) = 18 := Or.inr rfl
  have hcl := nI_clamp (n := p) (by omega)
  by_cases hz : M.1 (rb + 5) d = 0
  · rcases hb with ⟨rfl, rfl⟩ | ⟨rfl, rfl⟩
    · have hz' : M.1 6 d = 0 := hz
      have hf' : M.1 2 d = nI p := hf
      simp only [r_22_0, r_22_1, r_22_4, r_22_5, r_22_6, r_22_7, r_22_8, r_22_9, r_22_12, r_22_13, r_22_16, r_22_17, r_22_18, r_22_21, r_22_22, r_22_23, r_22_26, r_22_27, r_22_28, r_22_29, r_22_32, r_22_33, r_22_34, r_22_37, r_22_38, r_22_39, r_22_42, r_22_43, r_22_44, r_22_45, r_22_48, r_22_49, r_22_50, r_22_53, r_22_54, r_22_55, r_22_58, r_22_59, r_22_60, r_22_61, r_22_64, r_22_65, r_22_66, r_22_69, r_22_70, r_22_73, r_22_74, r_22_75, r_22_78, r_22_79, r_22_80, r_22_81, r_22_84, r_22_85, r_22_86, r_22_89, r_22_90, r_22_91, r_22_92, r_22_95, r_22_96, r_22_97, r_22_98, r_22_101, r_22_102, r_22_103, r_22_106, r_22_107, r_22_108, r_22_109, r_22_112, r_22_115, r_22_116, r_22_117, r_22_118, r_22_121, r_22_122, r_22_123, r_22_126, sm_0, sm_c, ct_i, ct_r, ct_n, ct_l, ct_d, cB_l, cB_r, tl_s, tl_n, oB_some, fG_r, fG_i, fP_i, aL_ok, rV_some, aI, uC_self, mmI, if_true, if_false, true_or, or_true, Nat.reduceAdd, Nat.reduceLeDiff, Nat.zero_le, Nat.reduceEqDiff, Nat.reduceSub, eq_self, Nat.le_refl, uC_ne, ne_eq, not_false_eq_true, i1_0, i0_1, i16, mm_eta, fd_0_0, fd_0_1, fd_0_2, fd_0_3, fd_0_4, fd_0_5, fd_0_6, fd_0_7, fd_1_0, fd_1_1, fd_1_2, fd_1_3, fd_1_4, fd_1_5, arr_2, arr_3, arr_4, arr_5, arr_6, fd_7_0, fd_7_1, fd_7_2, fd_7_3, fd_7_4, fd_7_5, fd_7_6, arr_8, arr_9, arr_10, arr_11, arr_12, fd_13_0, fd_13_1, fd_13_2, fd_13_3, fd_13_4, arr_14, arr_15, arr_16, arr_17, fd_18_0, fd_18_1, fd_18_2, fd_18_3, fd_18_4, fd_18_5, arr_19, arr_20, arr_21, arr_22, arr_23, fd_24_0, fd_24_1, fd_24_2, fd_24_3, fd_24_4, fd_24_5, fd_24_6, arr_25, arr_26, arr_27, arr_28, arr_29, fd_30_0, fd_30_1, fd_30_2, fd_30_3, fd_30_4, arr_31, arr_32, arr_33, arr_34, s_57, h30, s_15 h1 hd, s_23 h7, s_25 h7 hp, hz', hf']
      refine congrArg some (congrArg (Prod.mk _) (congrArg (fun x => (x, M.2)) (put_of ?_ ?_ ?_ ?_ ?_)))
      · simp [uC, gets, tkS, dAt, usd, hf']
      · simp [uC, gets, tkS, dAt, usd, hz', hf', hcl]
      · simp [uC, gets, tkS, dAt, usd, hz', hf']
      · simp [uC, gets, tkS, dAt, usd, hf']
      · intro a e0 e3 e4 e5
        simp [uC, e0, e3, e4, e5]
    · have hz' : M.1 23 d = 0 := hz
      have hf' : M.1 19 d = nI p := hf
      simp only [r_22_0, r_22_1, r_22_4, r_22_5, r_22_6, r_22_7, r_22_8, r_22_9, r_22_12, r_22_13, r_22_16, r_22_17, r_22_18, r_22_21, r_22_22, r_22_23, r_22_26, r_22_27, r_22_28, r_22_29, r_22_32, r_22_33, r_22_34, r_22_37, r_22_38, r_22_39, r_22_42, r_22_43, r_22_44, r_22_45, r_22_48, r_22_49, r_22_50, r_22_53, r_22_54, r_22_55, r_22_58, r_22_59, r_22_60, r_22_61, r_22_64, r_22_65, r_22_66, r_22_69, r_22_70, r_22_73, r_22_74, r_22_75, r_22_78, r_22_79, r_22_80, r_22_81, r_22_84, r_22_85, r_22_86, r_22_89, r_22_90, r_22_91, r_22_92, r_22_95, r_22_96, r_22_97, r_22_98, r_22_101, r_22_102, r_22_103, r_22_106, r_22_107, r_22_108, r_22_109, r_22_112, r_22_115, r_22_116, r_22_117, r_22_118, r_22_121, r_22_122, r_22_123, r_22_126, sm_0, sm_c, ct_i, ct_r, ct_n, ct_l, ct_d, cB_l, cB_r, tl_s, tl_n, oB_some, fG_r, fG_i, fP_i, aL_ok, rV_some, aI, uC_self, mmI, if_true, if_false, true_or, or_true, Nat.reduceAdd, Nat.reduceLeDiff, Nat.zero_le, Nat.reduceEqDiff, Nat.reduceSub, eq_self, Nat.le_refl, uC_ne, ne_eq, not_false_eq_true, i1_0, i0_1, i16, mm_eta, fd_0_0, fd_0_1, fd_0_2, fd_0_3, fd_0_4, fd_0_5, fd_0_6, fd_0_7, fd_1_0, fd_1_1, fd_1_2, fd_1_3, fd_1_4, fd_1_5, arr_2, arr_3, arr_4, arr_5, arr_6, fd_7_0, fd_7_1, fd_7_2, fd_7_3, fd_7_4, fd_7_5, fd_7_6, arr_8, arr_9, arr_10, arr_11, arr_12, fd_13_0, fd_13_1, fd_13_2, fd_13_3, fd_13_4, arr_14, arr_15, arr_16, arr_17, fd_18_0, fd_18_1, fd_18_2, fd_18_3, fd_18_4, fd_18_5, arr_19, arr_20, arr_21, arr_22, arr_23, fd_24_0, fd_24_1, fd_24_2, fd_24_3, fd_24_4, fd_24_5, fd_24_6, arr_25, arr_26, arr_27, arr_28, arr_29, fd_30_0, fd_30_1, fd_30_2, fd_30_3, fd_30_4, arr_31, arr_32, arr_33, arr_34, s_57, h30, s_15 h18 hd, s_23 h24, s_25 h24 hp, hz', hf']
      refine congrArg some (congrArg (Prod.mk _) (congrArg (fun x => (x, M.2)) (put_of ?_ ?_ ?_ ?_ ?_)))
      · simp [uC, gets, tkS, dAt, usd, hf']
      · simp [uC, gets, tkS, dAt, usd, hz', hf', hcl]
      · simp [uC, gets, tkS, dAt, usd, hz', hf']
      · simp [uC, gets, tkS, dAt, usd, hf']
      · intro a e0 e3 e4 e5
        simp [uC, e0, e3, e4, e5]
  · rcases hb with ⟨rfl, rfl⟩ | ⟨rfl, rfl⟩
    · have hz' : ¬ M.1 6 d = 0 := hz
      have hf' : M.1 2 d = nI p := hf
      simp only [r_22_0, r_22_1, r_22_4, r_22_5, r_22_6, r_22_7, r_22_8, r_22_9, r_22_12, r_22_13, r_22_16, r_22_17, r_22_18, r_22_21, r_22_22, r_22_23, r_22_26, r_22_27, r_22_28, r_22_29, r_22_32, r_22_33, r_22_34, r_22_37, r_22_38, r_22_39, r_22_42, r_22_43, r_22_44, r_22_45, r_22_48, r_22_49, r_22_50, r_22_53, r_22_54, r_22_55, r_22_58, r_22_59, r_22_60, r_22_61, r_22_64, r_22_65, r_22_66, r_22_69, r_22_70, r_22_73, r_22_74, r_22_75, r_22_78, r_22_79, r_22_80, r_22_81, r_22_84, r_22_85, r_22_86, r_22_89, r_22_90, r_22_91, r_22_92, r_22_95, r_22_96, r_22_97, r_22_98, r_22_101, r_22_102, r_22_103, r_22_106, r_22_107, r_22_108, r_22_109, r_22_112, r_22_115, r_22_116, r_22_117, r_22_118, r_22_121, r_22_122, r_22_123, r_22_126, sm_0, sm_c, ct_i, ct_r, ct_n, ct_l, ct_d, cB_l, cB_r, tl_s, tl_n, oB_some, fG_r, fG_i, fP_i, aL_ok, rV_some, aI, uC_self, mmI, if_true, if_false, true_or, or_true, Nat.reduceAdd, Nat.reduceLeDiff, Nat.zero_le, Nat.reduceEqDiff, Nat.reduceSub, eq_self, Nat.le_refl, uC_ne, ne_eq, not_false_eq_true, i1_0, i0_1, i16, mm_eta, fd_0_0, fd_0_1, fd_0_2, fd_0_3, fd_0_4, fd_0_5, fd_0_6, fd_0_7, fd_1_0, fd_1_1, fd_1_2, fd_1_3, fd_1_4, fd_1_5, arr_2, arr_3, arr_4, arr_5, arr_6, fd_7_0, fd_7_1, fd_7_2, fd_7_3, fd_7_4, fd_7_5, fd_7_6, arr_8, arr_9, arr_10, arr_11, arr_12, fd_13_0, fd_13_1, fd_13_2, fd_13_3, fd_13_4, arr_14, arr_15, arr_16, arr_17, fd_18_0, fd_18_1, fd_18_2, fd_18_3, fd_18_4, fd_18_5, arr_19, arr_20, arr_21, arr_22, arr_23, fd_24_0, fd_24_1, fd_24_2, fd_24_3, fd_24_4, fd_24_5, fd_24_6, arr_25, arr_26, arr_27, arr_28, arr_29, fd_30_0, fd_30_1, fd_30_2, fd_30_3, fd_30_4, arr_31, arr_32, arr_33, arr_34, s_57, h30, s_15 h1 hd, s_23 h7, s_24 h7, s_25 h7 hp, hz', hf']
      refine congrArg some (congrArg (Prod.mk _) (congrArg (fun x => (x, M.2)) (put_of ?_ ?_ ?_ ?_ ?_)))
      · simp [uC, gets, tkS, dAt, usd, hf']
      · simp [uC, gets, tkS, dAt, usd, hz', hf', hcl]
      · simp [uC, gets, tkS, dAt, usd, hz', hf']
      · simp [uC, gets, tkS, dAt, usd, hf']
      · intro a e0 e3 e4 e5
        simp [uC, e0, e3, e4, e5]
    · have hz' : ¬ M.1 23 d = 0 := hz
      have hf' : M.1 19 d = nI p := hf
      simp only [r_22_0, r_22_1, r_22_4, r_22_5, r_22_6, r_22_7, r_22_8, r_22_9, r_22_12, r_22_13, r_22_16, r_22_17, r_22_18, r_22_21, r_22_22, r_22_23, r_22_26, r_22_27, r_22_28, r_22_29, r_22_32, r_22_33, r_22_34, r_22_37, r_22_38, r_22_39, r_22_42, r_22_43, r_22_44, r_22_45, r_22_48, r_22_49, r_22_50, r_22_53, r_22_54, r_22_55, r_22_58, r_22_59, r_22_60, r_22_61, r_22_64, r_22_65, r_22_66, r_22_69, r_22_70, r_22_73, r_22_74, r_22_75, r_22_78, r_22_79, r_22_80, r_22_81, r_22_84, r_22_85, r_22_86, r_22_89, r_22_90, r_22_91, r_22_92, r_22_95, r_22_96, r_22_97, r_22_98, r_22_101, r_22_102, r_22_103, r_22_106, r_22_107, r_22_108, r_22_109, r_22_112, r_22_115, r_22_116, r_22_117, r_22_118, r_22_121, r_22_122, r_22_123, r_22_126, sm_0, sm_c, ct_i, ct_r, ct_n, ct_l, ct_d, cB_l, cB_r, tl_s, tl_n, oB_some, fG_r, fG_i, fP_i, aL_ok, rV_some, aI, uC_self, mmI, if_true, if_false, true_or, or_true, Nat.reduceAdd, Nat.reduceLeDiff, Nat.zero_le, Nat.reduceEqDiff, Nat.reduceSub, eq_self, Nat.le_refl, uC_ne, ne_eq, not_false_eq_true, i1_0, i0_1, i16, mm_eta, fd_0_0, fd_0_1, fd_0_2, fd_0_3, fd_0_4, fd_0_5, fd_0_6, fd_0_7, fd_1_0, fd_1_1, fd_1_2, fd_1_3, fd_1_4, fd_1_5, arr_2, arr_3, arr_4, arr_5, arr_6, fd_7_0, fd_7_1, fd_7_2, fd_7_3, fd_7_4, fd_7_5, fd_7_6, arr_8, arr_9, arr_10, arr_11, arr_12, fd_13_0, fd_13_1, fd_13_2, fd_13_3, fd_13_4, arr_14, arr_15, arr_16, arr_17, fd_18_0, fd_18_1, fd_18_2, fd_18_3, fd_18_4, fd_18_5, arr_19, arr_20, arr_21, arr_22, arr_23, fd_24_0, fd_24_1, fd_24_2, fd_24_3, fd_24_4, fd_24_5, fd_24_6, arr_25, arr_26, arr_27, arr_28, arr_29, fd_30_0, fd_30_1, fd_30_2, fd_30_3, fd_30_4, arr_31, arr_32, arr_33, arr_34, s_57, h30, s_15 h18 hd, s_23 h24, s_24 h24, s_25 h24 hp, hz', hf']
      refine congrArg some (congrArg (Prod.mk _) (congrArg (fun x => (x, M.2)) (put_of ?_ ?_ ?_ ?_ ?_)))
      · simp [uC, gets, tkS, dAt, usd, hf']
      · simp [uC, gets, tkS, dAt, usd, hz', hf', hcl]
      · simp [uC, gets, tkS, dAt, usd, hz', hf']
      · simp [uC, gets, tkS, dAt, usd, hf']
      · intro a e0 e3 e4 e5
        simp [uC, e0, e3, e4, e5]
