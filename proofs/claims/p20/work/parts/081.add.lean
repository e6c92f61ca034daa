theorem upd_at (f : Nat → Int32) (k : Nat) (v : Int32) : upd f k v k = v := by simp [upd]
theorem upd_ne {f : Nat → Int32} {k j : Nat} {v : Int32} (h : j ≠ k) : upd f k v j = f j := by simp [upd, h]
theorem dk {a b : Nat} (h : a = b) : (decide (a = b)) = true := by simp [h]
/-- what stands from place j on: with each pot of riv the pot p clashes -/
def acl (p : Nat) (riv : Int32) (j : Nat) (f : Nat → Int32) : Nat → Int32 := fun q => if j ≤ q ∧ q < 16 ∧ bt riv q = true then f q ||| bI (nI p) else f q
theorem acl_end (p : Nat) (riv : Int32) (f : Nat → Int32) : acl p riv 16 f = f := by
  funext q
  simp only [acl]
  rw [if_neg (by omega)]
theorem acl_t {p : Nat} {riv : Int32} {j : Nat} {f : Nat → Int32} (h : bt riv j = true) (hj : j < 16) : acl p riv (j + 1) (upd f j (f j ||| bI (nI p))) = acl p riv j f := by
  funext q
  by_cases hq : q = j
  · subst hq
    simp [acl, upd, h, hj, show ¬ (q + 1 ≤ q) by omega]
  · have e : (j + 1 ≤ q) = (j ≤ q) := propext ⟨by omega, by omega⟩
    simp only [acl, upd, hq, if_false, e]
theorem acl_f {p : Nat} {riv : Int32} {j : Nat} {f : Nat → Int32} (h : bt riv j = false) : acl p riv (j + 1) f = acl p riv j f := by
  funext q
  by_cases hq : q = j
  · subst hq
    simp [acl, h]
  · have e : (j + 1 ≤ q) = (j ≤ q) := propext ⟨by omega, by omega⟩
    simp only [acl, e]
theorem i1_0 : ((1 : Int32) = 0) = False := by decide
theorem i16 : ((16 : Int32) ≤ 16) = True := by decide
theorem i0_1 : ((0 : Int32) = 1) = False := by decide
theorem mm_eta (M : mmM) : (M.1, M.2) = M := rfl
theorem l_25 {b : Nat} (hb : b = 7 ∨ b = 24) {p : Nat} (hp : p < 16) {oth riv : Int32} : ∀ (n j : Nat), j + n = 16 → ∀ M : mmM, rn none 25 30 [.ref b, .int (nI p), .int oth, .int riv, .int (nI j)] [] M = some (.inl none, (uC M.1 (b + 3) (acl p riv j (M.1 (b + 3))), M.2))
  | 0, j, hj, M => by
    obtain rfl : j = 16 := by omega
    rw [r_25_30, r_25_32, r_25_34]
    simp only [nI_16, show ((16 : Int32) ≤ 16) = True from eq_true (by decide), if_true, r_25_66, acl_end, uC_id]
  | n + 1, j, hj, M => by
    have hj16 : j < 16 := by omega
    have ih := l_25 hb hp (oth := oth) (riv := riv) n (j + 1) (by omega)
    rcases hb with rfl | rfl
    · rw [r_25_30]
      simp only [r_25_0, r_25_1, r_25_4, r_25_7, r_25_8, r_25_9, r_25_10, r_25_13, r_25_14, r_25_15, r_25_16, r_25_17, r_25_18, r_25_21, r_25_22, r_25_23, r_25_24, r_25_25, r_25_26, r_25_27, r_25_28, r_25_32, r_25_34, r_25_37, r_25_38, r_25_40, r_25_43, r_25_46, r_25_47, r_25_50, r_25_52, r_25_53, r_25_54, r_25_55, r_25_58, r_25_59, r_25_60, r_25_63, r_25_66, sm_0, sm_c, ct_i, ct_r, ct_n, ct_l, ct_d, cB_l, cB_r, tl_s, tl_n, oB_some, fG_r, fG_i, fP_i, aL_ok, rV_some, aI, uC_self, mmI, if_true, if_false, true_or, or_true, Nat.reduceAdd, Nat.reduceLeDiff, Nat.zero_le, Nat.reduceEqDiff, Nat.reduceSub, eq_self, Nat.le_refl, uC_ne, ne_eq, not_false_eq_true, i1_0, i0_1, i16, mm_eta, fd_0_0, fd_0_1, fd_0_2, fd_0_3, fd_0_4, fd_0_5, fd_0_6, fd_0_7, fd_1_0, fd_1_1, fd_1_2, fd_1_3, fd_1_4, fd_1_5, arr_2, arr_3, arr_4, arr_5, arr_6, fd_7_0, fd_7_1, fd_7_2, fd_7_3, fd_7_4, fd_7_5, fd_7_6, arr_8, arr_9, arr_10, arr_11, arr_12, fd_13_0, fd_13_1, fd_13_2, fd_13_3, fd_13_4, arr_14, arr_15, arr_16, arr_17, fd_18_0, fd_18_1, fd_18_2, fd_18_3, fd_18_4, fd_18_5, arr_19, arr_20, arr_21, arr_22, arr_23, fd_24_0, fd_24_1, fd_24_2, fd_24_3, fd_24_4, fd_24_5, fd_24_6, arr_25, arr_26, arr_27, arr_28, arr_29, fd_30_0, fd_30_1, fd_30_2, fd_30_3, fd_30_4, arr_31, arr_32, arr_33, arr_34, p_hi hj16, s_58 hj16, s_57, nI_1, mmX_nI hj16 (by omega : 16 < 2147483648), ih]
      cases hbt : bt riv j with
      | true => simp [b01, acl_t hbt hj16, uC_uC, uC_self]
      | false => simp [b01, acl_f hbt]
    · rw [r_25_30]
      simp only [r_25_0, r_25_1, r_25_4, r_25_7, r_25_8, r_25_9, r_25_10, r_25_13, r_25_14, r_25_15, r_25_16, r_25_17, r_25_18, r_25_21, r_25_22, r_25_23, r_25_24, r_25_25, r_25_26, r_25_27, r_25_28, r_25_32, r_25_34, r_25_37, r_25_38, r_25_40, r_25_43, r_25_46, r_25_47, r_25_50, r_25_52, r_25_53, r_25_54, r_25_55, r_25_58, r_25_59, r_25_60, r_25_63, r_25_66, sm_0, sm_c, ct_i, ct_r, ct_n, ct_l, ct_d, cB_l, cB_r, tl_s, tl_n, oB_some, fG_r, fG_i, fP_i, aL_ok, rV_some, aI, uC_self, mmI, if_true, if_false, true_or, or_true, Nat.reduceAdd, Nat.reduceLeDiff, Nat.zero_le, Nat.reduceEqDiff, Nat.reduceSub, eq_self, Nat.le_refl, uC_ne, ne_eq, not_false_eq_true, i1_0, i0_1, i16, mm_eta, fd_0_0, fd_0_1, fd_0_2, fd_0_3, fd_0_4, fd_0_5, fd_0_6, fd_0_7, fd_1_0, fd_1_1, fd_1_2, fd_1_3, fd_1_4, fd_1_5, arr_2, arr_3, arr_4, arr_5, arr_6, fd_7_0, fd_7_1, fd_7_2, fd_7_3, fd_7_4, fd_7_5, fd_7_6, arr_8, arr_9, arr_10, arr_11, arr_12, fd_13_0, fd_13_1, fd_13_2, fd_13_3, fd_13_4, arr_14, arr_15, arr_16, arr_17, fd_18_0, fd_18_1, fd_18_2, fd_18_3, fd_18_4, fd_18_5, arr_19, arr_20, arr_21, arr_22, arr_23, fd_24_0, fd_24_1, fd_24_2, fd_24_3, fd_24_4, fd_24_5, fd_24_6, arr_25, arr_26, arr_27, arr_28, arr_29, fd_30_0, fd_30_1, fd_30_2, fd_30_3, fd_30_4, arr_31, arr_32, arr_33, arr_34, p_hi hj16, s_58 hj16, s_57, nI_1, mmX_nI hj16 (by omega : 16 < 2147483648), ih]
      cases hbt : bt riv j with
      | true => simp [b01, acl_t hbt hj16, uC_uC, uC_self]
      | false => simp [b01, acl_f hbt]
