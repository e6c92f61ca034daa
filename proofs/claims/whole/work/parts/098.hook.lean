/-! the reference: isFree, isPoured, hookFor -/
def frR (rv : Int32) (hk : Nat → Int32) (x : Int32) : Nat → Bool
  | 0 => true
  | n + 1 => if bt rv (15 - n) = true ∧ hk (15 - n) = x then false else frR rv hk x n
theorem frR_iff {rv : Int32} {hk : Nat → Int32} {x : Int32} : ∀ (n : Nat), n ≤ 16 → (frR rv hk x n = true ↔ ∀ j, 16 - n ≤ j → j < 16 → ¬ (bt rv j = true ∧ hk j = x))
  | 0, _ => ⟨fun _ j h1 h2 => absurd h2 (by omega), fun _ => rfl⟩
  | n + 1, hn => by
    rw [frR]
    split
    · rename_i hc
      exact ⟨fun h => absurd h (by decide), fun h => absurd hc (h (15 - n) (by omega) (by omega))⟩
    · rename_i hc
      rw [frR_iff n (by omega)]
      refine ⟨fun h j h1 h2 => ?_, fun h j h1 h2 => h j (by omega) h2⟩
      by_cases hj : j = 15 - n
      · rw [hj]; exact hc
      · exact h j (by omega) h2
theorem l_73 {p : Nat} (hp : p < 16) {x : Int32} : ∀ (n j : Nat), j + n = 16 → ∀ (M : mmM), rn none 73 2 [.ref 35, .int (nI p), .int x, .int (nI j)] [] M = some (.inl (some (.int (b01 (frR (M.1 42 p) (M.1 46) x n)))), M)
  | 0, j, hj, M => by
    obtain rfl : j = 16 := by omega
    rw [r_73_2]
    simp only [r_73_0, r_73_1, r_73_3, r_73_5, r_73_8, r_73_9, r_73_12, r_73_13, r_73_14, r_73_15, r_73_18, r_73_21, r_73_22, r_73_25, r_73_26, r_73_27, r_73_28, r_73_31, r_73_32, r_73_33, r_73_36, r_73_39, r_73_40, sm_0, sm_c, ct_i, ct_r, ct_n, ct_l, ct_d, cB_l, cB_r, tl_s, tl_n, oB_some, fG_r, fG_i, fP_i, aL_ok, rV_some, aI, uC_self, mmI, if_true, if_false, true_or, or_true, Nat.reduceAdd, Nat.reduceLeDiff, Nat.zero_le, Nat.reduceEqDiff, Nat.reduceSub, eq_self, Nat.le_refl, uC_ne, ne_eq, not_false_eq_true, i1_0, i0_1, i16, mm_eta, fd_0_0, fd_0_1, fd_0_2, fd_0_3, fd_0_4, fd_0_5, fd_0_6, fd_0_7, fd_1_0, fd_1_1, fd_1_2, fd_1_3, fd_1_4, fd_1_5, arr_2, arr_3, arr_4, arr_5, arr_6, fd_7_0, fd_7_1, fd_7_2, fd_7_3, fd_7_4, fd_7_5, fd_7_6, arr_8, arr_9, arr_10, arr_11, arr_12, fd_13_0, fd_13_1, fd_13_2, fd_13_3, fd_13_4, arr_14, arr_15, arr_16, arr_17, fd_18_0, fd_18_1, fd_18_2, fd_18_3, fd_18_4, fd_18_5, arr_19, arr_20, arr_21, arr_22, arr_23, fd_24_0, fd_24_1, fd_24_2, fd_24_3, fd_24_4, fd_24_5, fd_24_6, arr_25, arr_26, arr_27, arr_28, arr_29, fd_30_0, fd_30_1, fd_30_2, fd_30_3, fd_30_4, arr_31, arr_32, arr_33, arr_34, fd_35_0, fd_35_1, fd_35_2, fd_35_3, fd_35_4, fd_35_5, fd_35_6, fd_35_7, fd_35_8, fd_35_9, fd_35_10, fd_35_11, fd_35_12, fd_35_13, fd_35_14, fd_35_15, fd_35_16, fd_35_17, arr_36, arr_37, arr_38, arr_39, arr_40, arr_41, arr_42, arr_43, arr_44, arr_45, arr_46, arr_47, nI_16, frR, b01]
  | n + 1, j, hj, M => by
    have hj16 : j < 16 := by omega
    have ej : 15 - n = j := by omega
    have ih := l_73 hp (x := x) n (j + 1) (by omega) M
    have hx := mmX_nI hj16 (by omega : 16 < 2147483648)
    have hxp := mmX_nI hp (by omega : 16 < 2147483648)
    rw [r_73_2, frR, ej]
    cases hb : bt (M.1 42 p) j with
    | false =>
      simp only [r_73_0, r_73_1, r_73_3, r_73_5, r_73_8, r_73_9, r_73_12, r_73_13, r_73_14, r_73_15, r_73_18, r_73_21, r_73_22, r_73_25, r_73_26, r_73_27, r_73_28, r_73_31, r_73_32, r_73_33, r_73_36, r_73_39, r_73_40, sm_0, sm_c, ct_i, ct_r, ct_n, ct_l, ct_d, cB_l, cB_r, tl_s, tl_n, oB_some, fG_r, fG_i, fP_i, aL_ok, rV_some, aI, uC_self, mmI, if_true, if_false, true_or, or_true, Nat.reduceAdd, Nat.reduceLeDiff, Nat.zero_le, Nat.reduceEqDiff, Nat.reduceSub, eq_self, Nat.le_refl, uC_ne, ne_eq, not_false_eq_true, i1_0, i0_1, i16, mm_eta, fd_0_0, fd_0_1, fd_0_2, fd_0_3, fd_0_4, fd_0_5, fd_0_6, fd_0_7, fd_1_0, fd_1_1, fd_1_2, fd_1_3, fd_1_4, fd_1_5, arr_2, arr_3, arr_4, arr_5, arr_6, fd_7_0, fd_7_1, fd_7_2, fd_7_3, fd_7_4, fd_7_5, fd_7_6, arr_8, arr_9, arr_10, arr_11, arr_12, fd_13_0, fd_13_1, fd_13_2, fd_13_3, fd_13_4, arr_14, arr_15, arr_16, arr_17, fd_18_0, fd_18_1, fd_18_2, fd_18_3, fd_18_4, fd_18_5, arr_19, arr_20, arr_21, arr_22, arr_23, fd_24_0, fd_24_1, fd_24_2, fd_24_3, fd_24_4, fd_24_5, fd_24_6, arr_25, arr_26, arr_27, arr_28, arr_29, fd_30_0, fd_30_1, fd_30_2, fd_30_3, fd_30_4, arr_31, arr_32, arr_33, arr_34, fd_35_0, fd_35_1, fd_35_2, fd_35_3, fd_35_4, fd_35_5, fd_35_6, fd_35_7, fd_35_8, fd_35_9, fd_35_10, fd_35_11, fd_35_12, fd_35_13, fd_35_14, fd_35_15, fd_35_16, fd_35_17, arr_36, arr_37, arr_38, arr_39, arr_40, arr_41, arr_42, arr_43, arr_44, arr_45, arr_46, arr_47, p_hi hj16, hxp, s_65 hj16, hb, b01_f, nI_1, ih, Bool.false_eq_true, false_and]
    | true =>
      by_cases hc : M.1 46 j = x
      · have hc' : (M.1 46 j = x) = True := eq_true hc
        simp only [r_73_0, r_73_1, r_73_3, r_73_5, r_73_8, r_73_9, r_73_12, r_73_13, r_73_14, r_73_15, r_73_18, r_73_21, r_73_22, r_73_25, r_73_26, r_73_27, r_73_28, r_73_31, r_73_32, r_73_33, r_73_36, r_73_39, r_73_40, sm_0, sm_c, ct_i, ct_r, ct_n, ct_l, ct_d, cB_l, cB_r, tl_s, tl_n, oB_some, fG_r, fG_i, fP_i, aL_ok, rV_some, aI, uC_self, mmI, if_true, if_false, true_or, or_true, Nat.reduceAdd, Nat.reduceLeDiff, Nat.zero_le, Nat.reduceEqDiff, Nat.reduceSub, eq_self, Nat.le_refl, uC_ne, ne_eq, not_false_eq_true, i1_0, i0_1, i16, mm_eta, fd_0_0, fd_0_1, fd_0_2, fd_0_3, fd_0_4, fd_0_5, fd_0_6, fd_0_7, fd_1_0, fd_1_1, fd_1_2, fd_1_3, fd_1_4, fd_1_5, arr_2, arr_3, arr_4, arr_5, arr_6, fd_7_0, fd_7_1, fd_7_2, fd_7_3, fd_7_4, fd_7_5, fd_7_6, arr_8, arr_9, arr_10, arr_11, arr_12, fd_13_0, fd_13_1, fd_13_2, fd_13_3, fd_13_4, arr_14, arr_15, arr_16, arr_17, fd_18_0, fd_18_1, fd_18_2, fd_18_3, fd_18_4, fd_18_5, arr_19, arr_20, arr_21, arr_22, arr_23, fd_24_0, fd_24_1, fd_24_2, fd_24_3, fd_24_4, fd_24_5, fd_24_6, arr_25, arr_26, arr_27, arr_28, arr_29, fd_30_0, fd_30_1, fd_30_2, fd_30_3, fd_30_4, arr_31, arr_32, arr_33, arr_34, fd_35_0, fd_35_1, fd_35_2, fd_35_3, fd_35_4, fd_35_5, fd_35_6, fd_35_7, fd_35_8, fd_35_9, fd_35_10, fd_35_11, fd_35_12, fd_35_13, fd_35_14, fd_35_15, fd_35_16, fd_35_17, arr_36, arr_37, arr_38, arr_39, arr_40, arr_41, arr_42, arr_43, arr_44, arr_45, arr_46, arr_47, p_hi hj16, hxp, hx, s_65 hj16, hb, b01_t, hc', not_true_eq_false, and_self]
        simp [b01]
      · have hc' : (M.1 46 j = x) = False := eq_false hc
        simp only [r_73_0, r_73_1, r_73_3, r_73_5, r_73_8, r_73_9, r_73_12, r_73_13, r_73_14, r_73_15, r_73_18, r_73_21, r_73_22, r_73_25, r_73_26, r_73_27, r_73_28, r_73_31, r_73_32, r_73_33, r_73_36, r_73_39, r_73_40, sm_0, sm_c, ct_i, ct_r, ct_n, ct_l, ct_d, cB_l, cB_r, tl_s, tl_n, oB_some, fG_r, fG_i, fP_i, aL_ok, rV_some, aI, uC_self, mmI, if_true, if_false, true_or, or_true, Nat.reduceAdd, Nat.reduceLeDiff, Nat.zero_le, Nat.reduceEqDiff, Nat.reduceSub, eq_self, Nat.le_refl, uC_ne, ne_eq, not_false_eq_true, i1_0, i0_1, i16, mm_eta, fd_0_0, fd_0_1, fd_0_2, fd_0_3, fd_0_4, fd_0_5, fd_0_6, fd_0_7, fd_1_0, fd_1_1, fd_1_2, fd_1_3, fd_1_4, fd_1_5, arr_2, arr_3, arr_4, arr_5, arr_6, fd_7_0, fd_7_1, fd_7_2, fd_7_3, fd_7_4, fd_7_5, fd_7_6, arr_8, arr_9, arr_10, arr_11, arr_12, fd_13_0, fd_13_1, fd_13_2, fd_13_3, fd_13_4, arr_14, arr_15, arr_16, arr_17, fd_18_0, fd_18_1, fd_18_2, fd_18_3, fd_18_4, fd_18_5, arr_19, arr_20, arr_21, arr_22, arr_23, fd_24_0, fd_24_1, fd_24_2, fd_24_3, fd_24_4, fd_24_5, fd_24_6, arr_25, arr_26, arr_27, arr_28, arr_29, fd_30_0, fd_30_1, fd_30_2, fd_30_3, fd_30_4, arr_31, arr_32, arr_33, arr_34, fd_35_0, fd_35_1, fd_35_2, fd_35_3, fd_35_4, fd_35_5, fd_35_6, fd_35_7, fd_35_8, fd_35_9, fd_35_10, fd_35_11, fd_35_12, fd_35_13, fd_35_14, fd_35_15, fd_35_16, fd_35_17, arr_36, arr_37, arr_38, arr_39, arr_40, arr_41, arr_42, arr_43, arr_44, arr_45, arr_46, arr_47, p_hi hj16, hxp, hx, s_65 hj16, hb, b01_t, hc', not_false_eq_true, nI_1, ih, and_false]
theorem s_73 {p : Nat} (hp : p < 16) {x : Int32} {M : mmM} : rn none 73 0 [.ref 35, .int (nI p), .int x, .null] [] M = some (.inl (some (.int (b01 (frR (M.1 42 p) (M.1 46) x 16)))), M) := by
  have h0 := l_73 hp (x := x) 16 0 (by omega) M
  rw [nI_0] at h0
  rw [r_73_0, r_73_1 (by rfl), h0]
def pouD (x y : Int32) (d : Dd) : Bool := decide (d.2.2.2.2 = 1) && (decide (d.1 = x) && decide (d.2.1 = y) || decide (d.1 = y) && decide (d.2.1 = x))
def pouB (x y : Int32) : List Dd → Bool
  | [] => false
  | d :: L => if pouD x y d = true then true else pouB x y L
set_option maxHeartbeats 4000000 in
theorem l_74 {L : List Dd} {w o : Int32} {kk : Nat} {x y : Int32} : ∀ (n j : Nat), j + n = L.length → ∀ (M : mmM), RefO M.1 L w kk o → rn none 74 2 [.ref 35, .int x, .int y, .int (nI j)] [] M = some (.inl (some (.int (b01 (pouB x y (rm (qo o) j (L.drop j)))))), M)
  | 0, j, hj, M, h => by
    obtain rfl : j = L.length := by omega
    have h2 : (nI L.length ≤ nI L.length) = True := eq_true (nI_le (Nat.le_refl _) (by have := h.le; omega))
    rw [r_74_2, List.drop_length, rm, pouB]
    simp only [r_74_0, r_74_1, r_74_3, r_74_4, r_74_7, r_74_10, r_74_11, r_74_12, r_74_15, r_74_18, r_74_19, r_74_22, r_74_23, r_74_24, r_74_25, r_74_28, r_74_29, r_74_32, r_74_33, r_74_34, r_74_35, r_74_38, r_74_39, r_74_42, r_74_43, r_74_44, r_74_45, r_74_48, r_74_49, r_74_52, r_74_53, r_74_54, r_74_55, r_74_58, r_74_59, r_74_62, r_74_63, r_74_64, r_74_65, r_74_68, r_74_69, r_74_70, r_74_73, r_74_76, r_74_77, sm_0, sm_c, ct_i, ct_r, ct_n, ct_l, ct_d, cB_l, cB_r, tl_s, tl_n, oB_some, fG_r, fG_i, fP_i, aL_ok, rV_some, aI, uC_self, mmI, if_true, if_false, true_or, or_true, Nat.reduceAdd, Nat.reduceLeDiff, Nat.zero_le, Nat.reduceEqDiff, Nat.reduceSub, eq_self, Nat.le_refl, uC_ne, ne_eq, not_false_eq_true, i1_0, i0_1, i16, mm_eta, fd_0_0, fd_0_1, fd_0_2, fd_0_3, fd_0_4, fd_0_5, fd_0_6, fd_0_7, fd_1_0, fd_1_1, fd_1_2, fd_1_3, fd_1_4, fd_1_5, arr_2, arr_3, arr_4, arr_5, arr_6, fd_7_0, fd_7_1, fd_7_2, fd_7_3, fd_7_4, fd_7_5, fd_7_6, arr_8, arr_9, arr_10, arr_11, arr_12, fd_13_0, fd_13_1, fd_13_2, fd_13_3, fd_13_4, arr_14, arr_15, arr_16, arr_17, fd_18_0, fd_18_1, fd_18_2, fd_18_3, fd_18_4, fd_18_5, arr_19, arr_20, arr_21, arr_22, arr_23, fd_24_0, fd_24_1, fd_24_2, fd_24_3, fd_24_4, fd_24_5, fd_24_6, arr_25, arr_26, arr_27, arr_28, arr_29, fd_30_0, fd_30_1, fd_30_2, fd_30_3, fd_30_4, arr_31, arr_32, arr_33, arr_34, fd_35_0, fd_35_1, fd_35_2, fd_35_3, fd_35_4, fd_35_5, fd_35_6, fd_35_7, fd_35_8, fd_35_9, fd_35_10, fd_35_11, fd_35_12, fd_35_13, fd_35_14, fd_35_15, fd_35_16, fd_35_17, arr_36, arr_37, arr_38, arr_39, arr_40, arr_41, arr_42, arr_43, arr_44, arr_45, arr_46, arr_47, h.len, h2, b01, Bool.false_eq_true]
  | n + 1, j, hj, M, h => by
    have hjl : j < L.length := by omega
    have h2 : (nI L.length ≤ nI j) = False := eq_false (nI_ge hjl (by have := h.le; omega))
    have hx := mmX_nI (show j < 30 by have := h.le; omega) (by omega : 30 < 2147483648)
    have ih := l_74 (x := x) (y := y) n (j + 1) (by omega) M h
    rw [r_74_2]
    by_cases hq : nI j = o
    · have e : rm (qo o) j (L.drop j) = rm (qo o) (j + 1) (L.drop (j + 1)) := by
        rw [dd_drop hjl, rm, if_pos (by simp [qo, hq])]
      rw [e, ← ih]
      subst hq
      simp only [r_74_0, r_74_1, r_74_3, r_74_4, r_74_7, r_74_10, r_74_11, r_74_12, r_74_15, r_74_18, r_74_19, r_74_22, r_74_23, r_74_24, r_74_25, r_74_28, r_74_29, r_74_32, r_74_33, r_74_34, r_74_35, r_74_38, r_74_39, r_74_42, r_74_43, r_74_44, r_74_45, r_74_48, r_74_49, r_74_52, r_74_53, r_74_54, r_74_55, r_74_58, r_74_59, r_74_62, r_74_63, r_74_64, r_74_65, r_74_68, r_74_69, r_74_70, r_74_73, r_74_76, r_74_77, sm_0, sm_c, ct_i, ct_r, ct_n, ct_l, ct_d, cB_l, cB_r, tl_s, tl_n, oB_some, fG_r, fG_i, fP_i, aL_ok, rV_some, aI, uC_self, mmI, if_true, if_false, true_or, or_true, Nat.reduceAdd, Nat.reduceLeDiff, Nat.zero_le, Nat.reduceEqDiff, Nat.reduceSub, eq_self, Nat.le_refl, uC_ne, ne_eq, not_false_eq_true, i1_0, i0_1, i16, mm_eta, fd_0_0, fd_0_1, fd_0_2, fd_0_3, fd_0_4, fd_0_5, fd_0_6, fd_0_7, fd_1_0, fd_1_1, fd_1_2, fd_1_3, fd_1_4, fd_1_5, arr_2, arr_3, arr_4, arr_5, arr_6, fd_7_0, fd_7_1, fd_7_2, fd_7_3, fd_7_4, fd_7_5, fd_7_6, arr_8, arr_9, arr_10, arr_11, arr_12, fd_13_0, fd_13_1, fd_13_2, fd_13_3, fd_13_4, arr_14, arr_15, arr_16, arr_17, fd_18_0, fd_18_1, fd_18_2, fd_18_3, fd_18_4, fd_18_5, arr_19, arr_20, arr_21, arr_22, arr_23, fd_24_0, fd_24_1, fd_24_2, fd_24_3, fd_24_4, fd_24_5, fd_24_6, arr_25, arr_26, arr_27, arr_28, arr_29, fd_30_0, fd_30_1, fd_30_2, fd_30_3, fd_30_4, arr_31, arr_32, arr_33, arr_34, fd_35_0, fd_35_1, fd_35_2, fd_35_3, fd_35_4, fd_35_5, fd_35_6, fd_35_7, fd_35_8, fd_35_9, fd_35_10, fd_35_11, fd_35_12, fd_35_13, fd_35_14, fd_35_15, fd_35_16, fd_35_17, arr_36, arr_37, arr_38, arr_39, arr_40, arr_41, arr_42, arr_43, arr_44, arr_45, arr_46, arr_47, h.len, h2, h.out, nI_1]
    · have e : rm (qo o) j (L.drop j) = dd L j :: rm (qo o) (j + 1) (L.drop (j + 1)) := by
        rw [dd_drop hjl, rm, if_neg (by simp [qo, hq])]
      have hq' : (nI j = o) = False := eq_false hq
      rw [e, pouB]
      have step : rn none 74 3 [.ref 35, .int x, .int y, .int (nI j)] [.int (nI j)] M = if pouD x y (dd L j) = true then some (.inl (some (.int 1)), M) else rn none 74 2 [.ref 35, .int x, .int y, .int (nI (j + 1))] [] M := by
        have a1 := h.d1 hjl
        have a2 := h.d2 hjl
        have a5 := h.d5 hjl
        generalize dd L j = D at a1 a2 a5
        obtain ⟨A, B, C, W, P⟩ := D
        dsimp only at a1 a2 a5
        unfold pouD
        dsimp only
        by_cases c1 : P = 1
        · have c1' : (P = 1) = True := eq_true c1
          by_cases c2 : A = x <;> by_cases c3 : B = y <;> by_cases c4 : A = y <;> by_cases c5 : B = x <;>
          (first | have c2' : (A = x) = True := eq_true c2 | have c2' : (A = x) = False := eq_false c2) <;>
          (first | have c3' : (B = y) = True := eq_true c3 | have c3' : (B = y) = False := eq_false c3) <;>
          (first | have c4' : (A = y) = True := eq_true c4 | have c4' : (A = y) = False := eq_false c4) <;>
          (first | have c5' : (B = x) = True := eq_true c5 | have c5' : (B = x) = False := eq_false c5) <;>
          simp only [r_74_0, r_74_1, r_74_3, r_74_4, r_74_7, r_74_10, r_74_11, r_74_12, r_74_15, r_74_18, r_74_19, r_74_22, r_74_23, r_74_24, r_74_25, r_74_28, r_74_29, r_74_32, r_74_33, r_74_34, r_74_35, r_74_38, r_74_39, r_74_42, r_74_43, r_74_44, r_74_45, r_74_48, r_74_49, r_74_52, r_74_53, r_74_54, r_74_55, r_74_58, r_74_59, r_74_62, r_74_63, r_74_64, r_74_65, r_74_68, r_74_69, r_74_70, r_74_73, r_74_76, r_74_77, sm_0, sm_c, ct_i, ct_r, ct_n, ct_l, ct_d, cB_l, cB_r, tl_s, tl_n, oB_some, fG_r, fG_i, fP_i, aL_ok, rV_some, aI, uC_self, mmI, if_true, if_false, true_or, or_true, Nat.reduceAdd, Nat.reduceLeDiff, Nat.zero_le, Nat.reduceEqDiff, Nat.reduceSub, eq_self, Nat.le_refl, uC_ne, ne_eq, not_false_eq_true, i1_0, i0_1, i16, mm_eta, fd_0_0, fd_0_1, fd_0_2, fd_0_3, fd_0_4, fd_0_5, fd_0_6, fd_0_7, fd_1_0, fd_1_1, fd_1_2, fd_1_3, fd_1_4, fd_1_5, arr_2, arr_3, arr_4, arr_5, arr_6, fd_7_0, fd_7_1, fd_7_2, fd_7_3, fd_7_4, fd_7_5, fd_7_6, arr_8, arr_9, arr_10, arr_11, arr_12, fd_13_0, fd_13_1, fd_13_2, fd_13_3, fd_13_4, arr_14, arr_15, arr_16, arr_17, fd_18_0, fd_18_1, fd_18_2, fd_18_3, fd_18_4, fd_18_5, arr_19, arr_20, arr_21, arr_22, arr_23, fd_24_0, fd_24_1, fd_24_2, fd_24_3, fd_24_4, fd_24_5, fd_24_6, arr_25, arr_26, arr_27, arr_28, arr_29, fd_30_0, fd_30_1, fd_30_2, fd_30_3, fd_30_4, arr_31, arr_32, arr_33, arr_34, fd_35_0, fd_35_1, fd_35_2, fd_35_3, fd_35_4, fd_35_5, fd_35_6, fd_35_7, fd_35_8, fd_35_9, fd_35_10, fd_35_11, fd_35_12, fd_35_13, fd_35_14, fd_35_15, fd_35_16, fd_35_17, arr_36, arr_37, arr_38, arr_39, arr_40, arr_41, arr_42, arr_43, arr_44, arr_45, arr_46, arr_47, h.len, h2, h.out, hq', hx, a1, a2, a5, c1', c2', c3', c4', c5', not_true_eq_false, not_false_eq_true, nI_1, decide_true, decide_false, Bool.and_true, Bool.and_false, Bool.or_true, Bool.or_false, Bool.true_and, Bool.false_and, Bool.true_or, Bool.false_or, Bool.false_eq_true, Bool.and_self, Bool.or_self]
        · have c1' : (P = 1) = False := eq_false c1
          simp only [r_74_0, r_74_1, r_74_3, r_74_4, r_74_7, r_74_10, r_74_11, r_74_12, r_74_15, r_74_18, r_74_19, r_74_22, r_74_23, r_74_24, r_74_25, r_74_28, r_74_29, r_74_32, r_74_33, r_74_34, r_74_35, r_74_38, r_74_39, r_74_42, r_74_43, r_74_44, r_74_45, r_74_48, r_74_49, r_74_52, r_74_53, r_74_54, r_74_55, r_74_58, r_74_59, r_74_62, r_74_63, r_74_64, r_74_65, r_74_68, r_74_69, r_74_70, r_74_73, r_74_76, r_74_77, sm_0, sm_c, ct_i, ct_r, ct_n, ct_l, ct_d, cB_l, cB_r, tl_s, tl_n, oB_some, fG_r, fG_i, fP_i, aL_ok, rV_some, aI, uC_self, mmI, if_true, if_false, true_or, or_true, Nat.reduceAdd, Nat.reduceLeDiff, Nat.zero_le, Nat.reduceEqDiff, Nat.reduceSub, eq_self, Nat.le_refl, uC_ne, ne_eq, not_false_eq_true, i1_0, i0_1, i16, mm_eta, fd_0_0, fd_0_1, fd_0_2, fd_0_3, fd_0_4, fd_0_5, fd_0_6, fd_0_7, fd_1_0, fd_1_1, fd_1_2, fd_1_3, fd_1_4, fd_1_5, arr_2, arr_3, arr_4, arr_5, arr_6, fd_7_0, fd_7_1, fd_7_2, fd_7_3, fd_7_4, fd_7_5, fd_7_6, arr_8, arr_9, arr_10, arr_11, arr_12, fd_13_0, fd_13_1, fd_13_2, fd_13_3, fd_13_4, arr_14, arr_15, arr_16, arr_17, fd_18_0, fd_18_1, fd_18_2, fd_18_3, fd_18_4, fd_18_5, arr_19, arr_20, arr_21, arr_22, arr_23, fd_24_0, fd_24_1, fd_24_2, fd_24_3, fd_24_4, fd_24_5, fd_24_6, arr_25, arr_26, arr_27, arr_28, arr_29, fd_30_0, fd_30_1, fd_30_2, fd_30_3, fd_30_4, arr_31, arr_32, arr_33, arr_34, fd_35_0, fd_35_1, fd_35_2, fd_35_3, fd_35_4, fd_35_5, fd_35_6, fd_35_7, fd_35_8, fd_35_9, fd_35_10, fd_35_11, fd_35_12, fd_35_13, fd_35_14, fd_35_15, fd_35_16, fd_35_17, arr_36, arr_37, arr_38, arr_39, arr_40, arr_41, arr_42, arr_43, arr_44, arr_45, arr_46, arr_47, h.len, h2, h.out, hq', hx, a5, c1', not_false_eq_true, nI_1, decide_false, Bool.false_and, Bool.false_eq_true]
      rw [step]
      split
      · rfl
      · exact ih
theorem s_74 {L : List Dd} {w o : Int32} {kk : Nat} {x y : Int32} {M : mmM} (h : RefO M.1 L w kk o) : rn none 74 0 [.ref 35, .int x, .int y, .null] [] M = some (.inl (some (.int (b01 (pouB x y (rm (qo o) 0 L))))), M) := by
  have h0 := l_74 (x := x) (y := y) L.length 0 (by omega) M h
  rw [nI_0, List.drop_zero] at h0
  rw [r_74_0, r_74_1 (by rfl), h0]
theorem bt_adP {g : Nat → Int32} {p u a b : Nat} (hp : p < 16) (hu : u < 16) : bt (adP g (nI p) (nI u) a) b = (bt (g a) b || (decide (p = a) && decide (u = b) || decide (p = b) && decide (u = a))) := by
  unfold adP
  rw [if_neg (by rw [p_lo (by omega)]; exact id), if_neg (by rw [p_hi hp]; exact id), if_neg (by rw [p_lo (by omega)]; exact id), if_neg (by rw [p_hi hu]; exact id), nI_clamp (by omega), nI_clamp (by omega)]
  by_cases h1 : a = u
  · subst h1
    rw [upd_at, b_or, bt_bI hp]
    by_cases h2 : a = p
    · subst h2
      rw [upd_at, b_or, bt_bI hu]
      by_cases h3 : b = a
      · subst h3; simp
      · simp [h3, Ne.symm h3]
    · rw [upd_ne h2]
      by_cases h3 : b = p
      · subst h3; simp
      · simp [h3, Ne.symm h3, Ne.symm h2]
  · rw [upd_ne h1]
    by_cases h2 : a = p
    · subst h2
      rw [upd_at, b_or, bt_bI hu]
      by_cases h3 : b = u
      · subst h3; simp
      · simp [h3, Ne.symm h3, Ne.symm h1]
    · rw [upd_ne h2]
      simp [Ne.symm h1, Ne.symm h2]
theorem nI_dec {a b : Nat} (ha : a < 16) (hb : b < 16) : decide (nI a = nI b) = decide (a = b) := decide_eq_decide.mpr (nI_eq (by omega) (by omega))
theorem bt_poF {a b : Nat} (ha : a < 16) (hb : b < 16) : ∀ (L : List Dd) (po : Nat → Int32), okL L → bt (poF L po a) b = (bt (po a) b || pouB (nI a) (nI b) L)
  | [], po, _ => by simp [poF, pouB]
  | d :: L, po, h => by
    have hd := h d List.mem_cons_self
    have ih := bt_poF ha hb L (if d.2.2.2.2 = 0 then po else adP po d.1 d.2.1) (fun x hx => h x (List.mem_cons_of_mem _ hx))
    rw [poF, ih, pouB]
    rcases hd.2.2.2.2 with hz | ⟨hz, hq, _⟩
    · rw [if_pos hz, if_neg (by simp [pouD, hz])]
    · obtain ⟨p, hp, ep⟩ := hd.1
      obtain ⟨u, hu, eu⟩ := hq
      rw [if_neg (by rw [hz]; decide), ep, eu, bt_adP hp hu, Bool.or_assoc]
      congr 1
      unfold pouD
      rw [hz, ep, eu, nI_dec hp ha, nI_dec hu hb, nI_dec hp hb, nI_dec hu ha]
      cases (decide (p = a) && decide (u = b) || decide (p = b) && decide (u = a)) <;> simp
/-- which pots hang on which hook, told both ways -/
def PAi (hk pa : Nat → Int32) : Prop := (∀ h, h < 16 → ∀ i, i < 32 → bt (pa h) i = (decide (i < 16) && decide (hk i = nI h))) ∧ ∀ i, i < 16 → hk i = -1 ∨ ∃ h, h < 16 ∧ hk i = nI h
theorem frB_frR {hk pa : Nat → Int32} (hP : PAi hk pa) {h : Nat} (hh : h < 16) {rv : Int32} : frB pa (nI h) rv = frR rv hk (nI h) 16 := by
  unfold frB
  rw [if_neg (by rw [p_lo (by omega)]; exact id), if_neg (by rw [p_hi hh]; exact id), nI_clamp (by omega)]
  have hiff := frR_iff (rv := rv) (hk := hk) (x := nI h) 16 (Nat.le_refl _)
  cases hf : frR rv hk (nI h) 16 with
  | true =>
    rw [hf] at hiff
    have hall := hiff.mp rfl
    apply decide_eq_true
    apply b_ext
    intro i hi
    rw [b_and, hP.1 h hh i hi, b_0]
    by_cases h16 : i < 16
    · have := hall i (by omega) h16
      cases hb : bt rv i with
      | false => simp
      | true =>
        have h2 : ¬ hk i = nI h := fun e => this ⟨hb, e⟩
        simp [h2]
    · simp [h16]
  | false =>
    rw [hf] at hiff
    apply decide_eq_false
    intro e
    have : false = true := hiff.mpr (fun j _ hj hc => by
      have h1 := congrArg (fun x => bt x j) e
      rw [b_and, hP.1 h hh j (by omega), b_0] at h1
      simp [hj, hc.1, hc.2] at h1)
    cases this
theorem frB_m1 {pa : Nat → Int32} {rv : Int32} : frB pa (-1) rv = false := by
  unfold frB
  rw [if_pos (by decide)]
theorem l1_75 {L : List Dd} {w o : Int32} {kk K p : Nat} (hp : p < 16) {pa : Nat → Int32} : ∀ (n j : Nat), j + n = 16 → ∀ (M : mmM), RefO M.1 L w K o → PAi (M.1 46) pa → M.1 46 p = -1 →
    rn none 75 2 [.ref 35, .int (nI p), .int (nI kk), .int (nI j)] [] M = if hpR (M.1 46) pa (poF (rm (qo o) 0 L) zf p) (M.1 42 p) n = -1 then rn none 75 61 [.ref 35, .int (nI p), .int (nI kk), .int 0] [] M else some (.inl (some (.int (hpR (M.1 46) pa (poF (rm (qo o) 0 L) zf p) (M.1 42 p) n))), M)
  | 0, j, hj, M, h, hP, hm => by
    obtain rfl : j = 16 := by omega
    rw [r_75_2, hpR, if_pos rfl]
    simp only [r_75_3, r_75_5, r_75_59, r_75_60, sm_0, sm_c, ct_i, ct_r, ct_n, ct_l, ct_d, cB_l, cB_r, tl_s, tl_n, oB_some, fG_r, fG_i, fP_i, aL_ok, rV_some, aI, uC_self, mmI, if_true, if_false, true_or, or_true, Nat.reduceAdd, Nat.reduceLeDiff, Nat.zero_le, Nat.reduceEqDiff, Nat.reduceSub, eq_self, Nat.le_refl, uC_ne, ne_eq, not_false_eq_true, i1_0, i0_1, i16, mm_eta, fd_0_0, fd_0_1, fd_0_2, fd_0_3, fd_0_4, fd_0_5, fd_0_6, fd_0_7, fd_1_0, fd_1_1, fd_1_2, fd_1_3, fd_1_4, fd_1_5, arr_2, arr_3, arr_4, arr_5, arr_6, fd_7_0, fd_7_1, fd_7_2, fd_7_3, fd_7_4, fd_7_5, fd_7_6, arr_8, arr_9, arr_10, arr_11, arr_12, fd_13_0, fd_13_1, fd_13_2, fd_13_3, fd_13_4, arr_14, arr_15, arr_16, arr_17, fd_18_0, fd_18_1, fd_18_2, fd_18_3, fd_18_4, fd_18_5, arr_19, arr_20, arr_21, arr_22, arr_23, fd_24_0, fd_24_1, fd_24_2, fd_24_3, fd_24_4, fd_24_5, fd_24_6, arr_25, arr_26, arr_27, arr_28, arr_29, fd_30_0, fd_30_1, fd_30_2, fd_30_3, fd_30_4, arr_31, arr_32, arr_33, arr_34, fd_35_0, fd_35_1, fd_35_2, fd_35_3, fd_35_4, fd_35_5, fd_35_6, fd_35_7, fd_35_8, fd_35_9, fd_35_10, fd_35_11, fd_35_12, fd_35_13, fd_35_14, fd_35_15, fd_35_16, fd_35_17, arr_36, arr_37, arr_38, arr_39, arr_40, arr_41, arr_42, arr_43, arr_44, arr_45, arr_46, arr_47, nI_16]
  | n + 1, j, hj, M, h, hP, hm => by
    have hj16 : j < 16 := by omega
    have ej : 15 - n = j := by omega
    have ih := l1_75 (kk := kk) hp n (j + 1) (by omega) M h hP hm
    have hx := mmX_nI hj16 (by omega : 16 < 2147483648)
    have hpo : bt (poF (rm (qo o) 0 L) zf p) j = pouB (nI p) (nI j) (rm (qo o) 0 L) := by
      rw [bt_poF hp hj16 _ _ (rm_ok 0 h.ok)]
      simp [zf, b_0]
    rw [r_75_2, hpR, ej, hpo]
    by_cases h1 : j = p
    · subst h1
      rw [hm, frB_m1]
      simp only [Bool.false_eq_true, and_false, if_false]
      rw [← ih]
      simp only [r_75_3, r_75_5, r_75_8, r_75_9, r_75_10, r_75_53, r_75_56, sm_0, sm_c, ct_i, ct_r, ct_n, ct_l, ct_d, cB_l, cB_r, tl_s, tl_n, oB_some, fG_r, fG_i, fP_i, aL_ok, rV_some, aI, uC_self, mmI, if_true, if_false, true_or, or_true, Nat.reduceAdd, Nat.reduceLeDiff, Nat.zero_le, Nat.reduceEqDiff, Nat.reduceSub, eq_self, Nat.le_refl, uC_ne, ne_eq, not_false_eq_true, i1_0, i0_1, i16, mm_eta, fd_0_0, fd_0_1, fd_0_2, fd_0_3, fd_0_4, fd_0_5, fd_0_6, fd_0_7, fd_1_0, fd_1_1, fd_1_2, fd_1_3, fd_1_4, fd_1_5, arr_2, arr_3, arr_4, arr_5, arr_6, fd_7_0, fd_7_1, fd_7_2, fd_7_3, fd_7_4, fd_7_5, fd_7_6, arr_8, arr_9, arr_10, arr_11, arr_12, fd_13_0, fd_13_1, fd_13_2, fd_13_3, fd_13_4, arr_14, arr_15, arr_16, arr_17, fd_18_0, fd_18_1, fd_18_2, fd_18_3, fd_18_4, fd_18_5, arr_19, arr_20, arr_21, arr_22, arr_23, fd_24_0, fd_24_1, fd_24_2, fd_24_3, fd_24_4, fd_24_5, fd_24_6, arr_25, arr_26, arr_27, arr_28, arr_29, fd_30_0, fd_30_1, fd_30_2, fd_30_3, fd_30_4, arr_31, arr_32, arr_33, arr_34, fd_35_0, fd_35_1, fd_35_2, fd_35_3, fd_35_4, fd_35_5, fd_35_6, fd_35_7, fd_35_8, fd_35_9, fd_35_10, fd_35_11, fd_35_12, fd_35_13, fd_35_14, fd_35_15, fd_35_16, fd_35_17, arr_36, arr_37, arr_38, arr_39, arr_40, arr_41, arr_42, arr_43, arr_44, arr_45, arr_46, arr_47, p_hi hj16, nI_1]
    · have h1' : (nI j = nI p) = False := eq_false (fun e => h1 ((nI_eq (by omega) (by omega)).mp e))
      rcases hP.2 j hj16 with h2 | ⟨q, hq, h2⟩
      · rw [h2, frB_m1]
        simp only [Bool.false_eq_true, and_false, if_false]
        rw [← ih]
        simp only [r_75_3, r_75_5, r_75_8, r_75_9, r_75_10, r_75_13, r_75_14, r_75_17, r_75_18, r_75_19, r_75_20, r_75_53, r_75_56, sm_0, sm_c, ct_i, ct_r, ct_n, ct_l, ct_d, cB_l, cB_r, tl_s, tl_n, oB_some, fG_r, fG_i, fP_i, aL_ok, rV_some, aI, uC_self, mmI, if_true, if_false, true_or, or_true, Nat.reduceAdd, Nat.reduceLeDiff, Nat.zero_le, Nat.reduceEqDiff, Nat.reduceSub, eq_self, Nat.le_refl, uC_ne, ne_eq, not_false_eq_true, i1_0, i0_1, i16, mm_eta, fd_0_0, fd_0_1, fd_0_2, fd_0_3, fd_0_4, fd_0_5, fd_0_6, fd_0_7, fd_1_0, fd_1_1, fd_1_2, fd_1_3, fd_1_4, fd_1_5, arr_2, arr_3, arr_4, arr_5, arr_6, fd_7_0, fd_7_1, fd_7_2, fd_7_3, fd_7_4, fd_7_5, fd_7_6, arr_8, arr_9, arr_10, arr_11, arr_12, fd_13_0, fd_13_1, fd_13_2, fd_13_3, fd_13_4, arr_14, arr_15, arr_16, arr_17, fd_18_0, fd_18_1, fd_18_2, fd_18_3, fd_18_4, fd_18_5, arr_19, arr_20, arr_21, arr_22, arr_23, fd_24_0, fd_24_1, fd_24_2, fd_24_3, fd_24_4, fd_24_5, fd_24_6, arr_25, arr_26, arr_27, arr_28, arr_29, fd_30_0, fd_30_1, fd_30_2, fd_30_3, fd_30_4, arr_31, arr_32, arr_33, arr_34, fd_35_0, fd_35_1, fd_35_2, fd_35_3, fd_35_4, fd_35_5, fd_35_6, fd_35_7, fd_35_8, fd_35_9, fd_35_10, fd_35_11, fd_35_12, fd_35_13, fd_35_14, fd_35_15, fd_35_16, fd_35_17, arr_36, arr_37, arr_38, arr_39, arr_40, arr_41, arr_42, arr_43, arr_44, arr_45, arr_46, arr_47, p_hi hj16, h1', hx, h2, nI_1]
      · have h2' : (nI q = -1) = False := eq_false (nI_m1 hq)
        rw [h2, frB_frR hP hq]
        cases hb : pouB (nI p) (nI j) (rm (qo o) 0 L) with
        | false =>
          simp only [Bool.false_eq_true, false_and, if_false]
          rw [← ih]
          simp only [r_75_3, r_75_5, r_75_8, r_75_9, r_75_10, r_75_13, r_75_14, r_75_17, r_75_18, r_75_19, r_75_20, r_75_23, r_75_24, r_75_25, r_75_26, r_75_29, r_75_53, r_75_56, sm_0, sm_c, ct_i, ct_r, ct_n, ct_l, ct_d, cB_l, cB_r, tl_s, tl_n, oB_some, fG_r, fG_i, fP_i, aL_ok, rV_some, aI, uC_self, mmI, if_true, if_false, true_or, or_true, Nat.reduceAdd, Nat.reduceLeDiff, Nat.zero_le, Nat.reduceEqDiff, Nat.reduceSub, eq_self, Nat.le_refl, uC_ne, ne_eq, not_false_eq_true, i1_0, i0_1, i16, mm_eta, fd_0_0, fd_0_1, fd_0_2, fd_0_3, fd_0_4, fd_0_5, fd_0_6, fd_0_7, fd_1_0, fd_1_1, fd_1_2, fd_1_3, fd_1_4, fd_1_5, arr_2, arr_3, arr_4, arr_5, arr_6, fd_7_0, fd_7_1, fd_7_2, fd_7_3, fd_7_4, fd_7_5, fd_7_6, arr_8, arr_9, arr_10, arr_11, arr_12, fd_13_0, fd_13_1, fd_13_2, fd_13_3, fd_13_4, arr_14, arr_15, arr_16, arr_17, fd_18_0, fd_18_1, fd_18_2, fd_18_3, fd_18_4, fd_18_5, arr_19, arr_20, arr_21, arr_22, arr_23, fd_24_0, fd_24_1, fd_24_2, fd_24_3, fd_24_4, fd_24_5, fd_24_6, arr_25, arr_26, arr_27, arr_28, arr_29, fd_30_0, fd_30_1, fd_30_2, fd_30_3, fd_30_4, arr_31, arr_32, arr_33, arr_34, fd_35_0, fd_35_1, fd_35_2, fd_35_3, fd_35_4, fd_35_5, fd_35_6, fd_35_7, fd_35_8, fd_35_9, fd_35_10, fd_35_11, fd_35_12, fd_35_13, fd_35_14, fd_35_15, fd_35_16, fd_35_17, arr_36, arr_37, arr_38, arr_39, arr_40, arr_41, arr_42, arr_43, arr_44, arr_45, arr_46, arr_47, p_hi hj16, h1', hx, h2, h2', s_74 h, hb, b01_f, nI_1]
        | true =>
          cases hfr : frR (M.1 42 p) (M.1 46) (nI q) 16 with
          | false =>
            simp only [Bool.false_eq_true, and_false, if_false]
            rw [← ih]
            simp only [r_75_3, r_75_5, r_75_8, r_75_9, r_75_10, r_75_13, r_75_14, r_75_17, r_75_18, r_75_19, r_75_20, r_75_23, r_75_24, r_75_25, r_75_26, r_75_29, r_75_32, r_75_33, r_75_34, r_75_35, r_75_38, r_75_39, r_75_40, r_75_43, r_75_53, r_75_56, sm_0, sm_c, ct_i, ct_r, ct_n, ct_l, ct_d, cB_l, cB_r, tl_s, tl_n, oB_some, fG_r, fG_i, fP_i, aL_ok, rV_some, aI, uC_self, mmI, if_true, if_false, true_or, or_true, Nat.reduceAdd, Nat.reduceLeDiff, Nat.zero_le, Nat.reduceEqDiff, Nat.reduceSub, eq_self, Nat.le_refl, uC_ne, ne_eq, not_false_eq_true, i1_0, i0_1, i16, mm_eta, fd_0_0, fd_0_1, fd_0_2, fd_0_3, fd_0_4, fd_0_5, fd_0_6, fd_0_7, fd_1_0, fd_1_1, fd_1_2, fd_1_3, fd_1_4, fd_1_5, arr_2, arr_3, arr_4, arr_5, arr_6, fd_7_0, fd_7_1, fd_7_2, fd_7_3, fd_7_4, fd_7_5, fd_7_6, arr_8, arr_9, arr_10, arr_11, arr_12, fd_13_0, fd_13_1, fd_13_2, fd_13_3, fd_13_4, arr_14, arr_15, arr_16, arr_17, fd_18_0, fd_18_1, fd_18_2, fd_18_3, fd_18_4, fd_18_5, arr_19, arr_20, arr_21, arr_22, arr_23, fd_24_0, fd_24_1, fd_24_2, fd_24_3, fd_24_4, fd_24_5, fd_24_6, arr_25, arr_26, arr_27, arr_28, arr_29, fd_30_0, fd_30_1, fd_30_2, fd_30_3, fd_30_4, arr_31, arr_32, arr_33, arr_34, fd_35_0, fd_35_1, fd_35_2, fd_35_3, fd_35_4, fd_35_5, fd_35_6, fd_35_7, fd_35_8, fd_35_9, fd_35_10, fd_35_11, fd_35_12, fd_35_13, fd_35_14, fd_35_15, fd_35_16, fd_35_17, arr_36, arr_37, arr_38, arr_39, arr_40, arr_41, arr_42, arr_43, arr_44, arr_45, arr_46, arr_47, p_hi hj16, h1', hx, h2, h2', s_74 h, hb, b01_t, s_73 hp, hfr, b01_f, nI_1]
          | true =>
            simp only [and_self, if_true]
            rw [if_neg (nI_m1 hq)]
            simp only [r_75_3, r_75_5, r_75_8, r_75_9, r_75_10, r_75_13, r_75_14, r_75_17, r_75_18, r_75_19, r_75_20, r_75_23, r_75_24, r_75_25, r_75_26, r_75_29, r_75_32, r_75_33, r_75_34, r_75_35, r_75_38, r_75_39, r_75_40, r_75_43, r_75_46, r_75_47, r_75_50, r_75_51, r_75_52, sm_0, sm_c, ct_i, ct_r, ct_n, ct_l, ct_d, cB_l, cB_r, tl_s, tl_n, oB_some, fG_r, fG_i, fP_i, aL_ok, rV_some, aI, uC_self, mmI, if_true, if_false, true_or, or_true, Nat.reduceAdd, Nat.reduceLeDiff, Nat.zero_le, Nat.reduceEqDiff, Nat.reduceSub, eq_self, Nat.le_refl, uC_ne, ne_eq, not_false_eq_true, i1_0, i0_1, i16, mm_eta, fd_0_0, fd_0_1, fd_0_2, fd_0_3, fd_0_4, fd_0_5, fd_0_6, fd_0_7, fd_1_0, fd_1_1, fd_1_2, fd_1_3, fd_1_4, fd_1_5, arr_2, arr_3, arr_4, arr_5, arr_6, fd_7_0, fd_7_1, fd_7_2, fd_7_3, fd_7_4, fd_7_5, fd_7_6, arr_8, arr_9, arr_10, arr_11, arr_12, fd_13_0, fd_13_1, fd_13_2, fd_13_3, fd_13_4, arr_14, arr_15, arr_16, arr_17, fd_18_0, fd_18_1, fd_18_2, fd_18_3, fd_18_4, fd_18_5, arr_19, arr_20, arr_21, arr_22, arr_23, fd_24_0, fd_24_1, fd_24_2, fd_24_3, fd_24_4, fd_24_5, fd_24_6, arr_25, arr_26, arr_27, arr_28, arr_29, fd_30_0, fd_30_1, fd_30_2, fd_30_3, fd_30_4, arr_31, arr_32, arr_33, arr_34, fd_35_0, fd_35_1, fd_35_2, fd_35_3, fd_35_4, fd_35_5, fd_35_6, fd_35_7, fd_35_8, fd_35_9, fd_35_10, fd_35_11, fd_35_12, fd_35_13, fd_35_14, fd_35_15, fd_35_16, fd_35_17, arr_36, arr_37, arr_38, arr_39, arr_40, arr_41, arr_42, arr_43, arr_44, arr_45, arr_46, arr_47, p_hi hj16, h1', hx, h2, h2', s_74 h, hb, b01_t, s_73 hp, hfr]
theorem l2_75 {kk p : Nat} (hp : p < 16) (hk : kk ≤ 16) {pa : Nat → Int32} : ∀ (n j : Nat), j + n = kk → ∀ (M : mmM), PAi (M.1 46) pa → rn none 75 61 [.ref 35, .int (nI p), .int (nI kk), .int (nI j)] [] M = some (.inl (some (.int (ffR pa (M.1 42 p) kk n))), M)
  | 0, j, hj, M, hP => by
    obtain rfl : j = kk := by omega
    have h2 : (nI j ≤ nI j) = True := eq_true (nI_le (Nat.le_refl _) (by omega))
    rw [r_75_61, ffR]
    simp only [r_75_62, r_75_63, r_75_83, r_75_84, sm_0, sm_c, ct_i, ct_r, ct_n, ct_l, ct_d, cB_l, cB_r, tl_s, tl_n, oB_some, fG_r, fG_i, fP_i, aL_ok, rV_some, aI, uC_self, mmI, if_true, if_false, true_or, or_true, Nat.reduceAdd, Nat.reduceLeDiff, Nat.zero_le, Nat.reduceEqDiff, Nat.reduceSub, eq_self, Nat.le_refl, uC_ne, ne_eq, not_false_eq_true, i1_0, i0_1, i16, mm_eta, fd_0_0, fd_0_1, fd_0_2, fd_0_3, fd_0_4, fd_0_5, fd_0_6, fd_0_7, fd_1_0, fd_1_1, fd_1_2, fd_1_3, fd_1_4, fd_1_5, arr_2, arr_3, arr_4, arr_5, arr_6, fd_7_0, fd_7_1, fd_7_2, fd_7_3, fd_7_4, fd_7_5, fd_7_6, arr_8, arr_9, arr_10, arr_11, arr_12, fd_13_0, fd_13_1, fd_13_2, fd_13_3, fd_13_4, arr_14, arr_15, arr_16, arr_17, fd_18_0, fd_18_1, fd_18_2, fd_18_3, fd_18_4, fd_18_5, arr_19, arr_20, arr_21, arr_22, arr_23, fd_24_0, fd_24_1, fd_24_2, fd_24_3, fd_24_4, fd_24_5, fd_24_6, arr_25, arr_26, arr_27, arr_28, arr_29, fd_30_0, fd_30_1, fd_30_2, fd_30_3, fd_30_4, arr_31, arr_32, arr_33, arr_34, fd_35_0, fd_35_1, fd_35_2, fd_35_3, fd_35_4, fd_35_5, fd_35_6, fd_35_7, fd_35_8, fd_35_9, fd_35_10, fd_35_11, fd_35_12, fd_35_13, fd_35_14, fd_35_15, fd_35_16, fd_35_17, arr_36, arr_37, arr_38, arr_39, arr_40, arr_41, arr_42, arr_43, arr_44, arr_45, arr_46, arr_47, h2]
  | n + 1, j, hj, M, hP => by
    have h2 : (nI kk ≤ nI j) = False := eq_false (nI_ge (by omega) (by omega))
    have ej : kk - (n + 1) = j := by omega
    have ih := l2_75 hp hk n (j + 1) (by omega) M hP
    rw [r_75_61, ffR, ej, frB_frR hP (show j < 16 by omega)]
    cases hfr : frR (M.1 42 p) (M.1 46) (nI j) 16 with
    | false => simp only [r_75_62, r_75_63, r_75_66, r_75_67, r_75_68, r_75_69, r_75_72, r_75_75, r_75_76, r_75_77, r_75_80, sm_0, sm_c, ct_i, ct_r, ct_n, ct_l, ct_d, cB_l, cB_r, tl_s, tl_n, oB_some, fG_r, fG_i, fP_i, aL_ok, rV_some, aI, uC_self, mmI, if_true, if_false, true_or, or_true, Nat.reduceAdd, Nat.reduceLeDiff, Nat.zero_le, Nat.reduceEqDiff, Nat.reduceSub, eq_self, Nat.le_refl, uC_ne, ne_eq, not_false_eq_true, i1_0, i0_1, i16, mm_eta, fd_0_0, fd_0_1, fd_0_2, fd_0_3, fd_0_4, fd_0_5, fd_0_6, fd_0_7, fd_1_0, fd_1_1, fd_1_2, fd_1_3, fd_1_4, fd_1_5, arr_2, arr_3, arr_4, arr_5, arr_6, fd_7_0, fd_7_1, fd_7_2, fd_7_3, fd_7_4, fd_7_5, fd_7_6, arr_8, arr_9, arr_10, arr_11, arr_12, fd_13_0, fd_13_1, fd_13_2, fd_13_3, fd_13_4, arr_14, arr_15, arr_16, arr_17, fd_18_0, fd_18_1, fd_18_2, fd_18_3, fd_18_4, fd_18_5, arr_19, arr_20, arr_21, arr_22, arr_23, fd_24_0, fd_24_1, fd_24_2, fd_24_3, fd_24_4, fd_24_5, fd_24_6, arr_25, arr_26, arr_27, arr_28, arr_29, fd_30_0, fd_30_1, fd_30_2, fd_30_3, fd_30_4, arr_31, arr_32, arr_33, arr_34, fd_35_0, fd_35_1, fd_35_2, fd_35_3, fd_35_4, fd_35_5, fd_35_6, fd_35_7, fd_35_8, fd_35_9, fd_35_10, fd_35_11, fd_35_12, fd_35_13, fd_35_14, fd_35_15, fd_35_16, fd_35_17, arr_36, arr_37, arr_38, arr_39, arr_40, arr_41, arr_42, arr_43, arr_44, arr_45, arr_46, arr_47, h2, s_73 hp, hfr, b01_f, nI_1, ih, Bool.false_eq_true]
    | true => simp only [r_75_62, r_75_63, r_75_66, r_75_67, r_75_68, r_75_69, r_75_72, r_75_75, r_75_76, r_75_77, r_75_80, sm_0, sm_c, ct_i, ct_r, ct_n, ct_l, ct_d, cB_l, cB_r, tl_s, tl_n, oB_some, fG_r, fG_i, fP_i, aL_ok, rV_some, aI, uC_self, mmI, if_true, if_false, true_or, or_true, Nat.reduceAdd, Nat.reduceLeDiff, Nat.zero_le, Nat.reduceEqDiff, Nat.reduceSub, eq_self, Nat.le_refl, uC_ne, ne_eq, not_false_eq_true, i1_0, i0_1, i16, mm_eta, fd_0_0, fd_0_1, fd_0_2, fd_0_3, fd_0_4, fd_0_5, fd_0_6, fd_0_7, fd_1_0, fd_1_1, fd_1_2, fd_1_3, fd_1_4, fd_1_5, arr_2, arr_3, arr_4, arr_5, arr_6, fd_7_0, fd_7_1, fd_7_2, fd_7_3, fd_7_4, fd_7_5, fd_7_6, arr_8, arr_9, arr_10, arr_11, arr_12, fd_13_0, fd_13_1, fd_13_2, fd_13_3, fd_13_4, arr_14, arr_15, arr_16, arr_17, fd_18_0, fd_18_1, fd_18_2, fd_18_3, fd_18_4, fd_18_5, arr_19, arr_20, arr_21, arr_22, arr_23, fd_24_0, fd_24_1, fd_24_2, fd_24_3, fd_24_4, fd_24_5, fd_24_6, arr_25, arr_26, arr_27, arr_28, arr_29, fd_30_0, fd_30_1, fd_30_2, fd_30_3, fd_30_4, arr_31, arr_32, arr_33, arr_34, fd_35_0, fd_35_1, fd_35_2, fd_35_3, fd_35_4, fd_35_5, fd_35_6, fd_35_7, fd_35_8, fd_35_9, fd_35_10, fd_35_11, fd_35_12, fd_35_13, fd_35_14, fd_35_15, fd_35_16, fd_35_17, arr_36, arr_37, arr_38, arr_39, arr_40, arr_41, arr_42, arr_43, arr_44, arr_45, arr_46, arr_47, h2, s_73 hp, hfr, b01_t]
theorem s_75 {L : List Dd} {w o : Int32} {kk K p : Nat} (hp : p < 16) (hk : kk ≤ 16) {pa : Nat → Int32} {fl : Int32} {M : mmM} (h : RefO M.1 L w K o) (hP : PAi (M.1 46) pa) (hm : M.1 46 p = -1) :
    rn none 75 0 [.ref 35, .int (nI p), .int (nI kk), .null] [] M = some (.inl (some (.int (chs (M.1 42) (STU (rm (qo o) 0 L) w).2.2.1 kk p (M.1 46, pa, fl)))), M) := by
  have h1 := l1_75 (kk := kk) hp 16 0 (by omega) M h hP hm
  have h2 := l2_75 hp hk kk 0 (by omega) M hP
  rw [nI_0] at h1 h2
  rw [r_75_0, r_75_1 (by rfl), h1]
  unfold chs
  rw [STU_po]
  dsimp only
  split
  · exact h2
  · rfl
