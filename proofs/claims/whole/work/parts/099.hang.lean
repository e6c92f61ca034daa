/-! the reference: hang; what holds of a hanging -/
def pcn (x : Int32) : Nat → Nat
  | 0 => 0
  | n + 1 => pcn x n + (if bt x n = true then 1 else 0)
theorem pcn_le (x : Int32) : ∀ n, pcn x n ≤ n
  | 0 => Nat.le_refl _
  | n + 1 => by
    have := pcn_le x n
    rw [pcn]
    split <;> omega
theorem pcn_pos {x : Int32} : ∀ (n i : Nat), i < n → bt x i = true → 1 ≤ pcn x n
  | 0, i, h, _ => absurd h (by omega)
  | n + 1, i, h, hb => by
    rw [pcn]
    by_cases hi : i = n
    · rw [hi] at hb
      rw [if_pos hb]; omega
    · have := pcn_pos n i (by omega) hb
      omega
theorem pcn_rm {x : Int32} {p : Nat} (hp : p < 16) (hb : bt x p = true) : ∀ n, n ≤ 16 → pcn (x &&& (bI (nI p) ^^^ (-1))) n + (if p < n then 1 else 0) = pcn x n
  | 0, _ => by simp [pcn]
  | n + 1, hn => by
    have ih := pcn_rm hp hb n (by omega)
    have hr : bt (x &&& (bI (nI p) ^^^ (-1))) n = (bt x n && decide (¬ n = p)) := by
      rw [b_and, bt_not _ (by omega), bt_bI hp]; simp
    rw [pcn, pcn, hr]
    by_cases h : n = p
    · subst h
      rw [if_neg (show ¬ n < n by omega)] at ih
      rw [show (bt x n && decide (¬ n = n)) = false by simp, if_neg (show ¬ false = true by decide), if_pos (show n < n + 1 by omega), if_pos hb]
      omega
    · have e : (if p < n + 1 then 1 else 0) = (if p < n then (1 : Nat) else 0) := by
        by_cases h2 : p < n
        · rw [if_pos h2, if_pos (by omega)]
        · rw [if_neg h2, if_neg (by omega)]
      rw [e, ← ih]
      simp only [h, not_false_eq_true, decide_true, Bool.and_true]
      omega
theorem bit_ex {x : Int32} (hs : s16 x) (h : ¬ x = 0) : ∃ i, i < 16 ∧ bt x i = true := by
  apply Classical.byContradiction
  intro hn
  apply h
  apply b_ext
  intro i hi
  rw [b_0]
  by_cases h16 : i < 16
  · cases hb : bt x i with
    | false => rfl
    | true => exact absurd ⟨i, h16, hb⟩ hn
  · exact hs i (by omega)
theorem nx2_in {co R : Nat → Int32} {left : Int32} : ∀ (n : Nat), n ≤ 16 → ∀ (b : Option Nat), (∀ p, b = some p → p < 16 ∧ bt left p = true) → (∀ p, nx2 co R left n b = some p → p < 16 ∧ bt left p = true) ∧ (nx2 co R left n b = none → b = none ∧ ∀ i, i < n → bt left i = false)
  | 0, _, b, hb => ⟨hb, fun h => ⟨h, fun i hi => absurd hi (by omega)⟩⟩
  | n + 1, hn, b, hb => by
    rw [nx2]
    cases hbt : bt left n with
    | false =>
      rw [if_neg (by simp)]
      obtain ⟨h1, h2⟩ := nx2_in (co := co) (R := R) n (by omega) b hb
      refine ⟨h1, fun h => ⟨(h2 h).1, fun i hi => ?_⟩⟩
      by_cases hin : i = n
      · rw [hin]; exact hbt
      · exact (h2 h).2 i (by omega)
    | true =>
      rw [if_pos (show true = true from rfl)]
      have hs : ∃ p, st2 co R n b = some p ∧ p < 16 ∧ bt left p = true := by
        cases b with
        | none => exact ⟨n, rfl, by omega, hbt⟩
        | some p =>
          have := hb p rfl
          by_cases hc : co p * R n < co n * R p
          · exact ⟨p, (if_pos hc : (if co p * R n < co n * R p then some p else some n) = some p), this⟩
          · exact ⟨n, (if_neg hc : (if co p * R n < co n * R p then some p else some n) = some n), by omega, hbt⟩
      obtain ⟨p, e, hp⟩ := hs
      obtain ⟨h1, h2⟩ := nx2_in (co := co) (R := R) n (by omega) (st2 co R n b) (fun q hq => by rw [e] at hq; cases hq; exact hp)
      refine ⟨h1, fun h => ?_⟩
      have := (h2 h).1
      rw [e] at this
      cases this
theorem nxt_in {cl co : Nat → Int32} {left : Int32} {kk : Nat} (hk : 1 ≤ kk) (hk2 : kk ≤ 16) (hc : cSm 10000 co) (hs : s16 left) (h0 : ¬ left = 0) : ∃ p, p < 16 ∧ bt left p = true ∧ nxt cl co left (nI kk) = nI p := by
  rw [nxt_eq hk hk2 hc]
  rcases feR_in (cl := cl) (left := left) (k := nI kk) 16 with h | ⟨p, hp, hb, e⟩
  · rw [if_pos h]
    obtain ⟨h1, h2⟩ := nx2_in (co := co) (R := fun q => bc (cl q &&& left)) (left := left) 16 (Nat.le_refl _) none (fun p hp => by cases hp)
    cases hn : nx2 co (fun q => bc (cl q &&& left)) left 16 none with
    | none =>
      obtain ⟨i, hi, hb⟩ := bit_ex hs h0
      rw [(h2 hn).2 i hi] at hb
      cases hb
    | some p => exact ⟨p, (h1 p hn).1, (h1 p hn).2, rfl⟩
  · rw [if_neg (by rw [e]; exact nI_m1 hp)]
    exact ⟨p, hp, hb, e⟩
theorem atP_p {p : Nat} (hp : p < 16) {g : Nat → Int32} {v : Int32} : atP (nI p) g v = upd g p v := by
  unfold atP
  rw [if_neg (by rw [p_lo (by omega)]; exact id), if_neg (by rw [p_hi hp]; exact id), nI_clamp (by omega)]
def zm (j : Nat) (f : Nat → Int32) : Nat → Int32 := fun i => if j ≤ i ∧ i < 16 then -1 else f i
theorem zm_s {j : Nat} (hj : j < 16) (f : Nat → Int32) : zm (j + 1) (upd f j (-1)) = zm j f := by
  funext i
  by_cases hi : i = j
  · subst hi
    simp [zm, upd, hj]
  · simp only [zm, upd, hi, if_false, show (j + 1 ≤ i) = (j ≤ i) from propext ⟨by omega, by omega⟩]
theorem zm_16 (f : Nat → Int32) : zm 16 f = f := by
  funext i
  unfold zm
  rw [if_neg (by omega)]
theorem zm_0 {f : Nat → Int32} (h : zb f) : zm 0 f = n16 := by
  funext i
  unfold zm n16
  by_cases hi : i < 16
  · rw [if_pos (by omega), if_pos hi]
  · rw [if_neg (by omega), if_neg hi, h i (by omega)]
theorem l1_76 {a b c : Value} (hc : c.category = 1) : ∀ (n j : Nat), j + n = 16 → ∀ (M : mmM), rn none 76 10 [.ref 35, a, b, c, .int (nI j)] [] M = rn none 76 39 [.ref 35, a, b, c, .int 16] [] (uC (uC M.1 44 (zm j (M.1 44))) 46 (zm j (M.1 46)), M.2)
  | 0, j, hj, M => by
    obtain rfl : j = 16 := by omega
    rw [zm_16, zm_16, uC_id, uC_id, nI_16]
    simp only [r_76_10, r_76_12, r_76_14, sm_0, sm_c, ct_i, ct_r, ct_n, ct_l, ct_d, cB_l, cB_r, tl_s, tl_n, oB_some, fG_r, fG_i, fP_i, aL_ok, rV_some, aI, uC_self, mmI, if_true, if_false, true_or, or_true, Nat.reduceAdd, Nat.reduceLeDiff, Nat.zero_le, Nat.reduceEqDiff, Nat.reduceSub, eq_self, Nat.le_refl, uC_ne, ne_eq, not_false_eq_true, i1_0, i0_1, i16, mm_eta, fd_0_0, fd_0_1, fd_0_2, fd_0_3, fd_0_4, fd_0_5, fd_0_6, fd_0_7, fd_1_0, fd_1_1, fd_1_2, fd_1_3, fd_1_4, fd_1_5, arr_2, arr_3, arr_4, arr_5, arr_6, fd_7_0, fd_7_1, fd_7_2, fd_7_3, fd_7_4, fd_7_5, fd_7_6, arr_8, arr_9, arr_10, arr_11, arr_12, fd_13_0, fd_13_1, fd_13_2, fd_13_3, fd_13_4, arr_14, arr_15, arr_16, arr_17, fd_18_0, fd_18_1, fd_18_2, fd_18_3, fd_18_4, fd_18_5, arr_19, arr_20, arr_21, arr_22, arr_23, fd_24_0, fd_24_1, fd_24_2, fd_24_3, fd_24_4, fd_24_5, fd_24_6, arr_25, arr_26, arr_27, arr_28, arr_29, fd_30_0, fd_30_1, fd_30_2, fd_30_3, fd_30_4, arr_31, arr_32, arr_33, arr_34, fd_35_0, fd_35_1, fd_35_2, fd_35_3, fd_35_4, fd_35_5, fd_35_6, fd_35_7, fd_35_8, fd_35_9, fd_35_10, fd_35_11, fd_35_12, fd_35_13, fd_35_14, fd_35_15, fd_35_16, fd_35_17, arr_36, arr_37, arr_38, arr_39, arr_40, arr_41, arr_42, arr_43, arr_44, arr_45, arr_46, arr_47, Int32.le_refl]
  | n + 1, j, hj, M => by
    have hj16 : j < 16 := by omega
    have ih := l1_76 (a := a) (b := b) hc n (j + 1) (by omega) (uC (uC M.1 44 (upd (M.1 44) j (-1))) 46 (upd (M.1 46) j (-1)), M.2)
    dsimp only at ih
    rw [r_76_10]
    simp only [r_76_12, r_76_14, r_76_17, r_76_18, r_76_21, r_76_23, r_76_24, r_76_25, r_76_26, r_76_29, r_76_31, r_76_32, r_76_33, r_76_36, sm_0, sm_c, ct_i, ct_r, ct_n, ct_l, ct_d, cB_l, cB_r, tl_s, tl_n, oB_some, fG_r, fG_i, fP_i, aL_ok, rV_some, aI, uC_self, mmI, if_true, if_false, true_or, or_true, Nat.reduceAdd, Nat.reduceLeDiff, Nat.zero_le, Nat.reduceEqDiff, Nat.reduceSub, eq_self, Nat.le_refl, uC_ne, ne_eq, not_false_eq_true, i1_0, i0_1, i16, mm_eta, fd_0_0, fd_0_1, fd_0_2, fd_0_3, fd_0_4, fd_0_5, fd_0_6, fd_0_7, fd_1_0, fd_1_1, fd_1_2, fd_1_3, fd_1_4, fd_1_5, arr_2, arr_3, arr_4, arr_5, arr_6, fd_7_0, fd_7_1, fd_7_2, fd_7_3, fd_7_4, fd_7_5, fd_7_6, arr_8, arr_9, arr_10, arr_11, arr_12, fd_13_0, fd_13_1, fd_13_2, fd_13_3, fd_13_4, arr_14, arr_15, arr_16, arr_17, fd_18_0, fd_18_1, fd_18_2, fd_18_3, fd_18_4, fd_18_5, arr_19, arr_20, arr_21, arr_22, arr_23, fd_24_0, fd_24_1, fd_24_2, fd_24_3, fd_24_4, fd_24_5, fd_24_6, arr_25, arr_26, arr_27, arr_28, arr_29, fd_30_0, fd_30_1, fd_30_2, fd_30_3, fd_30_4, arr_31, arr_32, arr_33, arr_34, fd_35_0, fd_35_1, fd_35_2, fd_35_3, fd_35_4, fd_35_5, fd_35_6, fd_35_7, fd_35_8, fd_35_9, fd_35_10, fd_35_11, fd_35_12, fd_35_13, fd_35_14, fd_35_15, fd_35_16, fd_35_17, arr_36, arr_37, arr_38, arr_39, arr_40, arr_41, arr_42, arr_43, arr_44, arr_45, arr_46, arr_47, p_hi hj16, mmX_nI hj16 (by omega : 16 < 2147483648), nI_1, ih, hc]
    rw [zm_s hj16, zm_s hj16, uC_comm (k := 46) (a := 44) (by omega), uC_uC, uC_uC]
theorem uC_4 {f : Nat → Nat → Int32} {a b c d : Nat → Int32} : uC (uC (uC (uC f 45 a) 44 b) 44 c) 45 d = uC (uC f 44 c) 45 d := by
  rw [uC_uC, uC_comm (k := 45) (a := 44) (by omega), uC_uC]
theorem RefO.c46 {f : Nat → Nat → Int32} {L : List Dd} {w o : Int32} {kk : Nat} {g : Nat → Int32} (h : RefO f L w kk o) (hz : zb g) : RefO (uC f 46 g) L w kk o := h.same (by rw [uC_ne (by omega)]) (by rw [uC_ne (by omega)]) (by rw [uC_ne (by omega)]) (by rw [uC_ne (by omega)]) (fun a ha hb => uC_ne (by omega)) (by rw [uC_ne (by omega)]; exact h.z42) (by rw [uC_ne (by omega)]; exact h.z43) (by rw [uC_ne (by omega)]; exact h.z44) (by rw [uC_self]; exact hz)
theorem l2_76 {kk : Nat} (hk : 1 ≤ kk) (hk2 : kk ≤ 16) : ∀ (n c : Nat), c + n = 16 → ∀ (left : Int32) (v : Value), v.category = 1 → s16 left → pcn left 16 ≤ n → ∀ (M : mmM), cSm 10000 (M.1 43) →
    ∃ v' : Value, v'.category = 1 ∧ rn none 76 39 [.ref 35, .int (nI kk), .int left, .int (nI c), v] [] M = rn none 76 83 [.ref 35, .int (nI kk), .int 0, .int (nI (paR (M.1 42) (M.1 43) (nI kk) n left c (M.1 44) (M.1 45)).1), v'] [] (uC (uC M.1 44 (paR (M.1 42) (M.1 43) (nI kk) n left c (M.1 44) (M.1 45)).2.1) 45 (paR (M.1 42) (M.1 43) (nI kk) n left c (M.1 44) (M.1 45)).2.2, M.2)
  | 0, c, hc, left, v, hv, hs, hp, M, hco => by
    have h0 : left = 0 := Classical.byContradiction fun h => by
      obtain ⟨i, hi, hb⟩ := bit_ex hs h
      have := pcn_pos 16 i hi hb
      omega
    refine ⟨v, hv, ?_⟩
    rw [paR, uC_id, uC_id, h0]
    simp only [r_76_39, r_76_40, sm_0, sm_c, ct_i, ct_r, ct_n, ct_l, ct_d, cB_l, cB_r, tl_s, tl_n, oB_some, fG_r, fG_i, fP_i, aL_ok, rV_some, aI, uC_self, mmI, if_true, if_false, true_or, or_true, Nat.reduceAdd, Nat.reduceLeDiff, Nat.zero_le, Nat.reduceEqDiff, Nat.reduceSub, eq_self, Nat.le_refl, uC_ne, ne_eq, not_false_eq_true, i1_0, i0_1, i16, mm_eta, fd_0_0, fd_0_1, fd_0_2, fd_0_3, fd_0_4, fd_0_5, fd_0_6, fd_0_7, fd_1_0, fd_1_1, fd_1_2, fd_1_3, fd_1_4, fd_1_5, arr_2, arr_3, arr_4, arr_5, arr_6, fd_7_0, fd_7_1, fd_7_2, fd_7_3, fd_7_4, fd_7_5, fd_7_6, arr_8, arr_9, arr_10, arr_11, arr_12, fd_13_0, fd_13_1, fd_13_2, fd_13_3, fd_13_4, arr_14, arr_15, arr_16, arr_17, fd_18_0, fd_18_1, fd_18_2, fd_18_3, fd_18_4, fd_18_5, arr_19, arr_20, arr_21, arr_22, arr_23, fd_24_0, fd_24_1, fd_24_2, fd_24_3, fd_24_4, fd_24_5, fd_24_6, arr_25, arr_26, arr_27, arr_28, arr_29, fd_30_0, fd_30_1, fd_30_2, fd_30_3, fd_30_4, arr_31, arr_32, arr_33, arr_34, fd_35_0, fd_35_1, fd_35_2, fd_35_3, fd_35_4, fd_35_5, fd_35_6, fd_35_7, fd_35_8, fd_35_9, fd_35_10, fd_35_11, fd_35_12, fd_35_13, fd_35_14, fd_35_15, fd_35_16, fd_35_17, arr_36, arr_37, arr_38, arr_39, arr_40, arr_41, arr_42, arr_43, arr_44, arr_45, arr_46, arr_47]
  | n + 1, c, hc, left, v, hv, hs, hp, M, hco => by
    by_cases h0 : left = 0
    · refine ⟨v, hv, ?_⟩
      rw [paR, if_pos h0, uC_id, uC_id, h0]
      simp only [r_76_39, r_76_40, sm_0, sm_c, ct_i, ct_r, ct_n, ct_l, ct_d, cB_l, cB_r, tl_s, tl_n, oB_some, fG_r, fG_i, fP_i, aL_ok, rV_some, aI, uC_self, mmI, if_true, if_false, true_or, or_true, Nat.reduceAdd, Nat.reduceLeDiff, Nat.zero_le, Nat.reduceEqDiff, Nat.reduceSub, eq_self, Nat.le_refl, uC_ne, ne_eq, not_false_eq_true, i1_0, i0_1, i16, mm_eta, fd_0_0, fd_0_1, fd_0_2, fd_0_3, fd_0_4, fd_0_5, fd_0_6, fd_0_7, fd_1_0, fd_1_1, fd_1_2, fd_1_3, fd_1_4, fd_1_5, arr_2, arr_3, arr_4, arr_5, arr_6, fd_7_0, fd_7_1, fd_7_2, fd_7_3, fd_7_4, fd_7_5, fd_7_6, arr_8, arr_9, arr_10, arr_11, arr_12, fd_13_0, fd_13_1, fd_13_2, fd_13_3, fd_13_4, arr_14, arr_15, arr_16, arr_17, fd_18_0, fd_18_1, fd_18_2, fd_18_3, fd_18_4, fd_18_5, arr_19, arr_20, arr_21, arr_22, arr_23, fd_24_0, fd_24_1, fd_24_2, fd_24_3, fd_24_4, fd_24_5, fd_24_6, arr_25, arr_26, arr_27, arr_28, arr_29, fd_30_0, fd_30_1, fd_30_2, fd_30_3, fd_30_4, arr_31, arr_32, arr_33, arr_34, fd_35_0, fd_35_1, fd_35_2, fd_35_3, fd_35_4, fd_35_5, fd_35_6, fd_35_7, fd_35_8, fd_35_9, fd_35_10, fd_35_11, fd_35_12, fd_35_13, fd_35_14, fd_35_15, fd_35_16, fd_35_17, arr_36, arr_37, arr_38, arr_39, arr_40, arr_41, arr_42, arr_43, arr_44, arr_45, arr_46, arr_47]
    · obtain ⟨p, hp16, hb, e⟩ := nxt_in (cl := M.1 42) hk hk2 hco hs h0
      have hpc := pcn_rm hp16 hb 16 (Nat.le_refl _)
      rw [if_pos hp16] at hpc
      obtain ⟨v', hv', ih⟩ := l2_76 hk hk2 n (c + 1) (by omega) (left &&& (bI (nI p) ^^^ (-1))) (.int (nI p)) rfl (s16_and hs) (by omega) (uC (uC M.1 45 (upd (M.1 45) c (nI p))) 44 (upd (M.1 44) p (nI c)), M.2) (by dsimp only; rw [uC_ne (by omega), uC_ne (by omega)]; exact hco)
      refine ⟨v', hv', ?_⟩
      dsimp only at ih
      rw [uC_ne (show (42 : Nat) ≠ 44 by omega), uC_ne (show (42 : Nat) ≠ 45 by omega), uC_ne (show (43 : Nat) ≠ 44 by omega), uC_ne (show (43 : Nat) ≠ 45 by omega), uC_self, uC_ne (show (45 : Nat) ≠ 44 by omega), uC_self, uC_4] at ih
      rw [paR, if_neg h0, e, atP_p hp16, ← ih]
      simp only [r_76_39, r_76_40, r_76_43, r_76_44, r_76_45, r_76_46, r_76_49, r_76_51, r_76_52, r_76_55, r_76_56, r_76_58, r_76_59, r_76_60, r_76_63, r_76_65, r_76_66, r_76_67, r_76_70, r_76_71, r_76_73, r_76_76, r_76_77, r_76_78, r_76_79, r_76_80, sm_0, sm_c, ct_i, ct_r, ct_n, ct_l, ct_d, cB_l, cB_r, tl_s, tl_n, oB_some, fG_r, fG_i, fP_i, aL_ok, rV_some, aI, uC_self, mmI, if_true, if_false, true_or, or_true, Nat.reduceAdd, Nat.reduceLeDiff, Nat.zero_le, Nat.reduceEqDiff, Nat.reduceSub, eq_self, Nat.le_refl, uC_ne, ne_eq, not_false_eq_true, i1_0, i0_1, i16, mm_eta, fd_0_0, fd_0_1, fd_0_2, fd_0_3, fd_0_4, fd_0_5, fd_0_6, fd_0_7, fd_1_0, fd_1_1, fd_1_2, fd_1_3, fd_1_4, fd_1_5, arr_2, arr_3, arr_4, arr_5, arr_6, fd_7_0, fd_7_1, fd_7_2, fd_7_3, fd_7_4, fd_7_5, fd_7_6, arr_8, arr_9, arr_10, arr_11, arr_12, fd_13_0, fd_13_1, fd_13_2, fd_13_3, fd_13_4, arr_14, arr_15, arr_16, arr_17, fd_18_0, fd_18_1, fd_18_2, fd_18_3, fd_18_4, fd_18_5, arr_19, arr_20, arr_21, arr_22, arr_23, fd_24_0, fd_24_1, fd_24_2, fd_24_3, fd_24_4, fd_24_5, fd_24_6, arr_25, arr_26, arr_27, arr_28, arr_29, fd_30_0, fd_30_1, fd_30_2, fd_30_3, fd_30_4, arr_31, arr_32, arr_33, arr_34, fd_35_0, fd_35_1, fd_35_2, fd_35_3, fd_35_4, fd_35_5, fd_35_6, fd_35_7, fd_35_8, fd_35_9, fd_35_10, fd_35_11, fd_35_12, fd_35_13, fd_35_14, fd_35_15, fd_35_16, fd_35_17, arr_36, arr_37, arr_38, arr_39, arr_40, arr_41, arr_42, arr_43, arr_44, arr_45, arr_46, arr_47, h0, s_72 hk hk2 hco, e, hv, mmX_nI (show c < 16 by omega) (by omega : 16 < 2147483648), mmX_nI hp16 (by omega : 16 < 2147483648), s_66p hp16, nI_1]
theorem hpR_in {hk pa : Nat → Int32} {pr rv : Int32} (hP : PAi hk pa) : ∀ (n : Nat), hpR hk pa pr rv n = -1 ∨ ∃ h, h < 16 ∧ hpR hk pa pr rv n = nI h
  | 0 => Or.inl rfl
  | n + 1 => by
    rw [hpR]
    split
    · exact hP.2 _ (by omega)
    · exact hpR_in hP n
theorem ffR_in {pa : Nat → Int32} {rv : Int32} {kk : Nat} (hk : kk ≤ 16) : ∀ (n : Nat), n ≤ kk → ffR pa rv kk n = -1 ∨ ∃ h, h < 16 ∧ ffR pa rv kk n = nI h
  | 0, _ => Or.inl rfl
  | n + 1, h => by
    rw [ffR]
    split
    · exact Or.inr ⟨kk - (n + 1), by omega, rfl⟩
    · exact ffR_in hk n (by omega)
theorem chs_in {cl po : Nat → Int32} {kk p : Nat} {s : huT} (hk : kk ≤ 16) (hP : PAi s.1 s.2.1) : chs cl po kk p s = -1 ∨ ∃ h, h < 16 ∧ chs cl po kk p s = nI h := by
  unfold chs
  split
  · exact ffR_in hk kk (Nat.le_refl _)
  · exact hpR_in hP 16
theorem huS_m1 {cl po : Nat → Int32} {kk p : Nat} {s : huT} (hp : p < 16) (h : chs cl po kk p s = -1) : huS cl po kk (nI p) s = (s.1, s.2.1, s.2.2 ||| bI (nI p)) := by
  unfold huS
  rw [if_neg (by rw [p_lo (by omega)]; exact id), if_neg (by rw [p_hi hp]; exact id), nI_clamp (by omega), h, if_pos (by decide)]
theorem huS_h {cl po : Nat → Int32} {kk p q : Nat} {s : huT} (hp : p < 16) (hq : q < 16) (h : chs cl po kk p s = nI q) : huS cl po kk (nI p) s = (upd s.1 p (nI q), upd s.2.1 q (s.2.1 q ||| bI (nI p)), s.2.2) := by
  unfold huS
  rw [if_neg (by rw [p_lo (by omega)]; exact id), if_neg (by rw [p_hi hp]; exact id), nI_clamp (by omega), h, if_neg (by rw [p_lo (by omega)]; exact id), if_neg (by rw [p_hi hq]; exact id), nI_clamp (by omega)]
theorem PAi_upd {hk pa : Nat → Int32} (hP : PAi hk pa) {p q : Nat} (hp : p < 16) (hq : q < 16) (hm : hk p = -1) : PAi (upd hk p (nI q)) (upd pa q (pa q ||| bI (nI p))) := by
  refine ⟨fun h hh i hi => ?_, fun i hi => ?_⟩
  · by_cases hqh : h = q
    · subst hqh
      rw [upd_at, b_or, hP.1 h hh i hi, bt_bI hp]
      by_cases hip : i = p
      · subst hip
        rw [upd_at]
        simp [hp]
      · rw [upd_ne hip]
        simp [hip]
    · rw [upd_ne hqh, hP.1 h hh i hi]
      by_cases hip : i = p
      · subst hip
        rw [upd_at, hm, nI_dec hq hh]
        have h1 : ¬ (-1 : Int32) = nI h := fun e => nI_m1 hh e.symm
        simp [h1, Ne.symm hqh]
      · rw [upd_ne hip]
  · by_cases hip : i = p
    · subst hip
      rw [upd_at]
      exact Or.inr ⟨q, hq, rfl⟩
    · rw [upd_ne hip]
      exact hP.2 i hi
theorem PAi_huS {cl po : Nat → Int32} {kk p : Nat} {s : huT} (hk : kk ≤ 16) (hp : p < 16) (hP : PAi s.1 s.2.1) (hm : s.1 p = -1) : PAi (huS cl po kk (nI p) s).1 (huS cl po kk (nI p) s).2.1 ∧ (huS cl po kk (nI p) s).1 = upd s.1 p (chs cl po kk p s) := by
  rcases chs_in (cl := cl) (po := po) (p := p) hk hP with h | ⟨q, hq, h⟩
  · rw [huS_m1 hp h, h]
    refine ⟨hP, ?_⟩
    rw [← hm, upd_id]
  · rw [huS_h hp hq h, h]
    exact ⟨PAi_upd hP hp hq hm, rfl⟩
theorem l3_76 {L : List Dd} {w o : Int32} {kk K : Nat} (hk : kk ≤ 16) {a b : Value} (hb : b.category = 1) : ∀ (n : Nat), n ≤ 16 → ∀ (M : mmM) (pa : Nat → Int32) (fl : Int32), RefO M.1 L w K o → PAi (M.1 46) pa → (∀ j, j < n → ∃ p, p < 16 ∧ M.1 45 j = nI p ∧ M.1 46 p = -1) → (∀ i j, i < j → j < n → ¬ M.1 45 i = M.1 45 j) →
    rn none 76 88 [.ref 35, .int (nI kk), a, b, .int (dn n)] [] M = some (.inl none, (uC M.1 46 (hgR (M.1 42) (STU (rm (qo o) 0 L) w).2.2.1 kk (M.1 45) n (M.1 46, pa, fl)).1, M.2))
  | 0, hn, M, pa, fl, h, hP, hA, hD => by
    rw [r_76_88, hgR, uC_id, dn_0]
    simp only [r_76_90, r_76_123, sm_0, sm_c, ct_i, ct_r, ct_n, ct_l, ct_d, cB_l, cB_r, tl_s, tl_n, oB_some, fG_r, fG_i, fP_i, aL_ok, rV_some, aI, uC_self, mmI, if_true, if_false, true_or, or_true, Nat.reduceAdd, Nat.reduceLeDiff, Nat.zero_le, Nat.reduceEqDiff, Nat.reduceSub, eq_self, Nat.le_refl, uC_ne, ne_eq, not_false_eq_true, i1_0, i0_1, i16, mm_eta, fd_0_0, fd_0_1, fd_0_2, fd_0_3, fd_0_4, fd_0_5, fd_0_6, fd_0_7, fd_1_0, fd_1_1, fd_1_2, fd_1_3, fd_1_4, fd_1_5, arr_2, arr_3, arr_4, arr_5, arr_6, fd_7_0, fd_7_1, fd_7_2, fd_7_3, fd_7_4, fd_7_5, fd_7_6, arr_8, arr_9, arr_10, arr_11, arr_12, fd_13_0, fd_13_1, fd_13_2, fd_13_3, fd_13_4, arr_14, arr_15, arr_16, arr_17, fd_18_0, fd_18_1, fd_18_2, fd_18_3, fd_18_4, fd_18_5, arr_19, arr_20, arr_21, arr_22, arr_23, fd_24_0, fd_24_1, fd_24_2, fd_24_3, fd_24_4, fd_24_5, fd_24_6, arr_25, arr_26, arr_27, arr_28, arr_29, fd_30_0, fd_30_1, fd_30_2, fd_30_3, fd_30_4, arr_31, arr_32, arr_33, arr_34, fd_35_0, fd_35_1, fd_35_2, fd_35_3, fd_35_4, fd_35_5, fd_35_6, fd_35_7, fd_35_8, fd_35_9, fd_35_10, fd_35_11, fd_35_12, fd_35_13, fd_35_14, fd_35_15, fd_35_16, fd_35_17, arr_36, arr_37, arr_38, arr_39, arr_40, arr_41, arr_42, arr_43, arr_44, arr_45, arr_46, arr_47, im1]
  | n + 1, hn, M, pa, fl, h, hP, hA, hD => by
    have hn16 : n < 16 := by omega
    obtain ⟨p, hp, e, hm⟩ := hA n (by omega)
    have h75 := s_75 (fl := fl) hp hk h hP hm
    have hS := PAi_huS (cl := M.1 42) (po := (STU (rm (qo o) 0 L) w).2.2.1) (s := (M.1 46, pa, fl)) hk hp hP hm
    obtain ⟨y, hy⟩ : ∃ y, y = chs (M.1 42) (STU (rm (qo o) 0 L) w).2.2.1 kk p (M.1 46, pa, fl) := ⟨_, rfl⟩
    obtain ⟨s, hs⟩ : ∃ s, s = huS (M.1 42) (STU (rm (qo o) 0 L) w).2.2.1 kk (nI p) (M.1 46, pa, fl) := ⟨_, rfl⟩
    rw [← hy] at h75 hS
    rw [← hs] at hS
    dsimp only at hS
    have ih := l3_76 (a := a) hk hb n (by omega) (uC M.1 46 (upd (M.1 46) p y), M.2) s.2.1 s.2.2
      (h.c46 (zb_upd h.z46 hp))
      (by dsimp only; rw [uC_self, ← hS.2]; exact hS.1)
      (fun j hj => by
        obtain ⟨q, hq, e2, hm2⟩ := hA j (by omega)
        refine ⟨q, hq, by dsimp only; rw [uC_ne (by omega)]; exact e2, ?_⟩
        dsimp only
        rw [uC_self, upd_ne ?_]
        · exact hm2
        · intro hqp
          exact hD j n hj (by omega) (by rw [e2, e, hqp]))
      (fun i j hi hj => by dsimp only; rw [uC_ne (by omega)]; exact hD i j hi (by omega))
    dsimp only at ih
    rw [uC_self, uC_uC, uC_ne (show (42 : Nat) ≠ 46 by omega), uC_ne (show (45 : Nat) ≠ 46 by omega), ← hS.2, show (s.1, s.2.1, s.2.2) = s from rfl] at ih
    rw [hgR, e, ← hs, ← ih, r_76_88, dn_s]
    simp only [r_76_90, r_76_93, r_76_94, r_76_97, r_76_98, r_76_101, r_76_103, r_76_104, r_76_105, r_76_106, r_76_109, r_76_111, r_76_112, r_76_113, r_76_116, r_76_117, r_76_120, sm_0, sm_c, ct_i, ct_r, ct_n, ct_l, ct_d, cB_l, cB_r, tl_s, tl_n, oB_some, fG_r, fG_i, fP_i, aL_ok, rV_some, aI, uC_self, mmI, if_true, if_false, true_or, or_true, Nat.reduceAdd, Nat.reduceLeDiff, Nat.zero_le, Nat.reduceEqDiff, Nat.reduceSub, eq_self, Nat.le_refl, uC_ne, ne_eq, not_false_eq_true, i1_0, i0_1, i16, mm_eta, fd_0_0, fd_0_1, fd_0_2, fd_0_3, fd_0_4, fd_0_5, fd_0_6, fd_0_7, fd_1_0, fd_1_1, fd_1_2, fd_1_3, fd_1_4, fd_1_5, arr_2, arr_3, arr_4, arr_5, arr_6, fd_7_0, fd_7_1, fd_7_2, fd_7_3, fd_7_4, fd_7_5, fd_7_6, arr_8, arr_9, arr_10, arr_11, arr_12, fd_13_0, fd_13_1, fd_13_2, fd_13_3, fd_13_4, arr_14, arr_15, arr_16, arr_17, fd_18_0, fd_18_1, fd_18_2, fd_18_3, fd_18_4, fd_18_5, arr_19, arr_20, arr_21, arr_22, arr_23, fd_24_0, fd_24_1, fd_24_2, fd_24_3, fd_24_4, fd_24_5, fd_24_6, arr_25, arr_26, arr_27, arr_28, arr_29, fd_30_0, fd_30_1, fd_30_2, fd_30_3, fd_30_4, arr_31, arr_32, arr_33, arr_34, fd_35_0, fd_35_1, fd_35_2, fd_35_3, fd_35_4, fd_35_5, fd_35_6, fd_35_7, fd_35_8, fd_35_9, fd_35_10, fd_35_11, fd_35_12, fd_35_13, fd_35_14, fd_35_15, fd_35_16, fd_35_17, arr_36, arr_37, arr_38, arr_39, arr_40, arr_41, arr_42, arr_43, arr_44, arr_45, arr_46, arr_47, p_lo (show n < 2147483648 by omega), mmX_nI hn16 (by omega : 16 < 2147483648), e, h75, mmX_nI hp (by omega : 16 < 2147483648), dn_dec, hS.2, hb]
/-- the pots put aside so far, of those there -/
def paI (th left : Int32) (c : Nat) (as : Nat → Int32) : Prop := (∀ j, j < c → ∃ p, p < 16 ∧ as j = nI p ∧ bt left p = false ∧ bt th p = true) ∧ (∀ i j, i < j → j < c → ¬ as i = as j) ∧ (∀ p, p < 16 → bt th p = true → bt left p = true ∨ ∃ j, j < c ∧ as j = nI p) ∧ (∀ p, p < 16 → bt left p = true → bt th p = true)
theorem paR_inv {th : Int32} {cl co : Nat → Int32} {kk : Nat} (hk : 1 ≤ kk) (hk2 : kk ≤ 16) (hco : cSm 10000 co) : ∀ (n c : Nat), c + n = 16 → ∀ (left : Int32) (pl as : Nat → Int32), s16 left → pcn left 16 ≤ n → paI th left c as → paI th 0 (paR cl co (nI kk) n left c pl as).1 (paR cl co (nI kk) n left c pl as).2.2 ∧ (paR cl co (nI kk) n left c pl as).1 ≤ 16
  | 0, c, hc, left, pl, as, hs, hp, hI => by
    have h0 : left = 0 := Classical.byContradiction fun h => by
      obtain ⟨i, hi, hb⟩ := bit_ex hs h
      have := pcn_pos 16 i hi hb
      omega
    rw [paR, ← h0]
    exact ⟨hI, by dsimp only; omega⟩
  | n + 1, c, hc, left, pl, as, hs, hp, hI => by
    by_cases h0 : left = 0
    · rw [paR, if_pos h0]
      rw [h0] at hI
      exact ⟨hI, by dsimp only; omega⟩
    · obtain ⟨p, hp16, hb, e⟩ := nxt_in (cl := cl) hk hk2 hco hs h0
      have hpc := pcn_rm hp16 hb 16 (Nat.le_refl _)
      rw [if_pos hp16] at hpc
      rw [paR, if_neg h0, e]
      have hr : ∀ i, i < 16 → bt (left &&& (bI (nI p) ^^^ (-1))) i = (bt left i && decide (¬ i = p)) := fun i hi => by
        rw [b_and, bt_not _ (by omega), bt_bI hp16]; simp
      refine paR_inv hk hk2 hco n (c + 1) (by omega) _ _ _ (s16_and hs) (by omega) ⟨fun j hj => ?_, fun i j hi hj => ?_, fun q hq hth => ?_, fun q hq hl => ?_⟩
      · by_cases hjc : j = c
        · subst hjc
          exact ⟨p, hp16, upd_at _ _ _, by rw [hr p hp16]; simp, hI.2.2.2 p hp16 hb⟩
        · obtain ⟨q, hq, e2, hl, ht⟩ := hI.1 j (by omega)
          exact ⟨q, hq, by rw [upd_ne hjc]; exact e2, by rw [hr q hq, hl]; rfl, ht⟩
      · by_cases hjc : j = c
        · subst hjc
          rw [upd_at, upd_ne (by omega)]
          obtain ⟨q, hq, e2, hl, ht⟩ := hI.1 i (by omega)
          rw [e2]
          intro e3
          have := (nI_eq (show q < 2 ^ 31 by omega) (show p < 2 ^ 31 by omega)).mp e3
          rw [this, hb] at hl
          cases hl
        · rw [upd_ne hjc, upd_ne (by omega)]
          exact hI.2.1 i j hi (by omega)
      · by_cases hqp : q = p
        · exact Or.inr ⟨c, by omega, by rw [upd_at, hqp]⟩
        · rcases hI.2.2.1 q hq hth with h | ⟨j, hj, e2⟩
          · exact Or.inl (by rw [hr q hq, h]; simp [hqp])
          · exact Or.inr ⟨j, by omega, by rw [upd_ne (by omega)]; exact e2⟩
      · rw [hr q hq] at hl
        simp only [Bool.and_eq_true] at hl
        exact hI.2.2.2 q hq hl.1
def hgI (C : Nat) (as : Nat → Int32) (n : Nat) (s : huT) : Prop := PAi s.1 s.2.1 ∧ s16 s.2.2 ∧ (∀ j, j < n → ∃ p, p < 16 ∧ as j = nI p ∧ s.1 p = -1) ∧ (∀ q, q < 16 → (bt s.2.2 q = true ↔ (∃ j, n ≤ j ∧ j < C ∧ as j = nI q) ∧ s.1 q = -1))
theorem hgR_inv {cl po : Nat → Int32} {kk C : Nat} {as : Nat → Int32} (hk : kk ≤ 16) (hD : ∀ i j, i < j → j < C → ¬ as i = as j) : ∀ (n : Nat), n ≤ C → ∀ (s : huT), hgI C as n s → hgI C as 0 (hgR cl po kk as n s)
  | 0, _, s, h => h
  | n + 1, hn, s, h => by
    obtain ⟨p, hp, e, hm⟩ := h.2.2.1 n (by omega)
    have hS := PAi_huS (cl := cl) (po := po) (s := s) hk hp h.1 hm
    rw [hgR, e]
    refine hgR_inv hk hD n (by omega) _ ⟨hS.1, ?_, fun j hj => ?_, fun q hq => ?_⟩
    · rcases chs_in (cl := cl) (po := po) (p := p) hk h.1 with hc | ⟨x, hx, hc⟩
      · rw [huS_m1 hp hc]; exact s16_or h.2.1 (s16_bI (Or.inr ⟨p, hp, rfl⟩))
      · rw [huS_h hp hx hc]; exact h.2.1
    · obtain ⟨q, hq, e2, hm2⟩ := h.2.2.1 j (by omega)
      refine ⟨q, hq, e2, ?_⟩
      rw [hS.2, upd_ne ?_]
      · exact hm2
      · intro hqp
        exact hD j n hj (by omega) (by rw [e2, e, hqp])
    · have hold := h.2.2.2 q hq
      rcases chs_in (cl := cl) (po := po) (p := p) hk h.1 with hc | ⟨x, hx, hc⟩
      · rw [huS_m1 hp hc]
        dsimp only
        rw [b_or, bt_bI hp]
        by_cases hqp : q = p
        · subst hqp
          simp only [decide_true, Bool.or_true, true_iff]
          exact ⟨⟨n, Nat.le_refl _, by omega, e⟩, hm⟩
        · simp only [hqp, decide_false, Bool.or_false]
          rw [hold]
          refine ⟨fun hh => ⟨?_, hh.2⟩, fun hh => ⟨?_, hh.2⟩⟩
          · obtain ⟨j, h1, h2, h3⟩ := hh.1
            exact ⟨j, by omega, h2, h3⟩
          · obtain ⟨j, h1, h2, h3⟩ := hh.1
            refine ⟨j, ?_, h2, h3⟩
            by_cases hjn : j = n
            · rw [hjn, e] at h3
              exact absurd ((nI_eq (show p < 2 ^ 31 by omega) (show q < 2 ^ 31 by omega)).mp h3).symm hqp
            · omega
      · rw [huS_h hp hx hc]
        dsimp only
        by_cases hqp : q = p
        · subst hqp
          rw [upd_at, hold]
          refine ⟨fun hh => ?_, fun hh => absurd hh.2 (nI_m1 hx)⟩
          obtain ⟨j, h1, h2, h3⟩ := hh.1
          exact absurd (by rw [e, h3]) (hD n j (by omega) h2)
        · rw [upd_ne hqp, hold]
          refine ⟨fun hh => ⟨?_, hh.2⟩, fun hh => ⟨?_, hh.2⟩⟩
          · obtain ⟨j, h1, h2, h3⟩ := hh.1
            exact ⟨j, by omega, h2, h3⟩
          · obtain ⟨j, h1, h2, h3⟩ := hh.1
            refine ⟨j, ?_, h2, h3⟩
            by_cases hjn : j = n
            · rw [hjn, e] at h3
              exact absurd ((nI_eq (show p < 2 ^ 31 by omega) (show q < 2 ^ 31 by omega)).mp h3).symm hqp
            · omega
theorem s16_thF : ∀ (L : List Dd) (t : Int32), okL L → s16 t → s16 (thF L t)
  | [], _, _, h => h
  | d :: L, t, hO, h => by
    have hd := hO d List.mem_cons_self
    exact s16_thF L _ (fun x hx => hO x (List.mem_cons_of_mem _ hx)) (s16_or h (s16_or (s16_bI (Or.inr hd.1)) (s16_usd hd)))
theorem s16_th {L : List Dd} {w : Int32} (hO : okL L) (hw : s16 w) : s16 (STU L w).1 := by
  unfold STU
  rw [stF_eq]
  exact s16_thF L w hO hw
theorem PAi_0 : PAi n16 zf := ⟨fun h hh i hi => by
    rw [show zf h = 0 from rfl, b_0]
    by_cases h16 : i < 16
    · have : n16 i = -1 := by unfold n16; rw [if_pos h16]
      rw [this]
      have h2 : ¬ (-1 : Int32) = nI h := fun e => nI_m1 hh e.symm
      simp [h2]
    · simp [h16], fun i hi => Or.inl (by unfold n16; rw [if_pos hi])⟩
theorem PLA_inv {L : List Dd} {w : Int32} {kk : Nat} (hO : okL L) (hl : L.length ≤ 30) (hw : s16 w) (hk : 1 ≤ kk) (hk2 : kk ≤ 16) : paI (STU L w).1 0 (PLA (STU L w) kk).1 (PLA (STU L w) kk).2.2 ∧ (PLA (STU L w) kk).1 ≤ 16 :=
  paR_inv hk hk2 (cSm_STU hO hl) 16 0 (by omega) _ _ _ (s16_th hO hw) (pcn_le _ 16) ⟨fun j hj => absurd hj (by omega), fun i j _ hj => absurd hj (by omega), fun p hp h => Or.inl h, fun p hp h => h⟩
theorem HG_inv {L : List Dd} {w : Int32} {kk : Nat} (hO : okL L) (hl : L.length ≤ 30) (hw : s16 w) (hk : 1 ≤ kk) (hk2 : kk ≤ 16) : PAi (HG L w kk).1 (HG L w kk).2.1 ∧ s16 (HG L w kk).2.2 ∧ ∀ q, q < 16 → bt (HG L w kk).2.2 q = (bt (STU L w).1 q && decide ((HG L w kk).1 q = -1)) := by
  obtain ⟨hA, hC⟩ := PLA_inv hO hl hw hk hk2
  have h0 := hgR_inv (cl := (STU L w).2.1) (po := (STU L w).2.2.1) (kk := kk) hk2 hA.2.1 _ (Nat.le_refl _) (n16, zf, 0) ⟨PAi_0, s16_0, fun j hj => by
    obtain ⟨p, hp, e, _⟩ := hA.1 j hj
    exact ⟨p, hp, e, by show n16 p = -1; unfold n16; rw [if_pos hp]⟩, fun q hq => by
    dsimp only
    rw [b_0]
    exact ⟨fun h => (by cases h), fun h => by
      obtain ⟨j, h1, h2, _⟩ := h.1
      omega⟩⟩
  refine ⟨h0.1, h0.2.1, fun q hq => ?_⟩
  have h1 := h0.2.2.2 q hq
  have hth : (∃ j, 0 ≤ j ∧ j < (PLA (STU L w) kk).1 ∧ (PLA (STU L w) kk).2.2 j = nI q) ↔ bt (STU L w).1 q = true := by
    constructor
    · rintro ⟨j, _, hj, e⟩
      obtain ⟨p, hp, e2, _, ht⟩ := hA.1 j hj
      rw [e2] at e
      rw [← (nI_eq (show p < 2 ^ 31 by omega) (show q < 2 ^ 31 by omega)).mp e]
      exact ht
    · intro h
      rcases hA.2.2.1 q hq h with h2 | ⟨j, hj, e⟩
      · rw [b_0] at h2; cases h2
      · exact ⟨j, by omega, hj, e⟩
  rw [hth] at h1
  have h2 : bt (HG L w kk).2.2 q = true ↔ (bt (STU L w).1 q && decide ((HG L w kk).1 q = -1)) = true := by
    simp only [Bool.and_eq_true, decide_eq_true_eq]
    exact h1
  exact Bool.eq_iff_iff.mpr h2
set_option maxHeartbeats 4000000 in
theorem s_76 {L : List Dd} {w o : Int32} {kk K : Nat} (hk : 1 ≤ kk) (hk2 : kk ≤ 16) {M : mmM} (h : RefO M.1 L w K o) (hL : Look M.1 L w o) :
    ∃ f', rn none 76 0 [.ref 35, .int (nI kk), .null, .null, .null] [] M = some (.inl none, (f', M.2)) ∧ f' 44 = PL (rm (qo o) 0 L) w kk ∧ f' 46 = (HG (rm (qo o) 0 L) w kk).1 ∧ (∀ a, a ≠ 44 → a ≠ 45 → a ≠ 46 → f' a = M.1 a) ∧ RefO f' L w K o := by
  obtain ⟨A, hA⟩ : ∃ A, A = rm (qo o) 0 L := ⟨_, rfl⟩
  have hOA : okL A := by rw [hA]; exact rm_ok 0 h.ok
  have hlA : A.length ≤ 30 := by
    rw [hA]
    have : ∀ (X : List Dd) (j : Nat), (rm (qo o) j X).length ≤ X.length := by
      intro X
      induction X with
      | nil => intro j; exact Nat.le_refl _
      | cons x X ih =>
        intro j
        rw [rm]
        have := ih (j + 1)
        split <;> simp only [List.length_cons] <;> omega
    exact Nat.le_trans (this L 0) h.le
  obtain ⟨L42, L43, L12, L11, _⟩ := hL
  rw [← hA] at L42 L43 L12 L11
  have hs := s16_th hOA h.s16
  have hco : cSm 10000 (M.1 43) := by rw [L43]; exact cSm_STU hOA hlA
  have a1 := l1_76 (a := .int (nI kk)) (b := .int (STU A w).1) (c := .int 0) rfl 16 0 (by omega) M
  rw [nI_0, zm_0 h.z44, zm_0 h.z46] at a1
  obtain ⟨F, hF⟩ : ∃ F, F = uC (uC M.1 44 n16) 46 n16 := ⟨_, rfl⟩
  rw [← hF] at a1
  have F42 : F 42 = (STU A w).2.1 := by rw [hF, uC_ne (by omega), uC_ne (by omega), L42]
  have F43 : F 43 = (STU A w).2.2.2 := by rw [hF, uC_ne (by omega), uC_ne (by omega), L43]
  have F44 : F 44 = n16 := by rw [hF, uC_ne (by omega), uC_self]
  have F46 : F 46 = n16 := by rw [hF, uC_self]
  obtain ⟨v', hv', a2⟩ := l2_76 hk hk2 16 0 (by omega) (STU A w).1 (.int 16) rfl hs (pcn_le _ 16) (F, M.2) (by dsimp only; rw [F43, ← L43]; exact hco)
  dsimp only at a2
  rw [F42, F43, F44, nI_0] at a2
  have has := paR_as (STU A w).2.1 (STU A w).2.2.2 (nI kk) 16 (STU A w).1 0 n16 (F 45) zf (fun i hi => absurd hi (by omega))
  obtain ⟨P, hP⟩ : ∃ P, P = paR (STU A w).2.1 (STU A w).2.2.2 (nI kk) 16 (STU A w).1 0 n16 (F 45) := ⟨_, rfl⟩
  rw [← hP] at a2 has
  have hPL : paR (STU A w).2.1 (STU A w).2.2.2 (nI kk) 16 (STU A w).1 0 n16 zf = PLA (STU A w) kk := rfl
  rw [hPL] at has
  obtain ⟨hI, hC⟩ := PLA_inv hOA hlA h.s16 hk hk2
  rw [← has.1] at hI hC
  obtain ⟨G, hG⟩ : ∃ G, G = uC (uC F 44 P.2.1) 45 P.2.2 := ⟨_, rfl⟩
  rw [← hG] at a2
  have G42 : G 42 = (STU A w).2.1 := by rw [hG, uC_ne (by omega), uC_ne (by omega), F42]
  have G45 : G 45 = P.2.2 := by rw [hG, uC_self]
  have G46 : G 46 = n16 := by rw [hG, uC_ne (by omega), uC_ne (by omega), F46]
  have G44 : G 44 = PL A w kk := by rw [hG, uC_ne (by omega), uC_self, has.2.1]; rfl
  have Goth : ∀ a, a ≠ 44 → a ≠ 45 → a ≠ 46 → G a = M.1 a := fun a h1 h2 h3 => by rw [hG, uC_ne h2, uC_ne h1, hF, uC_ne h3, uC_ne h1]
  have hzPL : zb (PL A w kk) := zb_paR _ _ _ _ _ zb_n16
  have hRG : RefO G L w K o := h.same (by rw [Goth 35 (by omega) (by omega) (by omega)]) (by rw [Goth 35 (by omega) (by omega) (by omega)]) (by rw [Goth 35 (by omega) (by omega) (by omega)]) (by rw [Goth 35 (by omega) (by omega) (by omega)]) (fun a ha hb => Goth a (by omega) (by omega) (by omega)) (by rw [Goth 42 (by omega) (by omega) (by omega)]; exact h.z42) (by rw [Goth 43 (by omega) (by omega) (by omega)]; exact h.z43) (by rw [G44]; exact hzPL) (by rw [G46]; exact zb_n16)
  have a3 := l3_76 (L := L) (w := w) (o := o) (K := K) (a := .int 0) (b := .int (nI P.1)) hk2 rfl P.1 hC (G, M.2) zf 0 hRG (by dsimp only; rw [G46]; exact PAi_0)
    (fun j hj => by
      obtain ⟨p, hp, e, _⟩ := hI.1 j hj
      refine ⟨p, hp, by dsimp only; rw [G45, has.2.2 j hj]; exact e, by dsimp only; rw [G46]; unfold n16; rw [if_pos hp]⟩)
    (fun i j hi hj => by dsimp only; rw [G45, has.2.2 i (by omega), has.2.2 j hj]; exact hI.2.1 i j hi hj)
  dsimp only at a3
  rw [G42, G45, G46, ← hA, hgR_as P.1 _ has.2.2] at a3
  have hH : hgR (STU A w).2.1 (STU A w).2.2.1 kk (PLA (STU A w) kk).2.2 P.1 (n16, zf, 0) = HG A w kk := by rw [has.1]; rfl
  rw [hH] at a3
  have hzH : zb (HG A w kk).1 := (zbU_hgR _ _ ⟨zb_n16, zb_zf⟩ : zbU (HGA (STU A w) kk)).1
  refine ⟨uC G 46 (HG A w kk).1, ?_, ?_, ?_, fun a h1 h2 h3 => ?_, ?_⟩
  · simp only [r_76_0, r_76_1, r_76_4, r_76_5, r_76_6, r_76_7, r_76_8, sm_0, sm_c, ct_i, ct_r, ct_n, ct_l, ct_d, cB_l, cB_r, tl_s, tl_n, oB_some, fG_r, fG_i, fP_i, aL_ok, rV_some, aI, uC_self, mmI, if_true, if_false, true_or, or_true, Nat.reduceAdd, Nat.reduceLeDiff, Nat.zero_le, Nat.reduceEqDiff, Nat.reduceSub, eq_self, Nat.le_refl, uC_ne, ne_eq, not_false_eq_true, i1_0, i0_1, i16, mm_eta, fd_0_0, fd_0_1, fd_0_2, fd_0_3, fd_0_4, fd_0_5, fd_0_6, fd_0_7, fd_1_0, fd_1_1, fd_1_2, fd_1_3, fd_1_4, fd_1_5, arr_2, arr_3, arr_4, arr_5, arr_6, fd_7_0, fd_7_1, fd_7_2, fd_7_3, fd_7_4, fd_7_5, fd_7_6, arr_8, arr_9, arr_10, arr_11, arr_12, fd_13_0, fd_13_1, fd_13_2, fd_13_3, fd_13_4, arr_14, arr_15, arr_16, arr_17, fd_18_0, fd_18_1, fd_18_2, fd_18_3, fd_18_4, fd_18_5, arr_19, arr_20, arr_21, arr_22, arr_23, fd_24_0, fd_24_1, fd_24_2, fd_24_3, fd_24_4, fd_24_5, fd_24_6, arr_25, arr_26, arr_27, arr_28, arr_29, fd_30_0, fd_30_1, fd_30_2, fd_30_3, fd_30_4, arr_31, arr_32, arr_33, arr_34, fd_35_0, fd_35_1, fd_35_2, fd_35_3, fd_35_4, fd_35_5, fd_35_6, fd_35_7, fd_35_8, fd_35_9, fd_35_10, fd_35_11, fd_35_12, fd_35_13, fd_35_14, fd_35_15, fd_35_16, fd_35_17, arr_36, arr_37, arr_38, arr_39, arr_40, arr_41, arr_42, arr_43, arr_44, arr_45, arr_46, arr_47, L12, a1, a2]
    simp only [r_76_83, r_76_84, r_76_85, r_76_86, sm_0, sm_c, ct_i, ct_r, ct_n, ct_l, ct_d, cB_l, cB_r, tl_s, tl_n, oB_some, fG_r, fG_i, fP_i, aL_ok, rV_some, aI, uC_self, mmI, if_true, if_false, true_or, or_true, Nat.reduceAdd, Nat.reduceLeDiff, Nat.zero_le, Nat.reduceEqDiff, Nat.reduceSub, eq_self, Nat.le_refl, uC_ne, ne_eq, not_false_eq_true, i1_0, i0_1, i16, mm_eta, fd_0_0, fd_0_1, fd_0_2, fd_0_3, fd_0_4, fd_0_5, fd_0_6, fd_0_7, fd_1_0, fd_1_1, fd_1_2, fd_1_3, fd_1_4, fd_1_5, arr_2, arr_3, arr_4, arr_5, arr_6, fd_7_0, fd_7_1, fd_7_2, fd_7_3, fd_7_4, fd_7_5, fd_7_6, arr_8, arr_9, arr_10, arr_11, arr_12, fd_13_0, fd_13_1, fd_13_2, fd_13_3, fd_13_4, arr_14, arr_15, arr_16, arr_17, fd_18_0, fd_18_1, fd_18_2, fd_18_3, fd_18_4, fd_18_5, arr_19, arr_20, arr_21, arr_22, arr_23, fd_24_0, fd_24_1, fd_24_2, fd_24_3, fd_24_4, fd_24_5, fd_24_6, arr_25, arr_26, arr_27, arr_28, arr_29, fd_30_0, fd_30_1, fd_30_2, fd_30_3, fd_30_4, arr_31, arr_32, arr_33, arr_34, fd_35_0, fd_35_1, fd_35_2, fd_35_3, fd_35_4, fd_35_5, fd_35_6, fd_35_7, fd_35_8, fd_35_9, fd_35_10, fd_35_11, fd_35_12, fd_35_13, fd_35_14, fd_35_15, fd_35_16, fd_35_17, arr_36, arr_37, arr_38, arr_39, arr_40, arr_41, arr_42, arr_43, arr_44, arr_45, arr_46, arr_47, hv', dn_sub, a3]
  · rw [uC_ne (by omega), G44, hA]
  · rw [uC_self, hA]
  · rw [uC_ne h3]; exact Goth a h1 h2 h3
  · exact hRG.c46 hzH
