/-! the reference: clashAll, add, look -/
theorem s16_0 : s16 0 := fun i _ => b_0 i
theorem s16_or {x y : Int32} (h : s16 x) (h2 : s16 y) : s16 (x ||| y) := fun i hi => by rw [b_or, h i hi, h2 i hi]; rfl
theorem s16_and {x y : Int32} (h : s16 x) : s16 (x &&& y) := fun i hi => by rw [b_and, h i hi]; rfl
theorem s16_bI {x : Int32} (h : x = -1 ∨ isP x) : s16 (bI x) := fun i hi => by
  rcases h with rfl | ⟨p, hp, rfl⟩
  · rw [bI_m1, b_0]
  · rw [bt_bI hp]; simp; omega
theorem s16_usd {d : Dd} (h : okD d) : s16 (usd d) := s16_or (s16_bI h.2.1) (s16_bI h.2.2.1)
theorem s16_liveL {w : Int32} (hw : s16 w) : ∀ {L : List Dd}, okL L → s16 (liveL L w)
  | [], _ => hw
  | _ :: _, h => s16_or (s16_usd (h _ List.mem_cons_self)) (s16_and (s16_liveL hw (fun x hx => h x (List.mem_cons_of_mem _ hx))))
/-- p and one of s -/
def prB (p : Nat) (s : Int32) (a b : Nat) : Bool := (decide (a = p) && (decide (¬ b = p) && bt s b)) || (decide (b = p) && (decide (¬ a = p) && bt s a))
theorem bt_addC {f : Nat → Int32} {p : Nat} {s : Int32} (hp : p < 16) {a b : Nat} (ha : a < 16) (hb : b < 32) : bt (addC f p s a) b = (bt (f a) b || prB p s a b) := by
  unfold addC acl prB
  have hr : ∀ i, i < 32 → bt (s &&& (bI (nI p) ^^^ (-1))) i = (bt s i && decide (¬ i = p)) := fun i hi => by
    rw [b_and, bt_not _ hi, bt_bI hp]; simp
  rw [hr a (by omega)]
  by_cases hap : a = p
  · subst hap
    rw [if_neg (by simp), upd_at, b_or, hr b hb]
    by_cases hba : b = a <;> simp [hba, Bool.and_comm]
  · rw [upd_ne hap]
    by_cases hs : bt s a = true
    · rw [if_pos (by simp [hs, hap, ha]), b_or, bt_bI hp]
      simp [hap, hs]
    · rw [if_neg (by simp [hs])]
      simp [hap, hs]
theorem addC_ge {f : Nat → Int32} {p : Nat} {s : Int32} (hp : p < 16) {a : Nat} (ha : 16 ≤ a) : addC f p s a = f a := by
  unfold addC acl
  rw [if_neg (by omega), upd_ne (by omega)]
theorem addC_comm {f : Nat → Int32} {p q : Nat} {s t : Int32} (hp : p < 16) (hq : q < 16) : addC (addC f p s) q t = addC (addC f q t) p s := by
  funext a
  by_cases ha : a < 16
  · apply b_ext
    intro i hi
    rw [bt_addC hq ha hi, bt_addC hp ha hi, bt_addC hp ha hi, bt_addC hq ha hi, Bool.or_assoc, Bool.or_assoc, Bool.or_comm (prB p s a i)]
  · rw [addC_ge hq (by omega), addC_ge hp (by omega), addC_ge hp (by omega), addC_ge hq (by omega)]
def caR (p : Nat) (s : Int32) : Nat → (Nat → Int32) → (Nat → Int32)
  | 0, f => f
  | n + 1, f => caR p s n (if 15 - n = p then f else if bt s (15 - n) = true then upd (upd f p (f p ||| bI (nI (15 - n)))) (15 - n) (upd f p (f p ||| bI (nI (15 - n))) (15 - n) ||| bI (nI p)) else f)
theorem caR_ge {p : Nat} {s : Int32} (hp : p < 16) {a : Nat} (ha : 16 ≤ a) : ∀ (n : Nat) (f : Nat → Int32), caR p s n f a = f a
  | 0, f => rfl
  | n + 1, f => by
    rw [caR, caR_ge hp ha n]
    split
    · rfl
    · split
      · rw [upd_ne (by omega), upd_ne (by omega)]
      · rfl
theorem bt_caR {p : Nat} {s : Int32} (hp : p < 16) {a b : Nat} (ha : a < 16) : ∀ (n : Nat), n ≤ 16 → ∀ (f : Nat → Int32), bt (caR p s n f a) b = (bt (f a) b || ((decide (a = p) && (decide (¬ b = p) && (decide (16 - n ≤ b ∧ b < 16) && bt s b))) || (decide (b = p) && (decide (¬ a = p) && (decide (16 - n ≤ a) && bt s a)))))
  | 0, hn, f => by
    rw [show decide (16 - 0 ≤ a) = false from decide_eq_false (by omega), show decide (16 - 0 ≤ b ∧ b < 16) = false from decide_eq_false (by omega)]
    simp [caR]
  | n + 1, hn, f => by
    rw [caR, bt_caR hp ha n (by omega)]
    have e1 : ∀ x, x < 16 → decide (16 - (n + 1) ≤ x) = (decide (16 - n ≤ x) || decide (x = 15 - n)) := fun x hx => by
      rw [← Bool.decide_or]; exact decide_eq_decide.mpr (by omega)
    have e2 : decide (16 - (n + 1) ≤ b ∧ b < 16) = (decide (16 - n ≤ b ∧ b < 16) || decide (b = 15 - n)) := by
      rw [← Bool.decide_or]; exact decide_eq_decide.mpr (by omega)
    rw [e1 a ha, e2]
    obtain ⟨q, hq⟩ : ∃ q, q = 15 - n := ⟨_, rfl⟩
    rw [← hq]
    have hq16 : q < 16 := by omega
    by_cases hqp : q = p
    · rw [if_pos hqp]
      subst hqp
      by_cases h1 : a = q <;> by_cases h2 : b = q <;> simp [h1, h2]
    · rw [if_neg hqp]
      by_cases hs : bt s q = true
      · rw [if_pos hs]
        by_cases h1 : a = q
        · subst h1
          rw [upd_at, upd_ne hqp, b_or, bt_bI hp]
          by_cases h2 : b = p
          · simp [h2, hqp, hs]
          · simp [h2, hqp]
        · rw [upd_ne h1]
          by_cases h3 : a = p
          · subst h3
            rw [upd_at, b_or, bt_bI hq16]
            by_cases h2 : b = q
            · subst h2; simp [hqp, hs]
            · simp [h2]
          · rw [upd_ne h3]
            simp [h1, h3]
      · rw [if_neg hs]
        by_cases h1 : a = q
        · subst h1
          by_cases h2 : b = a <;> simp [hs, h2, hqp]
        · by_cases h2 : b = q
          · subst h2; simp [hs, h1]
          · simp [h1, h2]
theorem caR_addC {p : Nat} {s : Int32} (hp : p < 16) (hs : s16 s) (f : Nat → Int32) : caR p s 16 f = addC f p s := by
  funext a
  by_cases ha : a < 16
  · apply b_ext
    intro b hb
    rw [bt_addC hp ha hb, bt_caR hp ha 16 (Nat.le_refl _)]
    unfold prB
    by_cases h : b < 16
    · simp [h]
    · rw [hs b (by omega)]
      simp
  · rw [addC_ge hp (by omega), caR_ge hp (by omega)]
theorem l_69 {p : Nat} (hp : p < 16) {s : Int32} : ∀ (n j : Nat), j + n = 16 → ∀ (M : mmM), rn none 69 2 [.ref 35, .int (nI p), .int s, .int (nI j)] [] M = some (.inl none, (uC M.1 42 (caR p s n (M.1 42)), M.2))
  | 0, j, hj, M => by
    obtain rfl : j = 16 := by omega
    rw [r_69_2]
    simp only [r_69_0, r_69_1, r_69_3, r_69_5, r_69_8, r_69_9, r_69_10, r_69_13, r_69_14, r_69_15, r_69_18, r_69_21, r_69_24, r_69_25, r_69_28, r_69_29, r_69_30, r_69_31, r_69_32, r_69_35, r_69_36, r_69_37, r_69_38, r_69_41, r_69_42, r_69_43, r_69_44, r_69_45, r_69_48, r_69_49, r_69_50, r_69_53, r_69_56, sm_0, sm_c, ct_i, ct_r, ct_n, ct_l, ct_d, cB_l, cB_r, tl_s, tl_n, oB_some, fG_r, fG_i, fP_i, aL_ok, rV_some, aI, uC_self, mmI, if_true, if_false, true_or, or_true, Nat.reduceAdd, Nat.reduceLeDiff, Nat.zero_le, Nat.reduceEqDiff, Nat.reduceSub, eq_self, Nat.le_refl, uC_ne, ne_eq, not_false_eq_true, i1_0, i0_1, i16, mm_eta, fd_0_0, fd_0_1, fd_0_2, fd_0_3, fd_0_4, fd_0_5, fd_0_6, fd_0_7, fd_1_0, fd_1_1, fd_1_2, fd_1_3, fd_1_4, fd_1_5, arr_2, arr_3, arr_4, arr_5, arr_6, fd_7_0, fd_7_1, fd_7_2, fd_7_3, fd_7_4, fd_7_5, fd_7_6, arr_8, arr_9, arr_10, arr_11, arr_12, fd_13_0, fd_13_1, fd_13_2, fd_13_3, fd_13_4, arr_14, arr_15, arr_16, arr_17, fd_18_0, fd_18_1, fd_18_2, fd_18_3, fd_18_4, fd_18_5, arr_19, arr_20, arr_21, arr_22, arr_23, fd_24_0, fd_24_1, fd_24_2, fd_24_3, fd_24_4, fd_24_5, fd_24_6, arr_25, arr_26, arr_27, arr_28, arr_29, fd_30_0, fd_30_1, fd_30_2, fd_30_3, fd_30_4, arr_31, arr_32, arr_33, arr_34, fd_35_0, fd_35_1, fd_35_2, fd_35_3, fd_35_4, fd_35_5, fd_35_6, fd_35_7, fd_35_8, fd_35_9, fd_35_10, fd_35_11, fd_35_12, fd_35_13, fd_35_14, fd_35_15, fd_35_16, fd_35_17, arr_36, arr_37, arr_38, arr_39, arr_40, arr_41, arr_42, arr_43, arr_44, arr_45, arr_46, arr_47, nI_16, caR, uC_id]
  | n + 1, j, hj, M => by
    have hj16 : j < 16 := by omega
    have ej : 15 - n = j := by omega
    have ih := l_69 hp (s := s) n (j + 1) (by omega)
    have hjp : (nI j = nI p) = (j = p) := propext (nI_eq (by omega) (by omega))
    rw [r_69_2, caR, ej]
    by_cases h1 : j = p
    · subst h1
      simp only [r_69_0, r_69_1, r_69_3, r_69_5, r_69_8, r_69_9, r_69_10, r_69_13, r_69_14, r_69_15, r_69_18, r_69_21, r_69_24, r_69_25, r_69_28, r_69_29, r_69_30, r_69_31, r_69_32, r_69_35, r_69_36, r_69_37, r_69_38, r_69_41, r_69_42, r_69_43, r_69_44, r_69_45, r_69_48, r_69_49, r_69_50, r_69_53, r_69_56, sm_0, sm_c, ct_i, ct_r, ct_n, ct_l, ct_d, cB_l, cB_r, tl_s, tl_n, oB_some, fG_r, fG_i, fP_i, aL_ok, rV_some, aI, uC_self, mmI, if_true, if_false, true_or, or_true, Nat.reduceAdd, Nat.reduceLeDiff, Nat.zero_le, Nat.reduceEqDiff, Nat.reduceSub, eq_self, Nat.le_refl, uC_ne, ne_eq, not_false_eq_true, i1_0, i0_1, i16, mm_eta, fd_0_0, fd_0_1, fd_0_2, fd_0_3, fd_0_4, fd_0_5, fd_0_6, fd_0_7, fd_1_0, fd_1_1, fd_1_2, fd_1_3, fd_1_4, fd_1_5, arr_2, arr_3, arr_4, arr_5, arr_6, fd_7_0, fd_7_1, fd_7_2, fd_7_3, fd_7_4, fd_7_5, fd_7_6, arr_8, arr_9, arr_10, arr_11, arr_12, fd_13_0, fd_13_1, fd_13_2, fd_13_3, fd_13_4, arr_14, arr_15, arr_16, arr_17, fd_18_0, fd_18_1, fd_18_2, fd_18_3, fd_18_4, fd_18_5, arr_19, arr_20, arr_21, arr_22, arr_23, fd_24_0, fd_24_1, fd_24_2, fd_24_3, fd_24_4, fd_24_5, fd_24_6, arr_25, arr_26, arr_27, arr_28, arr_29, fd_30_0, fd_30_1, fd_30_2, fd_30_3, fd_30_4, arr_31, arr_32, arr_33, arr_34, fd_35_0, fd_35_1, fd_35_2, fd_35_3, fd_35_4, fd_35_5, fd_35_6, fd_35_7, fd_35_8, fd_35_9, fd_35_10, fd_35_11, fd_35_12, fd_35_13, fd_35_14, fd_35_15, fd_35_16, fd_35_17, arr_36, arr_37, arr_38, arr_39, arr_40, arr_41, arr_42, arr_43, arr_44, arr_45, arr_46, arr_47, p_hi hj16, nI_1, ih]
    · cases hs : bt s j with
      | false =>
        simp only [r_69_0, r_69_1, r_69_3, r_69_5, r_69_8, r_69_9, r_69_10, r_69_13, r_69_14, r_69_15, r_69_18, r_69_21, r_69_24, r_69_25, r_69_28, r_69_29, r_69_30, r_69_31, r_69_32, r_69_35, r_69_36, r_69_37, r_69_38, r_69_41, r_69_42, r_69_43, r_69_44, r_69_45, r_69_48, r_69_49, r_69_50, r_69_53, r_69_56, sm_0, sm_c, ct_i, ct_r, ct_n, ct_l, ct_d, cB_l, cB_r, tl_s, tl_n, oB_some, fG_r, fG_i, fP_i, aL_ok, rV_some, aI, uC_self, mmI, if_true, if_false, true_or, or_true, Nat.reduceAdd, Nat.reduceLeDiff, Nat.zero_le, Nat.reduceEqDiff, Nat.reduceSub, eq_self, Nat.le_refl, uC_ne, ne_eq, not_false_eq_true, i1_0, i0_1, i16, mm_eta, fd_0_0, fd_0_1, fd_0_2, fd_0_3, fd_0_4, fd_0_5, fd_0_6, fd_0_7, fd_1_0, fd_1_1, fd_1_2, fd_1_3, fd_1_4, fd_1_5, arr_2, arr_3, arr_4, arr_5, arr_6, fd_7_0, fd_7_1, fd_7_2, fd_7_3, fd_7_4, fd_7_5, fd_7_6, arr_8, arr_9, arr_10, arr_11, arr_12, fd_13_0, fd_13_1, fd_13_2, fd_13_3, fd_13_4, arr_14, arr_15, arr_16, arr_17, fd_18_0, fd_18_1, fd_18_2, fd_18_3, fd_18_4, fd_18_5, arr_19, arr_20, arr_21, arr_22, arr_23, fd_24_0, fd_24_1, fd_24_2, fd_24_3, fd_24_4, fd_24_5, fd_24_6, arr_25, arr_26, arr_27, arr_28, arr_29, fd_30_0, fd_30_1, fd_30_2, fd_30_3, fd_30_4, arr_31, arr_32, arr_33, arr_34, fd_35_0, fd_35_1, fd_35_2, fd_35_3, fd_35_4, fd_35_5, fd_35_6, fd_35_7, fd_35_8, fd_35_9, fd_35_10, fd_35_11, fd_35_12, fd_35_13, fd_35_14, fd_35_15, fd_35_16, fd_35_17, arr_36, arr_37, arr_38, arr_39, arr_40, arr_41, arr_42, arr_43, arr_44, arr_45, arr_46, arr_47, p_hi hj16, hjp, h1, s_65 hj16, hs, b01_f, not_true_eq_false, nI_1, ih, Bool.false_eq_true]
      | true =>
        simp only [r_69_0, r_69_1, r_69_3, r_69_5, r_69_8, r_69_9, r_69_10, r_69_13, r_69_14, r_69_15, r_69_18, r_69_21, r_69_24, r_69_25, r_69_28, r_69_29, r_69_30, r_69_31, r_69_32, r_69_35, r_69_36, r_69_37, r_69_38, r_69_41, r_69_42, r_69_43, r_69_44, r_69_45, r_69_48, r_69_49, r_69_50, r_69_53, r_69_56, sm_0, sm_c, ct_i, ct_r, ct_n, ct_l, ct_d, cB_l, cB_r, tl_s, tl_n, oB_some, fG_r, fG_i, fP_i, aL_ok, rV_some, aI, uC_self, mmI, if_true, if_false, true_or, or_true, Nat.reduceAdd, Nat.reduceLeDiff, Nat.zero_le, Nat.reduceEqDiff, Nat.reduceSub, eq_self, Nat.le_refl, uC_ne, ne_eq, not_false_eq_true, i1_0, i0_1, i16, mm_eta, fd_0_0, fd_0_1, fd_0_2, fd_0_3, fd_0_4, fd_0_5, fd_0_6, fd_0_7, fd_1_0, fd_1_1, fd_1_2, fd_1_3, fd_1_4, fd_1_5, arr_2, arr_3, arr_4, arr_5, arr_6, fd_7_0, fd_7_1, fd_7_2, fd_7_3, fd_7_4, fd_7_5, fd_7_6, arr_8, arr_9, arr_10, arr_11, arr_12, fd_13_0, fd_13_1, fd_13_2, fd_13_3, fd_13_4, arr_14, arr_15, arr_16, arr_17, fd_18_0, fd_18_1, fd_18_2, fd_18_3, fd_18_4, fd_18_5, arr_19, arr_20, arr_21, arr_22, arr_23, fd_24_0, fd_24_1, fd_24_2, fd_24_3, fd_24_4, fd_24_5, fd_24_6, arr_25, arr_26, arr_27, arr_28, arr_29, fd_30_0, fd_30_1, fd_30_2, fd_30_3, fd_30_4, arr_31, arr_32, arr_33, arr_34, fd_35_0, fd_35_1, fd_35_2, fd_35_3, fd_35_4, fd_35_5, fd_35_6, fd_35_7, fd_35_8, fd_35_9, fd_35_10, fd_35_11, fd_35_12, fd_35_13, fd_35_14, fd_35_15, fd_35_16, fd_35_17, arr_36, arr_37, arr_38, arr_39, arr_40, arr_41, arr_42, arr_43, arr_44, arr_45, arr_46, arr_47, p_hi hj16, hjp, h1, s_65 hj16, hs, b01_t, not_false_eq_true, nI_1, mmX_nI hj16 (by omega : 16 < 2147483648), mmX_nI hp (by omega : 16 < 2147483648), s_66p hj16, s_66p hp, ih, uC_uC]
theorem s_69 {p : Nat} (hp : p < 16) {s : Int32} (hs : s16 s) {M : mmM} : rn none 69 0 [.ref 35, .int (nI p), .int s, .null] [] M = some (.inl none, (uC M.1 42 (addC (M.1 42) p s), M.2)) := by
  have h0 := l_69 hp (s := s) 16 0 (by omega) M
  rw [nI_0, caR_addC hp hs] at h0
  rw [r_69_0, r_69_1 (by rfl), h0]
theorem adC_p {g : Nat → Int32} {p : Nat} (hp : p < 16) {w : Int32} : adC g (nI p) w = upd g p (g p + w) := by
  unfold adC
  rw [if_neg (by rw [p_lo (by omega)]; exact id), if_neg (by rw [p_hi hp]; exact id), nI_clamp (by omega)]
theorem adC_m1 {g : Nat → Int32} {w : Int32} : adC g (-1) w = g := by
  unfold adC
  rw [if_pos (by decide)]
theorem s_70 {x w : Int32} (hx : x = -1 ∨ isP x) {M : mmM} : rn none 70 0 [.ref 35, .int x, .int w] [] M = some (.inl none, (uC M.1 43 (adC (M.1 43) x w), M.2)) := by
  rcases hx with rfl | ⟨p, hp, rfl⟩
  · rw [adC_m1]
    simp only [r_70_0, r_70_1, r_70_2, r_70_5, r_70_6, r_70_9, r_70_10, r_70_11, r_70_12, r_70_13, r_70_14, r_70_15, sm_0, sm_c, ct_i, ct_r, ct_n, ct_l, ct_d, cB_l, cB_r, tl_s, tl_n, oB_some, fG_r, fG_i, fP_i, aL_ok, rV_some, aI, uC_self, mmI, if_true, if_false, true_or, or_true, Nat.reduceAdd, Nat.reduceLeDiff, Nat.zero_le, Nat.reduceEqDiff, Nat.reduceSub, eq_self, Nat.le_refl, uC_ne, ne_eq, not_false_eq_true, i1_0, i0_1, i16, mm_eta, fd_0_0, fd_0_1, fd_0_2, fd_0_3, fd_0_4, fd_0_5, fd_0_6, fd_0_7, fd_1_0, fd_1_1, fd_1_2, fd_1_3, fd_1_4, fd_1_5, arr_2, arr_3, arr_4, arr_5, arr_6, fd_7_0, fd_7_1, fd_7_2, fd_7_3, fd_7_4, fd_7_5, fd_7_6, arr_8, arr_9, arr_10, arr_11, arr_12, fd_13_0, fd_13_1, fd_13_2, fd_13_3, fd_13_4, arr_14, arr_15, arr_16, arr_17, fd_18_0, fd_18_1, fd_18_2, fd_18_3, fd_18_4, fd_18_5, arr_19, arr_20, arr_21, arr_22, arr_23, fd_24_0, fd_24_1, fd_24_2, fd_24_3, fd_24_4, fd_24_5, fd_24_6, arr_25, arr_26, arr_27, arr_28, arr_29, fd_30_0, fd_30_1, fd_30_2, fd_30_3, fd_30_4, arr_31, arr_32, arr_33, arr_34, fd_35_0, fd_35_1, fd_35_2, fd_35_3, fd_35_4, fd_35_5, fd_35_6, fd_35_7, fd_35_8, fd_35_9, fd_35_10, fd_35_11, fd_35_12, fd_35_13, fd_35_14, fd_35_15, fd_35_16, fd_35_17, arr_36, arr_37, arr_38, arr_39, arr_40, arr_41, arr_42, arr_43, arr_44, arr_45, arr_46, arr_47, uC_id]
  · have h1 : (nI p = -1) = False := eq_false (fun h => by have := p_lo (show p < 2147483648 by omega); rw [h] at this; exact absurd this (by decide))
    rw [adC_p hp]
    simp only [r_70_0, r_70_1, r_70_2, r_70_5, r_70_6, r_70_9, r_70_10, r_70_11, r_70_12, r_70_13, r_70_14, r_70_15, sm_0, sm_c, ct_i, ct_r, ct_n, ct_l, ct_d, cB_l, cB_r, tl_s, tl_n, oB_some, fG_r, fG_i, fP_i, aL_ok, rV_some, aI, uC_self, mmI, if_true, if_false, true_or, or_true, Nat.reduceAdd, Nat.reduceLeDiff, Nat.zero_le, Nat.reduceEqDiff, Nat.reduceSub, eq_self, Nat.le_refl, uC_ne, ne_eq, not_false_eq_true, i1_0, i0_1, i16, mm_eta, fd_0_0, fd_0_1, fd_0_2, fd_0_3, fd_0_4, fd_0_5, fd_0_6, fd_0_7, fd_1_0, fd_1_1, fd_1_2, fd_1_3, fd_1_4, fd_1_5, arr_2, arr_3, arr_4, arr_5, arr_6, fd_7_0, fd_7_1, fd_7_2, fd_7_3, fd_7_4, fd_7_5, fd_7_6, arr_8, arr_9, arr_10, arr_11, arr_12, fd_13_0, fd_13_1, fd_13_2, fd_13_3, fd_13_4, arr_14, arr_15, arr_16, arr_17, fd_18_0, fd_18_1, fd_18_2, fd_18_3, fd_18_4, fd_18_5, arr_19, arr_20, arr_21, arr_22, arr_23, fd_24_0, fd_24_1, fd_24_2, fd_24_3, fd_24_4, fd_24_5, fd_24_6, arr_25, arr_26, arr_27, arr_28, arr_29, fd_30_0, fd_30_1, fd_30_2, fd_30_3, fd_30_4, arr_31, arr_32, arr_33, arr_34, fd_35_0, fd_35_1, fd_35_2, fd_35_3, fd_35_4, fd_35_5, fd_35_6, fd_35_7, fd_35_8, fd_35_9, fd_35_10, fd_35_11, fd_35_12, fd_35_13, fd_35_14, fd_35_15, fd_35_16, fd_35_17, arr_36, arr_37, arr_38, arr_39, arr_40, arr_41, arr_42, arr_43, arr_44, arr_45, arr_46, arr_47, h1, mmX_nI hp (by omega : 16 < 2147483648)]
def clF : List Dd → Int32 → (Nat → Int32) → (Nat → Int32)
  | [], _, cl => cl
  | d :: L, w, cl => clF L w (addC cl d.1.toNatClampNeg (if d.2.2.2.2 = 0 then liveL L w else liveL L w &&& (bI d.2.1 ^^^ (-1))))
def coF : List Dd → (Nat → Int32) → (Nat → Int32)
  | [], co => co
  | d :: L, co => coF L (adC (adC (adC co d.1 d.2.2.2.1) d.2.1 d.2.2.2.1) d.2.2.1 d.2.2.2.1)
def thF : List Dd → Int32 → Int32
  | [], t => t
  | d :: L, t => thF L (t ||| (bI d.1 ||| usd d))
def poF : List Dd → (Nat → Int32) → (Nat → Int32)
  | [], po => po
  | d :: L, po => poF L (if d.2.2.2.2 = 0 then po else adP po d.1 d.2.1)
theorem stF_eq {w : Int32} : ∀ (L : List Dd) (s : stS), stF L w s = (thF L s.1, clF L w s.2.1, poF L s.2.2.1, coF L s.2.2.2)
  | [], s => rfl
  | d :: L, s => by rw [stF, stF_eq L]; rfl
theorem clF_addC {w : Int32} {p : Nat} (hp : p < 16) {s : Int32} : ∀ (L : List Dd), okL L → ∀ cl, clF L w (addC cl p s) = addC (clF L w cl) p s
  | [], _, cl => rfl
  | d :: L, h, cl => by
    have hd := h d List.mem_cons_self
    rw [clF, clF, addC_comm hp (isP_clamp hd.1), clF_addC hp L (fun x hx => h x (List.mem_cons_of_mem _ hx))]
theorem clF_l1 {w fst : Int32} {L : List Dd} (h : okL L) : ∀ (n : Nat) (cl : Nat → Int32), clF L w (l1 fst n cl) = l1 fst n (clF L w cl)
  | 0, cl => rfl
  | n + 1, cl => by
    rw [l1, l1, clF_l1 h n]
    split
    · rw [clF_addC (by omega) L h]
    · rfl
theorem bt_thF {i : Nat} : ∀ (L : List Dd) (t : Int32), bt (thF L t) i = (bt t i || L.any (fun d => bt (bI d.1) i || bt (usd d) i))
  | [], t => by simp [thF]
  | d :: L, t => by
    rw [thF, bt_thF L, b_or, b_or, List.any_cons, Bool.or_assoc]
theorem bt_thB {i : Nat} {w : Int32} : ∀ (L : List Dd), bt (thB L w) i = (bt w i || L.any (fun d => bt (bI d.1) i || bt (usd d) i))
  | [] => by simp [thB]
  | d :: L => by
    rw [thB, b_or, b_or, bt_thB L, List.any_cons, Bool.or_assoc, Bool.or_comm (bt (usd d) i), Bool.or_comm (L.any _)]
theorem thB_eq {L : List Dd} {w : Int32} : thB L w = (STU L w).1 := by
  unfold STU
  rw [stF_eq]
  apply b_ext
  intro i _
  rw [bt_thB, bt_thF]
theorem STU_cl {L : List Dd} {w : Int32} (h : okL L) : (STU L w).2.1 = l1 (liveL L w) 16 (clF L w zf) := by
  unfold STU
  rw [stF_eq]
  exact clF_l1 h 16 zf
theorem STU_co {L : List Dd} {w : Int32} : (STU L w).2.2.2 = coF L zf := by
  unfold STU
  rw [stF_eq]
theorem STU_po {L : List Dd} {w : Int32} : (STU L w).2.2.1 = poF L zf := by
  unfold STU
  rw [stF_eq]
theorem rm_ok {q : Nat → Bool} : ∀ {L : List Dd} (j : Nat), okL L → okL (rm q j L)
  | [], _, _ => fun x hx => by cases hx
  | d :: L, j, h => by
    have ih := rm_ok (q := q) (L := L) (j + 1) (fun x hx => h x (List.mem_cons_of_mem _ hx))
    rw [rm]
    split
    · exact ih
    · intro x hx
      rcases List.mem_cons.mp hx with rfl | hx
      · exact h _ List.mem_cons_self
      · exact ih x hx
def zr (j : Nat) (f : Nat → Int32) : Nat → Int32 := fun i => if j ≤ i ∧ i < 16 then 0 else f i
theorem zr_s {j : Nat} (hj : j < 16) (f : Nat → Int32) : zr (j + 1) (upd f j 0) = zr j f := by
  funext i
  by_cases hi : i = j
  · subst hi
    simp [zr, upd, hj]
  · simp only [zr, upd, hi, if_false, show (j + 1 ≤ i) = (j ≤ i) from propext ⟨by omega, by omega⟩]
theorem zr_16 (f : Nat → Int32) : zr 16 f = f := by
  funext i
  unfold zr
  rw [if_neg (by omega)]
theorem zr_0 {f : Nat → Int32} (h : zb f) : zr 0 f = zf := by
  funext i
  unfold zr zf
  split
  · rfl
  · exact h i (by omega)
theorem l1_71 : ∀ (n j : Nat), j + n = 16 → ∀ (M : mmM), rn none 71 6 [.ref 35, .int (nI j)] [] M = rn none 71 34 [.ref 35, .int 0] [] (uC (uC M.1 42 (zr j (M.1 42))) 43 (zr j (M.1 43)), M.2)
  | 0, j, hj, M => by
    obtain rfl : j = 16 := by omega
    rw [zr_16, zr_16, uC_id, uC_id, nI_16]
    simp only [r_71_6, r_71_7, r_71_9, r_71_32, r_71_33, sm_0, sm_c, ct_i, ct_r, ct_n, ct_l, ct_d, cB_l, cB_r, tl_s, tl_n, oB_some, fG_r, fG_i, fP_i, aL_ok, rV_some, aI, uC_self, mmI, if_true, if_false, true_or, or_true, Nat.reduceAdd, Nat.reduceLeDiff, Nat.zero_le, Nat.reduceEqDiff, Nat.reduceSub, eq_self, Nat.le_refl, uC_ne, ne_eq, not_false_eq_true, i1_0, i0_1, i16, mm_eta, fd_0_0, fd_0_1, fd_0_2, fd_0_3, fd_0_4, fd_0_5, fd_0_6, fd_0_7, fd_1_0, fd_1_1, fd_1_2, fd_1_3, fd_1_4, fd_1_5, arr_2, arr_3, arr_4, arr_5, arr_6, fd_7_0, fd_7_1, fd_7_2, fd_7_3, fd_7_4, fd_7_5, fd_7_6, arr_8, arr_9, arr_10, arr_11, arr_12, fd_13_0, fd_13_1, fd_13_2, fd_13_3, fd_13_4, arr_14, arr_15, arr_16, arr_17, fd_18_0, fd_18_1, fd_18_2, fd_18_3, fd_18_4, fd_18_5, arr_19, arr_20, arr_21, arr_22, arr_23, fd_24_0, fd_24_1, fd_24_2, fd_24_3, fd_24_4, fd_24_5, fd_24_6, arr_25, arr_26, arr_27, arr_28, arr_29, fd_30_0, fd_30_1, fd_30_2, fd_30_3, fd_30_4, arr_31, arr_32, arr_33, arr_34, fd_35_0, fd_35_1, fd_35_2, fd_35_3, fd_35_4, fd_35_5, fd_35_6, fd_35_7, fd_35_8, fd_35_9, fd_35_10, fd_35_11, fd_35_12, fd_35_13, fd_35_14, fd_35_15, fd_35_16, fd_35_17, arr_36, arr_37, arr_38, arr_39, arr_40, arr_41, arr_42, arr_43, arr_44, arr_45, arr_46, arr_47]
  | n + 1, j, hj, M => by
    have hj16 : j < 16 := by omega
    have ih := l1_71 n (j + 1) (by omega) (uC (uC M.1 42 (upd (M.1 42) j 0)) 43 (upd (M.1 43) j 0), M.2)
    dsimp only at ih
    rw [r_71_6]
    simp only [r_71_7, r_71_9, r_71_12, r_71_13, r_71_16, r_71_17, r_71_18, r_71_19, r_71_20, r_71_23, r_71_24, r_71_25, r_71_26, r_71_29, sm_0, sm_c, ct_i, ct_r, ct_n, ct_l, ct_d, cB_l, cB_r, tl_s, tl_n, oB_some, fG_r, fG_i, fP_i, aL_ok, rV_some, aI, uC_self, mmI, if_true, if_false, true_or, or_true, Nat.reduceAdd, Nat.reduceLeDiff, Nat.zero_le, Nat.reduceEqDiff, Nat.reduceSub, eq_self, Nat.le_refl, uC_ne, ne_eq, not_false_eq_true, i1_0, i0_1, i16, mm_eta, fd_0_0, fd_0_1, fd_0_2, fd_0_3, fd_0_4, fd_0_5, fd_0_6, fd_0_7, fd_1_0, fd_1_1, fd_1_2, fd_1_3, fd_1_4, fd_1_5, arr_2, arr_3, arr_4, arr_5, arr_6, fd_7_0, fd_7_1, fd_7_2, fd_7_3, fd_7_4, fd_7_5, fd_7_6, arr_8, arr_9, arr_10, arr_11, arr_12, fd_13_0, fd_13_1, fd_13_2, fd_13_3, fd_13_4, arr_14, arr_15, arr_16, arr_17, fd_18_0, fd_18_1, fd_18_2, fd_18_3, fd_18_4, fd_18_5, arr_19, arr_20, arr_21, arr_22, arr_23, fd_24_0, fd_24_1, fd_24_2, fd_24_3, fd_24_4, fd_24_5, fd_24_6, arr_25, arr_26, arr_27, arr_28, arr_29, fd_30_0, fd_30_1, fd_30_2, fd_30_3, fd_30_4, arr_31, arr_32, arr_33, arr_34, fd_35_0, fd_35_1, fd_35_2, fd_35_3, fd_35_4, fd_35_5, fd_35_6, fd_35_7, fd_35_8, fd_35_9, fd_35_10, fd_35_11, fd_35_12, fd_35_13, fd_35_14, fd_35_15, fd_35_16, fd_35_17, arr_36, arr_37, arr_38, arr_39, arr_40, arr_41, arr_42, arr_43, arr_44, arr_45, arr_46, arr_47, p_hi hj16, mmX_nI hj16 (by omega : 16 < 2147483648), nI_1, ih]
    rw [zr_s hj16, zr_s hj16, uC_comm (k := 43) (a := 42) (by omega), uC_uC, uC_uC]
theorem RefO.c42 {f : Nat → Nat → Int32} {L : List Dd} {w o : Int32} {kk : Nat} {g : Nat → Int32} (h : RefO f L w kk o) (hz : zb g) : RefO (uC f 42 g) L w kk o := h.same (by rw [uC_ne (by omega)]) (by rw [uC_ne (by omega)]) (by rw [uC_ne (by omega)]) (by rw [uC_ne (by omega)]) (fun a ha hb => uC_ne (by omega)) (by rw [uC_self]; exact hz) (by rw [uC_ne (by omega)]; exact h.z43) (by rw [uC_ne (by omega)]; exact h.z44) (by rw [uC_ne (by omega)]; exact h.z46)
theorem RefO.c43 {f : Nat → Nat → Int32} {L : List Dd} {w o : Int32} {kk : Nat} {g : Nat → Int32} (h : RefO f L w kk o) (hz : zb g) : RefO (uC f 43 g) L w kk o := h.same (by rw [uC_ne (by omega)]) (by rw [uC_ne (by omega)]) (by rw [uC_ne (by omega)]) (by rw [uC_ne (by omega)]) (fun a ha hb => uC_ne (by omega)) (by rw [uC_ne (by omega)]; exact h.z42) (by rw [uC_self]; exact hz) (by rw [uC_ne (by omega)]; exact h.z44) (by rw [uC_ne (by omega)]; exact h.z46)
def Beh (f : Nat → Nat → Int32) (L : List Dd) (w o : Int32) : Prop := ∀ d, d < L.length → f 41 d = liveL (rm (qo o) (d + 1) (L.drop (d + 1))) w
theorem okL.drop {L : List Dd} (h : okL L) (n : Nat) : okL (L.drop n) := fun x hx => h x (List.mem_of_mem_drop hx)
set_option maxHeartbeats 4000000 in
theorem l2_71 {L : List Dd} {w o : Int32} {kk : Nat} : ∀ (n j : Nat), j + n = L.length → ∀ (M : mmM), RefO M.1 L w kk o → Beh M.1 L w o → rn none 71 34 [.ref 35, .int (nI j)] [] M = rn none 71 156 [.ref 35, .int 0] [] (uC (uC M.1 42 (clF (rm (qo o) j (L.drop j)) w (M.1 42))) 43 (coF (rm (qo o) j (L.drop j)) (M.1 43)), M.2)
  | 0, j, hj, M, h, hB => by
    obtain rfl : j = L.length := by omega
    have h2 : (nI L.length ≤ nI L.length) = True := eq_true (nI_le (Nat.le_refl _) (by have := h.le; omega))
    rw [List.drop_length, rm, clF, coF, uC_id, uC_id]
    simp only [r_71_34, r_71_35, r_71_36, r_71_39, r_71_154, r_71_155, sm_0, sm_c, ct_i, ct_r, ct_n, ct_l, ct_d, cB_l, cB_r, tl_s, tl_n, oB_some, fG_r, fG_i, fP_i, aL_ok, rV_some, aI, uC_self, mmI, if_true, if_false, true_or, or_true, Nat.reduceAdd, Nat.reduceLeDiff, Nat.zero_le, Nat.reduceEqDiff, Nat.reduceSub, eq_self, Nat.le_refl, uC_ne, ne_eq, not_false_eq_true, i1_0, i0_1, i16, mm_eta, fd_0_0, fd_0_1, fd_0_2, fd_0_3, fd_0_4, fd_0_5, fd_0_6, fd_0_7, fd_1_0, fd_1_1, fd_1_2, fd_1_3, fd_1_4, fd_1_5, arr_2, arr_3, arr_4, arr_5, arr_6, fd_7_0, fd_7_1, fd_7_2, fd_7_3, fd_7_4, fd_7_5, fd_7_6, arr_8, arr_9, arr_10, arr_11, arr_12, fd_13_0, fd_13_1, fd_13_2, fd_13_3, fd_13_4, arr_14, arr_15, arr_16, arr_17, fd_18_0, fd_18_1, fd_18_2, fd_18_3, fd_18_4, fd_18_5, arr_19, arr_20, arr_21, arr_22, arr_23, fd_24_0, fd_24_1, fd_24_2, fd_24_3, fd_24_4, fd_24_5, fd_24_6, arr_25, arr_26, arr_27, arr_28, arr_29, fd_30_0, fd_30_1, fd_30_2, fd_30_3, fd_30_4, arr_31, arr_32, arr_33, arr_34, fd_35_0, fd_35_1, fd_35_2, fd_35_3, fd_35_4, fd_35_5, fd_35_6, fd_35_7, fd_35_8, fd_35_9, fd_35_10, fd_35_11, fd_35_12, fd_35_13, fd_35_14, fd_35_15, fd_35_16, fd_35_17, arr_36, arr_37, arr_38, arr_39, arr_40, arr_41, arr_42, arr_43, arr_44, arr_45, arr_46, arr_47, h.len, h2]
  | n + 1, j, hj, M, h, hB => by
    have hjl : j < L.length := by omega
    have h31 : L.length < 2147483648 := by have := h.le; omega
    have h2 : (nI L.length ≤ nI j) = False := eq_false (nI_ge hjl h31)
    have hx := mmX_nI (show j < 30 by have := h.le; omega) (by omega : 30 < 2147483648)
    have hf := h.okd hjl
    rw [r_71_34]
    by_cases hq : nI j = o
    · have e : rm (qo o) j (L.drop j) = rm (qo o) (j + 1) (L.drop (j + 1)) := by
        rw [dd_drop hjl, rm, if_pos (by simp [qo, hq])]
      have ih := l2_71 n (j + 1) (by omega) M h hB
      rw [e, ← ih]
      subst hq
      simp only [r_71_35, r_71_36, r_71_39, r_71_42, r_71_43, r_71_44, r_71_47, r_71_50, r_71_148, r_71_151, sm_0, sm_c, ct_i, ct_r, ct_n, ct_l, ct_d, cB_l, cB_r, tl_s, tl_n, oB_some, fG_r, fG_i, fP_i, aL_ok, rV_some, aI, uC_self, mmI, if_true, if_false, true_or, or_true, Nat.reduceAdd, Nat.reduceLeDiff, Nat.zero_le, Nat.reduceEqDiff, Nat.reduceSub, eq_self, Nat.le_refl, uC_ne, ne_eq, not_false_eq_true, i1_0, i0_1, i16, mm_eta, fd_0_0, fd_0_1, fd_0_2, fd_0_3, fd_0_4, fd_0_5, fd_0_6, fd_0_7, fd_1_0, fd_1_1, fd_1_2, fd_1_3, fd_1_4, fd_1_5, arr_2, arr_3, arr_4, arr_5, arr_6, fd_7_0, fd_7_1, fd_7_2, fd_7_3, fd_7_4, fd_7_5, fd_7_6, arr_8, arr_9, arr_10, arr_11, arr_12, fd_13_0, fd_13_1, fd_13_2, fd_13_3, fd_13_4, arr_14, arr_15, arr_16, arr_17, fd_18_0, fd_18_1, fd_18_2, fd_18_3, fd_18_4, fd_18_5, arr_19, arr_20, arr_21, arr_22, arr_23, fd_24_0, fd_24_1, fd_24_2, fd_24_3, fd_24_4, fd_24_5, fd_24_6, arr_25, arr_26, arr_27, arr_28, arr_29, fd_30_0, fd_30_1, fd_30_2, fd_30_3, fd_30_4, arr_31, arr_32, arr_33, arr_34, fd_35_0, fd_35_1, fd_35_2, fd_35_3, fd_35_4, fd_35_5, fd_35_6, fd_35_7, fd_35_8, fd_35_9, fd_35_10, fd_35_11, fd_35_12, fd_35_13, fd_35_14, fd_35_15, fd_35_16, fd_35_17, arr_36, arr_37, arr_38, arr_39, arr_40, arr_41, arr_42, arr_43, arr_44, arr_45, arr_46, arr_47, h.len, h2, h.out, not_true_eq_false, nI_1]
    · have e : rm (qo o) j (L.drop j) = dd L j :: rm (qo o) (j + 1) (L.drop (j + 1)) := by
        rw [dd_drop hjl, rm, if_neg (by simp [qo, hq])]
      obtain ⟨p, hp, hpf⟩ := hf.1
      obtain ⟨s, hs⟩ : ∃ s, s = if (dd L j).2.2.2.2 = 0 then liveL (rm (qo o) (j + 1) (L.drop (j + 1))) w else liveL (rm (qo o) (j + 1) (L.drop (j + 1))) w &&& (bI (dd L j).2.1 ^^^ (-1)) := ⟨_, rfl⟩
      have hl16 : s16 (liveL (rm (qo o) (j + 1) (L.drop (j + 1))) w) := s16_liveL h.s16 (rm_ok _ (h.ok.drop _))
      have hs16 : s16 s := by
        rw [hs]
        split
        · exact hl16
        · exact s16_and hl16
      have hz1 : zb (addC (M.1 42) p s) := zb_addC h.z42 hp
      have hz2 : zb (adC (adC (adC (M.1 43) (dd L j).1 (dd L j).2.2.2.1) (dd L j).2.1 (dd L j).2.2.2.1) (dd L j).2.2.1 (dd L j).2.2.2.1) := zb_adC (zb_adC (zb_adC h.z43))
      have ih := l2_71 n (j + 1) (by omega) (uC (uC M.1 42 (addC (M.1 42) p s)) 43 (adC (adC (adC (M.1 43) (dd L j).1 (dd L j).2.2.2.1) (dd L j).2.1 (dd L j).2.2.2.1) (dd L j).2.2.1 (dd L j).2.2.2.1), M.2)
        ((h.c42 hz1).c43 hz2) (fun d hd => by dsimp only; rw [uC_ne (by omega), uC_ne (by omega)]; exact hB d hd)
      dsimp only at ih
      rw [uC_ne (show (42 : Nat) ≠ 43 by omega), uC_self, uC_self, uC_comm (k := 43) (a := 42) (by omega), uC_uC, uC_uC] at ih
      rw [e, clF, coF, ← hs, show (dd L j).1.toNatClampNeg = p by rw [hpf, nI_clamp (by omega)], ← ih]
      have h1 := h.d1 hjl
      rw [hpf] at h1
      have h701 := fun M => s_70 (x := nI p) (w := (dd L j).2.2.2.1) (Or.inr ⟨p, hp, rfl⟩) (M := M)
      have h702 := fun M => s_70 (w := (dd L j).2.2.2.1) hf.2.1 (M := M)
      have h703 := fun M => s_70 (w := (dd L j).2.2.2.1) hf.2.2.1 (M := M)
      rcases hf.2.2.2.2 with hz | ⟨hz, _⟩
      · have hs' : s = liveL (rm (qo o) (j + 1) (L.drop (j + 1))) w := by rw [hs, if_pos hz]
        have h69 := fun M => s_69 hp hs16 (M := M)
        rw [hs'] at h69
        simp only [r_71_0, r_71_1, r_71_4, r_71_5, r_71_6, r_71_7, r_71_9, r_71_12, r_71_13, r_71_16, r_71_17, r_71_18, r_71_19, r_71_20, r_71_23, r_71_24, r_71_25, r_71_26, r_71_29, r_71_32, r_71_33, r_71_35, r_71_36, r_71_39, r_71_42, r_71_43, r_71_44, r_71_47, r_71_50, r_71_53, r_71_54, r_71_55, r_71_58, r_71_59, r_71_60, r_71_61, r_71_64, r_71_65, r_71_66, r_71_67, r_71_70, r_71_71, r_71_74, r_71_75, r_71_76, r_71_77, r_71_80, r_71_81, r_71_82, r_71_85, r_71_86, r_71_87, r_71_88, r_71_91, r_71_92, r_71_95, r_71_96, r_71_97, r_71_100, r_71_101, r_71_102, r_71_105, r_71_106, r_71_107, r_71_108, r_71_111, r_71_112, r_71_113, r_71_116, r_71_117, r_71_118, r_71_121, r_71_122, r_71_123, r_71_124, r_71_127, r_71_128, r_71_129, r_71_132, r_71_133, r_71_134, r_71_137, r_71_138, r_71_139, r_71_140, r_71_143, r_71_144, r_71_145, r_71_148, r_71_151, r_71_154, r_71_155, r_71_157, r_71_159, r_71_162, r_71_163, r_71_166, r_71_167, r_71_170, r_71_173, r_71_174, r_71_175, r_71_176, r_71_179, r_71_182, r_71_185, r_71_188, sm_0, sm_c, ct_i, ct_r, ct_n, ct_l, ct_d, cB_l, cB_r, tl_s, tl_n, oB_some, fG_r, fG_i, fP_i, aL_ok, rV_some, aI, uC_self, mmI, if_true, if_false, true_or, or_true, Nat.reduceAdd, Nat.reduceLeDiff, Nat.zero_le, Nat.reduceEqDiff, Nat.reduceSub, eq_self, Nat.le_refl, uC_ne, ne_eq, not_false_eq_true, i1_0, i0_1, i16, mm_eta, fd_0_0, fd_0_1, fd_0_2, fd_0_3, fd_0_4, fd_0_5, fd_0_6, fd_0_7, fd_1_0, fd_1_1, fd_1_2, fd_1_3, fd_1_4, fd_1_5, arr_2, arr_3, arr_4, arr_5, arr_6, fd_7_0, fd_7_1, fd_7_2, fd_7_3, fd_7_4, fd_7_5, fd_7_6, arr_8, arr_9, arr_10, arr_11, arr_12, fd_13_0, fd_13_1, fd_13_2, fd_13_3, fd_13_4, arr_14, arr_15, arr_16, arr_17, fd_18_0, fd_18_1, fd_18_2, fd_18_3, fd_18_4, fd_18_5, arr_19, arr_20, arr_21, arr_22, arr_23, fd_24_0, fd_24_1, fd_24_2, fd_24_3, fd_24_4, fd_24_5, fd_24_6, arr_25, arr_26, arr_27, arr_28, arr_29, fd_30_0, fd_30_1, fd_30_2, fd_30_3, fd_30_4, arr_31, arr_32, arr_33, arr_34, fd_35_0, fd_35_1, fd_35_2, fd_35_3, fd_35_4, fd_35_5, fd_35_6, fd_35_7, fd_35_8, fd_35_9, fd_35_10, fd_35_11, fd_35_12, fd_35_13, fd_35_14, fd_35_15, fd_35_16, fd_35_17, arr_36, arr_37, arr_38, arr_39, arr_40, arr_41, arr_42, arr_43, arr_44, arr_45, arr_46, arr_47, h.len, h2, h.out, hq, not_false_eq_true, hx, h1, h.d2 hjl, h.d3 hjl, h.d4 hjl, h.d5 hjl, hz, hB j hjl, h69, h701, h702, h703, uC_uC, nI_1]
        rw [hs', hpf]
      · have hs' : s = liveL (rm (qo o) (j + 1) (L.drop (j + 1))) w &&& (bI (dd L j).2.1 ^^^ (-1)) := by rw [hs, if_neg (by rw [hz]; decide)]
        have h69 := fun M => s_69 hp hs16 (M := M)
        rw [hs'] at h69
        simp only [r_71_0, r_71_1, r_71_4, r_71_5, r_71_6, r_71_7, r_71_9, r_71_12, r_71_13, r_71_16, r_71_17, r_71_18, r_71_19, r_71_20, r_71_23, r_71_24, r_71_25, r_71_26, r_71_29, r_71_32, r_71_33, r_71_35, r_71_36, r_71_39, r_71_42, r_71_43, r_71_44, r_71_47, r_71_50, r_71_53, r_71_54, r_71_55, r_71_58, r_71_59, r_71_60, r_71_61, r_71_64, r_71_65, r_71_66, r_71_67, r_71_70, r_71_71, r_71_74, r_71_75, r_71_76, r_71_77, r_71_80, r_71_81, r_71_82, r_71_85, r_71_86, r_71_87, r_71_88, r_71_91, r_71_92, r_71_95, r_71_96, r_71_97, r_71_100, r_71_101, r_71_102, r_71_105, r_71_106, r_71_107, r_71_108, r_71_111, r_71_112, r_71_113, r_71_116, r_71_117, r_71_118, r_71_121, r_71_122, r_71_123, r_71_124, r_71_127, r_71_128, r_71_129, r_71_132, r_71_133, r_71_134, r_71_137, r_71_138, r_71_139, r_71_140, r_71_143, r_71_144, r_71_145, r_71_148, r_71_151, r_71_154, r_71_155, r_71_157, r_71_159, r_71_162, r_71_163, r_71_166, r_71_167, r_71_170, r_71_173, r_71_174, r_71_175, r_71_176, r_71_179, r_71_182, r_71_185, r_71_188, sm_0, sm_c, ct_i, ct_r, ct_n, ct_l, ct_d, cB_l, cB_r, tl_s, tl_n, oB_some, fG_r, fG_i, fP_i, aL_ok, rV_some, aI, uC_self, mmI, if_true, if_false, true_or, or_true, Nat.reduceAdd, Nat.reduceLeDiff, Nat.zero_le, Nat.reduceEqDiff, Nat.reduceSub, eq_self, Nat.le_refl, uC_ne, ne_eq, not_false_eq_true, i1_0, i0_1, i16, mm_eta, fd_0_0, fd_0_1, fd_0_2, fd_0_3, fd_0_4, fd_0_5, fd_0_6, fd_0_7, fd_1_0, fd_1_1, fd_1_2, fd_1_3, fd_1_4, fd_1_5, arr_2, arr_3, arr_4, arr_5, arr_6, fd_7_0, fd_7_1, fd_7_2, fd_7_3, fd_7_4, fd_7_5, fd_7_6, arr_8, arr_9, arr_10, arr_11, arr_12, fd_13_0, fd_13_1, fd_13_2, fd_13_3, fd_13_4, arr_14, arr_15, arr_16, arr_17, fd_18_0, fd_18_1, fd_18_2, fd_18_3, fd_18_4, fd_18_5, arr_19, arr_20, arr_21, arr_22, arr_23, fd_24_0, fd_24_1, fd_24_2, fd_24_3, fd_24_4, fd_24_5, fd_24_6, arr_25, arr_26, arr_27, arr_28, arr_29, fd_30_0, fd_30_1, fd_30_2, fd_30_3, fd_30_4, arr_31, arr_32, arr_33, arr_34, fd_35_0, fd_35_1, fd_35_2, fd_35_3, fd_35_4, fd_35_5, fd_35_6, fd_35_7, fd_35_8, fd_35_9, fd_35_10, fd_35_11, fd_35_12, fd_35_13, fd_35_14, fd_35_15, fd_35_16, fd_35_17, arr_36, arr_37, arr_38, arr_39, arr_40, arr_41, arr_42, arr_43, arr_44, arr_45, arr_46, arr_47, h.len, h2, h.out, hq, not_true_eq_false, not_false_eq_true, hx, h1, h.d2 hjl, h.d3 hjl, h.d4 hjl, h.d5 hjl, hz, hB j hjl, s_66 hf.2.1, h69, h701, h702, h703, uC_uC, nI_1]
        rw [hs', hpf]
theorem l3_71 {L : List Dd} {w o : Int32} (hl : s16 (liveL (rm (qo o) 0 L) w)) : ∀ (n j : Nat), j + n = 16 → ∀ (M : mmM), M.1 35 11 = liveL (rm (qo o) 0 L) w → rn none 71 156 [.ref 35, .int (nI j)] [] M = some (.inl none, (uC M.1 42 (l1 (liveL (rm (qo o) 0 L) w) n (M.1 42)), M.2))
  | 0, j, hj, M, h => by
    obtain rfl : j = 16 := by omega
    rw [r_71_156]
    simp only [r_71_157, r_71_159, r_71_188, sm_0, sm_c, ct_i, ct_r, ct_n, ct_l, ct_d, cB_l, cB_r, tl_s, tl_n, oB_some, fG_r, fG_i, fP_i, aL_ok, rV_some, aI, uC_self, mmI, if_true, if_false, true_or, or_true, Nat.reduceAdd, Nat.reduceLeDiff, Nat.zero_le, Nat.reduceEqDiff, Nat.reduceSub, eq_self, Nat.le_refl, uC_ne, ne_eq, not_false_eq_true, i1_0, i0_1, i16, mm_eta, fd_0_0, fd_0_1, fd_0_2, fd_0_3, fd_0_4, fd_0_5, fd_0_6, fd_0_7, fd_1_0, fd_1_1, fd_1_2, fd_1_3, fd_1_4, fd_1_5, arr_2, arr_3, arr_4, arr_5, arr_6, fd_7_0, fd_7_1, fd_7_2, fd_7_3, fd_7_4, fd_7_5, fd_7_6, arr_8, arr_9, arr_10, arr_11, arr_12, fd_13_0, fd_13_1, fd_13_2, fd_13_3, fd_13_4, arr_14, arr_15, arr_16, arr_17, fd_18_0, fd_18_1, fd_18_2, fd_18_3, fd_18_4, fd_18_5, arr_19, arr_20, arr_21, arr_22, arr_23, fd_24_0, fd_24_1, fd_24_2, fd_24_3, fd_24_4, fd_24_5, fd_24_6, arr_25, arr_26, arr_27, arr_28, arr_29, fd_30_0, fd_30_1, fd_30_2, fd_30_3, fd_30_4, arr_31, arr_32, arr_33, arr_34, fd_35_0, fd_35_1, fd_35_2, fd_35_3, fd_35_4, fd_35_5, fd_35_6, fd_35_7, fd_35_8, fd_35_9, fd_35_10, fd_35_11, fd_35_12, fd_35_13, fd_35_14, fd_35_15, fd_35_16, fd_35_17, arr_36, arr_37, arr_38, arr_39, arr_40, arr_41, arr_42, arr_43, arr_44, arr_45, arr_46, arr_47, nI_16, l1, uC_id]
  | n + 1, j, hj, M, h => by
    have hj16 : j < 16 := by omega
    have ej : 15 - n = j := by omega
    rw [r_71_156, l1, ej]
    cases hb : bt (liveL (rm (qo o) 0 L) w) j with
    | false =>
      have ih := l3_71 hl n (j + 1) (by omega) M h
      simp only [r_71_157, r_71_159, r_71_162, r_71_163, r_71_166, r_71_167, r_71_170, r_71_173, r_71_174, r_71_175, r_71_176, r_71_179, r_71_182, r_71_185, sm_0, sm_c, ct_i, ct_r, ct_n, ct_l, ct_d, cB_l, cB_r, tl_s, tl_n, oB_some, fG_r, fG_i, fP_i, aL_ok, rV_some, aI, uC_self, mmI, if_true, if_false, true_or, or_true, Nat.reduceAdd, Nat.reduceLeDiff, Nat.zero_le, Nat.reduceEqDiff, Nat.reduceSub, eq_self, Nat.le_refl, uC_ne, ne_eq, not_false_eq_true, i1_0, i0_1, i16, mm_eta, fd_0_0, fd_0_1, fd_0_2, fd_0_3, fd_0_4, fd_0_5, fd_0_6, fd_0_7, fd_1_0, fd_1_1, fd_1_2, fd_1_3, fd_1_4, fd_1_5, arr_2, arr_3, arr_4, arr_5, arr_6, fd_7_0, fd_7_1, fd_7_2, fd_7_3, fd_7_4, fd_7_5, fd_7_6, arr_8, arr_9, arr_10, arr_11, arr_12, fd_13_0, fd_13_1, fd_13_2, fd_13_3, fd_13_4, arr_14, arr_15, arr_16, arr_17, fd_18_0, fd_18_1, fd_18_2, fd_18_3, fd_18_4, fd_18_5, arr_19, arr_20, arr_21, arr_22, arr_23, fd_24_0, fd_24_1, fd_24_2, fd_24_3, fd_24_4, fd_24_5, fd_24_6, arr_25, arr_26, arr_27, arr_28, arr_29, fd_30_0, fd_30_1, fd_30_2, fd_30_3, fd_30_4, arr_31, arr_32, arr_33, arr_34, fd_35_0, fd_35_1, fd_35_2, fd_35_3, fd_35_4, fd_35_5, fd_35_6, fd_35_7, fd_35_8, fd_35_9, fd_35_10, fd_35_11, fd_35_12, fd_35_13, fd_35_14, fd_35_15, fd_35_16, fd_35_17, arr_36, arr_37, arr_38, arr_39, arr_40, arr_41, arr_42, arr_43, arr_44, arr_45, arr_46, arr_47, p_hi hj16, h, s_65 hj16, hb, b01_f, not_true_eq_false, nI_1, ih, Bool.false_eq_true]
    | true =>
      have ih := l3_71 hl n (j + 1) (by omega) (uC M.1 42 (addC (M.1 42) j (liveL (rm (qo o) 0 L) w)), M.2) (by dsimp only; rw [uC_ne (by omega)]; exact h)
      dsimp only at ih
      rw [uC_self, uC_uC] at ih
      simp only [r_71_157, r_71_159, r_71_162, r_71_163, r_71_166, r_71_167, r_71_170, r_71_173, r_71_174, r_71_175, r_71_176, r_71_179, r_71_182, r_71_185, sm_0, sm_c, ct_i, ct_r, ct_n, ct_l, ct_d, cB_l, cB_r, tl_s, tl_n, oB_some, fG_r, fG_i, fP_i, aL_ok, rV_some, aI, uC_self, mmI, if_true, if_false, true_or, or_true, Nat.reduceAdd, Nat.reduceLeDiff, Nat.zero_le, Nat.reduceEqDiff, Nat.reduceSub, eq_self, Nat.le_refl, uC_ne, ne_eq, not_false_eq_true, i1_0, i0_1, i16, mm_eta, fd_0_0, fd_0_1, fd_0_2, fd_0_3, fd_0_4, fd_0_5, fd_0_6, fd_0_7, fd_1_0, fd_1_1, fd_1_2, fd_1_3, fd_1_4, fd_1_5, arr_2, arr_3, arr_4, arr_5, arr_6, fd_7_0, fd_7_1, fd_7_2, fd_7_3, fd_7_4, fd_7_5, fd_7_6, arr_8, arr_9, arr_10, arr_11, arr_12, fd_13_0, fd_13_1, fd_13_2, fd_13_3, fd_13_4, arr_14, arr_15, arr_16, arr_17, fd_18_0, fd_18_1, fd_18_2, fd_18_3, fd_18_4, fd_18_5, arr_19, arr_20, arr_21, arr_22, arr_23, fd_24_0, fd_24_1, fd_24_2, fd_24_3, fd_24_4, fd_24_5, fd_24_6, arr_25, arr_26, arr_27, arr_28, arr_29, fd_30_0, fd_30_1, fd_30_2, fd_30_3, fd_30_4, arr_31, arr_32, arr_33, arr_34, fd_35_0, fd_35_1, fd_35_2, fd_35_3, fd_35_4, fd_35_5, fd_35_6, fd_35_7, fd_35_8, fd_35_9, fd_35_10, fd_35_11, fd_35_12, fd_35_13, fd_35_14, fd_35_15, fd_35_16, fd_35_17, arr_36, arr_37, arr_38, arr_39, arr_40, arr_41, arr_42, arr_43, arr_44, arr_45, arr_46, arr_47, p_hi hj16, h, s_65 hj16, s_69 hj16 hl, hb, b01_t, not_false_eq_true, nI_1, ih]
/-- what look leaves -/
def Look (f : Nat → Nat → Int32) (L : List Dd) (w o : Int32) : Prop :=
  f 42 = (STU (rm (qo o) 0 L) w).2.1 ∧ f 43 = (STU (rm (qo o) 0 L) w).2.2.2 ∧ f 35 12 = (STU (rm (qo o) 0 L) w).1 ∧ f 35 11 = liveL (rm (qo o) 0 L) w ∧ Beh f L w o
theorem s_71 {L : List Dd} {w o : Int32} {kk : Nat} {M : mmM} (h : RefO M.1 L w kk o) :
    ∃ f', rn none 71 0 [.ref 35, .null] [] M = some (.inl none, (f', M.2)) ∧ Look f' L w o ∧ RefO f' L w kk o ∧ f' 35 = upd (upd (M.1 35) 12 (STU (rm (qo o) 0 L) w).1) 11 (liveL (rm (qo o) 0 L) w) ∧ (∀ a, a < 35 ∨ 43 < a → f' a = M.1 a) := by
  obtain ⟨f1, h1, h2, h3, h4⟩ := s_68 h
  have hO' := rm_ok (q := qo o) 0 h.ok
  have hR1 : RefO f1 L w kk o := h.same (by rw [h2, upd_ne (by omega), upd_ne (by omega)]) (by rw [h2, upd_ne (by omega), upd_ne (by omega)]) (by rw [h2, upd_ne (by omega), upd_ne (by omega)]) (by rw [h2, upd_ne (by omega), upd_ne (by omega)]) (fun a ha hb => h4 a (by omega) (by omega)) (by rw [h4 _ (by omega) (by omega)]; exact h.z42) (by rw [h4 _ (by omega) (by omega)]; exact h.z43) (by rw [h4 _ (by omega) (by omega)]; exact h.z44) (by rw [h4 _ (by omega) (by omega)]; exact h.z46)
  have a1 := l1_71 16 0 (by omega) (f1, M.2)
  dsimp only at a1
  rw [zr_0 hR1.z42, zr_0 hR1.z43, nI_0] at a1
  have hR2 : RefO (uC (uC f1 42 zf) 43 zf) L w kk o := (hR1.c42 zb_zf).c43 zb_zf
  have a2 := l2_71 L.length 0 (by omega) (uC (uC f1 42 zf) 43 zf, M.2) hR2 (fun d hd => by dsimp only; rw [uC_ne (by omega), uC_ne (by omega)]; exact h3 d hd)
  dsimp only at a2
  rw [uC_ne (show (42 : Nat) ≠ 43 by omega), uC_self, uC_self, uC_comm (k := 43) (a := 42) (by omega), uC_uC, uC_uC, List.drop_zero, nI_0] at a2
  have hl := s16_liveL h.s16 hO'
  obtain ⟨F, hF⟩ : ∃ F, F = uC (uC f1 42 (clF (rm (qo o) 0 L) w zf)) 43 (coF (rm (qo o) 0 L) zf) := ⟨_, rfl⟩
  rw [← hF] at a2
  have hF35 : F 35 = f1 35 := by rw [hF, uC_ne (by omega), uC_ne (by omega)]
  have hF11 : F 35 11 = liveL (rm (qo o) 0 L) w := by rw [hF35, h2, upd_at]
  have hF42 : F 42 = clF (rm (qo o) 0 L) w zf := by rw [hF, uC_ne (by omega), uC_self]
  have hF43 : F 43 = coF (rm (qo o) 0 L) zf := by rw [hF, uC_self]
  have a3 := l3_71 hl 16 0 (by omega) (F, M.2) hF11
  dsimp only at a3
  rw [nI_0, hF42, ← STU_cl hO'] at a3
  have hS := zbS_STU (w := w) hO'
  have hRF : RefO F L w kk o := by
    rw [hF]
    refine (hR1.c42 ?_).c43 ?_
    · have := hS.1
      exact (by
        have h0 : ∀ (A : List Dd) (c : Nat → Int32), okL A → zb c → zb (clF A w c) := by
          intro A
          induction A with
          | nil => intro c _ hc; exact hc
          | cons d A ih => intro c hA hc; exact ih _ (fun x hx => hA x (List.mem_cons_of_mem _ hx)) (zb_addC hc (isP_clamp (hA d List.mem_cons_self).1))
        exact h0 _ _ hO' zb_zf)
    · rw [← STU_co (w := w)]
      exact hS.2.2
  refine ⟨uC F 42 (STU (rm (qo o) 0 L) w).2.1, ?_, ⟨uC_self _ _ _, ?_, ?_, ?_, fun d hd => ?_⟩, hRF.c42 hS.1, ?_, fun a ha => ?_⟩
  · simp only [r_71_0, r_71_1, r_71_4, r_71_5, sm_0, sm_c, ct_i, ct_r, ct_n, ct_l, ct_d, cB_l, cB_r, tl_s, tl_n, oB_some, fG_r, fG_i, fP_i, aL_ok, rV_some, aI, uC_self, mmI, if_true, if_false, true_or, or_true, Nat.reduceAdd, Nat.reduceLeDiff, Nat.zero_le, Nat.reduceEqDiff, Nat.reduceSub, eq_self, Nat.le_refl, uC_ne, ne_eq, not_false_eq_true, i1_0, i0_1, i16, mm_eta, fd_0_0, fd_0_1, fd_0_2, fd_0_3, fd_0_4, fd_0_5, fd_0_6, fd_0_7, fd_1_0, fd_1_1, fd_1_2, fd_1_3, fd_1_4, fd_1_5, arr_2, arr_3, arr_4, arr_5, arr_6, fd_7_0, fd_7_1, fd_7_2, fd_7_3, fd_7_4, fd_7_5, fd_7_6, arr_8, arr_9, arr_10, arr_11, arr_12, fd_13_0, fd_13_1, fd_13_2, fd_13_3, fd_13_4, arr_14, arr_15, arr_16, arr_17, fd_18_0, fd_18_1, fd_18_2, fd_18_3, fd_18_4, fd_18_5, arr_19, arr_20, arr_21, arr_22, arr_23, fd_24_0, fd_24_1, fd_24_2, fd_24_3, fd_24_4, fd_24_5, fd_24_6, arr_25, arr_26, arr_27, arr_28, arr_29, fd_30_0, fd_30_1, fd_30_2, fd_30_3, fd_30_4, arr_31, arr_32, arr_33, arr_34, fd_35_0, fd_35_1, fd_35_2, fd_35_3, fd_35_4, fd_35_5, fd_35_6, fd_35_7, fd_35_8, fd_35_9, fd_35_10, fd_35_11, fd_35_12, fd_35_13, fd_35_14, fd_35_15, fd_35_16, fd_35_17, arr_36, arr_37, arr_38, arr_39, arr_40, arr_41, arr_42, arr_43, arr_44, arr_45, arr_46, arr_47, h1, a1, a2, a3]
  · rw [uC_ne (by omega), hF43, STU_co]
  · rw [uC_ne (by omega), hF35, h2, upd_ne (by omega), upd_at, thB_eq]
  · rw [uC_ne (by omega), hF11]
  · rw [uC_ne (by omega), hF, uC_ne (by omega), uC_ne (by omega)]
    exact h3 d hd
  · rw [uC_ne (by omega), hF35, h2, thB_eq]
  · rw [uC_ne (by omega), hF, uC_ne (by omega), uC_ne (by omega)]
    exact h4 a (by omega) (by omega)
