/-! Row.takeOver, add, remove, copy -/
theorem nar01 {v : Int32} (h : v = 0 ∨ v = 1) : vp_nar .boolean v = v := by rcases h with rfl | rfl <;> decide +kernel
def b5 (rb j : Nat) (d : Dd) (f : Nat → Nat → Int32) : Nat → Nat → Int32 := uC (uC (uC (uC (uC f (rb + 1) (upd (f (rb + 1)) j d.1)) (rb + 2) (upd (f (rb + 2)) j d.2.1)) (rb + 3) (upd (f (rb + 3)) j d.2.2.1)) (rb + 4) (upd (f (rb + 4)) j d.2.2.2.1)) (rb + 5) (upd (f (rb + 5)) j d.2.2.2.2)
theorem b5_ne {rb j a : Nat} {d : Dd} {f : Nat → Nat → Int32} (h : a ≤ rb ∨ rb + 5 < a) : b5 rb j d f a = f a := by
  unfold b5
  rw [uC_ne (by omega), uC_ne (by omega), uC_ne (by omega), uC_ne (by omega), uC_ne (by omega)]
theorem b5_at {rb j : Nat} {d : Dd} {f : Nat → Nat → Int32} : dAt rb (b5 rb j d f) j = d := by
  simp [dAt, b5, uC, upd]
theorem b5_oth {rb j i : Nat} {d : Dd} {f : Nat → Nat → Int32} (h : i ≠ j) : dAt rb (b5 rb j d f) i = dAt rb f i := by
  simp [dAt, b5, uC, upd, h]
set_option maxHeartbeats 4000000 in
theorem s_16 {rb rs : Nat} (h : (rb = 1 ∧ rs = 1) ∨ (rb = 18 ∧ rs = 18) ∨ (rb = 18 ∧ rs = 1)) {i j : Nat} (hi : i < 30) (hj : j < 30) {M : mmM} (hp : M.1 (rs + 5) i = 0 ∨ M.1 (rs + 5) i = 1) : rn none 16 0 [.ref rb, .ref rs, .int (nI i), .int (nI j)] [] M = some (.inl none, (b5 rb j (dAt rs M.1 i) M.1, M.2)) := by
  have hn := nar01 hp
  rcases h with ⟨rfl, rfl⟩ | ⟨rfl, rfl⟩ | ⟨rfl, rfl⟩ <;>
  (simp only [Nat.reduceAdd] at hn; simp only [r_16_0, r_16_1, r_16_4, r_16_5, r_16_6, r_16_9, r_16_10, r_16_11, r_16_12, r_16_13, r_16_16, r_16_17, r_16_18, r_16_21, r_16_22, r_16_23, r_16_24, r_16_25, r_16_28, r_16_29, r_16_30, r_16_33, r_16_34, r_16_35, r_16_36, r_16_37, r_16_40, r_16_41, r_16_42, r_16_45, r_16_46, r_16_47, r_16_48, r_16_49, r_16_52, r_16_53, r_16_54, r_16_57, r_16_58, r_16_59, r_16_60, sm_0, sm_c, ct_i, ct_r, ct_n, ct_l, ct_d, cB_l, cB_r, tl_s, tl_n, oB_some, fG_r, fG_i, fP_i, aL_ok, rV_some, aI, uC_self, mmI, if_true, if_false, true_or, or_true, Nat.reduceAdd, Nat.reduceLeDiff, Nat.zero_le, Nat.reduceEqDiff, Nat.reduceSub, eq_self, Nat.le_refl, uC_ne, ne_eq, not_false_eq_true, i1_0, i0_1, i16, mm_eta, fd_0_0, fd_0_1, fd_0_2, fd_0_3, fd_0_4, fd_0_5, fd_0_6, fd_0_7, fd_1_0, fd_1_1, fd_1_2, fd_1_3, fd_1_4, fd_1_5, arr_2, arr_3, arr_4, arr_5, arr_6, fd_7_0, fd_7_1, fd_7_2, fd_7_3, fd_7_4, fd_7_5, fd_7_6, arr_8, arr_9, arr_10, arr_11, arr_12, fd_13_0, fd_13_1, fd_13_2, fd_13_3, fd_13_4, arr_14, arr_15, arr_16, arr_17, fd_18_0, fd_18_1, fd_18_2, fd_18_3, fd_18_4, fd_18_5, arr_19, arr_20, arr_21, arr_22, arr_23, fd_24_0, fd_24_1, fd_24_2, fd_24_3, fd_24_4, fd_24_5, fd_24_6, arr_25, arr_26, arr_27, arr_28, arr_29, fd_30_0, fd_30_1, fd_30_2, fd_30_3, fd_30_4, arr_31, arr_32, arr_33, arr_34, mmX_nI hi (by omega : 30 < 2147483648), mmX_nI hj (by omega : 30 < 2147483648), hn, b5, dAt])
theorem rowIs.set {rb j : Nat} {d : Dd} {f : Nat → Nat → Int32} {L : List Dd} (h : rowIs rb f L) (hj : j < L.length) : rowIs rb (b5 rb j d f) (L.set j d) := by
  refine ⟨by rw [b5_ne (by omega), List.length_set]; exact h.1, by rw [List.length_set]; exact h.2.1, fun i hi => ?_⟩
  rw [List.length_set] at hi
  by_cases hij : i = j
  · subst hij
    rw [b5_at]
    simp [dd, List.getD_eq_getElem?_getD, List.getElem?_set_self hj]
  · rw [b5_oth hij, h.2.2 i hi]
    simp [dd, List.getD_eq_getElem?_getD, List.getElem?_set_ne (Ne.symm hij)]
/-- moving up, n steps from t -/
def shl : List Dd → Nat → Nat → List Dd
  | L, _, 0 => L
  | L, t, n + 1 => shl (L.set t (dd L (t + 1))) (t + 1) n
theorem shl_len : ∀ (n : Nat) (L : List Dd) (t : Nat), (shl L t n).length = L.length
  | 0, L, t => rfl
  | n + 1, L, t => by simp [shl, shl_len n]
theorem shl_at : ∀ (n : Nat) (L : List Dd) (t i : Nat), t + n < L.length → (shl L t n)[i]? = if t ≤ i ∧ i < t + n then L[i + 1]? else L[i]?
  | 0, L, t, i, h => by simp [shl, show ¬ (t ≤ i ∧ i < t) by omega]
  | n + 1, L, t, i, h => by
    rw [shl, shl_at n _ (t + 1) i (by rw [List.length_set]; omega)]
    by_cases h1 : t + 1 ≤ i ∧ i < t + 1 + n
    · rw [if_pos h1, if_pos (by omega), List.getElem?_set_ne (by omega)]
    · rw [if_neg h1]
      by_cases h2 : i = t
      · subst h2
        rw [if_pos (by omega), List.getElem?_set_self (by omega)]
        simp [dd, List.getD_eq_getElem?_getD, List.getElem?_eq_getElem (show i + 1 < L.length by omega)]
      · rw [if_neg (by omega), List.getElem?_set_ne (Ne.symm h2)]
theorem shl_erase {L : List Dd} {t : Nat} (h : t < L.length) : (shl L t (L.length - 1 - t)).dropLast = L.eraseIdx t := by
  apply List.ext_getElem?
  intro i
  rw [List.getElem?_dropLast, shl_len, List.getElem?_eraseIdx]
  by_cases hi : i < L.length - 1
  · rw [if_pos hi, shl_at _ _ _ _ (by omega)]
    by_cases h1 : i < t
    · rw [if_neg (by omega), if_pos h1]
    · rw [if_pos (by omega), if_neg h1]
  · rw [if_neg hi]
    by_cases h1 : i < t
    · omega
    · rw [if_neg h1, List.getElem?_eq_none (by omega)]
theorem rowIs.pour {rb d : Nat} {f : Nat → Nat → Int32} {L : List Dd} (h : rowIs rb f L) (hO : okL L) (hd : d < L.length) : f (rb + 5) d = 0 ∨ f (rb + 5) d = 1 := by
  have h1 : f (rb + 5) d = (dd L d).2.2.2.2 := congrArg (fun x : Dd => x.2.2.2.2) (h.2.2 d hd)
  rw [h1]
  rcases (hO _ (dd_mem hd)).2.2.2.2 with h | h
  · exact Or.inl h
  · exact Or.inr h.1
theorem rowIs.drop {rb : Nat} {f : Nat → Nat → Int32} {L : List Dd} (h : rowIs rb f L) (h0 : 0 < L.length) : rowIs rb (uC f rb (upd (f rb) 5 (f rb 5 - 1))) L.dropLast := by
  refine ⟨?_, by rw [List.length_dropLast]; have := h.2.1; omega, fun i hi => ?_⟩
  · rw [uC_self, upd_at, h.1, List.length_dropLast]
    obtain ⟨n, hn⟩ : ∃ n, L.length = n + 1 := ⟨L.length - 1, by omega⟩
    rw [hn]
    exact nI_pred n
  · rw [List.length_dropLast] at hi
    have e : dAt rb (uC f rb (upd (f rb) 5 (f rb 5 - 1))) i = dAt rb f i := by simp [dAt, uC]
    rw [e, h.2.2 i (by omega)]
    simp [dd, List.getD_eq_getElem?_getD, List.getElem?_dropLast, hi, List.getElem?_eq_getElem (show i < L.length by omega)]
theorem okL.set {L : List Dd} {t : Nat} {d : Dd} (h : okL L) (hd : okD d) : okL (L.set t d) := fun x hx => (List.mem_or_eq_of_mem_set hx).elim (h x) (fun e => e ▸ hd)
/-- what a method leaves alone: all cells but lo to hi -/
def frm (lo hi : Nat) (f g : Nat → Nat → Int32) : Prop := ∀ a, a < lo ∨ hi < a → g a = f a
theorem frm.rf {lo hi : Nat} {f : Nat → Nat → Int32} : frm lo hi f f := fun _ _ => rfl
theorem frm.tr {lo hi : Nat} {f g k : Nat → Nat → Int32} (h : frm lo hi f g) (h2 : frm lo hi g k) : frm lo hi f k := fun a ha => (h2 a ha).trans (h a ha)
set_option maxHeartbeats 4000000 in
theorem l_13 {rb : Nat} (hb : rb = 1 ∨ rb = 18) {x : Int32} : ∀ (n t : Nat) (L : List Dd), t + n + 1 = L.length → okL L → ∀ M : mmM, rowIs rb M.1 L → ∃ f', rn none 13 24 [.ref rb, .int x, .int (nI t)] [] M = some (.inl none, (f', M.2)) ∧ rowIs rb f' (shl L t n).dropLast ∧ frm rb (rb + 5) M.1 f'
  | 0, t, L, hn, hO, M, hR => by
    have e := hR.1
    have h30 := hR.2.1
    have h2 : (nI L.length ≤ nI (t + 1)) = True := eq_true (nI_le (by omega) (by omega))
    refine ⟨uC M.1 rb (upd (M.1 rb) 5 (M.1 rb 5 - 1)), ?_, hR.drop (by omega), fun a ha => uC_ne (by omega)⟩
    rw [r_13_24]
    rcases hb with rfl | rfl <;> simp only [r_13_0, r_13_1, r_13_4, r_13_5, r_13_6, r_13_9, r_13_12, r_13_15, r_13_22, r_13_23, r_13_25, r_13_26, r_13_27, r_13_28, r_13_31, r_13_34, r_13_35, r_13_36, r_13_37, r_13_38, r_13_39, r_13_40, r_13_43, r_13_46, r_13_49, r_13_50, r_13_51, r_13_54, r_13_55, r_13_56, r_13_59, sm_0, sm_c, ct_i, ct_r, ct_n, ct_l, ct_d, cB_l, cB_r, tl_s, tl_n, oB_some, fG_r, fG_i, fP_i, aL_ok, rV_some, aI, uC_self, mmI, if_true, if_false, true_or, or_true, Nat.reduceAdd, Nat.reduceLeDiff, Nat.zero_le, Nat.reduceEqDiff, Nat.reduceSub, eq_self, Nat.le_refl, uC_ne, ne_eq, not_false_eq_true, i1_0, i0_1, i16, mm_eta, fd_0_0, fd_0_1, fd_0_2, fd_0_3, fd_0_4, fd_0_5, fd_0_6, fd_0_7, fd_1_0, fd_1_1, fd_1_2, fd_1_3, fd_1_4, fd_1_5, arr_2, arr_3, arr_4, arr_5, arr_6, fd_7_0, fd_7_1, fd_7_2, fd_7_3, fd_7_4, fd_7_5, fd_7_6, arr_8, arr_9, arr_10, arr_11, arr_12, fd_13_0, fd_13_1, fd_13_2, fd_13_3, fd_13_4, arr_14, arr_15, arr_16, arr_17, fd_18_0, fd_18_1, fd_18_2, fd_18_3, fd_18_4, fd_18_5, arr_19, arr_20, arr_21, arr_22, arr_23, fd_24_0, fd_24_1, fd_24_2, fd_24_3, fd_24_4, fd_24_5, fd_24_6, arr_25, arr_26, arr_27, arr_28, arr_29, fd_30_0, fd_30_1, fd_30_2, fd_30_3, fd_30_4, arr_31, arr_32, arr_33, arr_34, e, nI_1, h2]
  | n + 1, t, L, hn, hO, M, hR => by
    have e := hR.1
    have h30 := hR.2.1
    have h2 : (nI L.length ≤ nI (t + 1)) = False := eq_false (nI_ge (by omega) (by omega))
    have hd := hR.2.2 (t + 1) (by omega)
    have h16 := s_16 (rb := rb) (rs := rb) (by rcases hb with rfl | rfl <;> simp) (show t + 1 < 30 by omega) (show t < 30 by omega) (M := M) (hR.pour hO (by omega))
    rw [hd] at h16
    obtain ⟨f', h3, h4, h5⟩ := l_13 hb (x := x) n (t + 1) (L.set t (dd L (t + 1))) (by rw [List.length_set]; omega) (hO.set (hO _ (dd_mem (by omega)))) (b5 rb t (dd L (t + 1)) M.1, M.2) (hR.set (by omega))
    refine ⟨f', ?_, h4, fun a ha => (h5 a ha).trans (b5_ne (by omega))⟩
    rw [← h3, r_13_24]
    rcases hb with rfl | rfl <;> simp only [r_13_0, r_13_1, r_13_4, r_13_5, r_13_6, r_13_9, r_13_12, r_13_15, r_13_22, r_13_23, r_13_25, r_13_26, r_13_27, r_13_28, r_13_31, r_13_34, r_13_35, r_13_36, r_13_37, r_13_38, r_13_39, r_13_40, r_13_43, r_13_46, r_13_49, r_13_50, r_13_51, r_13_54, r_13_55, r_13_56, r_13_59, sm_0, sm_c, ct_i, ct_r, ct_n, ct_l, ct_d, cB_l, cB_r, tl_s, tl_n, oB_some, fG_r, fG_i, fP_i, aL_ok, rV_some, aI, uC_self, mmI, if_true, if_false, true_or, or_true, Nat.reduceAdd, Nat.reduceLeDiff, Nat.zero_le, Nat.reduceEqDiff, Nat.reduceSub, eq_self, Nat.le_refl, uC_ne, ne_eq, not_false_eq_true, i1_0, i0_1, i16, mm_eta, fd_0_0, fd_0_1, fd_0_2, fd_0_3, fd_0_4, fd_0_5, fd_0_6, fd_0_7, fd_1_0, fd_1_1, fd_1_2, fd_1_3, fd_1_4, fd_1_5, arr_2, arr_3, arr_4, arr_5, arr_6, fd_7_0, fd_7_1, fd_7_2, fd_7_3, fd_7_4, fd_7_5, fd_7_6, arr_8, arr_9, arr_10, arr_11, arr_12, fd_13_0, fd_13_1, fd_13_2, fd_13_3, fd_13_4, arr_14, arr_15, arr_16, arr_17, fd_18_0, fd_18_1, fd_18_2, fd_18_3, fd_18_4, fd_18_5, arr_19, arr_20, arr_21, arr_22, arr_23, fd_24_0, fd_24_1, fd_24_2, fd_24_3, fd_24_4, fd_24_5, fd_24_6, arr_25, arr_26, arr_27, arr_28, arr_29, fd_30_0, fd_30_1, fd_30_2, fd_30_3, fd_30_4, arr_31, arr_32, arr_33, arr_34, e, nI_1, h2, h16]
theorem s_13 {rb : Nat} (hb : rb = 1 ∨ rb = 18) {d : Nat} {L : List Dd} (hd : d < L.length) (hO : okL L) {M : mmM} (hR : rowIs rb M.1 L) : ∃ f', rn none 13 0 [.ref rb, .int (nI d), .null] [] M = some (.inl none, (f', M.2)) ∧ rowIs rb f' (L.eraseIdx d) ∧ frm rb (rb + 5) M.1 f' := by
  obtain ⟨f', h1, h2, h3⟩ := l_13 hb (x := nI d) (L.length - 1 - d) d L (by omega) hO M hR
  have h30 := hR.2.1
  have e := hR.1
  have h4 : (nI d < nI L.length) = True := eq_true (nI_lt hd (by omega))
  refine ⟨f', ?_, by rw [shl_erase hd] at h2; exact h2, h3⟩
  rw [← h1]
  rcases hb with rfl | rfl <;> simp only [r_13_0, r_13_1, r_13_4, r_13_5, r_13_6, r_13_9, r_13_12, r_13_15, r_13_22, r_13_23, r_13_25, r_13_26, r_13_27, r_13_28, r_13_31, r_13_34, r_13_35, r_13_36, r_13_37, r_13_38, r_13_39, r_13_40, r_13_43, r_13_46, r_13_49, r_13_50, r_13_51, r_13_54, r_13_55, r_13_56, r_13_59, sm_0, sm_c, ct_i, ct_r, ct_n, ct_l, ct_d, cB_l, cB_r, tl_s, tl_n, oB_some, fG_r, fG_i, fP_i, aL_ok, rV_some, aI, uC_self, mmI, if_true, if_false, true_or, or_true, Nat.reduceAdd, Nat.reduceLeDiff, Nat.zero_le, Nat.reduceEqDiff, Nat.reduceSub, eq_self, Nat.le_refl, uC_ne, ne_eq, not_false_eq_true, i1_0, i0_1, i16, mm_eta, fd_0_0, fd_0_1, fd_0_2, fd_0_3, fd_0_4, fd_0_5, fd_0_6, fd_0_7, fd_1_0, fd_1_1, fd_1_2, fd_1_3, fd_1_4, fd_1_5, arr_2, arr_3, arr_4, arr_5, arr_6, fd_7_0, fd_7_1, fd_7_2, fd_7_3, fd_7_4, fd_7_5, fd_7_6, arr_8, arr_9, arr_10, arr_11, arr_12, fd_13_0, fd_13_1, fd_13_2, fd_13_3, fd_13_4, arr_14, arr_15, arr_16, arr_17, fd_18_0, fd_18_1, fd_18_2, fd_18_3, fd_18_4, fd_18_5, arr_19, arr_20, arr_21, arr_22, arr_23, fd_24_0, fd_24_1, fd_24_2, fd_24_3, fd_24_4, fd_24_5, fd_24_6, arr_25, arr_26, arr_27, arr_28, arr_29, fd_30_0, fd_30_1, fd_30_2, fd_30_3, fd_30_4, arr_31, arr_32, arr_33, arr_34, e, p_lo (show d < 2147483648 by omega), h4]
theorem s_13x {x : Int32} {L : List Dd} {M : mmM} (hR : rowIs 1 M.1 L) (hx : x < 0 ∨ nI L.length ≤ x) : rn none 13 0 [.ref 1, .int x, .null] [] M = some (.inr 0, mmT M) := by
  have e := hR.1
  by_cases h1 : x < 0
  · simp only [r_13_0, r_13_1, r_13_4, r_13_5, r_13_6, r_13_9, r_13_12, r_13_15, r_13_22, r_13_23, r_13_25, r_13_26, r_13_27, r_13_28, r_13_31, r_13_34, r_13_35, r_13_36, r_13_37, r_13_38, r_13_39, r_13_40, r_13_43, r_13_46, r_13_49, r_13_50, r_13_51, r_13_54, r_13_55, r_13_56, r_13_59, sm_0, sm_c, ct_i, ct_r, ct_n, ct_l, ct_d, cB_l, cB_r, tl_s, tl_n, oB_some, fG_r, fG_i, fP_i, aL_ok, rV_some, aI, uC_self, mmI, if_true, if_false, true_or, or_true, Nat.reduceAdd, Nat.reduceLeDiff, Nat.zero_le, Nat.reduceEqDiff, Nat.reduceSub, eq_self, Nat.le_refl, uC_ne, ne_eq, not_false_eq_true, i1_0, i0_1, i16, mm_eta, fd_0_0, fd_0_1, fd_0_2, fd_0_3, fd_0_4, fd_0_5, fd_0_6, fd_0_7, fd_1_0, fd_1_1, fd_1_2, fd_1_3, fd_1_4, fd_1_5, arr_2, arr_3, arr_4, arr_5, arr_6, fd_7_0, fd_7_1, fd_7_2, fd_7_3, fd_7_4, fd_7_5, fd_7_6, arr_8, arr_9, arr_10, arr_11, arr_12, fd_13_0, fd_13_1, fd_13_2, fd_13_3, fd_13_4, arr_14, arr_15, arr_16, arr_17, fd_18_0, fd_18_1, fd_18_2, fd_18_3, fd_18_4, fd_18_5, arr_19, arr_20, arr_21, arr_22, arr_23, fd_24_0, fd_24_1, fd_24_2, fd_24_3, fd_24_4, fd_24_5, fd_24_6, arr_25, arr_26, arr_27, arr_28, arr_29, fd_30_0, fd_30_1, fd_30_2, fd_30_3, fd_30_4, arr_31, arr_32, arr_33, arr_34, h1]
  · rcases hx with h | h
    · exact absurd h h1
    · simp only [r_13_0, r_13_1, r_13_4, r_13_5, r_13_6, r_13_9, r_13_12, r_13_15, r_13_22, r_13_23, r_13_25, r_13_26, r_13_27, r_13_28, r_13_31, r_13_34, r_13_35, r_13_36, r_13_37, r_13_38, r_13_39, r_13_40, r_13_43, r_13_46, r_13_49, r_13_50, r_13_51, r_13_54, r_13_55, r_13_56, r_13_59, sm_0, sm_c, ct_i, ct_r, ct_n, ct_l, ct_d, cB_l, cB_r, tl_s, tl_n, oB_some, fG_r, fG_i, fP_i, aL_ok, rV_some, aI, uC_self, mmI, if_true, if_false, true_or, or_true, Nat.reduceAdd, Nat.reduceLeDiff, Nat.zero_le, Nat.reduceEqDiff, Nat.reduceSub, eq_self, Nat.le_refl, uC_ne, ne_eq, not_false_eq_true, i1_0, i0_1, i16, mm_eta, fd_0_0, fd_0_1, fd_0_2, fd_0_3, fd_0_4, fd_0_5, fd_0_6, fd_0_7, fd_1_0, fd_1_1, fd_1_2, fd_1_3, fd_1_4, fd_1_5, arr_2, arr_3, arr_4, arr_5, arr_6, fd_7_0, fd_7_1, fd_7_2, fd_7_3, fd_7_4, fd_7_5, fd_7_6, arr_8, arr_9, arr_10, arr_11, arr_12, fd_13_0, fd_13_1, fd_13_2, fd_13_3, fd_13_4, arr_14, arr_15, arr_16, arr_17, fd_18_0, fd_18_1, fd_18_2, fd_18_3, fd_18_4, fd_18_5, arr_19, arr_20, arr_21, arr_22, arr_23, fd_24_0, fd_24_1, fd_24_2, fd_24_3, fd_24_4, fd_24_5, fd_24_6, arr_25, arr_26, arr_27, arr_28, arr_29, fd_30_0, fd_30_1, fd_30_2, fd_30_3, fd_30_4, arr_31, arr_32, arr_33, arr_34, h1, e, Int32.not_lt.mpr h]
theorem l_14 {L : List Dd} (hO : okL L) : ∀ (n t : Nat), t + n = L.length → ∀ M : mmM, rowIs 1 M.1 L → (∀ i, i < t → dAt 18 M.1 i = dd L i) → ∃ f', rn none 14 2 [.ref 18, .ref 1, .int (nI t)] [] M = some (.inl none, (f', M.2)) ∧ rowIs 18 f' L ∧ frm 18 23 M.1 f'
  | 0, t, hn, M, hR, hI => by
    have e := hR.1
    have h30 := hR.2.1
    have h2 : (nI L.length ≤ nI t) = True := eq_true (nI_le (by omega) (by omega))
    refine ⟨uC M.1 18 (upd (M.1 18) 5 (nI L.length)), ?_, ⟨by rw [uC_self, upd_at], h30, fun i hi => ?_⟩, fun a ha => uC_ne (by omega)⟩
    · rw [r_14_2]
      simp only [r_14_0, r_14_1, r_14_3, r_14_4, r_14_7, r_14_10, r_14_11, r_14_12, r_14_13, r_14_14, r_14_17, r_14_20, r_14_23, r_14_24, r_14_25, r_14_28, r_14_31, sm_0, sm_c, ct_i, ct_r, ct_n, ct_l, ct_d, cB_l, cB_r, tl_s, tl_n, oB_some, fG_r, fG_i, fP_i, aL_ok, rV_some, aI, uC_self, mmI, if_true, if_false, true_or, or_true, Nat.reduceAdd, Nat.reduceLeDiff, Nat.zero_le, Nat.reduceEqDiff, Nat.reduceSub, eq_self, Nat.le_refl, uC_ne, ne_eq, not_false_eq_true, i1_0, i0_1, i16, mm_eta, fd_0_0, fd_0_1, fd_0_2, fd_0_3, fd_0_4, fd_0_5, fd_0_6, fd_0_7, fd_1_0, fd_1_1, fd_1_2, fd_1_3, fd_1_4, fd_1_5, arr_2, arr_3, arr_4, arr_5, arr_6, fd_7_0, fd_7_1, fd_7_2, fd_7_3, fd_7_4, fd_7_5, fd_7_6, arr_8, arr_9, arr_10, arr_11, arr_12, fd_13_0, fd_13_1, fd_13_2, fd_13_3, fd_13_4, arr_14, arr_15, arr_16, arr_17, fd_18_0, fd_18_1, fd_18_2, fd_18_3, fd_18_4, fd_18_5, arr_19, arr_20, arr_21, arr_22, arr_23, fd_24_0, fd_24_1, fd_24_2, fd_24_3, fd_24_4, fd_24_5, fd_24_6, arr_25, arr_26, arr_27, arr_28, arr_29, fd_30_0, fd_30_1, fd_30_2, fd_30_3, fd_30_4, arr_31, arr_32, arr_33, arr_34, e, h2]
    · rw [← hI i (by omega)]
      simp [dAt, uC]
  | n + 1, t, hn, M, hR, hI => by
    have e := hR.1
    have h30 := hR.2.1
    have h2 : (nI L.length ≤ nI t) = False := eq_false (nI_ge (by omega) (by omega))
    have hd := hR.2.2 t (by omega)
    have h16 := s_16 (rb := 18) (rs := 1) (by simp) (show t < 30 by omega) (show t < 30 by omega) (M := M) (hR.pour hO (by omega))
    rw [hd] at h16
    obtain ⟨f', h3, h4, h5⟩ := l_14 hO n (t + 1) (by omega) (b5 18 t (dd L t) M.1, M.2) (hR.same (fun a h1 h2 => b5_ne (by omega))) (fun i hi => by
      dsimp only
      by_cases hit : i = t
      · subst hit
        exact b5_at
      · rw [b5_oth hit]
        exact hI i (by omega))
    refine ⟨f', ?_, h4, fun a ha => (h5 a ha).trans (b5_ne (by omega))⟩
    rw [← h3, r_14_2]
    simp only [r_14_0, r_14_1, r_14_3, r_14_4, r_14_7, r_14_10, r_14_11, r_14_12, r_14_13, r_14_14, r_14_17, r_14_20, r_14_23, r_14_24, r_14_25, r_14_28, r_14_31, sm_0, sm_c, ct_i, ct_r, ct_n, ct_l, ct_d, cB_l, cB_r, tl_s, tl_n, oB_some, fG_r, fG_i, fP_i, aL_ok, rV_some, aI, uC_self, mmI, if_true, if_false, true_or, or_true, Nat.reduceAdd, Nat.reduceLeDiff, Nat.zero_le, Nat.reduceEqDiff, Nat.reduceSub, eq_self, Nat.le_refl, uC_ne, ne_eq, not_false_eq_true, i1_0, i0_1, i16, mm_eta, fd_0_0, fd_0_1, fd_0_2, fd_0_3, fd_0_4, fd_0_5, fd_0_6, fd_0_7, fd_1_0, fd_1_1, fd_1_2, fd_1_3, fd_1_4, fd_1_5, arr_2, arr_3, arr_4, arr_5, arr_6, fd_7_0, fd_7_1, fd_7_2, fd_7_3, fd_7_4, fd_7_5, fd_7_6, arr_8, arr_9, arr_10, arr_11, arr_12, fd_13_0, fd_13_1, fd_13_2, fd_13_3, fd_13_4, arr_14, arr_15, arr_16, arr_17, fd_18_0, fd_18_1, fd_18_2, fd_18_3, fd_18_4, fd_18_5, arr_19, arr_20, arr_21, arr_22, arr_23, fd_24_0, fd_24_1, fd_24_2, fd_24_3, fd_24_4, fd_24_5, fd_24_6, arr_25, arr_26, arr_27, arr_28, arr_29, fd_30_0, fd_30_1, fd_30_2, fd_30_3, fd_30_4, arr_31, arr_32, arr_33, arr_34, e, h2, h16, nI_1]
theorem s_14 {L : List Dd} (hO : okL L) {M : mmM} (hR : rowIs 1 M.1 L) : ∃ f', rn none 14 0 [.ref 18, .ref 1, .null] [] M = some (.inl none, (f', M.2)) ∧ rowIs 18 f' L ∧ frm 18 23 M.1 f' := by
  obtain ⟨f', h1, h2, h3⟩ := l_14 hO L.length 0 (by omega) M hR (fun i hi => absurd hi (by omega))
  refine ⟨f', ?_, h2, h3⟩
  rw [← h1, nI_0, r_14_0, r_14_1 (by rfl)]
theorem rowIs.add {rb : Nat} {d : Dd} {f : Nat → Nat → Int32} {L : List Dd} (h : rowIs rb f L) (hl : L.length < 30) : rowIs rb (uC (b5 rb L.length d f) rb (upd (f rb) 5 (nI L.length + 1))) (L ++ [d]) := by
  refine ⟨by rw [uC_self, upd_at, nI_1, List.length_append]; rfl, by rw [List.length_append]; exact hl, fun i hi => ?_⟩
  rw [List.length_append] at hi
  have e : dAt rb (uC (b5 rb L.length d f) rb (upd (f rb) 5 (nI L.length + 1))) i = dAt rb (b5 rb L.length d f) i := by simp [dAt, uC]
  rw [e]
  by_cases hij : i = L.length
  · subst hij
    rw [b5_at]
    simp [dd, List.getD_eq_getElem?_getD]
  · have hi2 : i < L.length := by simp only [List.length_cons, List.length_nil] at hi; omega
    rw [b5_oth hij, h.2.2 i hi2]
    simp [dd, List.getD_eq_getElem?_getD, List.getElem?_append_left hi2]
theorem s_12 {a b c w v : Int32} (hv : v = 0 ∨ v = 1) {L : List Dd} (hl : L.length < 30) {M : mmM} (hR : rowIs 1 M.1 L) : ∃ f', rn none 12 0 [.ref 1, .int a, .int b, .int c, .int w, .int v, .null] [] M = some (.inl (some (.int (nI L.length))), (f', M.2)) ∧ rowIs 1 f' (L ++ [(a, b, c, w, v)]) ∧ frm 1 6 M.1 f' := by
  have e := hR.1
  have h4 : (nI L.length < 30) = True := eq_true (by rw [show (30 : Int32) = nI 30 from rfl]; exact nI_lt hl (by omega))
  refine ⟨_, ?_, hR.add hl, fun x hx => ?_⟩
  · simp only [r_12_0, r_12_1, r_12_4, r_12_6, r_12_9, r_12_12, r_12_19, r_12_20, r_12_23, r_12_25, r_12_26, r_12_29, r_12_31, r_12_32, r_12_33, r_12_34, r_12_37, r_12_39, r_12_40, r_12_41, r_12_42, r_12_45, r_12_47, r_12_48, r_12_49, r_12_50, r_12_53, r_12_55, r_12_57, r_12_58, r_12_59, r_12_62, r_12_64, r_12_66, r_12_67, r_12_68, r_12_70, r_12_71, r_12_72, r_12_75, r_12_77, sm_0, sm_c, ct_i, ct_r, ct_n, ct_l, ct_d, cB_l, cB_r, tl_s, tl_n, oB_some, fG_r, fG_i, fP_i, aL_ok, rV_some, aI, uC_self, mmI, if_true, if_false, true_or, or_true, Nat.reduceAdd, Nat.reduceLeDiff, Nat.zero_le, Nat.reduceEqDiff, Nat.reduceSub, eq_self, Nat.le_refl, uC_ne, ne_eq, not_false_eq_true, i1_0, i0_1, i16, mm_eta, fd_0_0, fd_0_1, fd_0_2, fd_0_3, fd_0_4, fd_0_5, fd_0_6, fd_0_7, fd_1_0, fd_1_1, fd_1_2, fd_1_3, fd_1_4, fd_1_5, arr_2, arr_3, arr_4, arr_5, arr_6, fd_7_0, fd_7_1, fd_7_2, fd_7_3, fd_7_4, fd_7_5, fd_7_6, arr_8, arr_9, arr_10, arr_11, arr_12, fd_13_0, fd_13_1, fd_13_2, fd_13_3, fd_13_4, arr_14, arr_15, arr_16, arr_17, fd_18_0, fd_18_1, fd_18_2, fd_18_3, fd_18_4, fd_18_5, arr_19, arr_20, arr_21, arr_22, arr_23, fd_24_0, fd_24_1, fd_24_2, fd_24_3, fd_24_4, fd_24_5, fd_24_6, arr_25, arr_26, arr_27, arr_28, arr_29, fd_30_0, fd_30_1, fd_30_2, fd_30_3, fd_30_4, arr_31, arr_32, arr_33, arr_34, e, h4, mmX_nI hl (by omega : 30 < 2147483648), nar01 hv, b5]
  · rw [uC_ne (by omega), b5_ne (by omega)]
theorem s_12x {a b c w v : Int32} {L : List Dd} (hl : L.length = 30) {M : mmM} (hR : rowIs 1 M.1 L) : rn none 12 0 [.ref 1, .int a, .int b, .int c, .int w, .int v, .null] [] M = some (.inr 2, mmT M) := by
  have e := hR.1
  rw [hl] at e
  simp only [r_12_0, r_12_1, r_12_4, r_12_6, r_12_9, r_12_12, r_12_19, r_12_20, r_12_23, r_12_25, r_12_26, r_12_29, r_12_31, r_12_32, r_12_33, r_12_34, r_12_37, r_12_39, r_12_40, r_12_41, r_12_42, r_12_45, r_12_47, r_12_48, r_12_49, r_12_50, r_12_53, r_12_55, r_12_57, r_12_58, r_12_59, r_12_62, r_12_64, r_12_66, r_12_67, r_12_68, r_12_70, r_12_71, r_12_72, r_12_75, r_12_77, sm_0, sm_c, ct_i, ct_r, ct_n, ct_l, ct_d, cB_l, cB_r, tl_s, tl_n, oB_some, fG_r, fG_i, fP_i, aL_ok, rV_some, aI, uC_self, mmI, if_true, if_false, true_or, or_true, Nat.reduceAdd, Nat.reduceLeDiff, Nat.zero_le, Nat.reduceEqDiff, Nat.reduceSub, eq_self, Nat.le_refl, uC_ne, ne_eq, not_false_eq_true, i1_0, i0_1, i16, mm_eta, fd_0_0, fd_0_1, fd_0_2, fd_0_3, fd_0_4, fd_0_5, fd_0_6, fd_0_7, fd_1_0, fd_1_1, fd_1_2, fd_1_3, fd_1_4, fd_1_5, arr_2, arr_3, arr_4, arr_5, arr_6, fd_7_0, fd_7_1, fd_7_2, fd_7_3, fd_7_4, fd_7_5, fd_7_6, arr_8, arr_9, arr_10, arr_11, arr_12, fd_13_0, fd_13_1, fd_13_2, fd_13_3, fd_13_4, arr_14, arr_15, arr_16, arr_17, fd_18_0, fd_18_1, fd_18_2, fd_18_3, fd_18_4, fd_18_5, arr_19, arr_20, arr_21, arr_22, arr_23, fd_24_0, fd_24_1, fd_24_2, fd_24_3, fd_24_4, fd_24_5, fd_24_6, arr_25, arr_26, arr_27, arr_28, arr_29, fd_30_0, fd_30_1, fd_30_2, fd_30_3, fd_30_4, arr_31, arr_32, arr_33, arr_34, e, show ((nI 30 : Int32) < 30) = False by decide]
