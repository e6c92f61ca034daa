/-! Study.make: the whole study of a row of deeds -/
def l1 (fst : Int32) : Nat → (Nat → Int32) → (Nat → Int32)
  | 0, cl => cl
  | n + 1, cl => l1 fst n (if bt fst (15 - n) = true then addC cl (15 - n) fst else cl)
def stF : List Dd → Int32 → stS → stS
  | [], _, s => s
  | d :: L, w, s => stF L w (tkS (liveL L w) d s)
theorem l1_18 {b rb : Nat} (hb : (b = 7 ∧ rb = 1) ∨ (b = 24 ∧ rb = 18)) {w : Int32} : ∀ (n j : Nat), j + n = 16 → ∀ M : mmM, rn none 18 37 [.ref b, .ref rb, .int w, .int (nI j)] [] M = rn none 18 69 [.ref b, .ref rb, .int w, .int 16] [] (uC M.1 (b + 3) (l1 (M.1 b 5) n (M.1 (b + 3))), M.2)
  | 0, j, hj, M => by
    obtain rfl : j = 16 := by omega
    rw [r_18_37]
    simp only [r_18_38, r_18_40, nI_16, sm_0, sm_c, ct_i, ct_r, ct_n, ct_l, ct_d, cB_l, cB_r, tl_s, tl_n, oB_some, fG_r, fG_i, fP_i, aL_ok, rV_some, aI, uC_self, mmI, if_true, if_false, true_or, or_true, Nat.reduceAdd, Nat.reduceLeDiff, Nat.zero_le, Nat.reduceEqDiff, Nat.reduceSub, eq_self, Nat.le_refl, uC_ne, ne_eq, not_false_eq_true, i1_0, i0_1, i16, mm_eta, fd_0_0, fd_0_1, fd_0_2, fd_0_3, fd_0_4, fd_0_5, fd_0_6, fd_0_7, fd_1_0, fd_1_1, fd_1_2, fd_1_3, fd_1_4, fd_1_5, arr_2, arr_3, arr_4, arr_5, arr_6, fd_7_0, fd_7_1, fd_7_2, fd_7_3, fd_7_4, fd_7_5, fd_7_6, arr_8, arr_9, arr_10, arr_11, arr_12, fd_13_0, fd_13_1, fd_13_2, fd_13_3, fd_13_4, arr_14, arr_15, arr_16, arr_17, fd_18_0, fd_18_1, fd_18_2, fd_18_3, fd_18_4, fd_18_5, arr_19, arr_20, arr_21, arr_22, arr_23, fd_24_0, fd_24_1, fd_24_2, fd_24_3, fd_24_4, fd_24_5, fd_24_6, arr_25, arr_26, arr_27, arr_28, arr_29, fd_30_0, fd_30_1, fd_30_2, fd_30_3, fd_30_4, arr_31, arr_32, arr_33, arr_34, l1, uC_id]
  | n + 1, j, hj, M => by
    have hj16 : j < 16 := by omega
    have ej : 15 - n = j := by omega
    have h7 : (7 : Nat) = 7 ∨ (7 : Nat) = 24 := Or.inl rfl
    have h24 : (24 : Nat) = 7 ∨ (24 : Nat) = 24 := Or.inr rfl
    have ih := l1_18 hb (w := w) n (j + 1) (by omega)
    rw [r_18_37]
    rcases hb with ⟨rfl, rfl⟩ | ⟨rfl, rfl⟩
    · simp only [r_18_0, r_18_1, r_18_4, r_18_5, r_18_8, r_18_9, r_18_12, r_18_13, r_18_16, r_18_17, r_18_20, r_18_21, r_18_24, r_18_25, r_18_26, r_18_29, r_18_30, r_18_31, r_18_32, r_18_35, r_18_36, r_18_38, r_18_40, r_18_43, r_18_44, r_18_47, r_18_48, r_18_51, r_18_54, r_18_55, r_18_56, r_18_57, r_18_60, r_18_63, r_18_66, r_18_70, r_18_71, r_18_72, r_18_73, r_18_76, r_18_79, r_18_80, r_18_81, r_18_82, r_18_85, r_18_88, r_18_91, sm_0, sm_c, ct_i, ct_r, ct_n, ct_l, ct_d, cB_l, cB_r, tl_s, tl_n, oB_some, fG_r, fG_i, fP_i, aL_ok, rV_some, aI, uC_self, mmI, if_true, if_false, true_or, or_true, Nat.reduceAdd, Nat.reduceLeDiff, Nat.zero_le, Nat.reduceEqDiff, Nat.reduceSub, eq_self, Nat.le_refl, uC_ne, ne_eq, not_false_eq_true, i1_0, i0_1, i16, mm_eta, fd_0_0, fd_0_1, fd_0_2, fd_0_3, fd_0_4, fd_0_5, fd_0_6, fd_0_7, fd_1_0, fd_1_1, fd_1_2, fd_1_3, fd_1_4, fd_1_5, arr_2, arr_3, arr_4, arr_5, arr_6, fd_7_0, fd_7_1, fd_7_2, fd_7_3, fd_7_4, fd_7_5, fd_7_6, arr_8, arr_9, arr_10, arr_11, arr_12, fd_13_0, fd_13_1, fd_13_2, fd_13_3, fd_13_4, arr_14, arr_15, arr_16, arr_17, fd_18_0, fd_18_1, fd_18_2, fd_18_3, fd_18_4, fd_18_5, arr_19, arr_20, arr_21, arr_22, arr_23, fd_24_0, fd_24_1, fd_24_2, fd_24_3, fd_24_4, fd_24_5, fd_24_6, arr_25, arr_26, arr_27, arr_28, arr_29, fd_30_0, fd_30_1, fd_30_2, fd_30_3, fd_30_4, arr_31, arr_32, arr_33, arr_34, p_hi hj16, s_58 hj16, s_25 h7 hj16, nI_1, ih]
      cases hbt : bt (M.1 7 5) j with
      | true => simp [b01, l1, ej, hbt, uC_uC, uC_self, uC_ne]
      | false => simp [b01, l1, ej, hbt]
    · simp only [r_18_0, r_18_1, r_18_4, r_18_5, r_18_8, r_18_9, r_18_12, r_18_13, r_18_16, r_18_17, r_18_20, r_18_21, r_18_24, r_18_25, r_18_26, r_18_29, r_18_30, r_18_31, r_18_32, r_18_35, r_18_36, r_18_38, r_18_40, r_18_43, r_18_44, r_18_47, r_18_48, r_18_51, r_18_54, r_18_55, r_18_56, r_18_57, r_18_60, r_18_63, r_18_66, r_18_70, r_18_71, r_18_72, r_18_73, r_18_76, r_18_79, r_18_80, r_18_81, r_18_82, r_18_85, r_18_88, r_18_91, sm_0, sm_c, ct_i, ct_r, ct_n, ct_l, ct_d, cB_l, cB_r, tl_s, tl_n, oB_some, fG_r, fG_i, fP_i, aL_ok, rV_some, aI, uC_self, mmI, if_true, if_false, true_or, or_true, Nat.reduceAdd, Nat.reduceLeDiff, Nat.zero_le, Nat.reduceEqDiff, Nat.reduceSub, eq_self, Nat.le_refl, uC_ne, ne_eq, not_false_eq_true, i1_0, i0_1, i16, mm_eta, fd_0_0, fd_0_1, fd_0_2, fd_0_3, fd_0_4, fd_0_5, fd_0_6, fd_0_7, fd_1_0, fd_1_1, fd_1_2, fd_1_3, fd_1_4, fd_1_5, arr_2, arr_3, arr_4, arr_5, arr_6, fd_7_0, fd_7_1, fd_7_2, fd_7_3, fd_7_4, fd_7_5, fd_7_6, arr_8, arr_9, arr_10, arr_11, arr_12, fd_13_0, fd_13_1, fd_13_2, fd_13_3, fd_13_4, arr_14, arr_15, arr_16, arr_17, fd_18_0, fd_18_1, fd_18_2, fd_18_3, fd_18_4, fd_18_5, arr_19, arr_20, arr_21, arr_22, arr_23, fd_24_0, fd_24_1, fd_24_2, fd_24_3, fd_24_4, fd_24_5, fd_24_6, arr_25, arr_26, arr_27, arr_28, arr_29, fd_30_0, fd_30_1, fd_30_2, fd_30_3, fd_30_4, arr_31, arr_32, arr_33, arr_34, p_hi hj16, s_58 hj16, s_25 h24 hj16, nI_1, ih]
      cases hbt : bt (M.1 24 5) j with
      | true => simp [b01, l1, ej, hbt, uC_uC, uC_self, uC_ne]
      | false => simp [b01, l1, ej, hbt]
theorem put_other {b a : Nat} {s : stS} {f : Nat → Nat → Int32} (h : a < b ∨ b + 5 < a) : put b s f a = f a := put_ne (by omega) (by omega) (by omega) (by omega)
theorem l2_18 {b rb : Nat} (hb : (b = 7 ∧ rb = 1) ∨ (b = 24 ∧ rb = 18)) {w : Int32} {L : List Dd} (hO : okL L) : ∀ (n i : Nat), i + n = L.length → ∀ M : mmM, rowIs rb M.1 L → (∀ d, d < L.length → M.1 (b + 1) d = liveL (L.drop (d + 1)) w) →
    rn none 18 71 [.ref b, .ref rb, .int w, .int (nI i)] [] M = some (.inl none, (put b (stF (L.drop i) w (gets b M.1)) M.1, M.2))
  | 0, i, hi, M, hR, hB => by
    obtain rfl : i = L.length := by omega
    have e := hR.1
    have h30 := hR.2.1
    have h2 : (nI L.length ≤ nI L.length) = True := eq_true (nI_le (Nat.le_refl _) (by omega))
    rw [r_18_71, List.drop_length]
    simp only [stF, put_gets]
    rcases hb with ⟨rfl, rfl⟩ | ⟨rfl, rfl⟩ <;>
    simp only [r_18_0, r_18_1, r_18_4, r_18_5, r_18_8, r_18_9, r_18_12, r_18_13, r_18_16, r_18_17, r_18_20, r_18_21, r_18_24, r_18_25, r_18_26, r_18_29, r_18_30, r_18_31, r_18_32, r_18_35, r_18_36, r_18_38, r_18_40, r_18_43, r_18_44, r_18_47, r_18_48, r_18_51, r_18_54, r_18_55, r_18_56, r_18_57, r_18_60, r_18_63, r_18_66, r_18_69, r_18_70, r_18_72, r_18_73, r_18_76, r_18_79, r_18_80, r_18_81, r_18_82, r_18_85, r_18_88, r_18_91, sm_0, sm_c, ct_i, ct_r, ct_n, ct_l, ct_d, cB_l, cB_r, tl_s, tl_n, oB_some, fG_r, fG_i, fP_i, aL_ok, rV_some, aI, uC_self, mmI, if_true, if_false, true_or, or_true, Nat.reduceAdd, Nat.reduceLeDiff, Nat.zero_le, Nat.reduceEqDiff, Nat.reduceSub, eq_self, Nat.le_refl, uC_ne, ne_eq, not_false_eq_true, i1_0, i0_1, i16, mm_eta, fd_0_0, fd_0_1, fd_0_2, fd_0_3, fd_0_4, fd_0_5, fd_0_6, fd_0_7, fd_1_0, fd_1_1, fd_1_2, fd_1_3, fd_1_4, fd_1_5, arr_2, arr_3, arr_4, arr_5, arr_6, fd_7_0, fd_7_1, fd_7_2, fd_7_3, fd_7_4, fd_7_5, fd_7_6, arr_8, arr_9, arr_10, arr_11, arr_12, fd_13_0, fd_13_1, fd_13_2, fd_13_3, fd_13_4, arr_14, arr_15, arr_16, arr_17, fd_18_0, fd_18_1, fd_18_2, fd_18_3, fd_18_4, fd_18_5, arr_19, arr_20, arr_21, arr_22, arr_23, fd_24_0, fd_24_1, fd_24_2, fd_24_3, fd_24_4, fd_24_5, fd_24_6, arr_25, arr_26, arr_27, arr_28, arr_29, fd_30_0, fd_30_1, fd_30_2, fd_30_3, fd_30_4, arr_31, arr_32, arr_33, arr_34, e, h2]
  | n + 1, i, hi, M, hR, hB => by
    have e := hR.1
    have h30 := hR.2.1
    have hd := hR.2.2 i (by omega)
    have h2 : (nI L.length ≤ nI i) = False := eq_false (nI_ge (by omega) (by omega))
    obtain ⟨p, hp, hpf⟩ := (hO _ (dd_mem (show i < L.length by omega))).1
    have hf : M.1 (rb + 1) i = nI p := (congrArg (fun x : Dd => x.1) hd).trans hpf
    have h22 := s_22 hb (show i < 30 by omega) hp hf
    rw [hB i (by omega), hd] at h22
    have ih := l2_18 hb hO n (i + 1) (by omega) (put b (tkS (liveL (L.drop (i + 1)) w) (dd L i) (gets b M.1)) M.1, M.2)
      (hR.same (fun a h1 h2 => put_other (by rcases hb with ⟨rfl, rfl⟩ | ⟨rfl, rfl⟩ <;> omega)))
      (fun d hd2 => by dsimp only; rw [put_ne (by omega) (by omega) (by omega) (by omega)]; exact hB d hd2)
    dsimp only at ih
    rw [gets_put, put_put] at ih
    rw [dd_drop (show i < L.length by omega), r_18_71]
    simp only [stF]
    rw [← ih]
    rcases hb with ⟨rfl, rfl⟩ | ⟨rfl, rfl⟩ <;>
    simp only [r_18_0, r_18_1, r_18_4, r_18_5, r_18_8, r_18_9, r_18_12, r_18_13, r_18_16, r_18_17, r_18_20, r_18_21, r_18_24, r_18_25, r_18_26, r_18_29, r_18_30, r_18_31, r_18_32, r_18_35, r_18_36, r_18_38, r_18_40, r_18_43, r_18_44, r_18_47, r_18_48, r_18_51, r_18_54, r_18_55, r_18_56, r_18_57, r_18_60, r_18_63, r_18_66, r_18_69, r_18_70, r_18_72, r_18_73, r_18_76, r_18_79, r_18_80, r_18_81, r_18_82, r_18_85, r_18_88, r_18_91, sm_0, sm_c, ct_i, ct_r, ct_n, ct_l, ct_d, cB_l, cB_r, tl_s, tl_n, oB_some, fG_r, fG_i, fP_i, aL_ok, rV_some, aI, uC_self, mmI, if_true, if_false, true_or, or_true, Nat.reduceAdd, Nat.reduceLeDiff, Nat.zero_le, Nat.reduceEqDiff, Nat.reduceSub, eq_self, Nat.le_refl, uC_ne, ne_eq, not_false_eq_true, i1_0, i0_1, i16, mm_eta, fd_0_0, fd_0_1, fd_0_2, fd_0_3, fd_0_4, fd_0_5, fd_0_6, fd_0_7, fd_1_0, fd_1_1, fd_1_2, fd_1_3, fd_1_4, fd_1_5, arr_2, arr_3, arr_4, arr_5, arr_6, fd_7_0, fd_7_1, fd_7_2, fd_7_3, fd_7_4, fd_7_5, fd_7_6, arr_8, arr_9, arr_10, arr_11, arr_12, fd_13_0, fd_13_1, fd_13_2, fd_13_3, fd_13_4, arr_14, arr_15, arr_16, arr_17, fd_18_0, fd_18_1, fd_18_2, fd_18_3, fd_18_4, fd_18_5, arr_19, arr_20, arr_21, arr_22, arr_23, fd_24_0, fd_24_1, fd_24_2, fd_24_3, fd_24_4, fd_24_5, fd_24_6, arr_25, arr_26, arr_27, arr_28, arr_29, fd_30_0, fd_30_1, fd_30_2, fd_30_3, fd_30_4, arr_31, arr_32, arr_33, arr_34, e, h2, h22, nI_1]
def mk (b : Nat) (L : List Dd) (w : Int32) (f : Nat → Nat → Int32) : Nat → Nat → Int32 :=
  put b (stF L w (w, l1 (liveL L w) 16 (fil 16 0 (f (b + 3))), fil 16 0 (f (b + 4)), fil 16 0 (f (b + 5)))) (fl b L w L.length f)
theorem upd_comm {f : Nat → Int32} {k j : Nat} {v w : Int32} (h : k ≠ j) : upd (upd f k v) j w = upd (upd f j w) k v := by
  funext a
  by_cases h1 : a = k
  · subst h1
    simp [upd, h]
  · by_cases h2 : a = j
    · subst h2
      simp [upd, h1]
    · simp [upd, h1, h2]
theorem fl_of {b : Nat} {L : List Dd} {w : Int32} {n : Nat} {f F : Nat → Nat → Int32} (h0 : F b = upd (f b) 5 (liveL L w)) (h1 : F (b + 1) = bhd L w n (f (b + 1))) (h2 : F (b + 2) = ahd L w n (f (b + 2))) (h : ∀ a, a ≠ b → a ≠ b + 1 → a ≠ b + 2 → F a = f a) : F = fl b L w n f := by
  funext a
  by_cases e0 : a = b
  · subst e0; simp [fl, uC, h0]
  · by_cases e2 : a = b + 2
    · subst e2; simp [fl, uC, h2]
    · by_cases e1 : a = b + 1
      · subst e1; simp [fl, uC, h1]
      · rw [h a e0 e1 e2]; simp [fl, uC, e0, e1, e2]
theorem fl_b {b : Nat} {L : List Dd} {w : Int32} {n : Nat} {f : Nat → Nat → Int32} : fl b L w n f b = upd (f b) 5 (liveL L w) := by simp [fl, uC]
theorem fl_1 {b : Nat} {L : List Dd} {w : Int32} {n : Nat} {f : Nat → Nat → Int32} : fl b L w n f (b + 1) = bhd L w n (f (b + 1)) := by simp [fl, uC]
theorem fl_2 {b : Nat} {L : List Dd} {w : Int32} {n : Nat} {f : Nat → Nat → Int32} : fl b L w n f (b + 2) = ahd L w n (f (b + 2)) := by simp [fl, uC]
theorem fl_ne {b a : Nat} {L : List Dd} {w : Int32} {n : Nat} {f : Nat → Nat → Int32} (h0 : a ≠ b) (h1 : a ≠ b + 1) (h2 : a ≠ b + 2) : fl b L w n f a = f a := by simp [fl, uC, h0, h1, h2]
set_option maxHeartbeats 4000000 in
theorem s_18 {b rb : Nat} (hb : (b = 7 ∧ rb = 1) ∨ (b = 24 ∧ rb = 18)) {w : Int32} {L : List Dd} (hO : okL L) {M : mmM} (hR : rowIs rb M.1 L) : rn none 18 0 [.ref b, .ref rb, .int w, .null] [] M = some (.inl none, (mk b L w M.1, M.2)) := by
  have h76 : ∀ k, k ≠ 99 → mmArr 35 k = some (0, 16) → ∀ M : mmM, rn none 76 0 [.ref k, .int 0, .null, .null] [] M = some (.inl none, (uC M.1 k (fil 16 0 (M.1 k)), M.2)) := fun k hk ha M => s_76 hk ha (by omega)
  obtain ⟨F0, hF0⟩ : ∃ F : Nat → Nat → Int32, F = uC (uC (uC (uC M.1 (b + 3) (fil 16 0 (M.1 (b + 3)))) (b + 4) (fil 16 0 (M.1 (b + 4)))) (b + 5) (fil 16 0 (M.1 (b + 5)))) b (upd (M.1 b) 6 w) := ⟨_, rfl⟩
  have hR0 : rowIs rb F0 L := hR.same (fun a h1 h2 => by
    rw [hF0]
    rw [uC_ne, uC_ne, uC_ne, uC_ne] <;> rcases hb with ⟨rfl, rfl⟩ | ⟨rfl, rfl⟩ <;> omega)
  have h21 := s_21 hb (w := w) (M := (F0, M.2)) hR0
  have step1 : rn none 18 0 [.ref b, .ref rb, .int w, .null] [] M = rn none 18 37 [.ref b, .ref rb, .int w, .int (nI 0)] [] (fl b L w L.length F0, M.2) := by
    rw [nI_0]
    subst hF0
    rcases hb with ⟨rfl, rfl⟩ | ⟨rfl, rfl⟩
    · simp only [Nat.reduceAdd] at h21
      simp only [r_18_0, r_18_1, r_18_4, r_18_5, r_18_8, r_18_9, r_18_12, r_18_13, r_18_16, r_18_17, r_18_20, r_18_21, r_18_24, r_18_25, r_18_26, r_18_29, r_18_30, r_18_31, r_18_32, r_18_35, r_18_36, r_18_38, r_18_40, r_18_43, r_18_44, r_18_47, r_18_48, r_18_51, r_18_54, r_18_55, r_18_56, r_18_57, r_18_60, r_18_63, r_18_66, r_18_69, r_18_70, r_18_72, r_18_73, r_18_76, r_18_79, r_18_80, r_18_81, r_18_82, r_18_85, r_18_88, r_18_91, sm_0, sm_c, ct_i, ct_r, ct_n, ct_l, ct_d, cB_l, cB_r, tl_s, tl_n, oB_some, fG_r, fG_i, fP_i, aL_ok, rV_some, aI, uC_self, mmI, if_true, if_false, true_or, or_true, Nat.reduceAdd, Nat.reduceLeDiff, Nat.zero_le, Nat.reduceEqDiff, Nat.reduceSub, eq_self, Nat.le_refl, uC_ne, ne_eq, not_false_eq_true, i1_0, i0_1, i16, mm_eta, fd_0_0, fd_0_1, fd_0_2, fd_0_3, fd_0_4, fd_0_5, fd_0_6, fd_0_7, fd_1_0, fd_1_1, fd_1_2, fd_1_3, fd_1_4, fd_1_5, arr_2, arr_3, arr_4, arr_5, arr_6, fd_7_0, fd_7_1, fd_7_2, fd_7_3, fd_7_4, fd_7_5, fd_7_6, arr_8, arr_9, arr_10, arr_11, arr_12, fd_13_0, fd_13_1, fd_13_2, fd_13_3, fd_13_4, arr_14, arr_15, arr_16, arr_17, fd_18_0, fd_18_1, fd_18_2, fd_18_3, fd_18_4, fd_18_5, arr_19, arr_20, arr_21, arr_22, arr_23, fd_24_0, fd_24_1, fd_24_2, fd_24_3, fd_24_4, fd_24_5, fd_24_6, arr_25, arr_26, arr_27, arr_28, arr_29, fd_30_0, fd_30_1, fd_30_2, fd_30_3, fd_30_4, arr_31, arr_32, arr_33, arr_34, h76 10 (by decide) rfl, h76 11 (by decide) rfl, h76 12 (by decide) rfl, h21]
    · simp only [Nat.reduceAdd] at h21
      simp only [r_18_0, r_18_1, r_18_4, r_18_5, r_18_8, r_18_9, r_18_12, r_18_13, r_18_16, r_18_17, r_18_20, r_18_21, r_18_24, r_18_25, r_18_26, r_18_29, r_18_30, r_18_31, r_18_32, r_18_35, r_18_36, r_18_38, r_18_40, r_18_43, r_18_44, r_18_47, r_18_48, r_18_51, r_18_54, r_18_55, r_18_56, r_18_57, r_18_60, r_18_63, r_18_66, r_18_69, r_18_70, r_18_72, r_18_73, r_18_76, r_18_79, r_18_80, r_18_81, r_18_82, r_18_85, r_18_88, r_18_91, sm_0, sm_c, ct_i, ct_r, ct_n, ct_l, ct_d, cB_l, cB_r, tl_s, tl_n, oB_some, fG_r, fG_i, fP_i, aL_ok, rV_some, aI, uC_self, mmI, if_true, if_false, true_or, or_true, Nat.reduceAdd, Nat.reduceLeDiff, Nat.zero_le, Nat.reduceEqDiff, Nat.reduceSub, eq_self, Nat.le_refl, uC_ne, ne_eq, not_false_eq_true, i1_0, i0_1, i16, mm_eta, fd_0_0, fd_0_1, fd_0_2, fd_0_3, fd_0_4, fd_0_5, fd_0_6, fd_0_7, fd_1_0, fd_1_1, fd_1_2, fd_1_3, fd_1_4, fd_1_5, arr_2, arr_3, arr_4, arr_5, arr_6, fd_7_0, fd_7_1, fd_7_2, fd_7_3, fd_7_4, fd_7_5, fd_7_6, arr_8, arr_9, arr_10, arr_11, arr_12, fd_13_0, fd_13_1, fd_13_2, fd_13_3, fd_13_4, arr_14, arr_15, arr_16, arr_17, fd_18_0, fd_18_1, fd_18_2, fd_18_3, fd_18_4, fd_18_5, arr_19, arr_20, arr_21, arr_22, arr_23, fd_24_0, fd_24_1, fd_24_2, fd_24_3, fd_24_4, fd_24_5, fd_24_6, arr_25, arr_26, arr_27, arr_28, arr_29, fd_30_0, fd_30_1, fd_30_2, fd_30_3, fd_30_4, arr_31, arr_32, arr_33, arr_34, h76 27 (by decide) rfl, h76 28 (by decide) rfl, h76 29 (by decide) rfl, h21]
  rw [step1, l1_18 hb 16 0 (by omega), r_18_69, r_18_70 rfl]
  have h2 := l2_18 hb (w := w) hO L.length 0 (by omega) (uC (fl b L w L.length F0) (b + 3) (l1 (fl b L w L.length F0 b 5) 16 (fl b L w L.length F0 (b + 3))), M.2)
    (hR0.same (fun a h1 h2 => by
      dsimp only
      rw [uC_ne, fl_ne] <;> rcases hb with ⟨rfl, rfl⟩ | ⟨rfl, rfl⟩ <;> omega))
    (fun d hd => by
      dsimp only
      rw [uC_ne (by omega), fl_1]
      simp [bhd, hd])
  rw [nI_0] at h2
  rw [h2]
  refine congrArg some (congrArg (Prod.mk _) (congrArg (fun x => (x, M.2)) ?_))
  rw [List.drop_zero]
  have hg : gets b (uC (fl b L w L.length F0) (b + 3) (l1 (fl b L w L.length F0 b 5) 16 (fl b L w L.length F0 (b + 3)))) = (w, l1 (liveL L w) 16 (fil 16 0 (M.1 (b + 3))), fil 16 0 (M.1 (b + 4)), fil 16 0 (M.1 (b + 5))) := by
    subst hF0
    simp [gets, uC, fl, upd]
  rw [hg]
  unfold mk
  refine put_of ?_ put_3 put_4 put_5 (fun a h0 h3 h4 h5 => ?_)
  · rw [put_b]
    dsimp only
    rw [uC_ne (show b ≠ b + 3 by omega), fl_b, fl_b]
    subst hF0
    rw [uC_self, upd_comm (show (6 : Nat) ≠ 5 by omega), upd_upd]
  · rw [put_ne h0 h3 h4 h5]
    dsimp only
    rw [uC_ne h3]
    subst hF0
    simp only [fl, uC]
    by_cases e1 : a = b + 1
    · subst e1; simp
    · by_cases e2 : a = b + 2
      · subst e2; simp
      · simp [h0, h3, h4, h5, e1, e2]
