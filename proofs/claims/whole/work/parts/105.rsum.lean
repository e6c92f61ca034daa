/-! the reference: fewest, advise, mean, digest; sixteen hooks are always enough -/
theorem pcn_add {x : Int32} {p : Nat} (hp : p < 16) (hb : bt x p = false) : pcn (x ||| bI (nI p)) 16 = pcn x 16 + 1 := by
  have h1 : bt (x ||| bI (nI p)) p = true := by rw [b_or, bt_bI hp]; simp
  have h2 := pcn_rm hp h1 16 (Nat.le_refl _)
  rw [if_pos hp] at h2
  have e : (x ||| bI (nI p)) &&& (bI (nI p) ^^^ (-1)) = x := b_ext fun i hi => by
    rw [b_and, bt_not _ hi, b_or, bt_bI hp]
    by_cases h : i = p
    · rw [h, hb]; simp
    · simp [h]
  rw [e] at h2
  exact h2.symm
/-- a set of m pots that hang, if each of the first m hooks has one -/
theorem hung_m {hk : Nat → Int32} (hq : ∀ h, h < 16 → ∃ q, q < 16 ∧ hk q = nI h) : ∀ m, m ≤ 16 → ∃ x : Int32, (∀ q, q < 16 → bt x q = true → ∃ h, h < m ∧ hk q = nI h) ∧ pcn x 16 = m
  | 0, _ => ⟨0, fun q _ h => (by rw [b_0] at h; cases h), pcn_0 rfl 16⟩
  | m + 1, hm => by
    obtain ⟨x, h1, h2⟩ := hung_m hq m (by omega)
    obtain ⟨q, hq16, hqe⟩ := hq m (by omega)
    have hb : bt x q = false := by
      cases hb : bt x q with
      | false => rfl
      | true =>
        obtain ⟨h, hh, e⟩ := h1 q hq16 hb
        rw [hqe] at e
        have := (nI_eq (show m < 2 ^ 31 by omega) (show h < 2 ^ 31 by omega)).mp e
        omega
    refine ⟨x ||| bI (nI q), fun r hr hbr => ?_, by rw [pcn_add hq16 hb, h2]⟩
    rw [b_or, bt_bI hq16] at hbr
    by_cases hrq : r = q
    · exact ⟨m, by omega, by rw [hrq]; exact hqe⟩
    · obtain ⟨h, hh, e⟩ := h1 r hr (by simpa [hrq] using hbr)
      exact ⟨h, by omega, e⟩
theorem ffR_all {pa : Nat → Int32} {rv : Int32} {kk : Nat} : ∀ n, n ≤ kk → kk ≤ 16 → ffR pa rv kk n = -1 → ∀ h, kk - n ≤ h → h < kk → frB pa (nI h) rv = false
  | 0, _, _, _, h, h1, h2 => absurd h2 (by omega)
  | n + 1, hn, hk, he, h, h1, h2 => by
    rw [ffR] at he
    split at he
    · exact absurd he (nI_m1 (by omega))
    · rename_i hc
      by_cases hh : h = kk - (n + 1)
      · rw [hh]
        exact Bool.eq_false_iff.mpr hc
      · exact ffR_all n (by omega) hk he h (by omega) h2
theorem chs_16 {cl po : Nat → Int32} {p : Nat} (hp : p < 16) {s : huT} (hP : PAi s.1 s.2.1) (hm : s.1 p = -1) : ¬ chs cl po 16 p s = -1 := by
  unfold chs
  split
  · intro he
    have hall := ffR_all 16 (Nat.le_refl _) (Nat.le_refl _) he
    have hq : ∀ h, h < 16 → ∃ q, q < 16 ∧ s.1 q = nI h := fun h hh => by
      have h1 := hall h (by omega) hh
      rw [frB_frR hP hh] at h1
      apply Classical.byContradiction
      intro hn
      have : frR (cl p) s.1 (nI h) 16 = true := (frR_iff 16 (Nat.le_refl _)).mpr (fun j _ hj hc => hn ⟨j, hj, hc.2⟩)
      rw [this] at h1
      cases h1
    obtain ⟨x, h1, h2⟩ := hung_m hq 16 (Nat.le_refl _)
    cases hb : bt x p with
    | true =>
      obtain ⟨h, hh, e⟩ := h1 p hp hb
      rw [hm] at e
      exact nI_m1 hh e.symm
    | false =>
      have := pcn_add hp hb
      have := pcn_le (x ||| bI (nI p)) 16
      omega
  · assumption
theorem hgR_16 {cl po : Nat → Int32} {as : Nat → Int32} : ∀ (n : Nat) (s : huT), PAi s.1 s.2.1 → (∀ j, j < n → ∃ p, p < 16 ∧ as j = nI p ∧ s.1 p = -1) → (∀ i j, i < j → j < n → ¬ as i = as j) → (hgR cl po 16 as n s).2.2 = s.2.2
  | 0, s, _, _, _ => rfl
  | n + 1, s, hP, hA, hD => by
    obtain ⟨p, hp, e, hm⟩ := hA n (by omega)
    have hS := PAi_huS (cl := cl) (po := po) (s := s) (kk := 16) (Nat.le_refl _) hp hP hm
    rw [hgR, e, hgR_16 n _ hS.1 (fun j hj => by
      obtain ⟨q, hq, e2, hm2⟩ := hA j (by omega)
      refine ⟨q, hq, e2, ?_⟩
      rw [hS.2, upd_ne ?_]
      · exact hm2
      · intro hqp
        exact hD j n hj (by omega) (by rw [e2, e, hqp])) (fun i j hi hj => hD i j hi (by omega))]
    rcases chs_in (cl := cl) (po := po) (p := p) (s := s) (kk := 16) (Nat.le_refl _) hP with hc | ⟨x, hx, hc⟩
    · exact absurd hc (chs_16 hp hP hm)
    · rw [huS_h hp hx hc]
theorem HG_16 {L : List Dd} {w : Int32} (hO : okL L) (hl : L.length ≤ 30) (hw : s16 w) : (HG L w 16).2.2 = 0 := by
  obtain ⟨hA, hC⟩ := PLA_inv (kk := 16) hO hl hw (by omega) (by omega)
  exact hgR_16 _ (n16, zf, 0) PAi_0 (fun j hj => by
    obtain ⟨p, hp, e, _⟩ := hA.1 j hj
    exact ⟨p, hp, e, by show n16 p = -1; unfold n16; rw [if_pos hp]⟩) hA.2.1
section
variable {L : List Dd} {w : Int32} {K : Nat}
theorem l_107 : ∀ (n j : Nat), j + n = 15 → ∀ (M : mmM), RefO M.1 L w K (-1) → Look M.1 L w (-1) → ∃ f', rn none 107 20 [.ref 35, .int (nI j)] [] M = some (.inl (some (.int (fwR L w n))), (f', M.2)) ∧ RefO f' L w K (-1) ∧ (∀ a, a < 42 ∨ 46 < a → f' a = M.1 a)
  | 0, j, hj, M, h, hL => by
    obtain rfl : j = 15 := by omega
    obtain ⟨f2, e2, s2, m2, _⟩ := s_76s (k := 16) (by omega) (by omega) h hL
    have hS := s2.1
    rw [rmL h] at hS
    have h79 := s_79 (M := (f2, M.2)) hS
    rw [HG_16 h.ok h.le h.s16] at h79
    have e16 : nI 15 + 1 = nI 16 := rfl
    refine ⟨f2, ?_, s2.2.1, m2⟩
    simp only [r_107_20, r_107_23, r_107_24, r_107_25, r_107_28, r_107_29, r_107_32, r_107_35, r_107_36, sm_0, sm_c, ct_i, ct_r, ct_n, ct_l, ct_d, cB_l, cB_r, tl_s, tl_n, oB_some, fG_r, fG_i, fP_i, aL_ok, rV_some, aI, uC_self, mmI, if_true, if_false, true_or, or_true, Nat.reduceAdd, Nat.reduceLeDiff, Nat.zero_le, Nat.reduceEqDiff, Nat.reduceSub, eq_self, Nat.le_refl, uC_ne, ne_eq, not_false_eq_true, i1_0, i0_1, i16, mm_eta, fd_0_0, fd_0_1, fd_0_2, fd_0_3, fd_0_4, fd_0_5, fd_0_6, fd_0_7, fd_1_0, fd_1_1, fd_1_2, fd_1_3, fd_1_4, fd_1_5, arr_2, arr_3, arr_4, arr_5, arr_6, fd_7_0, fd_7_1, fd_7_2, fd_7_3, fd_7_4, fd_7_5, fd_7_6, arr_8, arr_9, arr_10, arr_11, arr_12, fd_13_0, fd_13_1, fd_13_2, fd_13_3, fd_13_4, arr_14, arr_15, arr_16, arr_17, fd_18_0, fd_18_1, fd_18_2, fd_18_3, fd_18_4, fd_18_5, arr_19, arr_20, arr_21, arr_22, arr_23, fd_24_0, fd_24_1, fd_24_2, fd_24_3, fd_24_4, fd_24_5, fd_24_6, arr_25, arr_26, arr_27, arr_28, arr_29, fd_30_0, fd_30_1, fd_30_2, fd_30_3, fd_30_4, arr_31, arr_32, arr_33, arr_34, fd_35_0, fd_35_1, fd_35_2, fd_35_3, fd_35_4, fd_35_5, fd_35_6, fd_35_7, fd_35_8, fd_35_9, fd_35_10, fd_35_11, fd_35_12, fd_35_13, fd_35_14, fd_35_15, fd_35_16, fd_35_17, arr_36, arr_37, arr_38, arr_39, arr_40, arr_41, arr_42, arr_43, arr_44, arr_45, arr_46, arr_47, e16, e2, h79, show (0 < bc 0) = False by decide +kernel, show fwR L w 0 = nI 16 from rfl]
  | n + 1, j, hj, M, h, hL => by
    obtain ⟨f2, e2, s2, m2, l2⟩ := s_76s (k := j + 1) (by omega) (by omega) h hL
    have hS := s2.1
    rw [rmL h] at hS
    have h79 := s_79 (M := (f2, M.2)) hS
    have hs := hS.inv.2.1
    rw [fwR, show 15 - n = j + 1 by omega]
    by_cases hz : bc (HG L w (j + 1)).2.2 = 0
    · refine ⟨f2, ?_, s2.2.1, m2⟩
      have h0 : (0 < bc (HG L w (j + 1)).2.2) = False := by rw [hz]; decide
      rw [if_pos hz]
      simp only [r_107_20, r_107_23, r_107_24, r_107_25, r_107_28, r_107_29, r_107_32, r_107_35, r_107_36, sm_0, sm_c, ct_i, ct_r, ct_n, ct_l, ct_d, cB_l, cB_r, tl_s, tl_n, oB_some, fG_r, fG_i, fP_i, aL_ok, rV_some, aI, uC_self, mmI, if_true, if_false, true_or, or_true, Nat.reduceAdd, Nat.reduceLeDiff, Nat.zero_le, Nat.reduceEqDiff, Nat.reduceSub, eq_self, Nat.le_refl, uC_ne, ne_eq, not_false_eq_true, i1_0, i0_1, i16, mm_eta, fd_0_0, fd_0_1, fd_0_2, fd_0_3, fd_0_4, fd_0_5, fd_0_6, fd_0_7, fd_1_0, fd_1_1, fd_1_2, fd_1_3, fd_1_4, fd_1_5, arr_2, arr_3, arr_4, arr_5, arr_6, fd_7_0, fd_7_1, fd_7_2, fd_7_3, fd_7_4, fd_7_5, fd_7_6, arr_8, arr_9, arr_10, arr_11, arr_12, fd_13_0, fd_13_1, fd_13_2, fd_13_3, fd_13_4, arr_14, arr_15, arr_16, arr_17, fd_18_0, fd_18_1, fd_18_2, fd_18_3, fd_18_4, fd_18_5, arr_19, arr_20, arr_21, arr_22, arr_23, fd_24_0, fd_24_1, fd_24_2, fd_24_3, fd_24_4, fd_24_5, fd_24_6, arr_25, arr_26, arr_27, arr_28, arr_29, fd_30_0, fd_30_1, fd_30_2, fd_30_3, fd_30_4, arr_31, arr_32, arr_33, arr_34, fd_35_0, fd_35_1, fd_35_2, fd_35_3, fd_35_4, fd_35_5, fd_35_6, fd_35_7, fd_35_8, fd_35_9, fd_35_10, fd_35_11, fd_35_12, fd_35_13, fd_35_14, fd_35_15, fd_35_16, fd_35_17, arr_36, arr_37, arr_38, arr_39, arr_40, arr_41, arr_42, arr_43, arr_44, arr_45, arr_46, arr_47, nI_1, e2, h79, h0]
    · obtain ⟨f3, e3, r3, m3⟩ := l_107 n (j + 1) (by omega) (f2, M.2) s2.2.1 l2
      refine ⟨f3, ?_, r3, fun a ha => (m3 a ha).trans (m2 a ha)⟩
      have h0 : (0 < bc (HG L w (j + 1)).2.2) = True := eq_true (by rw [bc_pos hs]; rw [bc_0 hs] at hz; exact hz)
      rw [if_neg hz]
      simp only [r_107_23, r_107_24, r_107_25, r_107_28, r_107_29, r_107_32, r_107_35, r_107_36, sm_0, sm_c, ct_i, ct_r, ct_n, ct_l, ct_d, cB_l, cB_r, tl_s, tl_n, oB_some, fG_r, fG_i, fP_i, aL_ok, rV_some, aI, uC_self, mmI, if_true, if_false, true_or, or_true, Nat.reduceAdd, Nat.reduceLeDiff, Nat.zero_le, Nat.reduceEqDiff, Nat.reduceSub, eq_self, Nat.le_refl, uC_ne, ne_eq, not_false_eq_true, i1_0, i0_1, i16, mm_eta, fd_0_0, fd_0_1, fd_0_2, fd_0_3, fd_0_4, fd_0_5, fd_0_6, fd_0_7, fd_1_0, fd_1_1, fd_1_2, fd_1_3, fd_1_4, fd_1_5, arr_2, arr_3, arr_4, arr_5, arr_6, fd_7_0, fd_7_1, fd_7_2, fd_7_3, fd_7_4, fd_7_5, fd_7_6, arr_8, arr_9, arr_10, arr_11, arr_12, fd_13_0, fd_13_1, fd_13_2, fd_13_3, fd_13_4, arr_14, arr_15, arr_16, arr_17, fd_18_0, fd_18_1, fd_18_2, fd_18_3, fd_18_4, fd_18_5, arr_19, arr_20, arr_21, arr_22, arr_23, fd_24_0, fd_24_1, fd_24_2, fd_24_3, fd_24_4, fd_24_5, fd_24_6, arr_25, arr_26, arr_27, arr_28, arr_29, fd_30_0, fd_30_1, fd_30_2, fd_30_3, fd_30_4, arr_31, arr_32, arr_33, arr_34, fd_35_0, fd_35_1, fd_35_2, fd_35_3, fd_35_4, fd_35_5, fd_35_6, fd_35_7, fd_35_8, fd_35_9, fd_35_10, fd_35_11, fd_35_12, fd_35_13, fd_35_14, fd_35_15, fd_35_16, fd_35_17, arr_36, arr_37, arr_38, arr_39, arr_40, arr_41, arr_42, arr_43, arr_44, arr_45, arr_46, arr_47, r_107_20, nI_1, e2, h79, h0, e3]
theorem s_107 {M : mmM} (h : RefO M.1 L w K (-1)) : rAns 107 [.ref 35, .null] M (.int (aFew L w)) 0 L w K := by
  obtain ⟨f1, e1, l1, r1, z1, m1⟩ := s_71l (h.c00 0)
  have l12 := l1.2.2.1
  rw [rmL h] at l12
  unfold aFew
  by_cases hz : (STU L w).1 = 0
  · rw [if_pos hz]
    refine ⟨f1, ?_, r1, ?_, fun a ha => ?_⟩
    · simp only [r_107_0, r_107_1, r_107_2, r_107_5, r_107_6, r_107_9, r_107_10, r_107_13, r_107_16, r_107_17, r_107_18, r_107_19, r_107_23, r_107_24, r_107_25, r_107_28, r_107_29, r_107_32, r_107_35, r_107_36, sm_0, sm_c, ct_i, ct_r, ct_n, ct_l, ct_d, cB_l, cB_r, tl_s, tl_n, oB_some, fG_r, fG_i, fP_i, aL_ok, rV_some, aI, uC_self, mmI, if_true, if_false, true_or, or_true, Nat.reduceAdd, Nat.reduceLeDiff, Nat.zero_le, Nat.reduceEqDiff, Nat.reduceSub, eq_self, Nat.le_refl, uC_ne, ne_eq, not_false_eq_true, i1_0, i0_1, i16, mm_eta, fd_0_0, fd_0_1, fd_0_2, fd_0_3, fd_0_4, fd_0_5, fd_0_6, fd_0_7, fd_1_0, fd_1_1, fd_1_2, fd_1_3, fd_1_4, fd_1_5, arr_2, arr_3, arr_4, arr_5, arr_6, fd_7_0, fd_7_1, fd_7_2, fd_7_3, fd_7_4, fd_7_5, fd_7_6, arr_8, arr_9, arr_10, arr_11, arr_12, fd_13_0, fd_13_1, fd_13_2, fd_13_3, fd_13_4, arr_14, arr_15, arr_16, arr_17, fd_18_0, fd_18_1, fd_18_2, fd_18_3, fd_18_4, fd_18_5, arr_19, arr_20, arr_21, arr_22, arr_23, fd_24_0, fd_24_1, fd_24_2, fd_24_3, fd_24_4, fd_24_5, fd_24_6, arr_25, arr_26, arr_27, arr_28, arr_29, fd_30_0, fd_30_1, fd_30_2, fd_30_3, fd_30_4, arr_31, arr_32, arr_33, arr_34, fd_35_0, fd_35_1, fd_35_2, fd_35_3, fd_35_4, fd_35_5, fd_35_6, fd_35_7, fd_35_8, fd_35_9, fd_35_10, fd_35_11, fd_35_12, fd_35_13, fd_35_14, fd_35_15, fd_35_16, fd_35_17, arr_36, arr_37, arr_38, arr_39, arr_40, arr_41, arr_42, arr_43, arr_44, arr_45, arr_46, arr_47, e1, l12, hz, not_true_eq_false]
    · rw [z1]; dsimp only; rw [uC_self, upd_at]
    · rw [m1 a ha]; exact uC_ne (by omega)
  · obtain ⟨f2, e2, r2, m2⟩ := l_107 15 0 (by omega) (f1, M.2) r1 l1
    rw [nI_0] at e2
    rw [if_neg hz]
    refine ⟨f2, ?_, r2, ?_, fun a ha => ?_⟩
    · simp only [r_107_0, r_107_1, r_107_2, r_107_5, r_107_6, r_107_9, r_107_10, r_107_13, r_107_16, r_107_17, r_107_18, r_107_19, r_107_23, r_107_24, r_107_25, r_107_28, r_107_29, r_107_32, r_107_35, r_107_36, sm_0, sm_c, ct_i, ct_r, ct_n, ct_l, ct_d, cB_l, cB_r, tl_s, tl_n, oB_some, fG_r, fG_i, fP_i, aL_ok, rV_some, aI, uC_self, mmI, if_true, if_false, true_or, or_true, Nat.reduceAdd, Nat.reduceLeDiff, Nat.zero_le, Nat.reduceEqDiff, Nat.reduceSub, eq_self, Nat.le_refl, uC_ne, ne_eq, not_false_eq_true, i1_0, i0_1, i16, mm_eta, fd_0_0, fd_0_1, fd_0_2, fd_0_3, fd_0_4, fd_0_5, fd_0_6, fd_0_7, fd_1_0, fd_1_1, fd_1_2, fd_1_3, fd_1_4, fd_1_5, arr_2, arr_3, arr_4, arr_5, arr_6, fd_7_0, fd_7_1, fd_7_2, fd_7_3, fd_7_4, fd_7_5, fd_7_6, arr_8, arr_9, arr_10, arr_11, arr_12, fd_13_0, fd_13_1, fd_13_2, fd_13_3, fd_13_4, arr_14, arr_15, arr_16, arr_17, fd_18_0, fd_18_1, fd_18_2, fd_18_3, fd_18_4, fd_18_5, arr_19, arr_20, arr_21, arr_22, arr_23, fd_24_0, fd_24_1, fd_24_2, fd_24_3, fd_24_4, fd_24_5, fd_24_6, arr_25, arr_26, arr_27, arr_28, arr_29, fd_30_0, fd_30_1, fd_30_2, fd_30_3, fd_30_4, arr_31, arr_32, arr_33, arr_34, fd_35_0, fd_35_1, fd_35_2, fd_35_3, fd_35_4, fd_35_5, fd_35_6, fd_35_7, fd_35_8, fd_35_9, fd_35_10, fd_35_11, fd_35_12, fd_35_13, fd_35_14, fd_35_15, fd_35_16, fd_35_17, arr_36, arr_37, arr_38, arr_39, arr_40, arr_41, arr_42, arr_43, arr_44, arr_45, arr_46, arr_47, e1, l12, hz, not_false_eq_true, e2]
    · rw [m2 35 (by omega)]; dsimp only; rw [z1]; dsimp only; rw [uC_self, upd_at]
    · rw [m2 a (by omega)]; dsimp only; rw [m1 a ha]; exact uC_ne (by omega)
theorem RefO.c9 {f : Nat → Nat → Int32} {o x : Int32} (h : RefO f L w K o) : RefO (uC f 35 (upd (f 35) 9 x)) L w K x :=
  ⟨by rw [uC_self, upd_ne (by omega)]; exact h.k, by rw [uC_self, upd_ne (by omega)]; exact h.wn, by rw [uC_self, upd_ne (by omega)]; exact h.len, by rw [uC_self, upd_at], fun d hd => by rw [← h.at hd]; simp [dAt, uC], by rw [uC_ne (by omega)]; exact h.z42, by rw [uC_ne (by omega)]; exact h.z43, by rw [uC_ne (by omega)]; exact h.z44, by rw [uC_ne (by omega)]; exact h.z46, h.ok, h.le, h.s16⟩
theorem l_108 (hk : 1 ≤ K) (hk2 : K ≤ 16) : ∀ (n j : Nat), j + n = L.length → ∀ (b c o : Int32) (v : Value), v.category = 1 → ∀ (M : mmM), RefO M.1 L w K o → ∃ f', rn none 108 11 [.ref 35, .int b, .int c, .int (nI j), v] [] M = some (.inl (some (.int (advR (fun d => aCnt (L.eraseIdx d) w K 8) n j b c))), (f', M.2)) ∧ RefO f' L w K (-1) ∧ f' 35 0 = M.1 35 0 ∧ frm 35 46 M.1 f'
  | 0, j, hj, b, c, o, v, hv, M, h => by
    obtain rfl : j = L.length := by omega
    have h2 : (nI L.length ≤ nI L.length) = True := eq_true (nI_le (Nat.le_refl _) (by have := h.le; omega))
    refine ⟨uC M.1 35 (upd (M.1 35) 9 (-1)), ?_, h.c9, by rw [uC_self, upd_ne (by omega)], frm_35⟩
    rw [r_108_11]
    simp only [r_108_0, r_108_1, r_108_2, r_108_5, r_108_6, r_108_7, r_108_8, r_108_9, r_108_10, r_108_12, r_108_13, r_108_16, r_108_19, r_108_20, r_108_21, r_108_24, r_108_25, r_108_28, r_108_29, r_108_32, r_108_34, r_108_35, r_108_36, r_108_39, r_108_41, r_108_42, r_108_45, r_108_48, r_108_49, r_108_50, r_108_52, r_108_53, r_108_56, r_108_59, r_108_60, r_108_61, r_108_64, r_108_65, sm_0, sm_c, ct_i, ct_r, ct_n, ct_l, ct_d, cB_l, cB_r, tl_s, tl_n, oB_some, fG_r, fG_i, fP_i, aL_ok, rV_some, aI, uC_self, mmI, if_true, if_false, true_or, or_true, Nat.reduceAdd, Nat.reduceLeDiff, Nat.zero_le, Nat.reduceEqDiff, Nat.reduceSub, eq_self, Nat.le_refl, uC_ne, ne_eq, not_false_eq_true, i1_0, i0_1, i16, mm_eta, fd_0_0, fd_0_1, fd_0_2, fd_0_3, fd_0_4, fd_0_5, fd_0_6, fd_0_7, fd_1_0, fd_1_1, fd_1_2, fd_1_3, fd_1_4, fd_1_5, arr_2, arr_3, arr_4, arr_5, arr_6, fd_7_0, fd_7_1, fd_7_2, fd_7_3, fd_7_4, fd_7_5, fd_7_6, arr_8, arr_9, arr_10, arr_11, arr_12, fd_13_0, fd_13_1, fd_13_2, fd_13_3, fd_13_4, arr_14, arr_15, arr_16, arr_17, fd_18_0, fd_18_1, fd_18_2, fd_18_3, fd_18_4, fd_18_5, arr_19, arr_20, arr_21, arr_22, arr_23, fd_24_0, fd_24_1, fd_24_2, fd_24_3, fd_24_4, fd_24_5, fd_24_6, arr_25, arr_26, arr_27, arr_28, arr_29, fd_30_0, fd_30_1, fd_30_2, fd_30_3, fd_30_4, arr_31, arr_32, arr_33, arr_34, fd_35_0, fd_35_1, fd_35_2, fd_35_3, fd_35_4, fd_35_5, fd_35_6, fd_35_7, fd_35_8, fd_35_9, fd_35_10, fd_35_11, fd_35_12, fd_35_13, fd_35_14, fd_35_15, fd_35_16, fd_35_17, arr_36, arr_37, arr_38, arr_39, arr_40, arr_41, arr_42, arr_43, arr_44, arr_45, arr_46, arr_47, h.len, h2, advR]
  | n + 1, j, hj, b, c, o, v, hv, M, h => by
    have hjl : j < L.length := by omega
    have hl := h.le
    have h2 : (nI L.length ≤ nI j) = False := eq_false (nI_ge hjl (by omega))
    have hR : RefO (uC M.1 35 (upd (M.1 35) 9 (nI j))) L w K (nI j) := h.c9
    obtain ⟨f1, e1, l1, z1, m1⟩ := s_77 hk hk2 (M := (uC M.1 35 (upd (M.1 35) 9 (nI j)), M.2)) hR
    have hS := l1.1
    have hrm := rm_e L 0 j (by omega) hjl
    rw [Nat.zero_add] at hrm
    rw [hrm] at hS
    have h80 := s_80 (M := (f1, M.2)) hS
    obtain ⟨x, hx⟩ : ∃ x, x = aCnt (L.eraseIdx j) w K 8 := ⟨_, rfl⟩
    rw [← hx] at h80
    have z0 : f1 35 0 = M.1 35 0 := by rw [z1]; dsimp only; rw [uC_self, upd_ne (by omega)]
    have m0 : frm 35 46 M.1 f1 := fun a ha => by rw [m1 a ha]; exact uC_ne (by omega)
    rw [r_108_11]
    simp only [advR, ← hx]
    by_cases hb : b = -1
    · obtain ⟨f2, e2, c2, z2, m2⟩ := l_108 hk hk2 n (j + 1) (by omega) (nI j) x (nI j) (.int x) rfl (f1, M.2) l1.2.1
      refine ⟨f2, ?_, c2, z2.trans z0, m0.tr m2⟩
      simp only [r_108_0, r_108_1, r_108_2, r_108_5, r_108_6, r_108_7, r_108_8, r_108_9, r_108_10, r_108_12, r_108_13, r_108_16, r_108_19, r_108_20, r_108_21, r_108_24, r_108_25, r_108_28, r_108_29, r_108_32, r_108_34, r_108_35, r_108_36, r_108_39, r_108_41, r_108_42, r_108_45, r_108_48, r_108_49, r_108_50, r_108_52, r_108_53, r_108_56, r_108_59, r_108_60, r_108_61, r_108_64, r_108_65, sm_0, sm_c, ct_i, ct_r, ct_n, ct_l, ct_d, cB_l, cB_r, tl_s, tl_n, oB_some, fG_r, fG_i, fP_i, aL_ok, rV_some, aI, uC_self, mmI, if_true, if_false, true_or, or_true, Nat.reduceAdd, Nat.reduceLeDiff, Nat.zero_le, Nat.reduceEqDiff, Nat.reduceSub, eq_self, Nat.le_refl, uC_ne, ne_eq, not_false_eq_true, i1_0, i0_1, i16, mm_eta, fd_0_0, fd_0_1, fd_0_2, fd_0_3, fd_0_4, fd_0_5, fd_0_6, fd_0_7, fd_1_0, fd_1_1, fd_1_2, fd_1_3, fd_1_4, fd_1_5, arr_2, arr_3, arr_4, arr_5, arr_6, fd_7_0, fd_7_1, fd_7_2, fd_7_3, fd_7_4, fd_7_5, fd_7_6, arr_8, arr_9, arr_10, arr_11, arr_12, fd_13_0, fd_13_1, fd_13_2, fd_13_3, fd_13_4, arr_14, arr_15, arr_16, arr_17, fd_18_0, fd_18_1, fd_18_2, fd_18_3, fd_18_4, fd_18_5, arr_19, arr_20, arr_21, arr_22, arr_23, fd_24_0, fd_24_1, fd_24_2, fd_24_3, fd_24_4, fd_24_5, fd_24_6, arr_25, arr_26, arr_27, arr_28, arr_29, fd_30_0, fd_30_1, fd_30_2, fd_30_3, fd_30_4, arr_31, arr_32, arr_33, arr_34, fd_35_0, fd_35_1, fd_35_2, fd_35_3, fd_35_4, fd_35_5, fd_35_6, fd_35_7, fd_35_8, fd_35_9, fd_35_10, fd_35_11, fd_35_12, fd_35_13, fd_35_14, fd_35_15, fd_35_16, fd_35_17, arr_36, arr_37, arr_38, arr_39, arr_40, arr_41, arr_42, arr_43, arr_44, arr_45, arr_46, arr_47, h.len, h2, e1, h80, hb, nI_1, e2]
    · by_cases hc : x < c
      · obtain ⟨f2, e2, c2, z2, m2⟩ := l_108 hk hk2 n (j + 1) (by omega) (nI j) x (nI j) (.int x) rfl (f1, M.2) l1.2.1
        refine ⟨f2, ?_, c2, z2.trans z0, m0.tr m2⟩
        simp only [r_108_0, r_108_1, r_108_2, r_108_5, r_108_6, r_108_7, r_108_8, r_108_9, r_108_10, r_108_12, r_108_13, r_108_16, r_108_19, r_108_20, r_108_21, r_108_24, r_108_25, r_108_28, r_108_29, r_108_32, r_108_34, r_108_35, r_108_36, r_108_39, r_108_41, r_108_42, r_108_45, r_108_48, r_108_49, r_108_50, r_108_52, r_108_53, r_108_56, r_108_59, r_108_60, r_108_61, r_108_64, r_108_65, sm_0, sm_c, ct_i, ct_r, ct_n, ct_l, ct_d, cB_l, cB_r, tl_s, tl_n, oB_some, fG_r, fG_i, fP_i, aL_ok, rV_some, aI, uC_self, mmI, if_true, if_false, true_or, or_true, Nat.reduceAdd, Nat.reduceLeDiff, Nat.zero_le, Nat.reduceEqDiff, Nat.reduceSub, eq_self, Nat.le_refl, uC_ne, ne_eq, not_false_eq_true, i1_0, i0_1, i16, mm_eta, fd_0_0, fd_0_1, fd_0_2, fd_0_3, fd_0_4, fd_0_5, fd_0_6, fd_0_7, fd_1_0, fd_1_1, fd_1_2, fd_1_3, fd_1_4, fd_1_5, arr_2, arr_3, arr_4, arr_5, arr_6, fd_7_0, fd_7_1, fd_7_2, fd_7_3, fd_7_4, fd_7_5, fd_7_6, arr_8, arr_9, arr_10, arr_11, arr_12, fd_13_0, fd_13_1, fd_13_2, fd_13_3, fd_13_4, arr_14, arr_15, arr_16, arr_17, fd_18_0, fd_18_1, fd_18_2, fd_18_3, fd_18_4, fd_18_5, arr_19, arr_20, arr_21, arr_22, arr_23, fd_24_0, fd_24_1, fd_24_2, fd_24_3, fd_24_4, fd_24_5, fd_24_6, arr_25, arr_26, arr_27, arr_28, arr_29, fd_30_0, fd_30_1, fd_30_2, fd_30_3, fd_30_4, arr_31, arr_32, arr_33, arr_34, fd_35_0, fd_35_1, fd_35_2, fd_35_3, fd_35_4, fd_35_5, fd_35_6, fd_35_7, fd_35_8, fd_35_9, fd_35_10, fd_35_11, fd_35_12, fd_35_13, fd_35_14, fd_35_15, fd_35_16, fd_35_17, arr_36, arr_37, arr_38, arr_39, arr_40, arr_41, arr_42, arr_43, arr_44, arr_45, arr_46, arr_47, h.len, h2, e1, h80, hb, nI_1, e2, hc]
      · obtain ⟨f2, e2, c2, z2, m2⟩ := l_108 hk hk2 n (j + 1) (by omega) b c (nI j) (.int x) rfl (f1, M.2) l1.2.1
        refine ⟨f2, ?_, c2, z2.trans z0, m0.tr m2⟩
        simp only [r_108_0, r_108_1, r_108_2, r_108_5, r_108_6, r_108_7, r_108_8, r_108_9, r_108_10, r_108_12, r_108_13, r_108_16, r_108_19, r_108_20, r_108_21, r_108_24, r_108_25, r_108_28, r_108_29, r_108_32, r_108_34, r_108_35, r_108_36, r_108_39, r_108_41, r_108_42, r_108_45, r_108_48, r_108_49, r_108_50, r_108_52, r_108_53, r_108_56, r_108_59, r_108_60, r_108_61, r_108_64, r_108_65, sm_0, sm_c, ct_i, ct_r, ct_n, ct_l, ct_d, cB_l, cB_r, tl_s, tl_n, oB_some, fG_r, fG_i, fP_i, aL_ok, rV_some, aI, uC_self, mmI, if_true, if_false, true_or, or_true, Nat.reduceAdd, Nat.reduceLeDiff, Nat.zero_le, Nat.reduceEqDiff, Nat.reduceSub, eq_self, Nat.le_refl, uC_ne, ne_eq, not_false_eq_true, i1_0, i0_1, i16, mm_eta, fd_0_0, fd_0_1, fd_0_2, fd_0_3, fd_0_4, fd_0_5, fd_0_6, fd_0_7, fd_1_0, fd_1_1, fd_1_2, fd_1_3, fd_1_4, fd_1_5, arr_2, arr_3, arr_4, arr_5, arr_6, fd_7_0, fd_7_1, fd_7_2, fd_7_3, fd_7_4, fd_7_5, fd_7_6, arr_8, arr_9, arr_10, arr_11, arr_12, fd_13_0, fd_13_1, fd_13_2, fd_13_3, fd_13_4, arr_14, arr_15, arr_16, arr_17, fd_18_0, fd_18_1, fd_18_2, fd_18_3, fd_18_4, fd_18_5, arr_19, arr_20, arr_21, arr_22, arr_23, fd_24_0, fd_24_1, fd_24_2, fd_24_3, fd_24_4, fd_24_5, fd_24_6, arr_25, arr_26, arr_27, arr_28, arr_29, fd_30_0, fd_30_1, fd_30_2, fd_30_3, fd_30_4, arr_31, arr_32, arr_33, arr_34, fd_35_0, fd_35_1, fd_35_2, fd_35_3, fd_35_4, fd_35_5, fd_35_6, fd_35_7, fd_35_8, fd_35_9, fd_35_10, fd_35_11, fd_35_12, fd_35_13, fd_35_14, fd_35_15, fd_35_16, fd_35_17, arr_36, arr_37, arr_38, arr_39, arr_40, arr_41, arr_42, arr_43, arr_44, arr_45, arr_46, arr_47, h.len, h2, e1, h80, hb, nI_1, e2, hc, false_or]
theorem s_108 {M : mmM} (h : RefO M.1 L w K (-1)) (hk : 1 ≤ K) (hk2 : K ≤ 16) : rAns 108 [.ref 35, .null, .null, .null, .null] M (.int (aAdv L w K)) 0 L w K := by
  obtain ⟨f2, e2, c2, z2, m2⟩ := l_108 hk hk2 L.length 0 (by omega) (-1) 0 (-1) .null rfl (uC M.1 35 (upd (M.1 35) 0 0), M.2) h.c0
  rw [nI_0] at e2
  refine ⟨f2, ?_, c2, ?_, fun a ha => ?_⟩
  · simp only [r_108_0, r_108_1, r_108_2, r_108_5, r_108_6, r_108_7, r_108_8, r_108_9, r_108_10, r_108_12, r_108_13, r_108_16, r_108_19, r_108_20, r_108_21, r_108_24, r_108_25, r_108_28, r_108_29, r_108_32, r_108_34, r_108_35, r_108_36, r_108_39, r_108_41, r_108_42, r_108_45, r_108_48, r_108_49, r_108_50, r_108_52, r_108_53, r_108_56, r_108_59, r_108_60, r_108_61, r_108_64, r_108_65, sm_0, sm_c, ct_i, ct_r, ct_n, ct_l, ct_d, cB_l, cB_r, tl_s, tl_n, oB_some, fG_r, fG_i, fP_i, aL_ok, rV_some, aI, uC_self, mmI, if_true, if_false, true_or, or_true, Nat.reduceAdd, Nat.reduceLeDiff, Nat.zero_le, Nat.reduceEqDiff, Nat.reduceSub, eq_self, Nat.le_refl, uC_ne, ne_eq, not_false_eq_true, i1_0, i0_1, i16, mm_eta, fd_0_0, fd_0_1, fd_0_2, fd_0_3, fd_0_4, fd_0_5, fd_0_6, fd_0_7, fd_1_0, fd_1_1, fd_1_2, fd_1_3, fd_1_4, fd_1_5, arr_2, arr_3, arr_4, arr_5, arr_6, fd_7_0, fd_7_1, fd_7_2, fd_7_3, fd_7_4, fd_7_5, fd_7_6, arr_8, arr_9, arr_10, arr_11, arr_12, fd_13_0, fd_13_1, fd_13_2, fd_13_3, fd_13_4, arr_14, arr_15, arr_16, arr_17, fd_18_0, fd_18_1, fd_18_2, fd_18_3, fd_18_4, fd_18_5, arr_19, arr_20, arr_21, arr_22, arr_23, fd_24_0, fd_24_1, fd_24_2, fd_24_3, fd_24_4, fd_24_5, fd_24_6, arr_25, arr_26, arr_27, arr_28, arr_29, fd_30_0, fd_30_1, fd_30_2, fd_30_3, fd_30_4, arr_31, arr_32, arr_33, arr_34, fd_35_0, fd_35_1, fd_35_2, fd_35_3, fd_35_4, fd_35_5, fd_35_6, fd_35_7, fd_35_8, fd_35_9, fd_35_10, fd_35_11, fd_35_12, fd_35_13, fd_35_14, fd_35_15, fd_35_16, fd_35_17, arr_36, arr_37, arr_38, arr_39, arr_40, arr_41, arr_42, arr_43, arr_44, arr_45, arr_46, arr_47, e2, aAdv]
  · rw [z2]; dsimp only; rw [uC_self, upd_at]
  · rw [m2 a ha]; exact uC_ne (by omega)
theorem l_109 {M : mmM} (h : RefO M.1 L w K (-1)) (hl : Liv M.1 L w) : ∀ (n j : Nat), j + n = L.length → ∀ (c : Int32), rn none 109 13 [.ref 35, .int c, .int (nI j)] [] M = rn none 109 39 [.ref 35, .int (sbh w (L.drop j) c), .int (nI L.length)] [] M
  | 0, j, hj, c => by
    obtain rfl : j = L.length := by omega
    have h2 : (nI L.length ≤ nI L.length) = True := eq_true (nI_le (Nat.le_refl _) (by have := h.le; omega))
    rw [r_109_13, List.drop_length]
    simp only [r_109_0, r_109_1, r_109_2, r_109_5, r_109_6, r_109_9, r_109_10, r_109_11, r_109_12, r_109_14, r_109_15, r_109_18, r_109_21, r_109_22, r_109_23, r_109_26, r_109_27, r_109_28, r_109_31, r_109_32, r_109_33, r_109_36, r_109_40, r_109_43, r_109_46, r_109_47, r_109_50, r_109_51, r_109_52, r_109_53, r_109_56, r_109_57, r_109_58, sm_0, sm_c, ct_i, ct_r, ct_n, ct_l, ct_d, cB_l, cB_r, tl_s, tl_n, oB_some, fG_r, fG_i, fP_i, aL_ok, rV_some, aI, uC_self, mmI, if_true, if_false, true_or, or_true, Nat.reduceAdd, Nat.reduceLeDiff, Nat.zero_le, Nat.reduceEqDiff, Nat.reduceSub, eq_self, Nat.le_refl, uC_ne, ne_eq, not_false_eq_true, i1_0, i0_1, i16, mm_eta, fd_0_0, fd_0_1, fd_0_2, fd_0_3, fd_0_4, fd_0_5, fd_0_6, fd_0_7, fd_1_0, fd_1_1, fd_1_2, fd_1_3, fd_1_4, fd_1_5, arr_2, arr_3, arr_4, arr_5, arr_6, fd_7_0, fd_7_1, fd_7_2, fd_7_3, fd_7_4, fd_7_5, fd_7_6, arr_8, arr_9, arr_10, arr_11, arr_12, fd_13_0, fd_13_1, fd_13_2, fd_13_3, fd_13_4, arr_14, arr_15, arr_16, arr_17, fd_18_0, fd_18_1, fd_18_2, fd_18_3, fd_18_4, fd_18_5, arr_19, arr_20, arr_21, arr_22, arr_23, fd_24_0, fd_24_1, fd_24_2, fd_24_3, fd_24_4, fd_24_5, fd_24_6, arr_25, arr_26, arr_27, arr_28, arr_29, fd_30_0, fd_30_1, fd_30_2, fd_30_3, fd_30_4, arr_31, arr_32, arr_33, arr_34, fd_35_0, fd_35_1, fd_35_2, fd_35_3, fd_35_4, fd_35_5, fd_35_6, fd_35_7, fd_35_8, fd_35_9, fd_35_10, fd_35_11, fd_35_12, fd_35_13, fd_35_14, fd_35_15, fd_35_16, fd_35_17, arr_36, arr_37, arr_38, arr_39, arr_40, arr_41, arr_42, arr_43, arr_44, arr_45, arr_46, arr_47, h.len, h2, sbh]
  | n + 1, j, hj, c => by
    have hjl : j < L.length := by omega
    have hx := mmX_nI (show j < 30 by have := h.le; omega) (by omega : 30 < 2147483648)
    have h2 : (nI L.length ≤ nI j) = False := eq_false (nI_ge hjl (by have := h.le; omega))
    have ih := l_109 h hl n (j + 1) (by omega) (c + bc (liveL (L.drop (j + 1)) w))
    rw [r_109_13, dd_drop hjl]
    simp only [r_109_0, r_109_1, r_109_2, r_109_5, r_109_6, r_109_9, r_109_10, r_109_11, r_109_12, r_109_14, r_109_15, r_109_18, r_109_21, r_109_22, r_109_23, r_109_26, r_109_27, r_109_28, r_109_31, r_109_32, r_109_33, r_109_36, r_109_40, r_109_43, r_109_46, r_109_47, r_109_50, r_109_51, r_109_52, r_109_53, r_109_56, r_109_57, r_109_58, sm_0, sm_c, ct_i, ct_r, ct_n, ct_l, ct_d, cB_l, cB_r, tl_s, tl_n, oB_some, fG_r, fG_i, fP_i, aL_ok, rV_some, aI, uC_self, mmI, if_true, if_false, true_or, or_true, Nat.reduceAdd, Nat.reduceLeDiff, Nat.zero_le, Nat.reduceEqDiff, Nat.reduceSub, eq_self, Nat.le_refl, uC_ne, ne_eq, not_false_eq_true, i1_0, i0_1, i16, mm_eta, fd_0_0, fd_0_1, fd_0_2, fd_0_3, fd_0_4, fd_0_5, fd_0_6, fd_0_7, fd_1_0, fd_1_1, fd_1_2, fd_1_3, fd_1_4, fd_1_5, arr_2, arr_3, arr_4, arr_5, arr_6, fd_7_0, fd_7_1, fd_7_2, fd_7_3, fd_7_4, fd_7_5, fd_7_6, arr_8, arr_9, arr_10, arr_11, arr_12, fd_13_0, fd_13_1, fd_13_2, fd_13_3, fd_13_4, arr_14, arr_15, arr_16, arr_17, fd_18_0, fd_18_1, fd_18_2, fd_18_3, fd_18_4, fd_18_5, arr_19, arr_20, arr_21, arr_22, arr_23, fd_24_0, fd_24_1, fd_24_2, fd_24_3, fd_24_4, fd_24_5, fd_24_6, arr_25, arr_26, arr_27, arr_28, arr_29, fd_30_0, fd_30_1, fd_30_2, fd_30_3, fd_30_4, arr_31, arr_32, arr_33, arr_34, fd_35_0, fd_35_1, fd_35_2, fd_35_3, fd_35_4, fd_35_5, fd_35_6, fd_35_7, fd_35_8, fd_35_9, fd_35_10, fd_35_11, fd_35_12, fd_35_13, fd_35_14, fd_35_15, fd_35_16, fd_35_17, arr_36, arr_37, arr_38, arr_39, arr_40, arr_41, arr_42, arr_43, arr_44, arr_45, arr_46, arr_47, h.len, h2, hx, hl.1 j hjl, s_111, nI_1, sbh, ih]
theorem s_109 {M : mmM} (h : RefO M.1 L w K (-1)) : rAns 109 [.ref 35, .null, .null] M (.double (aMean L w)) 0 L w K := by
  obtain ⟨f1, e1, l1, r1, z1, m1⟩ := s_68l (h.c00 0)
  have h0 := l_109 (M := (f1, M.2)) r1 l1 L.length 0 (by omega) 0
  rw [nI_0, List.drop_zero] at h0
  have hlen : f1 35 3 = nI L.length := r1.len
  refine ⟨f1, ?_, r1, ?_, fun a ha => ?_⟩
  · simp only [r_109_0, r_109_1, r_109_2, r_109_5, r_109_6, r_109_9, r_109_10, r_109_11, r_109_12, r_109_14, r_109_15, r_109_18, r_109_21, r_109_22, r_109_23, r_109_26, r_109_27, r_109_28, r_109_31, r_109_32, r_109_33, r_109_36, r_109_40, r_109_43, r_109_46, r_109_47, r_109_50, r_109_51, r_109_52, r_109_53, r_109_56, r_109_57, r_109_58, sm_0, sm_c, ct_i, ct_r, ct_n, ct_l, ct_d, cB_l, cB_r, tl_s, tl_n, oB_some, fG_r, fG_i, fP_i, aL_ok, rV_some, aI, uC_self, mmI, if_true, if_false, true_or, or_true, Nat.reduceAdd, Nat.reduceLeDiff, Nat.zero_le, Nat.reduceEqDiff, Nat.reduceSub, eq_self, Nat.le_refl, uC_ne, ne_eq, not_false_eq_true, i1_0, i0_1, i16, mm_eta, fd_0_0, fd_0_1, fd_0_2, fd_0_3, fd_0_4, fd_0_5, fd_0_6, fd_0_7, fd_1_0, fd_1_1, fd_1_2, fd_1_3, fd_1_4, fd_1_5, arr_2, arr_3, arr_4, arr_5, arr_6, fd_7_0, fd_7_1, fd_7_2, fd_7_3, fd_7_4, fd_7_5, fd_7_6, arr_8, arr_9, arr_10, arr_11, arr_12, fd_13_0, fd_13_1, fd_13_2, fd_13_3, fd_13_4, arr_14, arr_15, arr_16, arr_17, fd_18_0, fd_18_1, fd_18_2, fd_18_3, fd_18_4, fd_18_5, arr_19, arr_20, arr_21, arr_22, arr_23, fd_24_0, fd_24_1, fd_24_2, fd_24_3, fd_24_4, fd_24_5, fd_24_6, arr_25, arr_26, arr_27, arr_28, arr_29, fd_30_0, fd_30_1, fd_30_2, fd_30_3, fd_30_4, arr_31, arr_32, arr_33, arr_34, fd_35_0, fd_35_1, fd_35_2, fd_35_3, fd_35_4, fd_35_5, fd_35_6, fd_35_7, fd_35_8, fd_35_9, fd_35_10, fd_35_11, fd_35_12, fd_35_13, fd_35_14, fd_35_15, fd_35_16, fd_35_17, arr_36, arr_37, arr_38, arr_39, arr_40, arr_41, arr_42, arr_43, arr_44, arr_45, arr_46, arr_47, e1, h0]
    unfold aMean
    by_cases hl : L.length = 0
    · rw [if_pos hl]
      have e : nI L.length = 0 := by rw [hl]; rfl
      simp only [r_109_39, r_109_40, r_109_43, r_109_46, r_109_47, r_109_58, sm_0, sm_c, ct_i, ct_r, ct_n, ct_l, ct_d, cB_l, cB_r, tl_s, tl_n, oB_some, fG_r, fG_i, fP_i, aL_ok, rV_some, aI, uC_self, mmI, if_true, if_false, true_or, or_true, Nat.reduceAdd, Nat.reduceLeDiff, Nat.zero_le, Nat.reduceEqDiff, Nat.reduceSub, eq_self, Nat.le_refl, uC_ne, ne_eq, not_false_eq_true, i1_0, i0_1, i16, mm_eta, fd_0_0, fd_0_1, fd_0_2, fd_0_3, fd_0_4, fd_0_5, fd_0_6, fd_0_7, fd_1_0, fd_1_1, fd_1_2, fd_1_3, fd_1_4, fd_1_5, arr_2, arr_3, arr_4, arr_5, arr_6, fd_7_0, fd_7_1, fd_7_2, fd_7_3, fd_7_4, fd_7_5, fd_7_6, arr_8, arr_9, arr_10, arr_11, arr_12, fd_13_0, fd_13_1, fd_13_2, fd_13_3, fd_13_4, arr_14, arr_15, arr_16, arr_17, fd_18_0, fd_18_1, fd_18_2, fd_18_3, fd_18_4, fd_18_5, arr_19, arr_20, arr_21, arr_22, arr_23, fd_24_0, fd_24_1, fd_24_2, fd_24_3, fd_24_4, fd_24_5, fd_24_6, arr_25, arr_26, arr_27, arr_28, arr_29, fd_30_0, fd_30_1, fd_30_2, fd_30_3, fd_30_4, arr_31, arr_32, arr_33, arr_34, fd_35_0, fd_35_1, fd_35_2, fd_35_3, fd_35_4, fd_35_5, fd_35_6, fd_35_7, fd_35_8, fd_35_9, fd_35_10, fd_35_11, fd_35_12, fd_35_13, fd_35_14, fd_35_15, fd_35_16, fd_35_17, arr_36, arr_37, arr_38, arr_39, arr_40, arr_41, arr_42, arr_43, arr_44, arr_45, arr_46, arr_47, hlen, e, not_true_eq_false]
    · rw [if_neg hl]
      have e : (nI L.length = 0) = False := eq_false (nI_ne0 (by omega) (by have := h.le; omega))
      simp only [r_109_39, r_109_40, r_109_43, r_109_50, r_109_51, r_109_52, r_109_53, r_109_56, r_109_57, r_109_58, sm_0, sm_c, ct_i, ct_r, ct_n, ct_l, ct_d, cB_l, cB_r, tl_s, tl_n, oB_some, fG_r, fG_i, fP_i, aL_ok, rV_some, aI, uC_self, mmI, if_true, if_false, true_or, or_true, Nat.reduceAdd, Nat.reduceLeDiff, Nat.zero_le, Nat.reduceEqDiff, Nat.reduceSub, eq_self, Nat.le_refl, uC_ne, ne_eq, not_false_eq_true, i1_0, i0_1, i16, mm_eta, fd_0_0, fd_0_1, fd_0_2, fd_0_3, fd_0_4, fd_0_5, fd_0_6, fd_0_7, fd_1_0, fd_1_1, fd_1_2, fd_1_3, fd_1_4, fd_1_5, arr_2, arr_3, arr_4, arr_5, arr_6, fd_7_0, fd_7_1, fd_7_2, fd_7_3, fd_7_4, fd_7_5, fd_7_6, arr_8, arr_9, arr_10, arr_11, arr_12, fd_13_0, fd_13_1, fd_13_2, fd_13_3, fd_13_4, arr_14, arr_15, arr_16, arr_17, fd_18_0, fd_18_1, fd_18_2, fd_18_3, fd_18_4, fd_18_5, arr_19, arr_20, arr_21, arr_22, arr_23, fd_24_0, fd_24_1, fd_24_2, fd_24_3, fd_24_4, fd_24_5, fd_24_6, arr_25, arr_26, arr_27, arr_28, arr_29, fd_30_0, fd_30_1, fd_30_2, fd_30_3, fd_30_4, arr_31, arr_32, arr_33, arr_34, fd_35_0, fd_35_1, fd_35_2, fd_35_3, fd_35_4, fd_35_5, fd_35_6, fd_35_7, fd_35_8, fd_35_9, fd_35_10, fd_35_11, fd_35_12, fd_35_13, fd_35_14, fd_35_15, fd_35_16, fd_35_17, arr_36, arr_37, arr_38, arr_39, arr_40, arr_41, arr_42, arr_43, arr_44, arr_45, arr_46, arr_47, hlen, e, not_false_eq_true, mean_ok h.le hl]
  · rw [z1]; dsimp only; rw [uC_self, upd_at]
  · rw [m1 a ha]; exact uC_ne (by omega)
end
