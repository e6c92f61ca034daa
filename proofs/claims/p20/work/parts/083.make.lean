/-! Arrays.fill, Study.findLives, Study.make -/
def fil (m : Nat) (v : Int32) (f : Nat → Int32) : Nat → Int32 := fun i => if i < m then v else f i
theorem aN_ok {S : mmScr} {k m : Nat} {f : Int32 → Option mmOut} (h : mmArr 35 k = some (0, m)) (hk : k ≠ 99) : aN S k f = f (nI m) := by
  unfold aN
  rw [if_neg hk, h]
  rfl
theorem l_76 {k m : Nat} (hk : k ≠ 99) (ha : mmArr 35 k = some (0, m)) (hm : m < 2147483648) {v : Int32} : ∀ (n j : Nat), j + n = m → ∀ M : mmM, rn none 76 5 [.ref k, .int v, .int (nI j), .int (nI m)] [] M = some (.inl none, (uC M.1 k (fun i => if j ≤ i ∧ i < m then v else M.1 k i), M.2))
  | 0, j, hj, M => by
    obtain rfl : j = m := by omega
    have e : (fun i => if j ≤ i ∧ i < j then v else M.1 k i) = M.1 k := by
      funext i
      rw [if_neg (by omega)]
    have h2 : (nI j ≤ nI j) = True := eq_true (nI_le (Nat.le_refl _) (by omega))
    rw [r_76_5]
    simp only [r_76_0, r_76_1, r_76_2, r_76_3, r_76_4, r_76_6, r_76_7, r_76_10, r_76_11, r_76_12, r_76_13, r_76_14, r_76_17, r_76_20, sm_0, sm_c, ct_i, ct_r, ct_n, ct_l, ct_d, cB_l, cB_r, tl_s, tl_n, oB_some, fG_r, fG_i, fP_i, aL_ok, rV_some, aI, uC_self, mmI, if_true, if_false, true_or, or_true, Nat.reduceAdd, Nat.reduceLeDiff, Nat.zero_le, Nat.reduceEqDiff, Nat.reduceSub, eq_self, Nat.le_refl, uC_ne, ne_eq, not_false_eq_true, i1_0, i0_1, i16, mm_eta, fd_0_0, fd_0_1, fd_0_2, fd_0_3, fd_0_4, fd_0_5, fd_0_6, fd_0_7, fd_1_0, fd_1_1, fd_1_2, fd_1_3, fd_1_4, fd_1_5, arr_2, arr_3, arr_4, arr_5, arr_6, fd_7_0, fd_7_1, fd_7_2, fd_7_3, fd_7_4, fd_7_5, fd_7_6, arr_8, arr_9, arr_10, arr_11, arr_12, fd_13_0, fd_13_1, fd_13_2, fd_13_3, fd_13_4, arr_14, arr_15, arr_16, arr_17, fd_18_0, fd_18_1, fd_18_2, fd_18_3, fd_18_4, fd_18_5, arr_19, arr_20, arr_21, arr_22, arr_23, fd_24_0, fd_24_1, fd_24_2, fd_24_3, fd_24_4, fd_24_5, fd_24_6, arr_25, arr_26, arr_27, arr_28, arr_29, fd_30_0, fd_30_1, fd_30_2, fd_30_3, fd_30_4, arr_31, arr_32, arr_33, arr_34, h2, e, uC_id]
  | n + 1, j, hj, M => by
    have ih := l_76 hk ha hm (v := v) n (j + 1) (by omega)
    have h2 : (nI m ≤ nI j) = False := eq_false (nI_ge (by omega) (by omega))
    rw [r_76_5]
    simp only [r_76_0, r_76_1, r_76_2, r_76_3, r_76_4, r_76_6, r_76_7, r_76_10, r_76_11, r_76_12, r_76_13, r_76_14, r_76_17, r_76_20, sm_0, sm_c, ct_i, ct_r, ct_n, ct_l, ct_d, cB_l, cB_r, tl_s, tl_n, oB_some, fG_r, fG_i, fP_i, aL_ok, rV_some, aI, uC_self, mmI, if_true, if_false, true_or, or_true, Nat.reduceAdd, Nat.reduceLeDiff, Nat.zero_le, Nat.reduceEqDiff, Nat.reduceSub, eq_self, Nat.le_refl, uC_ne, ne_eq, not_false_eq_true, i1_0, i0_1, i16, mm_eta, fd_0_0, fd_0_1, fd_0_2, fd_0_3, fd_0_4, fd_0_5, fd_0_6, fd_0_7, fd_1_0, fd_1_1, fd_1_2, fd_1_3, fd_1_4, fd_1_5, arr_2, arr_3, arr_4, arr_5, arr_6, fd_7_0, fd_7_1, fd_7_2, fd_7_3, fd_7_4, fd_7_5, fd_7_6, arr_8, arr_9, arr_10, arr_11, arr_12, fd_13_0, fd_13_1, fd_13_2, fd_13_3, fd_13_4, arr_14, arr_15, arr_16, arr_17, fd_18_0, fd_18_1, fd_18_2, fd_18_3, fd_18_4, fd_18_5, arr_19, arr_20, arr_21, arr_22, arr_23, fd_24_0, fd_24_1, fd_24_2, fd_24_3, fd_24_4, fd_24_5, fd_24_6, arr_25, arr_26, arr_27, arr_28, arr_29, fd_30_0, fd_30_1, fd_30_2, fd_30_3, fd_30_4, arr_31, arr_32, arr_33, arr_34, h2, ha, mmX_nI (show j < m by omega) hm, nI_1, ih, uC_uC]
    refine congrArg some (congrArg (Prod.mk _) (congrArg (fun x => (uC M.1 k x, M.2)) ?_))
    funext i
    by_cases hi : i = j
    · subst hi
      simp [upd, show i < m by omega]
    · have e : (j + 1 ≤ i) = (j ≤ i) := propext ⟨by omega, by omega⟩
      simp only [upd, hi, if_false, e]
theorem s_76 {k m : Nat} (hk : k ≠ 99) (ha : mmArr 35 k = some (0, m)) (hm : m < 2147483648) {v : Int32} {M : mmM} : rn none 76 0 [.ref k, .int v, .null, .null] [] M = some (.inl none, (uC M.1 k (fil m v (M.1 k)), M.2)) := by
  have h0 := l_76 hk ha hm (v := v) m 0 (by omega) M
  rw [nI_0] at h0
  have e : (fun i => if 0 ≤ i ∧ i < m then v else M.1 k i) = fil m v (M.1 k) := by
    funext i
    simp [fil]
  rw [e] at h0
  simp only [r_76_0, r_76_1, r_76_2, r_76_3, r_76_4, r_76_6, r_76_7, r_76_10, r_76_11, r_76_12, r_76_13, r_76_14, r_76_17, r_76_20, sm_0, sm_c, ct_i, ct_r, ct_n, ct_l, ct_d, cB_l, cB_r, tl_s, tl_n, oB_some, fG_r, fG_i, fP_i, aL_ok, rV_some, aI, uC_self, mmI, if_true, if_false, true_or, or_true, Nat.reduceAdd, Nat.reduceLeDiff, Nat.zero_le, Nat.reduceEqDiff, Nat.reduceSub, eq_self, Nat.le_refl, uC_ne, ne_eq, not_false_eq_true, i1_0, i0_1, i16, mm_eta, fd_0_0, fd_0_1, fd_0_2, fd_0_3, fd_0_4, fd_0_5, fd_0_6, fd_0_7, fd_1_0, fd_1_1, fd_1_2, fd_1_3, fd_1_4, fd_1_5, arr_2, arr_3, arr_4, arr_5, arr_6, fd_7_0, fd_7_1, fd_7_2, fd_7_3, fd_7_4, fd_7_5, fd_7_6, arr_8, arr_9, arr_10, arr_11, arr_12, fd_13_0, fd_13_1, fd_13_2, fd_13_3, fd_13_4, arr_14, arr_15, arr_16, arr_17, fd_18_0, fd_18_1, fd_18_2, fd_18_3, fd_18_4, fd_18_5, arr_19, arr_20, arr_21, arr_22, arr_23, fd_24_0, fd_24_1, fd_24_2, fd_24_3, fd_24_4, fd_24_5, fd_24_6, arr_25, arr_26, arr_27, arr_28, arr_29, fd_30_0, fd_30_1, fd_30_2, fd_30_3, fd_30_4, arr_31, arr_32, arr_33, arr_34, aN_ok ha hk, h0]
def dd0 : Dd := (0, 0, 0, 0, 0)
def dd (L : List Dd) (d : Nat) : Dd := L.getD d dd0
def rowIs (rb : Nat) (f : Nat → Nat → Int32) (L : List Dd) : Prop := f rb 5 = nI L.length ∧ L.length ≤ 30 ∧ ∀ d, d < L.length → dAt rb f d = dd L d
def isP (x : Int32) : Prop := ∃ p : Nat, p < 16 ∧ x = nI p
def okD (d : Dd) : Prop := isP d.1 ∧ (d.2.1 = -1 ∨ isP d.2.1) ∧ (d.2.2.1 = -1 ∨ isP d.2.2.1) ∧ (∃ w : Nat, 1 ≤ w ∧ w ≤ 9 ∧ d.2.2.2.1 = nI w) ∧ (d.2.2.2.2 = 0 ∨ d.2.2.2.2 = 1 ∧ isP d.2.1 ∧ d.2.2.1 = -1)
def okL (L : List Dd) : Prop := ∀ d ∈ L, okD d
theorem dd_mem {L : List Dd} {d : Nat} (h : d < L.length) : dd L d ∈ L := by
  unfold dd
  rw [List.getD_eq_getElem?_getD, List.getElem?_eq_getElem h]
  exact List.getElem_mem h
theorem dd_drop {L : List Dd} {d : Nat} (h : d < L.length) : L.drop d = dd L d :: L.drop (d + 1) := by
  rw [List.drop_eq_getElem_cons h]
  unfold dd
  rw [List.getD_eq_getElem?_getD, List.getElem?_eq_getElem h]
  rfl
theorem rowIs.same {rb : Nat} {f g : Nat → Nat → Int32} {L : List Dd} (h : rowIs rb f L) (hs : ∀ a, rb ≤ a → a ≤ rb + 5 → g a = f a) : rowIs rb g L := by
  refine ⟨by rw [hs rb (by omega) (by omega)]; exact h.1, h.2.1, fun d hd => ?_⟩
  rw [← h.2.2 d hd]
  unfold dAt
  rw [hs (rb + 1) (by omega) (by omega), hs (rb + 2) (by omega) (by omega), hs (rb + 3) (by omega) (by omega), hs (rb + 4) (by omega) (by omega), hs (rb + 5) (by omega) (by omega)]
/-- the pots that live ahead of these deeds, if those of w live behind the last -/
def liveL : List Dd → Int32 → Int32
  | [], w => w
  | d :: L, w => usd d ||| (liveL L w &&& (bI d.1 ^^^ (-1)))
def bhd (L : List Dd) (w : Int32) (n : Nat) (g : Nat → Int32) : Nat → Int32 := fun i => if i < n then liveL (L.drop (i + 1)) w else g i
def ahd (L : List Dd) (w : Int32) (n : Nat) (g : Nat → Int32) : Nat → Int32 := fun i => if i < n then liveL (L.drop i) w else g i
def dn : Nat → Int32
  | 0 => -1
  | n + 1 => nI n
theorem dn_s (n : Nat) : dn (n + 1) = nI n := rfl
theorem dn_0 : dn 0 = -1 := rfl
theorem dn_sub (n : Nat) : nI n - 1 = dn n := by
  cases n with
  | zero => rfl
  | succ n => exact nI_pred n
theorem dn_dec (n : Nat) : nI n + (-1) = dn n := by
  cases n with
  | zero => rfl
  | succ n => exact pk_m1 n
def fl (b : Nat) (L : List Dd) (w : Int32) (n : Nat) (f : Nat → Nat → Int32) : Nat → Nat → Int32 := uC (uC (uC f (b + 1) (bhd L w n (f (b + 1)))) (b + 2) (ahd L w n (f (b + 2)))) b (upd (f b) 5 (liveL L w))
theorem bhd_s {L : List Dd} {w v : Int32} {n : Nat} {g : Nat → Int32} (h : v = liveL (L.drop (n + 1)) w) : bhd L w n (upd g n v) = bhd L w (n + 1) g := by
  funext i
  by_cases hi : i = n
  · subst hi; simp [bhd, upd, h]
  · simp only [bhd, upd, hi, if_false, show (i < n + 1) = (i < n) from propext ⟨by omega, by omega⟩]
theorem ahd_s {L : List Dd} {w v : Int32} {n : Nat} {g : Nat → Int32} (h : v = liveL (L.drop n) w) : ahd L w n (upd g n v) = ahd L w (n + 1) g := by
  funext i
  by_cases hi : i = n
  · subst hi; simp [ahd, upd, h]
  · simp only [ahd, upd, hi, if_false, show (i < n + 1) = (i < n) from propext ⟨by omega, by omega⟩]
theorem bhd_0 {L : List Dd} {w : Int32} {g : Nat → Int32} : bhd L w 0 g = g := by funext i; simp [bhd]
theorem ahd_0 {L : List Dd} {w : Int32} {g : Nat → Int32} : ahd L w 0 g = g := by funext i; simp [ahd]
theorem im1 : ((-1 : Int32) < 0) = True := by decide
set_option maxHeartbeats 4000000 in
theorem l_21 {b rb : Nat} (hb : (b = 7 ∧ rb = 1) ∨ (b = 24 ∧ rb = 18)) {L : List Dd} {w : Int32} : ∀ (n : Nat), n ≤ L.length → ∀ (liv : Int32) (M : mmM), rowIs rb M.1 L → liv = liveL (L.drop n) w → rn none 21 10 [.ref b, .ref rb, .int w, .int liv, .int (dn n)] [] M = some (.inl none, (fl b L w n M.1, M.2))
  | 0, hn, liv, M, hR, hl => by
    subst hl
    rcases hb with ⟨rfl, rfl⟩ | ⟨rfl, rfl⟩ <;>
    rw [r_21_10] <;>
    simp only [r_21_0, r_21_1, r_21_2, r_21_3, r_21_6, r_21_7, r_21_8, r_21_12, r_21_15, r_21_16, r_21_19, r_21_21, r_21_22, r_21_23, r_21_24, r_21_26, r_21_29, r_21_30, r_21_31, r_21_34, r_21_36, r_21_37, r_21_40, r_21_41, r_21_42, r_21_43, r_21_44, r_21_45, r_21_46, r_21_49, r_21_51, r_21_52, r_21_53, r_21_56, r_21_59, r_21_60, r_21_61, r_21_64, sm_0, sm_c, ct_i, ct_r, ct_n, ct_l, ct_d, cB_l, cB_r, tl_s, tl_n, oB_some, fG_r, fG_i, fP_i, aL_ok, rV_some, aI, uC_self, mmI, if_true, if_false, true_or, or_true, Nat.reduceAdd, Nat.reduceLeDiff, Nat.zero_le, Nat.reduceEqDiff, Nat.reduceSub, eq_self, Nat.le_refl, uC_ne, ne_eq, not_false_eq_true, i1_0, i0_1, i16, mm_eta, fd_0_0, fd_0_1, fd_0_2, fd_0_3, fd_0_4, fd_0_5, fd_0_6, fd_0_7, fd_1_0, fd_1_1, fd_1_2, fd_1_3, fd_1_4, fd_1_5, arr_2, arr_3, arr_4, arr_5, arr_6, fd_7_0, fd_7_1, fd_7_2, fd_7_3, fd_7_4, fd_7_5, fd_7_6, arr_8, arr_9, arr_10, arr_11, arr_12, fd_13_0, fd_13_1, fd_13_2, fd_13_3, fd_13_4, arr_14, arr_15, arr_16, arr_17, fd_18_0, fd_18_1, fd_18_2, fd_18_3, fd_18_4, fd_18_5, arr_19, arr_20, arr_21, arr_22, arr_23, fd_24_0, fd_24_1, fd_24_2, fd_24_3, fd_24_4, fd_24_5, fd_24_6, arr_25, arr_26, arr_27, arr_28, arr_29, fd_30_0, fd_30_1, fd_30_2, fd_30_3, fd_30_4, arr_31, arr_32, arr_33, arr_34, dn_0, im1, List.drop_zero, fl, bhd_0, ahd_0, uC_id]
  | n + 1, hn, liv, M, hR, hl => by
    have hd := hR.2.2 n (by omega)
    have h30 : n < 30 := by have := hR.2.1; omega
    have h1 : (1 : Nat) = 1 ∨ (1 : Nat) = 18 := Or.inl rfl
    have h18 : (18 : Nat) = 1 ∨ (18 : Nat) = 18 := Or.inr rfl
    have e1 : M.1 (rb + 1) n = (dd L n).1 := congrArg (fun x : Dd => x.1) hd
    have e2 : M.1 (rb + 2) n = (dd L n).2.1 := congrArg (fun x : Dd => x.2.1) hd
    have e3 : M.1 (rb + 3) n = (dd L n).2.2.1 := congrArg (fun x : Dd => x.2.2.1) hd
    have hv : (bI (dd L n).2.1 ||| bI (dd L n).2.2.1) ||| (liv &&& (bI (dd L n).1 ^^^ (-1))) = liveL (L.drop n) w := by
      rw [dd_drop (show n < L.length by omega), hl]
      rfl
    have ih := fun M2 h => l_21 hb (L := L) (w := w) n (by omega) _ M2 h hv
    rcases hb with ⟨rfl, rfl⟩ | ⟨rfl, rfl⟩
    · simp only [Nat.reduceAdd] at e1 e2 e3
      rw [r_21_10]
      simp only [r_21_0, r_21_1, r_21_2, r_21_3, r_21_6, r_21_7, r_21_8, r_21_12, r_21_15, r_21_16, r_21_19, r_21_21, r_21_22, r_21_23, r_21_24, r_21_26, r_21_29, r_21_30, r_21_31, r_21_34, r_21_36, r_21_37, r_21_40, r_21_41, r_21_42, r_21_43, r_21_44, r_21_45, r_21_46, r_21_49, r_21_51, r_21_52, r_21_53, r_21_56, r_21_59, r_21_60, r_21_61, r_21_64, sm_0, sm_c, ct_i, ct_r, ct_n, ct_l, ct_d, cB_l, cB_r, tl_s, tl_n, oB_some, fG_r, fG_i, fP_i, aL_ok, rV_some, aI, uC_self, mmI, if_true, if_false, true_or, or_true, Nat.reduceAdd, Nat.reduceLeDiff, Nat.zero_le, Nat.reduceEqDiff, Nat.reduceSub, eq_self, Nat.le_refl, uC_ne, ne_eq, not_false_eq_true, i1_0, i0_1, i16, mm_eta, fd_0_0, fd_0_1, fd_0_2, fd_0_3, fd_0_4, fd_0_5, fd_0_6, fd_0_7, fd_1_0, fd_1_1, fd_1_2, fd_1_3, fd_1_4, fd_1_5, arr_2, arr_3, arr_4, arr_5, arr_6, fd_7_0, fd_7_1, fd_7_2, fd_7_3, fd_7_4, fd_7_5, fd_7_6, arr_8, arr_9, arr_10, arr_11, arr_12, fd_13_0, fd_13_1, fd_13_2, fd_13_3, fd_13_4, arr_14, arr_15, arr_16, arr_17, fd_18_0, fd_18_1, fd_18_2, fd_18_3, fd_18_4, fd_18_5, arr_19, arr_20, arr_21, arr_22, arr_23, fd_24_0, fd_24_1, fd_24_2, fd_24_3, fd_24_4, fd_24_5, fd_24_6, arr_25, arr_26, arr_27, arr_28, arr_29, fd_30_0, fd_30_1, fd_30_2, fd_30_3, fd_30_4, arr_31, arr_32, arr_33, arr_34, dn_s, p_lo (show n < 2147483648 by omega), mmX_nI h30 (by omega : 30 < 2147483648), s_15 h1 h30, s_57, e1, e2, e3, dn_dec]
      rw [ih _ (hR.same (fun a h1 h2 => by dsimp only; rw [uC_ne (by omega), uC_ne (by omega)]))]
      simp only [fl, sm_0, sm_c, ct_i, ct_r, ct_n, ct_l, ct_d, cB_l, cB_r, tl_s, tl_n, oB_some, fG_r, fG_i, fP_i, aL_ok, rV_some, aI, uC_self, mmI, if_true, if_false, true_or, or_true, Nat.reduceAdd, Nat.reduceLeDiff, Nat.zero_le, Nat.reduceEqDiff, Nat.reduceSub, eq_self, Nat.le_refl, uC_ne, ne_eq, not_false_eq_true, i1_0, i0_1, i16, mm_eta, fd_0_0, fd_0_1, fd_0_2, fd_0_3, fd_0_4, fd_0_5, fd_0_6, fd_0_7, fd_1_0, fd_1_1, fd_1_2, fd_1_3, fd_1_4, fd_1_5, arr_2, arr_3, arr_4, arr_5, arr_6, fd_7_0, fd_7_1, fd_7_2, fd_7_3, fd_7_4, fd_7_5, fd_7_6, arr_8, arr_9, arr_10, arr_11, arr_12, fd_13_0, fd_13_1, fd_13_2, fd_13_3, fd_13_4, arr_14, arr_15, arr_16, arr_17, fd_18_0, fd_18_1, fd_18_2, fd_18_3, fd_18_4, fd_18_5, arr_19, arr_20, arr_21, arr_22, arr_23, fd_24_0, fd_24_1, fd_24_2, fd_24_3, fd_24_4, fd_24_5, fd_24_6, arr_25, arr_26, arr_27, arr_28, arr_29, fd_30_0, fd_30_1, fd_30_2, fd_30_3, fd_30_4, arr_31, arr_32, arr_33, arr_34, bhd_s hl, ahd_s hv]
      refine congrArg some (congrArg (Prod.mk _) (congrArg (fun x => (x, M.2)) ?_))
      funext a
      by_cases a7 : a = 7
      · simp [uC, a7]
      · by_cases a8 : a = 8
        · simp [uC, a8]
        · by_cases a9 : a = 9 <;> simp [uC, a7, a8, a9]
    · simp only [Nat.reduceAdd] at e1 e2 e3
      rw [r_21_10]
      simp only [r_21_0, r_21_1, r_21_2, r_21_3, r_21_6, r_21_7, r_21_8, r_21_12, r_21_15, r_21_16, r_21_19, r_21_21, r_21_22, r_21_23, r_21_24, r_21_26, r_21_29, r_21_30, r_21_31, r_21_34, r_21_36, r_21_37, r_21_40, r_21_41, r_21_42, r_21_43, r_21_44, r_21_45, r_21_46, r_21_49, r_21_51, r_21_52, r_21_53, r_21_56, r_21_59, r_21_60, r_21_61, r_21_64, sm_0, sm_c, ct_i, ct_r, ct_n, ct_l, ct_d, cB_l, cB_r, tl_s, tl_n, oB_some, fG_r, fG_i, fP_i, aL_ok, rV_some, aI, uC_self, mmI, if_true, if_false, true_or, or_true, Nat.reduceAdd, Nat.reduceLeDiff, Nat.zero_le, Nat.reduceEqDiff, Nat.reduceSub, eq_self, Nat.le_refl, uC_ne, ne_eq, not_false_eq_true, i1_0, i0_1, i16, mm_eta, fd_0_0, fd_0_1, fd_0_2, fd_0_3, fd_0_4, fd_0_5, fd_0_6, fd_0_7, fd_1_0, fd_1_1, fd_1_2, fd_1_3, fd_1_4, fd_1_5, arr_2, arr_3, arr_4, arr_5, arr_6, fd_7_0, fd_7_1, fd_7_2, fd_7_3, fd_7_4, fd_7_5, fd_7_6, arr_8, arr_9, arr_10, arr_11, arr_12, fd_13_0, fd_13_1, fd_13_2, fd_13_3, fd_13_4, arr_14, arr_15, arr_16, arr_17, fd_18_0, fd_18_1, fd_18_2, fd_18_3, fd_18_4, fd_18_5, arr_19, arr_20, arr_21, arr_22, arr_23, fd_24_0, fd_24_1, fd_24_2, fd_24_3, fd_24_4, fd_24_5, fd_24_6, arr_25, arr_26, arr_27, arr_28, arr_29, fd_30_0, fd_30_1, fd_30_2, fd_30_3, fd_30_4, arr_31, arr_32, arr_33, arr_34, dn_s, p_lo (show n < 2147483648 by omega), mmX_nI h30 (by omega : 30 < 2147483648), s_15 h18 h30, s_57, e1, e2, e3, dn_dec]
      rw [ih _ (hR.same (fun a h1 h2 => by dsimp only; rw [uC_ne (by omega), uC_ne (by omega)]))]
      simp only [fl, sm_0, sm_c, ct_i, ct_r, ct_n, ct_l, ct_d, cB_l, cB_r, tl_s, tl_n, oB_some, fG_r, fG_i, fP_i, aL_ok, rV_some, aI, uC_self, mmI, if_true, if_false, true_or, or_true, Nat.reduceAdd, Nat.reduceLeDiff, Nat.zero_le, Nat.reduceEqDiff, Nat.reduceSub, eq_self, Nat.le_refl, uC_ne, ne_eq, not_false_eq_true, i1_0, i0_1, i16, mm_eta, fd_0_0, fd_0_1, fd_0_2, fd_0_3, fd_0_4, fd_0_5, fd_0_6, fd_0_7, fd_1_0, fd_1_1, fd_1_2, fd_1_3, fd_1_4, fd_1_5, arr_2, arr_3, arr_4, arr_5, arr_6, fd_7_0, fd_7_1, fd_7_2, fd_7_3, fd_7_4, fd_7_5, fd_7_6, arr_8, arr_9, arr_10, arr_11, arr_12, fd_13_0, fd_13_1, fd_13_2, fd_13_3, fd_13_4, arr_14, arr_15, arr_16, arr_17, fd_18_0, fd_18_1, fd_18_2, fd_18_3, fd_18_4, fd_18_5, arr_19, arr_20, arr_21, arr_22, arr_23, fd_24_0, fd_24_1, fd_24_2, fd_24_3, fd_24_4, fd_24_5, fd_24_6, arr_25, arr_26, arr_27, arr_28, arr_29, fd_30_0, fd_30_1, fd_30_2, fd_30_3, fd_30_4, arr_31, arr_32, arr_33, arr_34, bhd_s hl, ahd_s hv]
      refine congrArg some (congrArg (Prod.mk _) (congrArg (fun x => (x, M.2)) ?_))
      funext a
      by_cases a7 : a = 24
      · simp [uC, a7]
      · by_cases a8 : a = 25
        · simp [uC, a8]
        · by_cases a9 : a = 26 <;> simp [uC, a7, a8, a9]
theorem s_21 {b rb : Nat} (hb : (b = 7 ∧ rb = 1) ∨ (b = 24 ∧ rb = 18)) {L : List Dd} {w : Int32} {M : mmM} (hR : rowIs rb M.1 L) : rn none 21 0 [.ref b, .ref rb, .int w, .null, .null] [] M = some (.inl none, (fl b L w L.length M.1, M.2)) := by
  have h0 := l_21 hb (L := L) (w := w) L.length (Nat.le_refl _) w M hR (by rw [List.drop_length]; rfl)
  have e := hR.1
  rcases hb with ⟨rfl, rfl⟩ | ⟨rfl, rfl⟩ <;>
  simp only [r_21_0, r_21_1, r_21_2, r_21_3, r_21_6, r_21_7, r_21_8, r_21_12, r_21_15, r_21_16, r_21_19, r_21_21, r_21_22, r_21_23, r_21_24, r_21_26, r_21_29, r_21_30, r_21_31, r_21_34, r_21_36, r_21_37, r_21_40, r_21_41, r_21_42, r_21_43, r_21_44, r_21_45, r_21_46, r_21_49, r_21_51, r_21_52, r_21_53, r_21_56, r_21_59, r_21_60, r_21_61, r_21_64, sm_0, sm_c, ct_i, ct_r, ct_n, ct_l, ct_d, cB_l, cB_r, tl_s, tl_n, oB_some, fG_r, fG_i, fP_i, aL_ok, rV_some, aI, uC_self, mmI, if_true, if_false, true_or, or_true, Nat.reduceAdd, Nat.reduceLeDiff, Nat.zero_le, Nat.reduceEqDiff, Nat.reduceSub, eq_self, Nat.le_refl, uC_ne, ne_eq, not_false_eq_true, i1_0, i0_1, i16, mm_eta, fd_0_0, fd_0_1, fd_0_2, fd_0_3, fd_0_4, fd_0_5, fd_0_6, fd_0_7, fd_1_0, fd_1_1, fd_1_2, fd_1_3, fd_1_4, fd_1_5, arr_2, arr_3, arr_4, arr_5, arr_6, fd_7_0, fd_7_1, fd_7_2, fd_7_3, fd_7_4, fd_7_5, fd_7_6, arr_8, arr_9, arr_10, arr_11, arr_12, fd_13_0, fd_13_1, fd_13_2, fd_13_3, fd_13_4, arr_14, arr_15, arr_16, arr_17, fd_18_0, fd_18_1, fd_18_2, fd_18_3, fd_18_4, fd_18_5, arr_19, arr_20, arr_21, arr_22, arr_23, fd_24_0, fd_24_1, fd_24_2, fd_24_3, fd_24_4, fd_24_5, fd_24_6, arr_25, arr_26, arr_27, arr_28, arr_29, fd_30_0, fd_30_1, fd_30_2, fd_30_3, fd_30_4, arr_31, arr_32, arr_33, arr_34, e, dn_sub, h0]
