/-! mean and digest -/
theorem bc_lt (x : Int32) : ∃ n : Nat, n < 64 ∧ bc x = nI n := by
  have h : ∀ y : Int32, ∃ n : Nat, n < 64 ∧ y &&& 63 = nI n := fun y => by
    refine ⟨(y &&& 63).toBitVec.toNat, ?_, ?_⟩
    · rw [Int32.toBitVec_and, BitVec.toNat_and]
      exact Nat.lt_of_le_of_lt Nat.and_le_right (by decide)
    · apply Int32.toBitVec_inj.mp
      show _ = BitVec.ofNat 32 _
      rw [BitVec.ofNat_toNat]
      simp
  exact h _
def sbh (w : Int32) : List Dd → Int32 → Int32
  | [], c => c
  | _ :: L, c => sbh w L (c + bc (liveL L w))
theorem sbh_n (w : Int32) : ∀ (L : List Dd) (s : Nat), ∃ t, t ≤ s + 63 * L.length ∧ sbh w L (nI s) = nI t
  | [], s => ⟨s, by simp, rfl⟩
  | _ :: L, s => by
    obtain ⟨n, hn, e⟩ := bc_lt (liveL L w)
    obtain ⟨t, ht, e2⟩ := sbh_n w L (s + n)
    refine ⟨t, by simp only [List.length_cons]; omega, ?_⟩
    simp only [sbh, e, nI_add]
    exact e2
def isFn (x : UInt64) : Bool := match FP.Core.decode FP.Core.b64 x.toNat with
  | .fin _ _ _ => true
  | _ => false
def isFz (x : UInt64) : Bool := match FP.Core.decode FP.Core.b64 x.toNat with
  | .fin _ c _ => decide (¬ c = 0)
  | _ => false
theorem i2d_fn : ∀ n, n < 1891 → isFn (FP.i2d (nI n)) = true := by decide +kernel
theorem i2d_fz : ∀ n, n < 31 → 1 ≤ n → isFz (FP.i2d (nI n)) = true := by decide +kernel
theorem asm_ok {s : Bool} {e t : Nat} (h : e ≤ 2046 ∧ t < 4503599627370496 ∨ e = 2047 ∧ t = 0) : UInt64.ofNat (FP.Core.assemble FP.Core.b64 s e t) &&& 0x7fffffffffffffff ≤ 0x7ff0000000000000 := by
  have h1 : FP.Core.b64.tails = 4503599627370496 := by decide +kernel
  have h2 : FP.Core.b64.exps = 2048 := by decide +kernel
  have h3 : (0x7fffffffffffffff : UInt64).toNat = 2 ^ 63 - 1 := by decide +kernel
  have h4 : (0x7ff0000000000000 : UInt64).toNat = 9218868437227405312 := by decide +kernel
  unfold FP.Core.assemble
  rw [h1, h2, UInt64.le_iff_toNat_le, UInt64.toNat_and, h3, h4, Nat.and_two_pow_sub_one_eq_mod, UInt64.toNat_ofNat']
  cases s <;> simp only [Bool.toNat_false, Bool.toNat_true] <;> omega
theorem enc_fin {s : Bool} {c : Nat} {q : Int} (hc : c < 9007199254740992) (hq : q ≤ 971) : UInt64.ofNat (FP.Core.encode FP.Core.b64 (.fin s c q)) &&& 0x7fffffffffffffff ≤ 0x7ff0000000000000 := by
  unfold FP.Core.encode
  dsimp only
  have h1 : FP.Core.b64.tails = 4503599627370496 := by decide +kernel
  have h2 : FP.Core.b64.qmin = -1074 := by decide +kernel
  rw [h1, h2]
  split
  · exact asm_ok (Or.inl ⟨by omega, by assumption⟩)
  · exact asm_ok (Or.inl ⟨by omega, by omega⟩)
theorem enc_inf {s : Bool} : UInt64.ofNat (FP.Core.encode FP.Core.b64 (.inf s)) &&& 0x7fffffffffffffff ≤ 0x7ff0000000000000 := by
  unfold FP.Core.encode
  dsimp only
  rw [show FP.Core.b64.exps - 1 = 2047 by decide +kernel]
  exact asm_ok (Or.inr ⟨rfl, rfl⟩)
theorem enc_bound {s : Bool} {c : Nat} {q : Int} (hc : c < 9007199254740992) : UInt64.ofNat (FP.Core.encode FP.Core.b64 (FP.Core.bound FP.Core.b64 s c q)) &&& 0x7fffffffffffffff ≤ 0x7ff0000000000000 := by
  unfold FP.Core.bound
  rw [show FP.Core.b64.qmax = 971 by decide +kernel]
  split
  · exact enc_fin hc (by assumption)
  · exact enc_inf
theorem enc_ratio {s : Bool} {c d : Nat} {e : Int} : UInt64.ofNat (FP.Core.encode FP.Core.b64 (FP.Core.roundRatio FP.Core.b64 s c d e)) &&& 0x7fffffffffffffff ≤ 0x7ff0000000000000 := by
  unfold FP.Core.roundRatio
  split
  · rw [show FP.Core.b64.qmin = -1074 by decide +kernel]
    exact enc_fin (by omega) (by omega)
  · unfold FP.Core.roundAt FP.Core.settle
    rw [show (2 ^ FP.Core.b64.p : Nat) = 9007199254740992 by decide +kernel, show FP.Core.b64.tails = 4503599627370496 by decide +kernel]
    split
    · exact enc_bound (by assumption)
    · exact enc_bound (by omega)
theorem ddiv_ok {a b : UInt64} (ha : isFn a = true) (hb : isFz b = true) : FP.ddiv a b &&& 0x7fffffffffffffff ≤ 0x7ff0000000000000 := by
  show UInt64.ofNat (FP.Core.encode FP.Core.b64 (FP.Core.quotient FP.Core.b64 (FP.Core.decode FP.Core.b64 a.toNat) (FP.Core.decode FP.Core.b64 b.toNat))) &&& _ ≤ _
  unfold isFn at ha
  unfold isFz at hb
  split at ha
  · rename_i s c q e1
    split at hb
    · rename_i s2 d r e2
      rw [e1, e2]
      unfold FP.Core.quotient
      dsimp only
      rw [if_neg (by simpa using hb)]
      exact enc_ratio
    · cases hb
  · cases ha
def aMean (L : List Dd) (w : Int32) : UInt64 := if L.length = 0 then FP.dconst0 else FP.ddiv (FP.i2d (sbh w L 0)) (FP.i2d (nI L.length))
theorem mean_ok {L : List Dd} {w : Int32} (h : L.length ≤ 30) (h0 : ¬ L.length = 0) : FP.ddiv (FP.i2d (sbh w L 0)) (FP.i2d (nI L.length)) &&& 0x7fffffffffffffff ≤ 0x7ff0000000000000 := by
  obtain ⟨t, ht, e⟩ := sbh_n w L 0
  rw [nI_0] at e
  rw [e]
  exact ddiv_ok (i2d_fn t (by omega)) (i2d_fz _ (by omega) (by omega))
theorem l_42 {L : List Dd} {w : Int32} {kk : Nat} : ∀ (n j : Nat), j + n = L.length → ∀ (c : Int32) (M : mmM), Cls M.1 L w kk → rn none 42 16 [.ref 0, .int c, .int (nI j)] [] M = rn none 42 48 [.ref 0, .int (sbh w (L.drop j) c), .int (nI L.length)] [] M
  | 0, j, hj, c, M, h => by
    obtain rfl : j = L.length := by omega
    have h2 : (nI L.length ≤ nI L.length) = True := eq_true (nI_le (Nat.le_refl _) (by have := h.le; omega))
    rw [r_42_16, List.drop_length]
    simp only [r_42_0, r_42_1, r_42_4, r_42_7, r_42_10, r_42_11, r_42_12, r_42_13, r_42_14, r_42_15, r_42_17, r_42_18, r_42_21, r_42_24, r_42_27, r_42_28, r_42_29, r_42_32, r_42_35, r_42_36, r_42_37, r_42_40, r_42_41, r_42_42, r_42_45, r_42_49, r_42_50, r_42_51, r_42_54, r_42_57, r_42_58, r_42_59, sm_0, sm_c, ct_i, ct_r, ct_n, ct_l, ct_d, cB_l, cB_r, tl_s, tl_n, oB_some, fG_r, fG_i, fP_i, aL_ok, rV_some, aI, uC_self, mmI, if_true, if_false, true_or, or_true, Nat.reduceAdd, Nat.reduceLeDiff, Nat.zero_le, Nat.reduceEqDiff, Nat.reduceSub, eq_self, Nat.le_refl, uC_ne, ne_eq, not_false_eq_true, i1_0, i0_1, i16, mm_eta, fd_0_0, fd_0_1, fd_0_2, fd_0_3, fd_0_4, fd_0_5, fd_0_6, fd_0_7, fd_1_0, fd_1_1, fd_1_2, fd_1_3, fd_1_4, fd_1_5, arr_2, arr_3, arr_4, arr_5, arr_6, fd_7_0, fd_7_1, fd_7_2, fd_7_3, fd_7_4, fd_7_5, fd_7_6, arr_8, arr_9, arr_10, arr_11, arr_12, fd_13_0, fd_13_1, fd_13_2, fd_13_3, fd_13_4, arr_14, arr_15, arr_16, arr_17, fd_18_0, fd_18_1, fd_18_2, fd_18_3, fd_18_4, fd_18_5, arr_19, arr_20, arr_21, arr_22, arr_23, fd_24_0, fd_24_1, fd_24_2, fd_24_3, fd_24_4, fd_24_5, fd_24_6, arr_25, arr_26, arr_27, arr_28, arr_29, fd_30_0, fd_30_1, fd_30_2, fd_30_3, fd_30_4, arr_31, arr_32, arr_33, arr_34, h.len, h2, sbh]
  | n + 1, j, hj, c, M, h => by
    have hjl : j < L.length := by omega
    have h30 : j < 30 := by have := h.le; omega
    have h2 : (nI L.length ≤ nI j) = False := eq_false (nI_ge hjl (by have := h.le; omega))
    have ih := l_42 (L := L) n (j + 1) (by omega) (c + bc (liveL (L.drop (j + 1)) w)) M h
    rw [r_42_16, dd_drop hjl]
    simp only [r_42_0, r_42_1, r_42_4, r_42_7, r_42_10, r_42_11, r_42_12, r_42_13, r_42_14, r_42_15, r_42_17, r_42_18, r_42_21, r_42_24, r_42_27, r_42_28, r_42_29, r_42_32, r_42_35, r_42_36, r_42_37, r_42_40, r_42_41, r_42_42, r_42_45, r_42_49, r_42_50, r_42_51, r_42_54, r_42_57, r_42_58, r_42_59, sm_0, sm_c, ct_i, ct_r, ct_n, ct_l, ct_d, cB_l, cB_r, tl_s, tl_n, oB_some, fG_r, fG_i, fP_i, aL_ok, rV_some, aI, uC_self, mmI, if_true, if_false, true_or, or_true, Nat.reduceAdd, Nat.reduceLeDiff, Nat.zero_le, Nat.reduceEqDiff, Nat.reduceSub, eq_self, Nat.le_refl, uC_ne, ne_eq, not_false_eq_true, i1_0, i0_1, i16, mm_eta, fd_0_0, fd_0_1, fd_0_2, fd_0_3, fd_0_4, fd_0_5, fd_0_6, fd_0_7, fd_1_0, fd_1_1, fd_1_2, fd_1_3, fd_1_4, fd_1_5, arr_2, arr_3, arr_4, arr_5, arr_6, fd_7_0, fd_7_1, fd_7_2, fd_7_3, fd_7_4, fd_7_5, fd_7_6, arr_8, arr_9, arr_10, arr_11, arr_12, fd_13_0, fd_13_1, fd_13_2, fd_13_3, fd_13_4, arr_14, arr_15, arr_16, arr_17, fd_18_0, fd_18_1, fd_18_2, fd_18_3, fd_18_4, fd_18_5, arr_19, arr_20, arr_21, arr_22, arr_23, fd_24_0, fd_24_1, fd_24_2, fd_24_3, fd_24_4, fd_24_5, fd_24_6, arr_25, arr_26, arr_27, arr_28, arr_29, fd_30_0, fd_30_1, fd_30_2, fd_30_3, fd_30_4, arr_31, arr_32, arr_33, arr_34, h.len, h2, mmX_nI h30 (by omega : 30 < 2147483648), h.b8 hjl, s_73, nI_1, sbh, ih]
theorem s_42 {L : List Dd} {w : Int32} {kk : Nat} {M : mmM} (h : Cls M.1 L w kk) : rn none 42 0 [.ref 0, .null, .null] [] M = some (.inl (some (.double (aMean L w))), M) := by
  unfold aMean
  by_cases hl : L.length = 0
  · have e : nI L.length = 0 := by rw [hl]; rfl
    rw [if_pos hl]
    simp only [r_42_0, r_42_1, r_42_4, r_42_7, r_42_10, r_42_11, r_42_12, r_42_13, r_42_14, r_42_15, r_42_17, r_42_18, r_42_21, r_42_24, r_42_27, r_42_28, r_42_29, r_42_32, r_42_35, r_42_36, r_42_37, r_42_40, r_42_41, r_42_42, r_42_45, r_42_49, r_42_50, r_42_51, r_42_54, r_42_57, r_42_58, r_42_59, sm_0, sm_c, ct_i, ct_r, ct_n, ct_l, ct_d, cB_l, cB_r, tl_s, tl_n, oB_some, fG_r, fG_i, fP_i, aL_ok, rV_some, aI, uC_self, mmI, if_true, if_false, true_or, or_true, Nat.reduceAdd, Nat.reduceLeDiff, Nat.zero_le, Nat.reduceEqDiff, Nat.reduceSub, eq_self, Nat.le_refl, uC_ne, ne_eq, not_false_eq_true, i1_0, i0_1, i16, mm_eta, fd_0_0, fd_0_1, fd_0_2, fd_0_3, fd_0_4, fd_0_5, fd_0_6, fd_0_7, fd_1_0, fd_1_1, fd_1_2, fd_1_3, fd_1_4, fd_1_5, arr_2, arr_3, arr_4, arr_5, arr_6, fd_7_0, fd_7_1, fd_7_2, fd_7_3, fd_7_4, fd_7_5, fd_7_6, arr_8, arr_9, arr_10, arr_11, arr_12, fd_13_0, fd_13_1, fd_13_2, fd_13_3, fd_13_4, arr_14, arr_15, arr_16, arr_17, fd_18_0, fd_18_1, fd_18_2, fd_18_3, fd_18_4, fd_18_5, arr_19, arr_20, arr_21, arr_22, arr_23, fd_24_0, fd_24_1, fd_24_2, fd_24_3, fd_24_4, fd_24_5, fd_24_6, arr_25, arr_26, arr_27, arr_28, arr_29, fd_30_0, fd_30_1, fd_30_2, fd_30_3, fd_30_4, arr_31, arr_32, arr_33, arr_34, h.len, e, not_true_eq_false]
  · have e : (nI L.length = 0) = False := eq_false (nI_ne0 (by omega) (by have := h.le; omega))
    have h0 := l_42 L.length 0 (by omega) 0 M h
    rw [nI_0, List.drop_zero] at h0
    rw [if_neg hl]
    simp only [r_42_0, r_42_1, r_42_4, r_42_7, r_42_10, r_42_11, r_42_12, r_42_13, r_42_14, r_42_15, r_42_17, r_42_18, r_42_21, r_42_24, r_42_27, r_42_28, r_42_29, r_42_32, r_42_35, r_42_36, r_42_37, r_42_40, r_42_41, r_42_42, r_42_45, r_42_49, r_42_50, r_42_51, r_42_54, r_42_57, r_42_58, r_42_59, sm_0, sm_c, ct_i, ct_r, ct_n, ct_l, ct_d, cB_l, cB_r, tl_s, tl_n, oB_some, fG_r, fG_i, fP_i, aL_ok, rV_some, aI, uC_self, mmI, if_true, if_false, true_or, or_true, Nat.reduceAdd, Nat.reduceLeDiff, Nat.zero_le, Nat.reduceEqDiff, Nat.reduceSub, eq_self, Nat.le_refl, uC_ne, ne_eq, not_false_eq_true, i1_0, i0_1, i16, mm_eta, fd_0_0, fd_0_1, fd_0_2, fd_0_3, fd_0_4, fd_0_5, fd_0_6, fd_0_7, fd_1_0, fd_1_1, fd_1_2, fd_1_3, fd_1_4, fd_1_5, arr_2, arr_3, arr_4, arr_5, arr_6, fd_7_0, fd_7_1, fd_7_2, fd_7_3, fd_7_4, fd_7_5, fd_7_6, arr_8, arr_9, arr_10, arr_11, arr_12, fd_13_0, fd_13_1, fd_13_2, fd_13_3, fd_13_4, arr_14, arr_15, arr_16, arr_17, fd_18_0, fd_18_1, fd_18_2, fd_18_3, fd_18_4, fd_18_5, arr_19, arr_20, arr_21, arr_22, arr_23, fd_24_0, fd_24_1, fd_24_2, fd_24_3, fd_24_4, fd_24_5, fd_24_6, arr_25, arr_26, arr_27, arr_28, arr_29, fd_30_0, fd_30_1, fd_30_2, fd_30_3, fd_30_4, arr_31, arr_32, arr_33, arr_34, h.len, e, h0, not_false_eq_true]
    simp only [r_42_48, r_42_49, r_42_50, r_42_51, r_42_54, r_42_57, r_42_58, r_42_59, sm_0, sm_c, ct_i, ct_r, ct_n, ct_l, ct_d, cB_l, cB_r, tl_s, tl_n, oB_some, fG_r, fG_i, fP_i, aL_ok, rV_some, aI, uC_self, mmI, if_true, if_false, true_or, or_true, Nat.reduceAdd, Nat.reduceLeDiff, Nat.zero_le, Nat.reduceEqDiff, Nat.reduceSub, eq_self, Nat.le_refl, uC_ne, ne_eq, not_false_eq_true, i1_0, i0_1, i16, mm_eta, fd_0_0, fd_0_1, fd_0_2, fd_0_3, fd_0_4, fd_0_5, fd_0_6, fd_0_7, fd_1_0, fd_1_1, fd_1_2, fd_1_3, fd_1_4, fd_1_5, arr_2, arr_3, arr_4, arr_5, arr_6, fd_7_0, fd_7_1, fd_7_2, fd_7_3, fd_7_4, fd_7_5, fd_7_6, arr_8, arr_9, arr_10, arr_11, arr_12, fd_13_0, fd_13_1, fd_13_2, fd_13_3, fd_13_4, arr_14, arr_15, arr_16, arr_17, fd_18_0, fd_18_1, fd_18_2, fd_18_3, fd_18_4, fd_18_5, arr_19, arr_20, arr_21, arr_22, arr_23, fd_24_0, fd_24_1, fd_24_2, fd_24_3, fd_24_4, fd_24_5, fd_24_6, arr_25, arr_26, arr_27, arr_28, arr_29, fd_30_0, fd_30_1, fd_30_2, fd_30_3, fd_30_4, arr_31, arr_32, arr_33, arr_34, h.len, mean_ok h.le hl]
theorem s_44 {a b : Int64} {M : mmM} : rn none 44 0 [.long a, .null, .long b, .null] [] M = some (.inl (some (.long (a * 31 + b))), M) := by
  simp only [r_44_0, r_44_1, r_44_4, r_44_5, r_44_6, r_44_7, sm_0, sm_c, ct_i, ct_r, ct_n, ct_l, ct_d, cB_l, cB_r, tl_s, tl_n, oB_some, fG_r, fG_i, fP_i, aL_ok, rV_some, aI, uC_self, mmI, if_true, if_false, true_or, or_true, Nat.reduceAdd, Nat.reduceLeDiff, Nat.zero_le, Nat.reduceEqDiff, Nat.reduceSub, eq_self, Nat.le_refl, uC_ne, ne_eq, not_false_eq_true, i1_0, i0_1, i16, mm_eta, fd_0_0, fd_0_1, fd_0_2, fd_0_3, fd_0_4, fd_0_5, fd_0_6, fd_0_7, fd_1_0, fd_1_1, fd_1_2, fd_1_3, fd_1_4, fd_1_5, arr_2, arr_3, arr_4, arr_5, arr_6, fd_7_0, fd_7_1, fd_7_2, fd_7_3, fd_7_4, fd_7_5, fd_7_6, arr_8, arr_9, arr_10, arr_11, arr_12, fd_13_0, fd_13_1, fd_13_2, fd_13_3, fd_13_4, arr_14, arr_15, arr_16, arr_17, fd_18_0, fd_18_1, fd_18_2, fd_18_3, fd_18_4, fd_18_5, arr_19, arr_20, arr_21, arr_22, arr_23, fd_24_0, fd_24_1, fd_24_2, fd_24_3, fd_24_4, fd_24_5, fd_24_6, arr_25, arr_26, arr_27, arr_28, arr_29, fd_30_0, fd_30_1, fd_30_2, fd_30_3, fd_30_4, arr_31, arr_32, arr_33, arr_34]
def dgF (g : Nat → Int32) : Nat → Nat → Int64 → Int64
  | 0, _, h => h
  | n + 1, j, h => dgF g n (j + 1) (h * 31 + (g j).toInt64)
def dgD (g : Nat → Nat → Int32) : Nat → Nat → Int64 → Int64
  | 0, _, h => h
  | n + 1, j, h => dgD g n (j + 1) (dgF (g j) 7 0 h)
def dgP (g : Nat → Nat → Int32) (w : Int32) (cl : Nat → Int32) : Nat → Nat → Int64 → Int64
  | 0, _, h => h
  | n + 1, j, h => dgP g w cl n (j + 1) ((dgF (g j) 6 0 h * 31 + (b01 (bt w j)).toInt64) * 31 + (cl j).toInt64)
section
variable {L : List Dd} {w : Int32} {kk : Nat}
theorem l1_43 {v : Value} : ∀ (n j : Nat), j + n = 10 → ∀ (x : Int64) (M : mmM), Cls M.1 L w kk → rn none 43 6 [.ref 0, .long x, .null, .int (nI j), v] [] M = rn none 43 29 [.ref 0, .long (dgF (aCnt L w kk) n j x), .null, .int 10, v] [] M
  | 0, j, hj, x, M, h => by
    obtain rfl : j = 10 := by omega
    rw [show nI 10 = 10 from rfl]
    simp only [r_43_6, r_43_7, r_43_9, sm_0, sm_c, ct_i, ct_r, ct_n, ct_l, ct_d, cB_l, cB_r, tl_s, tl_n, oB_some, fG_r, fG_i, fP_i, aL_ok, rV_some, aI, uC_self, mmI, if_true, if_false, true_or, or_true, Nat.reduceAdd, Nat.reduceLeDiff, Nat.zero_le, Nat.reduceEqDiff, Nat.reduceSub, eq_self, Nat.le_refl, uC_ne, ne_eq, not_false_eq_true, i1_0, i0_1, i16, mm_eta, fd_0_0, fd_0_1, fd_0_2, fd_0_3, fd_0_4, fd_0_5, fd_0_6, fd_0_7, fd_1_0, fd_1_1, fd_1_2, fd_1_3, fd_1_4, fd_1_5, arr_2, arr_3, arr_4, arr_5, arr_6, fd_7_0, fd_7_1, fd_7_2, fd_7_3, fd_7_4, fd_7_5, fd_7_6, arr_8, arr_9, arr_10, arr_11, arr_12, fd_13_0, fd_13_1, fd_13_2, fd_13_3, fd_13_4, arr_14, arr_15, arr_16, arr_17, fd_18_0, fd_18_1, fd_18_2, fd_18_3, fd_18_4, fd_18_5, arr_19, arr_20, arr_21, arr_22, arr_23, fd_24_0, fd_24_1, fd_24_2, fd_24_3, fd_24_4, fd_24_5, fd_24_6, arr_25, arr_26, arr_27, arr_28, arr_29, fd_30_0, fd_30_1, fd_30_2, fd_30_3, fd_30_4, arr_31, arr_32, arr_33, arr_34, Int32.le_refl, dgF]
  | n + 1, j, hj, x, M, h => by
    have h2 : (10 ≤ nI j) = False := eq_false (show ¬ nI 10 ≤ nI j from nI_ge (by omega) (by omega))
    have ih := l1_43 (v := v) n (j + 1) (by omega) (x * 31 + (aCnt L w kk j).toInt64) M h
    rw [r_43_6]
    simp only [r_43_7, r_43_9, r_43_12, r_43_13, r_43_14, r_43_15, r_43_18, r_43_19, r_43_22, r_43_23, r_43_26, sm_0, sm_c, ct_i, ct_r, ct_n, ct_l, ct_d, cB_l, cB_r, tl_s, tl_n, oB_some, fG_r, fG_i, fP_i, aL_ok, rV_some, aI, uC_self, mmI, if_true, if_false, true_or, or_true, Nat.reduceAdd, Nat.reduceLeDiff, Nat.zero_le, Nat.reduceEqDiff, Nat.reduceSub, eq_self, Nat.le_refl, uC_ne, ne_eq, not_false_eq_true, i1_0, i0_1, i16, mm_eta, fd_0_0, fd_0_1, fd_0_2, fd_0_3, fd_0_4, fd_0_5, fd_0_6, fd_0_7, fd_1_0, fd_1_1, fd_1_2, fd_1_3, fd_1_4, fd_1_5, arr_2, arr_3, arr_4, arr_5, arr_6, fd_7_0, fd_7_1, fd_7_2, fd_7_3, fd_7_4, fd_7_5, fd_7_6, arr_8, arr_9, arr_10, arr_11, arr_12, fd_13_0, fd_13_1, fd_13_2, fd_13_3, fd_13_4, arr_14, arr_15, arr_16, arr_17, fd_18_0, fd_18_1, fd_18_2, fd_18_3, fd_18_4, fd_18_5, arr_19, arr_20, arr_21, arr_22, arr_23, fd_24_0, fd_24_1, fd_24_2, fd_24_3, fd_24_4, fd_24_5, fd_24_6, arr_25, arr_26, arr_27, arr_28, arr_29, fd_30_0, fd_30_1, fd_30_2, fd_30_3, fd_30_4, arr_31, arr_32, arr_33, arr_34, h2, s_36 (show j < 10 by omega) h, s_44, nI_1, ih, dgF]
theorem l2_43 {i : Nat} (hi : i < L.length) : ∀ (n j : Nat), j + n = 7 → ∀ (x : Int64) (M : mmM), Cls M.1 L w kk → rn none 43 45 [.ref 0, .long x, .null, .int (nI i), .int (nI j)] [] M = rn none 43 71 [.ref 0, .long (dgF (aDeed L w i) n j x), .null, .int (nI i), .int 7] [] M
  | 0, j, hj, x, M, h => by
    obtain rfl : j = 7 := by omega
    rw [show nI 7 = 7 from rfl]
    simp only [r_43_45, r_43_47, r_43_49, sm_0, sm_c, ct_i, ct_r, ct_n, ct_l, ct_d, cB_l, cB_r, tl_s, tl_n, oB_some, fG_r, fG_i, fP_i, aL_ok, rV_some, aI, uC_self, mmI, if_true, if_false, true_or, or_true, Nat.reduceAdd, Nat.reduceLeDiff, Nat.zero_le, Nat.reduceEqDiff, Nat.reduceSub, eq_self, Nat.le_refl, uC_ne, ne_eq, not_false_eq_true, i1_0, i0_1, i16, mm_eta, fd_0_0, fd_0_1, fd_0_2, fd_0_3, fd_0_4, fd_0_5, fd_0_6, fd_0_7, fd_1_0, fd_1_1, fd_1_2, fd_1_3, fd_1_4, fd_1_5, arr_2, arr_3, arr_4, arr_5, arr_6, fd_7_0, fd_7_1, fd_7_2, fd_7_3, fd_7_4, fd_7_5, fd_7_6, arr_8, arr_9, arr_10, arr_11, arr_12, fd_13_0, fd_13_1, fd_13_2, fd_13_3, fd_13_4, arr_14, arr_15, arr_16, arr_17, fd_18_0, fd_18_1, fd_18_2, fd_18_3, fd_18_4, fd_18_5, arr_19, arr_20, arr_21, arr_22, arr_23, fd_24_0, fd_24_1, fd_24_2, fd_24_3, fd_24_4, fd_24_5, fd_24_6, arr_25, arr_26, arr_27, arr_28, arr_29, fd_30_0, fd_30_1, fd_30_2, fd_30_3, fd_30_4, arr_31, arr_32, arr_33, arr_34, Int32.le_refl, dgF]
  | n + 1, j, hj, x, M, h => by
    have h2 : (7 ≤ nI j) = False := eq_false (show ¬ nI 7 ≤ nI j from nI_ge (by omega) (by omega))
    have ih := l2_43 hi n (j + 1) (by omega) (x * 31 + (aDeed L w i j).toInt64) M h
    rw [r_43_45]
    simp only [r_43_47, r_43_49, r_43_52, r_43_53, r_43_54, r_43_55, r_43_57, r_43_60, r_43_61, r_43_64, r_43_65, r_43_68, sm_0, sm_c, ct_i, ct_r, ct_n, ct_l, ct_d, cB_l, cB_r, tl_s, tl_n, oB_some, fG_r, fG_i, fP_i, aL_ok, rV_some, aI, uC_self, mmI, if_true, if_false, true_or, or_true, Nat.reduceAdd, Nat.reduceLeDiff, Nat.zero_le, Nat.reduceEqDiff, Nat.reduceSub, eq_self, Nat.le_refl, uC_ne, ne_eq, not_false_eq_true, i1_0, i0_1, i16, mm_eta, fd_0_0, fd_0_1, fd_0_2, fd_0_3, fd_0_4, fd_0_5, fd_0_6, fd_0_7, fd_1_0, fd_1_1, fd_1_2, fd_1_3, fd_1_4, fd_1_5, arr_2, arr_3, arr_4, arr_5, arr_6, fd_7_0, fd_7_1, fd_7_2, fd_7_3, fd_7_4, fd_7_5, fd_7_6, arr_8, arr_9, arr_10, arr_11, arr_12, fd_13_0, fd_13_1, fd_13_2, fd_13_3, fd_13_4, arr_14, arr_15, arr_16, arr_17, fd_18_0, fd_18_1, fd_18_2, fd_18_3, fd_18_4, fd_18_5, arr_19, arr_20, arr_21, arr_22, arr_23, fd_24_0, fd_24_1, fd_24_2, fd_24_3, fd_24_4, fd_24_5, fd_24_6, arr_25, arr_26, arr_27, arr_28, arr_29, fd_30_0, fd_30_1, fd_30_2, fd_30_3, fd_30_4, arr_31, arr_32, arr_33, arr_34, h2, s_32 hi (show j < 7 by omega) h, s_44, nI_1, ih, dgF]
theorem l3_43 : ∀ (n j : Nat), j + n = L.length → ∀ (v : Value), v.category = 1 → ∀ (x : Int64) (M : mmM), Cls M.1 L w kk → ∃ v' : Value, v'.category = 1 ∧ rn none 43 31 [.ref 0, .long x, .null, .int (nI j), v] [] M = rn none 43 77 [.ref 0, .long (dgD (aDeed L w) n j x), .null, .int (nI L.length), v'] [] M
  | 0, j, hj, v, hv, x, M, h => by
    obtain rfl : j = L.length := by omega
    have h2 : (nI L.length ≤ nI L.length) = True := eq_true (nI_le (Nat.le_refl _) (by have := h.le; omega))
    refine ⟨v, hv, ?_⟩
    simp only [r_43_31, r_43_32, r_43_33, r_43_36, r_43_39, sm_0, sm_c, ct_i, ct_r, ct_n, ct_l, ct_d, cB_l, cB_r, tl_s, tl_n, oB_some, fG_r, fG_i, fP_i, aL_ok, rV_some, aI, uC_self, mmI, if_true, if_false, true_or, or_true, Nat.reduceAdd, Nat.reduceLeDiff, Nat.zero_le, Nat.reduceEqDiff, Nat.reduceSub, eq_self, Nat.le_refl, uC_ne, ne_eq, not_false_eq_true, i1_0, i0_1, i16, mm_eta, fd_0_0, fd_0_1, fd_0_2, fd_0_3, fd_0_4, fd_0_5, fd_0_6, fd_0_7, fd_1_0, fd_1_1, fd_1_2, fd_1_3, fd_1_4, fd_1_5, arr_2, arr_3, arr_4, arr_5, arr_6, fd_7_0, fd_7_1, fd_7_2, fd_7_3, fd_7_4, fd_7_5, fd_7_6, arr_8, arr_9, arr_10, arr_11, arr_12, fd_13_0, fd_13_1, fd_13_2, fd_13_3, fd_13_4, arr_14, arr_15, arr_16, arr_17, fd_18_0, fd_18_1, fd_18_2, fd_18_3, fd_18_4, fd_18_5, arr_19, arr_20, arr_21, arr_22, arr_23, fd_24_0, fd_24_1, fd_24_2, fd_24_3, fd_24_4, fd_24_5, fd_24_6, arr_25, arr_26, arr_27, arr_28, arr_29, fd_30_0, fd_30_1, fd_30_2, fd_30_3, fd_30_4, arr_31, arr_32, arr_33, arr_34, h.len, h2, dgD]
  | n + 1, j, hj, v, hv, x, M, h => by
    have hjl : j < L.length := by omega
    have h2 : (nI L.length ≤ nI j) = False := eq_false (nI_ge hjl (by have := h.le; omega))
    have h0 := l2_43 hjl 7 0 (by omega) x M h
    rw [nI_0] at h0
    obtain ⟨v', hv', ih⟩ := l3_43 n (j + 1) (by omega) (.int 7) rfl (dgF (aDeed L w j) 7 0 x) M h
    refine ⟨v', hv', ?_⟩
    rw [r_43_31]
    simp only [r_43_32, r_43_33, r_43_36, r_43_39, r_43_42, r_43_43, sm_0, sm_c, ct_i, ct_r, ct_n, ct_l, ct_d, cB_l, cB_r, tl_s, tl_n, oB_some, fG_r, fG_i, fP_i, aL_ok, rV_some, aI, uC_self, mmI, if_true, if_false, true_or, or_true, Nat.reduceAdd, Nat.reduceLeDiff, Nat.zero_le, Nat.reduceEqDiff, Nat.reduceSub, eq_self, Nat.le_refl, uC_ne, ne_eq, not_false_eq_true, i1_0, i0_1, i16, mm_eta, fd_0_0, fd_0_1, fd_0_2, fd_0_3, fd_0_4, fd_0_5, fd_0_6, fd_0_7, fd_1_0, fd_1_1, fd_1_2, fd_1_3, fd_1_4, fd_1_5, arr_2, arr_3, arr_4, arr_5, arr_6, fd_7_0, fd_7_1, fd_7_2, fd_7_3, fd_7_4, fd_7_5, fd_7_6, arr_8, arr_9, arr_10, arr_11, arr_12, fd_13_0, fd_13_1, fd_13_2, fd_13_3, fd_13_4, arr_14, arr_15, arr_16, arr_17, fd_18_0, fd_18_1, fd_18_2, fd_18_3, fd_18_4, fd_18_5, arr_19, arr_20, arr_21, arr_22, arr_23, fd_24_0, fd_24_1, fd_24_2, fd_24_3, fd_24_4, fd_24_5, fd_24_6, arr_25, arr_26, arr_27, arr_28, arr_29, fd_30_0, fd_30_1, fd_30_2, fd_30_3, fd_30_4, arr_31, arr_32, arr_33, arr_34, h.len, h2, h0]
    simp only [r_43_71, r_43_74, sm_0, sm_c, ct_i, ct_r, ct_n, ct_l, ct_d, cB_l, cB_r, tl_s, tl_n, oB_some, fG_r, fG_i, fP_i, aL_ok, rV_some, aI, uC_self, mmI, if_true, if_false, true_or, or_true, Nat.reduceAdd, Nat.reduceLeDiff, Nat.zero_le, Nat.reduceEqDiff, Nat.reduceSub, eq_self, Nat.le_refl, uC_ne, ne_eq, not_false_eq_true, i1_0, i0_1, i16, mm_eta, fd_0_0, fd_0_1, fd_0_2, fd_0_3, fd_0_4, fd_0_5, fd_0_6, fd_0_7, fd_1_0, fd_1_1, fd_1_2, fd_1_3, fd_1_4, fd_1_5, arr_2, arr_3, arr_4, arr_5, arr_6, fd_7_0, fd_7_1, fd_7_2, fd_7_3, fd_7_4, fd_7_5, fd_7_6, arr_8, arr_9, arr_10, arr_11, arr_12, fd_13_0, fd_13_1, fd_13_2, fd_13_3, fd_13_4, arr_14, arr_15, arr_16, arr_17, fd_18_0, fd_18_1, fd_18_2, fd_18_3, fd_18_4, fd_18_5, arr_19, arr_20, arr_21, arr_22, arr_23, fd_24_0, fd_24_1, fd_24_2, fd_24_3, fd_24_4, fd_24_5, fd_24_6, arr_25, arr_26, arr_27, arr_28, arr_29, fd_30_0, fd_30_1, fd_30_2, fd_30_3, fd_30_4, arr_31, arr_32, arr_33, arr_34, nI_1, ih, dgD]
theorem l4_43 {p : Nat} (hp : p < 16) : ∀ (n j : Nat), j + n = 6 → ∀ (x : Int64) (M : mmM), Cls M.1 L w kk → rn none 43 88 [.ref 0, .long x, .null, .int (nI p), .int (nI j)] [] M = rn none 43 114 [.ref 0, .long (dgF (aPot L w kk p) n j x), .null, .int (nI p), .int 6] [] M
  | 0, j, hj, x, M, h => by
    obtain rfl : j = 6 := by omega
    rw [show nI 6 = 6 from rfl]
    simp only [r_43_88, r_43_90, r_43_92, sm_0, sm_c, ct_i, ct_r, ct_n, ct_l, ct_d, cB_l, cB_r, tl_s, tl_n, oB_some, fG_r, fG_i, fP_i, aL_ok, rV_some, aI, uC_self, mmI, if_true, if_false, true_or, or_true, Nat.reduceAdd, Nat.reduceLeDiff, Nat.zero_le, Nat.reduceEqDiff, Nat.reduceSub, eq_self, Nat.le_refl, uC_ne, ne_eq, not_false_eq_true, i1_0, i0_1, i16, mm_eta, fd_0_0, fd_0_1, fd_0_2, fd_0_3, fd_0_4, fd_0_5, fd_0_6, fd_0_7, fd_1_0, fd_1_1, fd_1_2, fd_1_3, fd_1_4, fd_1_5, arr_2, arr_3, arr_4, arr_5, arr_6, fd_7_0, fd_7_1, fd_7_2, fd_7_3, fd_7_4, fd_7_5, fd_7_6, arr_8, arr_9, arr_10, arr_11, arr_12, fd_13_0, fd_13_1, fd_13_2, fd_13_3, fd_13_4, arr_14, arr_15, arr_16, arr_17, fd_18_0, fd_18_1, fd_18_2, fd_18_3, fd_18_4, fd_18_5, arr_19, arr_20, arr_21, arr_22, arr_23, fd_24_0, fd_24_1, fd_24_2, fd_24_3, fd_24_4, fd_24_5, fd_24_6, arr_25, arr_26, arr_27, arr_28, arr_29, fd_30_0, fd_30_1, fd_30_2, fd_30_3, fd_30_4, arr_31, arr_32, arr_33, arr_34, Int32.le_refl, dgF]
  | n + 1, j, hj, x, M, h => by
    have h2 : (6 ≤ nI j) = False := eq_false (show ¬ nI 6 ≤ nI j from nI_ge (by omega) (by omega))
    have ih := l4_43 hp n (j + 1) (by omega) (x * 31 + (aPot L w kk p j).toInt64) M h
    rw [r_43_88]
    simp only [r_43_90, r_43_92, r_43_95, r_43_96, r_43_97, r_43_98, r_43_100, r_43_103, r_43_104, r_43_107, r_43_108, r_43_111, sm_0, sm_c, ct_i, ct_r, ct_n, ct_l, ct_d, cB_l, cB_r, tl_s, tl_n, oB_some, fG_r, fG_i, fP_i, aL_ok, rV_some, aI, uC_self, mmI, if_true, if_false, true_or, or_true, Nat.reduceAdd, Nat.reduceLeDiff, Nat.zero_le, Nat.reduceEqDiff, Nat.reduceSub, eq_self, Nat.le_refl, uC_ne, ne_eq, not_false_eq_true, i1_0, i0_1, i16, mm_eta, fd_0_0, fd_0_1, fd_0_2, fd_0_3, fd_0_4, fd_0_5, fd_0_6, fd_0_7, fd_1_0, fd_1_1, fd_1_2, fd_1_3, fd_1_4, fd_1_5, arr_2, arr_3, arr_4, arr_5, arr_6, fd_7_0, fd_7_1, fd_7_2, fd_7_3, fd_7_4, fd_7_5, fd_7_6, arr_8, arr_9, arr_10, arr_11, arr_12, fd_13_0, fd_13_1, fd_13_2, fd_13_3, fd_13_4, arr_14, arr_15, arr_16, arr_17, fd_18_0, fd_18_1, fd_18_2, fd_18_3, fd_18_4, fd_18_5, arr_19, arr_20, arr_21, arr_22, arr_23, fd_24_0, fd_24_1, fd_24_2, fd_24_3, fd_24_4, fd_24_5, fd_24_6, arr_25, arr_26, arr_27, arr_28, arr_29, fd_30_0, fd_30_1, fd_30_2, fd_30_3, fd_30_4, arr_31, arr_32, arr_33, arr_34, h2, s_35 hp (show j < 6 by omega) h, s_44, nI_1, ih, dgF]
theorem l5_43 : ∀ (n j : Nat), j + n = 16 → ∀ (v : Value), v.category = 1 → ∀ (x : Int64) (M : mmM), Cls M.1 L w kk → rn none 43 79 [.ref 0, .long x, .null, .int (nI j), v] [] M = some (.inl (some (.long (dgP (aPot L w kk) w (STU L w).2.1 n j x))), M)
  | 0, j, hj, v, hv, x, M, h => by
    obtain rfl : j = 16 := by omega
    rw [nI_16]
    simp only [r_43_79, r_43_80, r_43_82, r_43_156, r_43_157, sm_0, sm_c, ct_i, ct_r, ct_n, ct_l, ct_d, cB_l, cB_r, tl_s, tl_n, oB_some, fG_r, fG_i, fP_i, aL_ok, rV_some, aI, uC_self, mmI, if_true, if_false, true_or, or_true, Nat.reduceAdd, Nat.reduceLeDiff, Nat.zero_le, Nat.reduceEqDiff, Nat.reduceSub, eq_self, Nat.le_refl, uC_ne, ne_eq, not_false_eq_true, i1_0, i0_1, i16, mm_eta, fd_0_0, fd_0_1, fd_0_2, fd_0_3, fd_0_4, fd_0_5, fd_0_6, fd_0_7, fd_1_0, fd_1_1, fd_1_2, fd_1_3, fd_1_4, fd_1_5, arr_2, arr_3, arr_4, arr_5, arr_6, fd_7_0, fd_7_1, fd_7_2, fd_7_3, fd_7_4, fd_7_5, fd_7_6, arr_8, arr_9, arr_10, arr_11, arr_12, fd_13_0, fd_13_1, fd_13_2, fd_13_3, fd_13_4, arr_14, arr_15, arr_16, arr_17, fd_18_0, fd_18_1, fd_18_2, fd_18_3, fd_18_4, fd_18_5, arr_19, arr_20, arr_21, arr_22, arr_23, fd_24_0, fd_24_1, fd_24_2, fd_24_3, fd_24_4, fd_24_5, fd_24_6, arr_25, arr_26, arr_27, arr_28, arr_29, fd_30_0, fd_30_1, fd_30_2, fd_30_3, fd_30_4, arr_31, arr_32, arr_33, arr_34, Int32.le_refl, dgP]
  | n + 1, j, hj, v, hv, x, M, h => by
    have hj16 : j < 16 := by omega
    have h0 := l4_43 hj16 6 0 (by omega) x M h
    rw [nI_0] at h0
    have ih := l5_43 n (j + 1) (by omega) (.int 6) rfl ((dgF (aPot L w kk j) 6 0 x * 31 + (b01 (bt w j)).toInt64) * 31 + ((STU L w).2.1 j).toInt64) M h
    rw [r_43_79]
    simp only [r_43_80, r_43_82, r_43_85, r_43_86, sm_0, sm_c, ct_i, ct_r, ct_n, ct_l, ct_d, cB_l, cB_r, tl_s, tl_n, oB_some, fG_r, fG_i, fP_i, aL_ok, rV_some, aI, uC_self, mmI, if_true, if_false, true_or, or_true, Nat.reduceAdd, Nat.reduceLeDiff, Nat.zero_le, Nat.reduceEqDiff, Nat.reduceSub, eq_self, Nat.le_refl, uC_ne, ne_eq, not_false_eq_true, i1_0, i0_1, i16, mm_eta, fd_0_0, fd_0_1, fd_0_2, fd_0_3, fd_0_4, fd_0_5, fd_0_6, fd_0_7, fd_1_0, fd_1_1, fd_1_2, fd_1_3, fd_1_4, fd_1_5, arr_2, arr_3, arr_4, arr_5, arr_6, fd_7_0, fd_7_1, fd_7_2, fd_7_3, fd_7_4, fd_7_5, fd_7_6, arr_8, arr_9, arr_10, arr_11, arr_12, fd_13_0, fd_13_1, fd_13_2, fd_13_3, fd_13_4, arr_14, arr_15, arr_16, arr_17, fd_18_0, fd_18_1, fd_18_2, fd_18_3, fd_18_4, fd_18_5, arr_19, arr_20, arr_21, arr_22, arr_23, fd_24_0, fd_24_1, fd_24_2, fd_24_3, fd_24_4, fd_24_5, fd_24_6, arr_25, arr_26, arr_27, arr_28, arr_29, fd_30_0, fd_30_1, fd_30_2, fd_30_3, fd_30_4, arr_31, arr_32, arr_33, arr_34, p_hi hj16, h0]
    simp only [dgP]
    rw [← ih]
    cases hb : bt w j with
    | false =>
      simp only [r_43_114, r_43_115, r_43_116, r_43_119, r_43_120, r_43_123, r_43_126, r_43_127, r_43_130, r_43_131, r_43_134, r_43_135, r_43_136, r_43_137, r_43_140, r_43_143, r_43_144, r_43_145, r_43_146, r_43_149, r_43_150, r_43_153, sm_0, sm_c, ct_i, ct_r, ct_n, ct_l, ct_d, cB_l, cB_r, tl_s, tl_n, oB_some, fG_r, fG_i, fP_i, aL_ok, rV_some, aI, uC_self, mmI, if_true, if_false, true_or, or_true, Nat.reduceAdd, Nat.reduceLeDiff, Nat.zero_le, Nat.reduceEqDiff, Nat.reduceSub, eq_self, Nat.le_refl, uC_ne, ne_eq, not_false_eq_true, i1_0, i0_1, i16, mm_eta, fd_0_0, fd_0_1, fd_0_2, fd_0_3, fd_0_4, fd_0_5, fd_0_6, fd_0_7, fd_1_0, fd_1_1, fd_1_2, fd_1_3, fd_1_4, fd_1_5, arr_2, arr_3, arr_4, arr_5, arr_6, fd_7_0, fd_7_1, fd_7_2, fd_7_3, fd_7_4, fd_7_5, fd_7_6, arr_8, arr_9, arr_10, arr_11, arr_12, fd_13_0, fd_13_1, fd_13_2, fd_13_3, fd_13_4, arr_14, arr_15, arr_16, arr_17, fd_18_0, fd_18_1, fd_18_2, fd_18_3, fd_18_4, fd_18_5, arr_19, arr_20, arr_21, arr_22, arr_23, fd_24_0, fd_24_1, fd_24_2, fd_24_3, fd_24_4, fd_24_5, fd_24_6, arr_25, arr_26, arr_27, arr_28, arr_29, fd_30_0, fd_30_1, fd_30_2, fd_30_3, fd_30_4, arr_31, arr_32, arr_33, arr_34, h.wn, s_58 hj16, hb, b01_f, s_44, h.cl, mmX_nI hj16 (by omega : 16 < 2147483648), nI_1]
      rfl
    | true =>
      simp only [r_43_114, r_43_115, r_43_116, r_43_119, r_43_120, r_43_123, r_43_126, r_43_127, r_43_130, r_43_131, r_43_134, r_43_135, r_43_136, r_43_137, r_43_140, r_43_143, r_43_144, r_43_145, r_43_146, r_43_149, r_43_150, r_43_153, sm_0, sm_c, ct_i, ct_r, ct_n, ct_l, ct_d, cB_l, cB_r, tl_s, tl_n, oB_some, fG_r, fG_i, fP_i, aL_ok, rV_some, aI, uC_self, mmI, if_true, if_false, true_or, or_true, Nat.reduceAdd, Nat.reduceLeDiff, Nat.zero_le, Nat.reduceEqDiff, Nat.reduceSub, eq_self, Nat.le_refl, uC_ne, ne_eq, not_false_eq_true, i1_0, i0_1, i16, mm_eta, fd_0_0, fd_0_1, fd_0_2, fd_0_3, fd_0_4, fd_0_5, fd_0_6, fd_0_7, fd_1_0, fd_1_1, fd_1_2, fd_1_3, fd_1_4, fd_1_5, arr_2, arr_3, arr_4, arr_5, arr_6, fd_7_0, fd_7_1, fd_7_2, fd_7_3, fd_7_4, fd_7_5, fd_7_6, arr_8, arr_9, arr_10, arr_11, arr_12, fd_13_0, fd_13_1, fd_13_2, fd_13_3, fd_13_4, arr_14, arr_15, arr_16, arr_17, fd_18_0, fd_18_1, fd_18_2, fd_18_3, fd_18_4, fd_18_5, arr_19, arr_20, arr_21, arr_22, arr_23, fd_24_0, fd_24_1, fd_24_2, fd_24_3, fd_24_4, fd_24_5, fd_24_6, arr_25, arr_26, arr_27, arr_28, arr_29, fd_30_0, fd_30_1, fd_30_2, fd_30_3, fd_30_4, arr_31, arr_32, arr_33, arr_34, h.wn, s_58 hj16, hb, b01_t, s_44, h.cl, mmX_nI hj16 (by omega : 16 < 2147483648), nI_1]
      rfl
def aDig (L : List Dd) (w : Int32) (kk : Nat) : Int64 := dgP (aPot L w kk) w (STU L w).2.1 16 0 (dgD (aDeed L w) L.length 0 (dgF (aCnt L w kk) 10 0 1609))
theorem s_43 {M : mmM} (h : Cls M.1 L w kk) : rn none 43 0 [.ref 0, .null, .null, .null, .null] [] M = some (.inl (some (.long (aDig L w kk))), M) := by
  have h1 := l1_43 (v := .null) 10 0 (by omega) 1609 M h
  rw [nI_0] at h1
  obtain ⟨v', hv', h2⟩ := l3_43 L.length 0 (by omega) .null rfl (dgF (aCnt L w kk) 10 0 1609) M h
  rw [nI_0] at h2
  have h3 := l5_43 16 0 (by omega) v' hv' (dgD (aDeed L w) L.length 0 (dgF (aCnt L w kk) 10 0 1609)) M h
  rw [nI_0] at h3
  simp only [r_43_0, r_43_3, r_43_4, r_43_5, sm_0, sm_c, ct_i, ct_r, ct_n, ct_l, ct_d, cB_l, cB_r, tl_s, tl_n, oB_some, fG_r, fG_i, fP_i, aL_ok, rV_some, aI, uC_self, mmI, if_true, if_false, true_or, or_true, Nat.reduceAdd, Nat.reduceLeDiff, Nat.zero_le, Nat.reduceEqDiff, Nat.reduceSub, eq_self, Nat.le_refl, uC_ne, ne_eq, not_false_eq_true, i1_0, i0_1, i16, mm_eta, fd_0_0, fd_0_1, fd_0_2, fd_0_3, fd_0_4, fd_0_5, fd_0_6, fd_0_7, fd_1_0, fd_1_1, fd_1_2, fd_1_3, fd_1_4, fd_1_5, arr_2, arr_3, arr_4, arr_5, arr_6, fd_7_0, fd_7_1, fd_7_2, fd_7_3, fd_7_4, fd_7_5, fd_7_6, arr_8, arr_9, arr_10, arr_11, arr_12, fd_13_0, fd_13_1, fd_13_2, fd_13_3, fd_13_4, arr_14, arr_15, arr_16, arr_17, fd_18_0, fd_18_1, fd_18_2, fd_18_3, fd_18_4, fd_18_5, arr_19, arr_20, arr_21, arr_22, arr_23, fd_24_0, fd_24_1, fd_24_2, fd_24_3, fd_24_4, fd_24_5, fd_24_6, arr_25, arr_26, arr_27, arr_28, arr_29, fd_30_0, fd_30_1, fd_30_2, fd_30_3, fd_30_4, arr_31, arr_32, arr_33, arr_34, h1]
  simp only [r_43_29, r_43_30, sm_0, sm_c, ct_i, ct_r, ct_n, ct_l, ct_d, cB_l, cB_r, tl_s, tl_n, oB_some, fG_r, fG_i, fP_i, aL_ok, rV_some, aI, uC_self, mmI, if_true, if_false, true_or, or_true, Nat.reduceAdd, Nat.reduceLeDiff, Nat.zero_le, Nat.reduceEqDiff, Nat.reduceSub, eq_self, Nat.le_refl, uC_ne, ne_eq, not_false_eq_true, i1_0, i0_1, i16, mm_eta, fd_0_0, fd_0_1, fd_0_2, fd_0_3, fd_0_4, fd_0_5, fd_0_6, fd_0_7, fd_1_0, fd_1_1, fd_1_2, fd_1_3, fd_1_4, fd_1_5, arr_2, arr_3, arr_4, arr_5, arr_6, fd_7_0, fd_7_1, fd_7_2, fd_7_3, fd_7_4, fd_7_5, fd_7_6, arr_8, arr_9, arr_10, arr_11, arr_12, fd_13_0, fd_13_1, fd_13_2, fd_13_3, fd_13_4, arr_14, arr_15, arr_16, arr_17, fd_18_0, fd_18_1, fd_18_2, fd_18_3, fd_18_4, fd_18_5, arr_19, arr_20, arr_21, arr_22, arr_23, fd_24_0, fd_24_1, fd_24_2, fd_24_3, fd_24_4, fd_24_5, fd_24_6, arr_25, arr_26, arr_27, arr_28, arr_29, fd_30_0, fd_30_1, fd_30_2, fd_30_3, fd_30_4, arr_31, arr_32, arr_33, arr_34, h2]
  simp only [r_43_77, r_43_78, sm_0, sm_c, ct_i, ct_r, ct_n, ct_l, ct_d, cB_l, cB_r, tl_s, tl_n, oB_some, fG_r, fG_i, fP_i, aL_ok, rV_some, aI, uC_self, mmI, if_true, if_false, true_or, or_true, Nat.reduceAdd, Nat.reduceLeDiff, Nat.zero_le, Nat.reduceEqDiff, Nat.reduceSub, eq_self, Nat.le_refl, uC_ne, ne_eq, not_false_eq_true, i1_0, i0_1, i16, mm_eta, fd_0_0, fd_0_1, fd_0_2, fd_0_3, fd_0_4, fd_0_5, fd_0_6, fd_0_7, fd_1_0, fd_1_1, fd_1_2, fd_1_3, fd_1_4, fd_1_5, arr_2, arr_3, arr_4, arr_5, arr_6, fd_7_0, fd_7_1, fd_7_2, fd_7_3, fd_7_4, fd_7_5, fd_7_6, arr_8, arr_9, arr_10, arr_11, arr_12, fd_13_0, fd_13_1, fd_13_2, fd_13_3, fd_13_4, arr_14, arr_15, arr_16, arr_17, fd_18_0, fd_18_1, fd_18_2, fd_18_3, fd_18_4, fd_18_5, arr_19, arr_20, arr_21, arr_22, arr_23, fd_24_0, fd_24_1, fd_24_2, fd_24_3, fd_24_4, fd_24_5, fd_24_6, arr_25, arr_26, arr_27, arr_28, arr_29, fd_30_0, fd_30_1, fd_30_2, fd_30_3, fd_30_4, arr_31, arr_32, arr_33, arr_34, h3, aDig]
end
