/-! the sim: isSame, the deeds -/
theorem order_self : ∀ d : FP.Core.Datum, d ≠ .nan → FP.Core.order d d = some .eq
  | .nan, h => absurd rfl h
  | .inf s, _ => by simp [FP.Core.order]
  | .fin s c q, _ => by simp [FP.Core.order]
theorem cmp_self {x : UInt64} (h : x &&& 0x7fffffffffffffff ≤ 0x7ff0000000000000) : Op.cmpValue (FP.dcmp x x) .l = 0 := by
  have hd : FP.Core.decode FP.Core.b64 x.toNat ≠ .nan := by
    have h1 : FP.Core.b64.tails = 4503599627370496 := by decide +kernel
    have h2 : FP.Core.b64.exps = 2048 := by decide +kernel
    have h3 : (0x7fffffffffffffff : UInt64).toNat = 2 ^ 63 - 1 := by decide +kernel
    have h4 : (0x7ff0000000000000 : UInt64).toNat = 9218868437227405312 := by decide +kernel
    rw [UInt64.le_iff_toNat_le, UInt64.toNat_and, h3, h4, Nat.and_two_pow_sub_one_eq_mod] at h
    unfold FP.Core.decode FP.Core.fieldE FP.Core.fieldT
    rw [h1, h2]
    split
    · split
      · intro h; cases h
      · rename_i a c
        exfalso
        omega
    · split
      · intro h; cases h
      · intro h; cases h
  unfold FP.dcmp FP.Core.dcmp FP.Core.cmp
  rw [order_self _ hd]
  rfl
theorem mean_fin {L : List Dd} {w : Int32} (h : L.length ≤ 30) : aMean L w &&& 0x7fffffffffffffff ≤ 0x7ff0000000000000 := by
  unfold aMean
  by_cases h0 : L.length = 0
  · rw [if_pos h0]; decide +kernel
  · rw [if_neg h0]; exact mean_ok h h0
theorem half : ∀ s, s < 1009 → nI s / 2 = nI s >>> ((1 : Int32) &&& 31) := by decide +kernel
theorem prR_n {cl : Nat → Int32} : ∀ (n s : Nat), ∃ t, t ≤ s + 63 * n ∧ prR cl n (nI s) = nI t
  | 0, s => ⟨s, Nat.le_refl _, rfl⟩
  | n + 1, s => by
    obtain ⟨c, hc, e⟩ := bc_lt (cl (15 - n))
    obtain ⟨t, ht, e2⟩ := prR_n (cl := cl) n (s + c)
    exact ⟨t, by omega, by rw [prR, e, nI_add]; exact e2⟩
/-- what the comparing sees -/
def IsF (M : kM) (s b dk gu kk pa ha rm : Nat) (vv : Nat → Option Nat) (r : Nat → Nat) (gg : Nat → Nat → Int32) (gw : Nat → Int32) (L : List Dd) (w : Int32) (g : Nat → Nat → Int32) : Prop :=
  SmR M s dk gu kk pa ha vv r gg gw L w ∧ SmN M s dk gu r L ∧ M.1 pa = .inl (0, 16, PL L w kk) ∧ M.1 ha = .inl (0, 16, (HG L w kk).1) ∧ pa ≤ kN M ∧ ha ≤ kN M ∧ M.1 rm = .inr (.inl (3, 16, fun i => if i < 16 then some (rm + 1 + i) else none)) ∧ rm + 16 ≤ kN M ∧ (∀ a, a < 16 → M.1 (rm + 1 + a) = .inl (1, 16, g a)) ∧ (∀ a, a < 16 → ∀ b, b < 16 → g a b = b01 (clM w L a b)) ∧ KtI M b L w kk ∧ s16 w ∧ 1 ≤ kk ∧ kk ≤ 8
theorem IsF.ex {M : kM} {s b dk gu kk pa ha rm : Nat} {vv : Nat → Option Nat} {r : Nat → Nat} {gg : Nat → Nat → Int32} {gw : Nat → Int32} {L : List Dd} {w : Int32} {g : Nat → Nat → Int32} {M' : kM} (h : IsF M s b dk gu kk pa ha rm vv r gg gw L w g) (he : kEx M M') : IsF M' s b dk gu kk pa ha rm vv r gg gw L w g := by
  obtain ⟨h1, h2, h3, h4, h5, h6, h7, h8, h9, h10, h11, h12⟩ := h
  obtain ⟨e1, e2, e3⟩ := he
  exact ⟨h1.ex h2 ⟨e1, e2, e3⟩, h2.ex ⟨e1, e2, e3⟩, (e2 _ h5).trans h3, (e2 _ h6).trans h4, by omega, by omega, (e2 _ (by omega)).trans h7, by omega, fun a ha => (e2 _ (by omega)).trans (h9 a ha), h10, ⟨(e2 _ (by have := h11.2.1; omega)).trans h11.1, Nat.le_trans h11.2.1 e1, by rw [e3 _ h11.2.1]; exact h11.2.2⟩, h12⟩
theorem kA_kI_ex {M : kM} {v c : kC} {n : Nat} : kEx M (kI (kA M v n) (kN M + 1) c) := ⟨Nat.le_succ _, kA_ex2, fun _ _ => rfl⟩
theorem alv {M : kM} {s dk gu kk pa ha : Nat} {vv : Nat → Option Nat} {r : Nat → Nat} {gg : Nat → Nat → Int32} {gw : Nat → Int32} {L : List Dd} {w : Int32} (h : SmR M s dk gu kk pa ha vv r gg gw L w) (hw : s16 w) {j : Nat} (hj : j ≤ L.length) : kn 62 0 [.ref s, .int (dn j), .null, .null] [] M = some (some (.int (bc (liveL (L.drop j) w))), M) := by
  have hO := h.2.2.2.2.2.2
  rw [s_k62 h hj, fcR_bc (s16_liveL hw (hO.drop j)) (fun q hq => lvB_bt hq (hO.drop j))]
theorem x7_0 : mmX 0 7 = some 0 := by decide
theorem x7_1 : mmX 1 7 = some 1 := by decide
theorem x7_2 : mmX 2 7 = some 2 := by decide
theorem x7_3 : mmX 3 7 = some 3 := by decide
theorem x7_4 : mmX 4 7 = some 4 := by decide
theorem x7_5 : mmX 5 7 = some 5 := by decide
theorem x7_6 : mmX 6 7 = some 6 := by decide
def W7 (L : List Dd) (w : Int32) (i : Nat) : Nat → Int32 := upd (upd (upd (upd (upd (upd (upd kG0 0 (dd L i).1) 1 (dd L i).2.1) 2 (dd L i).2.2.1) 3 (dd L i).2.2.2.1) 4 (dd L i).2.2.2.2) 5 (bc (liveL (L.drop (i + 1)) w))) 6 (bc (liveL (L.drop i) w))
theorem W7_d {L : List Dd} {w : Int32} {i j : Nat} (hj : j < 7) : W7 L w i j = aDeed L w i j := by
  rcases (show j = 0 ∨ j = 1 ∨ j = 2 ∨ j = 3 ∨ j = 4 ∨ j = 5 ∨ j = 6 by omega) with rfl | rfl | rfl | rfl | rfl | rfl | rfl <;> rfl
section
variable {M : kM} {s b dk gu kk pa ha rm : Nat} {vv : Nat → Option Nat} {r : Nat → Nat} {gg : Nat → Nat → Int32} {gw : Nat → Int32} {L : List Dd} {w : Int32} {g : Nat → Nat → Int32} {i : Nat} {z3 x4 x5 x6 x7 x8 : Int32} {v10 v11 v12 v13 v14 v15 v16 : Value}
theorem i_row (h : IsF M s b dk gu kk pa ha rm vv r gg gw L w g) (hi : i < L.length) : kn 71 36 [.ref s, .ref b, .ref rm, .int z3, .int x4, .int x5, .int x6, .int x7, .int x8, .int (nI i), v10, v11, v12, v13, v14, v15, v16] [] M = kn 71 120 [.ref s, .ref b, .ref rm, .int z3, .int x4, .int x5, .int x6, .int x7, .int x8, .int (nI i), .ref (r i), .ref (kN M + 1), .int 0, v13, v14, v15, v16] [] (kI (kA M (.inl (0, 7, kG0)) 7) (kN M + 1) (.inl (0, 7, W7 L w i))) := by
  obtain ⟨q1, q2, q3, q4, q5, q6, q7⟩ := h.1
  obtain ⟨n1, n2, n3, n4⟩ := h.2.1
  obtain ⟨a1, a2, b0, b1, b2, b3, b4⟩ := q3 i hi
  have hw := h.2.2.2.2.2.2.2.2.2.2.2.1
  have hle : (nI L.length ≤ nI i) = False := eq_false (nI_ge hi (by omega))
  have hx := mmX_nI hi (by omega)
  have e7 : ∀ k, nA 7 k = k 7 := fun k => rfl
  have hr0 : (kA M (.inl (0, 7, kG0)) 7).1 (r i) = .inl (0, 5, gg i) := (kA_ex.2.1 _ (n4 i hi)).trans a2
  have hr1 : ∀ c, (kI (kA M (.inl (0, 7, kG0)) 7) (kN M + 1) c).1 (r i) = .inl (0, 5, gg i) := fun c => (kA_ex2 _ (n4 i hi)).trans a2
  have hs1 : ∀ c, (kI (kA M (.inl (0, 7, kG0)) 7) (kN M + 1) c).1 s = .inr (.inr (.inl (kSm dk gu kk pa ha))) := fun c => (kA_ex2 _ n1).trans q1
  have u5 : ∀ c, kn 62 0 [.ref s, .int (nI i), .null, .null] [] (kI (kA M (.inl (0, 7, kG0)) 7) (kN M + 1) c) = some (some (.int (bc (liveL (L.drop (i + 1)) w))), kI (kA M (.inl (0, 7, kG0)) 7) (kN M + 1) c) := fun c => alv (h.ex kA_kI_ex).1 hw (j := i + 1) (by omega)
  have u6 : ∀ c, kn 62 0 [.ref s, .int (dn i), .null, .null] [] (kI (kA M (.inl (0, 7, kG0)) 7) (kN M + 1) c) = some (some (.int (bc (liveL (L.drop i) w))), kI (kA M (.inl (0, 7, kG0)) 7) (kN M + 1) c) := fun c => alv (h.ex kA_kI_ex).1 hw (j := i) (by omega)
  rw [k_71_36]
  simp only [k_71_38, k_71_39, k_71_42, k_71_43, k_71_46, k_71_47, k_71_50, k_71_52, sm_0, sm_c, ct_i, ct_r, ct_n, ct_l, ct_d, tl_s, tl_n, oK_s, cS_s, cI_0, cI_9, cA_s, cR_s, cQ_s, cN_i, cN_r, cO_s, rS_s, rK_s, cK_i, cK_j, cK_d, if_true, if_false, true_or, or_true, Nat.reduceAdd, Nat.reduceLeDiff, Nat.zero_le, Nat.reduceEqDiff, Nat.reduceSub, eq_self, Nat.le_refl, ne_eq, not_false_eq_true, not_true_eq_false, i1_0, i0_1, kSm_0, kSm_1, kSm_2, kSm_3, kSm_4, x5_0, x5_1, x5_2, x5_3, x5_4, q1, q2, hle, hx, a1]
  rw [k_71_53 (ct_i _)]
  simp only [k_71_55, k_71_57, k_71_59, k_71_60, k_71_61, k_71_63, k_71_64, k_71_65, k_71_66, k_71_67, k_71_68, k_71_70, k_71_71, k_71_72, k_71_73, k_71_74, k_71_75, k_71_77, k_71_78, k_71_79, k_71_80, k_71_81, k_71_82, k_71_84, k_71_85, k_71_86, k_71_87, k_71_88, k_71_89, k_71_91, k_71_92, k_71_93, k_71_94, k_71_95, k_71_96, k_71_97, k_71_99, k_71_102, k_71_103, k_71_104, k_71_106, k_71_107, k_71_109, k_71_110, k_71_111, k_71_114, sm_0, sm_c, ct_i, ct_r, ct_n, ct_l, ct_d, tl_s, tl_n, oK_s, cS_s, cI_0, cI_9, cA_s, cR_s, cQ_s, cN_i, cN_r, cO_s, rS_s, rK_s, cK_i, cK_j, cK_d, if_true, if_false, true_or, or_true, Nat.reduceAdd, Nat.reduceLeDiff, Nat.zero_le, Nat.reduceEqDiff, Nat.reduceSub, eq_self, Nat.le_refl, ne_eq, not_false_eq_true, not_true_eq_false, i1_0, i0_1, kSm_0, kSm_1, kSm_2, kSm_3, kSm_4, x5_0, x5_1, x5_2, x5_3, x5_4, e7, kA_self, kI_self, kI_kI, hr0, hr1, hs1, u5, u6, sub1, b0, b1, b2, b3, b4, x7_0, x7_1, x7_2, x7_3, x7_4, x7_5, x7_6]
  rw [k_71_115 (ct_r _), k_71_117, k_71_118 (ct_r _)]
  rfl
theorem i_l120 {wa : Nat} (h : IsF M s b dk gu kk pa ha rm vv r gg gw L w g) (hi : i < L.length) (hwa : M.1 wa = .inl (0, 7, W7 L w i)) : ∀ (n j : Nat), j + n = 7 → kn 71 120 [.ref s, .ref b, .ref rm, .int z3, .int x4, .int x5, .int x6, .int x7, .int x8, .int (nI i), v10, .ref wa, .int (nI j), v13, v14, v15, v16] [] M = kn 71 151 [.ref s, .ref b, .ref rm, .int z3, .int x4, .int x5, .int x6, .int x7, .int x8, .int (nI i), v10, .ref wa, .int 7, v13, v14, v15, v16] [] M
  | 0, j, hj => by
    obtain rfl : j = 7 := by omega
    have e : ((7 : Int32) ≤ nI 7) = True := eq_true (Int32.le_refl _)
    rw [k_71_120]
    simp only [k_71_122, k_71_124, sm_0, sm_c, ct_i, ct_r, ct_n, ct_l, ct_d, tl_s, tl_n, oK_s, cS_s, cI_0, cI_9, cA_s, cR_s, cQ_s, cN_i, cN_r, cO_s, rS_s, rK_s, cK_i, cK_j, cK_d, if_true, if_false, true_or, or_true, Nat.reduceAdd, Nat.reduceLeDiff, Nat.zero_le, Nat.reduceEqDiff, Nat.reduceSub, eq_self, Nat.le_refl, ne_eq, not_false_eq_true, not_true_eq_false, i1_0, i0_1, kSm_0, kSm_1, kSm_2, kSm_3, kSm_4, x5_0, x5_1, x5_2, x5_3, x5_4, e]
    rfl
  | n + 1, j, hj => by
    have e : ((7 : Int32) ≤ nI j) = False := eq_false (nI_ge (a := j) (b := 7) (by omega) (by omega))
    have hK := h.2.2.2.2.2.2.2.2.2.2.1
    have hb := hK.1
    have hx : mmX (nI j) 7 = some j := mmX_nI (by omega) (by omega)
    have u := s_32 (kk := kk) hi (j := j) (by omega) (M := (M.2.1 b, zL)) hK.2.2
    have hd := W7_d (L := L) (w := w) (i := i) (j := j) (by omega)
    rw [← i_l120 h hi hwa n (j + 1) (by omega)]
    rw [k_71_120]
    simp only [k_71_122, k_71_124, k_71_127, k_71_128, k_71_130, k_71_132, k_71_135, k_71_137, k_71_139, k_71_140, sm_0, sm_c, ct_i, ct_r, ct_n, ct_l, ct_d, tl_s, tl_n, oK_s, cS_s, cI_0, cI_9, cA_s, cR_s, cQ_s, cN_i, cN_r, cO_s, rS_s, rK_s, cK_i, cK_j, cK_d, if_true, if_false, true_or, or_true, Nat.reduceAdd, Nat.reduceLeDiff, Nat.zero_le, Nat.reduceEqDiff, Nat.reduceSub, eq_self, Nat.le_refl, ne_eq, not_false_eq_true, not_true_eq_false, i1_0, i0_1, kSm_0, kSm_1, kSm_2, kSm_3, kSm_4, x5_0, x5_1, x5_2, x5_3, x5_4, e, hb, u, kV_id, hwa, hx, hd]
    rw [k_71_145 (ct_r _), k_71_148, nI_1]
theorem i_l154 {wa : Nat} (h : IsF M s b dk gu kk pa ha rm vv r gg gw L w g) (hi : i < L.length) : ∀ (n p : Nat), p + n = 16 → kn 71 154 [.ref s, .ref b, .ref rm, .int z3, .int x4, .int x5, .int x6, .int x7, .int x8, .int (nI i), v10, .ref wa, .int (nI p), v13, v14, v15, v16] [] M = kn 71 188 [.ref s, .ref b, .ref rm, .int z3, .int x4, .int x5, .int x6, .int x7, .int x8, .int (nI i), v10, .ref wa, .int 16, v13, v14, v15, v16] [] M
  | 0, p, hp => by
    obtain rfl : p = 16 := by omega
    rw [k_71_154]
    simp only [k_71_156, k_71_158, sm_0, sm_c, ct_i, ct_r, ct_n, ct_l, ct_d, tl_s, tl_n, oK_s, cS_s, cI_0, cI_9, cA_s, cR_s, cQ_s, cN_i, cN_r, cO_s, rS_s, rK_s, cK_i, cK_j, cK_d, if_true, if_false, true_or, or_true, Nat.reduceAdd, Nat.reduceLeDiff, Nat.zero_le, Nat.reduceEqDiff, Nat.reduceSub, eq_self, Nat.le_refl, ne_eq, not_false_eq_true, not_true_eq_false, i1_0, i0_1, kSm_0, kSm_1, kSm_2, kSm_3, kSm_4, x5_0, x5_1, x5_2, x5_3, x5_4, nI_16, Int32.le_refl]
  | n + 1, p, hp => by
    have e : ((16 : Int32) ≤ nI p) = False := p_hi (by omega)
    have hK := h.2.2.2.2.2.2.2.2.2.2.1
    have hb := hK.1
    have hO := h.1.2.2.2.2.2.2
    have u := s_33 (kk := kk) hi (p := p) (by omega) (M := (M.2.1 b, zL)) hK.2.2
    have u2 : kn 61 0 [.ref s, .int (nI p), .int (nI i), .null] [] M = some (some (.int (b01 (lvB w p (L.drop (i + 1))))), M) := s_k61 h.1 (p := p) (j := i + 1) (by omega) (by omega)
    rw [lvB_bt (show p < 16 by omega) (hO.drop _)] at u2
    have hS := h.1.1
    rw [← i_l154 h hi n (p + 1) (by omega)]
    rw [k_71_154]
    simp only [k_71_156, k_71_158, k_71_161, k_71_162, k_71_164, k_71_166, k_71_169, k_71_170, k_71_172, k_71_174, k_71_177, sm_0, sm_c, ct_i, ct_r, ct_n, ct_l, ct_d, tl_s, tl_n, oK_s, cS_s, cI_0, cI_9, cA_s, cR_s, cQ_s, cN_i, cN_r, cO_s, rS_s, rK_s, cK_i, cK_j, cK_d, if_true, if_false, true_or, or_true, Nat.reduceAdd, Nat.reduceLeDiff, Nat.zero_le, Nat.reduceEqDiff, Nat.reduceSub, eq_self, Nat.le_refl, ne_eq, not_false_eq_true, not_true_eq_false, i1_0, i0_1, kSm_0, kSm_1, kSm_2, kSm_3, kSm_4, x5_0, x5_1, x5_2, x5_3, x5_4, e, hb, u, kV_id, hS, u2]
    rw [k_71_182 (ct_r _), k_71_185, nI_1]
theorem spd_hand {d : Dd} (h : okD d) (hO : okL L) (hl : L.length ≤ 30) (hw : s16 w) (hk : 1 ≤ kk) (hk2 : kk ≤ 16) : spd (HG L w kk).1 d = (decide (d.2.2.2.2 = 1) && (decide (¬ (HG L w kk).1 d.1.toNatClampNeg < 0) && decide ((HG L w kk).1 d.1.toNatClampNeg = (HG L w kk).1 d.2.1.toNatClampNeg))) := by
  obtain ⟨p, hp, e⟩ := h.1
  unfold spd
  rcases h.2.2.2.2 with h0 | ⟨h1, ⟨u, hu, e2⟩, -⟩
  · rw [h0]; simp
  · rw [h1, e, e2]
    have hneg := HG_neg (w := w) hO hl hw hk hk2 hp
    unfold shB
    rw [if_neg (by rw [p_lo (by omega)]; exact id), if_neg (by rw [p_hi hp]; exact id), if_neg (by rw [p_lo (by omega)]; exact id), if_neg (by rw [p_hi hu]; exact id), nI_clamp (by omega), nI_clamp (by omega)]
    by_cases hm : (HG L w kk).1 p = -1
    · rw [if_pos hm, decide_eq_false (show ¬ ¬ (HG L w kk).1 p < 0 from fun hh => hh (hneg.mpr hm))]
      simp
    · rw [if_neg hm, decide_eq_true (show ¬ (HG L w kk).1 p < 0 from fun hh => hm (hneg.mp hh))]
      simp
theorem isP_at {x : Int32} (h : isP x) : mmX x 16 = some x.toNatClampNeg := by
  obtain ⟨p, hp, e⟩ := h
  rw [e, nI_clamp (by omega)]
  exact x16_16 hp
theorem i_tail {wa : Nat} (h : IsF M s b dk gu kk pa ha rm vv r gg gw L w g) (hi : i < L.length) (hwa : M.1 wa = .inl (0, 7, W7 L w i)) : kn 71 188 [.ref s, .ref b, .ref rm, .int z3, .int x4, .int x5, .int x6, .int x7, .int x8, .int (nI i), .ref (r i), .ref wa, .int 16, v13, v14, v15, v16] [] M = kn 71 36 [.ref s, .ref b, .ref rm, .int z3, .int (if x4 < bc (liveL (L.drop (i + 1)) w) then bc (liveL (L.drop (i + 1)) w) else x4), .int (x5 + bc (liveL (L.drop (i + 1)) w)), .int (if isP4 (dd L i) = true then x6 + 1 else x6), .int (if spd (HG L w kk).1 (dd L i) = true then x7 + 1 else x7), .int (if spd (HG L w kk).1 (dd L i) = true then x8 else x8 + (dd L i).2.2.2.1), .int (nI (i + 1)), .ref (r i), .ref wa, .int (b01 (spd (HG L w kk).1 (dd L i))), v13, v14, v15, v16] [] M := by
  obtain ⟨q1, q2, q3, q4, q5, q6, q7⟩ := h.1
  obtain ⟨a1, a2, b0, b1, b2, b3, b4⟩ := q3 i hi
  obtain ⟨hw, hk1, hk8⟩ := h.2.2.2.2.2.2.2.2.2.2.2
  have hha := h.2.2.2.1
  have hok := q7 _ (dd_mem hi)
  have hsp := spd_hand (L := L) (w := w) (kk := kk) hok q7 q6 hw hk1 (by omega)
  have hW5 : W7 L w i 5 = bc (liveL (L.drop (i + 1)) w) := rfl
  have e1 : kn 71 188 [.ref s, .ref b, .ref rm, .int z3, .int x4, .int x5, .int x6, .int x7, .int x8, .int (nI i), .ref (r i), .ref wa, .int 16, v13, v14, v15, v16] [] M = kn 71 208 [.ref s, .ref b, .ref rm, .int z3, .int (if x4 < bc (liveL (L.drop (i + 1)) w) then bc (liveL (L.drop (i + 1)) w) else x4), .int (x5 + bc (liveL (L.drop (i + 1)) w)), .int x6, .int x7, .int x8, .int (nI i), .ref (r i), .ref wa, .int 16, v13, v14, v15, v16] [] M := by
    rw [k_71_188]
    simp only [k_71_190, k_71_192, k_71_193, k_71_194, k_71_197, k_71_199, k_71_201, k_71_203, k_71_204, k_71_205, k_71_206, sm_0, sm_c, ct_i, ct_r, ct_n, ct_l, ct_d, tl_s, tl_n, oK_s, cS_s, cI_0, cI_9, cA_s, cR_s, cQ_s, cN_i, cN_r, cO_s, rS_s, rK_s, cK_i, cK_j, cK_d, if_true, if_false, true_or, or_true, Nat.reduceAdd, Nat.reduceLeDiff, Nat.zero_le, Nat.reduceEqDiff, Nat.reduceSub, eq_self, Nat.le_refl, ne_eq, not_false_eq_true, not_true_eq_false, i1_0, i0_1, kSm_0, kSm_1, kSm_2, kSm_3, kSm_4, x5_0, x5_1, x5_2, x5_3, x5_4, hwa, x7_5, hW5]
  rw [e1]
  generalize (if x4 < bc (liveL (L.drop (i + 1)) w) then bc (liveL (L.drop (i + 1)) w) else x4) = y4
  generalize x5 + bc (liveL (L.drop (i + 1)) w) = y5
  have e2 : kn 71 208 [.ref s, .ref b, .ref rm, .int z3, .int y4, .int y5, .int x6, .int x7, .int x8, .int (nI i), .ref (r i), .ref wa, .int 16, v13, v14, v15, v16] [] M = kn 71 256 [.ref s, .ref b, .ref rm, .int z3, .int y4, .int y5, .int x6, .int x7, .int x8, .int (nI i), .ref (r i), .ref wa, .int (b01 (spd (HG L w kk).1 (dd L i))), v13, v14, v15, v16] [] M := by
    rw [hsp]
    by_cases h1 : (dd L i).2.2.2.2 = 1
    · obtain ⟨-, hu1, hu2⟩ := hok.2.2.2.2.resolve_left (by rw [h1]; decide)
      have hx1 := isP_at hok.1
      have hx2 := isP_at hu1
      rw [k_71_208]
      by_cases hneg : (HG L w kk).1 (dd L i).1.toNatClampNeg < 0
      · have hn := eq_true hneg
        simp only [k_71_210, k_71_211, k_71_212, k_71_213, k_71_216, k_71_217, k_71_220, k_71_222, k_71_223, k_71_224, k_71_225, k_71_253, sm_0, sm_c, ct_i, ct_r, ct_n, ct_l, ct_d, tl_s, tl_n, oK_s, cS_s, cI_0, cI_9, cA_s, cR_s, cQ_s, cN_i, cN_r, cO_s, rS_s, rK_s, cK_i, cK_j, cK_d, if_true, if_false, true_or, or_true, Nat.reduceAdd, Nat.reduceLeDiff, Nat.zero_le, Nat.reduceEqDiff, Nat.reduceSub, eq_self, Nat.le_refl, ne_eq, not_false_eq_true, not_true_eq_false, i1_0, i0_1, kSm_0, kSm_1, kSm_2, kSm_3, kSm_4, x5_0, x5_1, x5_2, x5_3, x5_4, a2, q1, hha, b4, b0, h1, hx1, hn, decide_true, decide_false, Bool.false_and, Bool.and_false, b01, Bool.false_eq_true]
        rw [k_71_254 (ct_r _)]
      · have hn := eq_false hneg
        by_cases he : (HG L w kk).1 (dd L i).1.toNatClampNeg = (HG L w kk).1 (dd L i).2.1.toNatClampNeg
        · have hn2 : ((HG L w kk).1 (dd L i).2.1.toNatClampNeg < 0) = False := by rw [← he]; exact hn
          simp only [k_71_210, k_71_211, k_71_212, k_71_213, k_71_216, k_71_217, k_71_220, k_71_222, k_71_223, k_71_224, k_71_225, k_71_228, k_71_229, k_71_232, k_71_234, k_71_235, k_71_236, k_71_237, k_71_238, k_71_241, k_71_243, k_71_244, k_71_245, k_71_246, k_71_249, k_71_250, sm_0, sm_c, ct_i, ct_r, ct_n, ct_l, ct_d, tl_s, tl_n, oK_s, cS_s, cI_0, cI_9, cA_s, cR_s, cQ_s, cN_i, cN_r, cO_s, rS_s, rK_s, cK_i, cK_j, cK_d, if_true, if_false, true_or, or_true, Nat.reduceAdd, Nat.reduceLeDiff, Nat.zero_le, Nat.reduceEqDiff, Nat.reduceSub, eq_self, Nat.le_refl, ne_eq, not_false_eq_true, not_true_eq_false, i1_0, i0_1, kSm_0, kSm_1, kSm_2, kSm_3, kSm_4, x5_0, x5_1, x5_2, x5_3, x5_4, a2, q1, hha, b4, b0, b1, h1, hx1, hx2, hn, hn2, he, decide_true, Bool.true_and, b01]
          rw [k_71_254 (ct_r _)]
        · have he := eq_false he
          simp only [k_71_210, k_71_211, k_71_212, k_71_213, k_71_216, k_71_217, k_71_220, k_71_222, k_71_223, k_71_224, k_71_225, k_71_228, k_71_229, k_71_232, k_71_234, k_71_235, k_71_236, k_71_237, k_71_238, k_71_241, k_71_243, k_71_244, k_71_245, k_71_246, k_71_253, sm_0, sm_c, ct_i, ct_r, ct_n, ct_l, ct_d, tl_s, tl_n, oK_s, cS_s, cI_0, cI_9, cA_s, cR_s, cQ_s, cN_i, cN_r, cO_s, rS_s, rK_s, cK_i, cK_j, cK_d, if_true, if_false, true_or, or_true, Nat.reduceAdd, Nat.reduceLeDiff, Nat.zero_le, Nat.reduceEqDiff, Nat.reduceSub, eq_self, Nat.le_refl, ne_eq, not_false_eq_true, not_true_eq_false, i1_0, i0_1, kSm_0, kSm_1, kSm_2, kSm_3, kSm_4, x5_0, x5_1, x5_2, x5_3, x5_4, a2, q1, hha, b4, b0, b1, h1, hx1, hx2, hn, he, decide_true, decide_false, Bool.true_and, Bool.and_false, b01, Bool.false_eq_true]
          rw [k_71_254 (ct_r _)]
    · have h1 := eq_false h1
      rw [k_71_208]
      simp only [k_71_210, k_71_211, k_71_212, k_71_213, k_71_253, sm_0, sm_c, ct_i, ct_r, ct_n, ct_l, ct_d, tl_s, tl_n, oK_s, cS_s, cI_0, cI_9, cA_s, cR_s, cQ_s, cN_i, cN_r, cO_s, rS_s, rK_s, cK_i, cK_j, cK_d, if_true, if_false, true_or, or_true, Nat.reduceAdd, Nat.reduceLeDiff, Nat.zero_le, Nat.reduceEqDiff, Nat.reduceSub, eq_self, Nat.le_refl, ne_eq, not_false_eq_true, not_true_eq_false, i1_0, i0_1, kSm_0, kSm_1, kSm_2, kSm_3, kSm_4, x5_0, x5_1, x5_2, x5_3, x5_4, a2, b4, h1, decide_false, Bool.false_and, b01, Bool.false_eq_true]
      rw [k_71_254 (ct_r _)]
  rw [e2]
  have h6 : x6 + (dd L i).2.2.2.2 = if isP4 (dd L i) = true then x6 + 1 else x6 := by
    unfold isP4
    rcases hok.2.2.2.2 with h0 | ⟨h1, -⟩
    · rw [h0]; simp
    · rw [h1]; simp
  rw [k_71_256]
  cases spd (HG L w kk).1 (dd L i) with
  | true =>
    have n1 : ((1 : Int32) = 0) = False := by decide
    simp only [k_71_258, k_71_260, k_71_261, k_71_262, k_71_263, k_71_265, k_71_267, k_71_269, k_71_272, k_71_273, k_71_276, k_71_277, k_71_278, k_71_280, k_71_282, k_71_284, k_71_287, k_71_288, k_71_291, k_71_293, k_71_294, k_71_295, sm_0, sm_c, ct_i, ct_r, ct_n, ct_l, ct_d, tl_s, tl_n, oK_s, cS_s, cI_0, cI_9, cA_s, cR_s, cQ_s, cN_i, cN_r, cO_s, rS_s, rK_s, cK_i, cK_j, cK_d, if_true, if_false, true_or, or_true, Nat.reduceAdd, Nat.reduceLeDiff, Nat.zero_le, Nat.reduceEqDiff, Nat.reduceSub, eq_self, Nat.le_refl, ne_eq, not_false_eq_true, not_true_eq_false, i1_0, i0_1, kSm_0, kSm_1, kSm_2, kSm_3, kSm_4, x5_0, x5_1, x5_2, x5_3, x5_4, a2, b3, b4, h6, b01, n1, Int32.add_zero]
    rw [k_71_296 (ct_i _), k_71_298 (ct_i _), k_71_301, nI_1]
  | false =>
    simp only [k_71_258, k_71_260, k_71_261, k_71_262, k_71_263, k_71_265, k_71_267, k_71_269, k_71_272, k_71_273, k_71_276, k_71_277, k_71_278, k_71_280, k_71_282, k_71_284, k_71_287, k_71_288, k_71_291, k_71_293, k_71_294, k_71_295, sm_0, sm_c, ct_i, ct_r, ct_n, ct_l, ct_d, tl_s, tl_n, oK_s, cS_s, cI_0, cI_9, cA_s, cR_s, cQ_s, cN_i, cN_r, cO_s, rS_s, rK_s, cK_i, cK_j, cK_d, if_true, if_false, true_or, or_true, Nat.reduceAdd, Nat.reduceLeDiff, Nat.zero_le, Nat.reduceEqDiff, Nat.reduceSub, eq_self, Nat.le_refl, ne_eq, not_false_eq_true, not_true_eq_false, i1_0, i0_1, kSm_0, kSm_1, kSm_2, kSm_3, kSm_4, x5_0, x5_1, x5_2, x5_3, x5_4, a2, b3, b4, h6, b01, Int32.add_zero, Bool.false_eq_true]
    rw [k_71_296 (ct_i _), k_71_298 (ct_i _), k_71_301, nI_1]
theorem i_loop : ∀ (n i : Nat), i + n = L.length → ∀ (M : kM) (x4 x5 x6 x7 x8 : Int32) (v10 v11 v12 : Value), v10.category = 1 → v11.category = 1 → v12.category = 1 → IsF M s b dk gu kk pa ha rm vv r gg gw L w g → ∃ (M' : kM) (v10' v11' v12' : Value), v10'.category = 1 ∧ v11'.category = 1 ∧ v12'.category = 1 ∧ kn 71 36 [.ref s, .ref b, .ref rm, .int z3, .int x4, .int x5, .int x6, .int x7, .int x8, .int (nI i), v10, v11, v12, v13, v14, v15, v16] [] M = kn 71 304 [.ref s, .ref b, .ref rm, .int z3, .int (crw w (L.drop i) x4), .int (sbh w (L.drop i) x5), .int (cnt isP4 (L.drop i) x6), .int (cnt (spd (HG L w kk).1) (L.drop i) x7), .int (wns (HG L w kk).1 (L.drop i) x8), .int (nI L.length), v10', v11', v12', v13, v14, v15, v16] [] M' ∧ kEx M M' ∧ kLe M M' n (7 * n)
  | 0, i, hi, M, x4, x5, x6, x7, x8, v10, v11, v12, c10, c11, c12, h => by
    obtain rfl : i = L.length := by omega
    refine ⟨M, v10, v11, v12, c10, c11, c12, ?_, kEx.rf M, ⟨Nat.le_refl _, Nat.le_refl _⟩⟩
    have q1 := h.1.1
    have q2 := h.1.2.1
    rw [k_71_36, List.drop_length]
    simp only [k_71_38, k_71_39, k_71_42, k_71_43, sm_0, sm_c, ct_i, ct_r, ct_n, ct_l, ct_d, tl_s, tl_n, oK_s, cS_s, cI_0, cI_9, cA_s, cR_s, cQ_s, cN_i, cN_r, cO_s, rS_s, rK_s, cK_i, cK_j, cK_d, if_true, if_false, true_or, or_true, Nat.reduceAdd, Nat.reduceLeDiff, Nat.zero_le, Nat.reduceEqDiff, Nat.reduceSub, eq_self, Nat.le_refl, ne_eq, not_false_eq_true, not_true_eq_false, i1_0, i0_1, kSm_0, kSm_1, kSm_2, kSm_3, kSm_4, x5_0, x5_1, x5_2, x5_3, x5_4, q1, q2, Int32.le_refl, crw, sbh, cnt, wns]
  | n + 1, i, hi, M, x4, x5, x6, x7, x8, v10, v11, v12, c10, c11, c12, h => by
    have hil : i < L.length := by omega
    have e1 := i_row (v10 := v10) (v11 := v11) (z3 := z3) (x4 := x4) (x5 := x5) (x6 := x6) (x7 := x7) (x8 := x8) (v12 := v12) (v13 := v13) (v14 := v14) (v15 := v15) (v16 := v16) h hil
    have h1 := h.ex (M' := kI (kA M (.inl (0, 7, kG0)) 7) (kN M + 1) (.inl (0, 7, W7 L w i))) kA_kI_ex
    have hwa : (kI (kA M (.inl (0, 7, kG0)) 7) (kN M + 1) (.inl (0, 7, W7 L w i))).1 (kN M + 1) = .inl (0, 7, W7 L w i) := kI_self
    have hex : kEx M (kI (kA M (.inl (0, 7, kG0)) 7) (kN M + 1) (.inl (0, 7, W7 L w i))) := kA_kI_ex
    have hle : kLe M (kI (kA M (.inl (0, 7, kG0)) 7) (kN M + 1) (.inl (0, 7, W7 L w i))) 1 7 := ⟨Nat.le_refl _, Nat.le_refl _⟩
    generalize kI (kA M (.inl (0, 7, kG0)) 7) (kN M + 1) (.inl (0, 7, W7 L w i)) = M1 at e1 h1 hwa hex hle
    have e2 := i_l120 (z3 := z3) (x4 := x4) (x5 := x5) (x6 := x6) (x7 := x7) (x8 := x8) (v10 := .ref (r i)) (v13 := v13) (v14 := v14) (v15 := v15) (v16 := v16) h1 hil hwa 7 0 rfl
    have e3 := i_l154 (wa := kN M + 1) (z3 := z3) (x4 := x4) (x5 := x5) (x6 := x6) (x7 := x7) (x8 := x8) (v10 := .ref (r i)) (v13 := v13) (v14 := v14) (v15 := v15) (v16 := v16) h1 hil 16 0 rfl
    have e4 := i_tail (z3 := z3) (x4 := x4) (x5 := x5) (x6 := x6) (x7 := x7) (x8 := x8) (v13 := v13) (v14 := v14) (v15 := v15) (v16 := v16) h1 hil hwa
    rw [nI_0] at e2 e3
    obtain ⟨M', w10, w11, w12, d10, d11, d12, e5, r1, r2⟩ := i_loop n (i + 1) (by omega) M1 _ _ _ _ _ (.ref (r i)) (.ref (kN M + 1)) (.int (b01 (spd (HG L w kk).1 (dd L i)))) rfl rfl rfl h1
    refine ⟨M', w10, w11, w12, d10, d11, d12, ?_, hex.tr r1, (hle.tr r2).mo (by omega) (by omega)⟩
    rw [e1, e2]
    have e23 : kn 71 151 [.ref s, .ref b, .ref rm, .int z3, .int x4, .int x5, .int x6, .int x7, .int x8, .int (nI i), .ref (r i), .ref (kN M + 1), .int 7, v13, v14, v15, v16] [] M1 = kn 71 154 [.ref s, .ref b, .ref rm, .int z3, .int x4, .int x5, .int x6, .int x7, .int x8, .int (nI i), .ref (r i), .ref (kN M + 1), .int 0, v13, v14, v15, v16] [] M1 := by
      rw [k_71_151, k_71_152 (ct_r _)]
    rw [e23, e3, e4, e5, drop_dd hil]
    rfl
end
