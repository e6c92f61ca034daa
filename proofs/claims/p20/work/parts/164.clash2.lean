/-! the sim: the matrix of clashes; among; isTaken -/
def rowF (w : Int32) (L : List Dd) (a b : Nat) (g : Nat → Nat → Int32) : Nat → Nat → Int32 := fun x => if x = a then (fun q => if b ≤ q ∧ q < 16 ∧ ¬ a = q then b01 (clM w L a q) else g a q) else g x
def matF (w : Int32) (L : List Dd) (a : Nat) (g : Nat → Nat → Int32) : Nat → Nat → Int32 := fun x => if a ≤ x ∧ x < 16 then rowF w L x 0 g x else g x
theorem rowF_16 {w : Int32} {L : List Dd} {a : Nat} {g : Nat → Nat → Int32} : rowF w L a 16 g = g := by
  funext x
  unfold rowF
  by_cases h : x = a
  · subst h
    rw [if_pos rfl]
    funext q
    rw [if_neg (by omega)]
  · rw [if_neg h]
theorem rowF_s {w : Int32} {L : List Dd} {a b : Nat} (hb : b < 16) (hab : ¬ a = b) {g : Nat → Nat → Int32} : rowF w L a (b + 1) (kU g a (upd (g a) b (b01 (clM w L a b)))) = rowF w L a b g := by
  funext x
  unfold rowF
  by_cases h : x = a
  · subst h
    rw [if_pos rfl, if_pos rfl]
    funext q
    rw [kU_self]
    by_cases hq : q = b
    · subst hq
      rw [if_neg (by omega), upd_at, if_pos ⟨Nat.le_refl _, hb, hab⟩]
    · rw [upd_ne hq]
      by_cases h2 : b ≤ q ∧ q < 16 ∧ ¬ x = q
      · rw [if_pos (by omega), if_pos h2]
      · rw [if_neg (by omega), if_neg h2]
  · rw [if_neg h, if_neg h, kU_ne h]
theorem rowF_e {w : Int32} {L : List Dd} {a : Nat} {g : Nat → Nat → Int32} : rowF w L a (a + 1) g = rowF w L a a g := by
  funext x
  unfold rowF
  by_cases h : x = a
  · rw [if_pos h, if_pos h]
    funext q
    by_cases h2 : a ≤ q ∧ q < 16 ∧ ¬ a = q
    · rw [if_pos (by omega), if_pos h2]
    · rw [if_neg (by omega), if_neg h2]
  · rw [if_neg h, if_neg h]
theorem matF_16 {w : Int32} {L : List Dd} {g : Nat → Nat → Int32} : matF w L 16 g = g := by
  funext x
  unfold matF
  rw [if_neg (by omega)]
theorem matF_s {w : Int32} {L : List Dd} {a : Nat} (ha : a < 16) {g : Nat → Nat → Int32} : matF w L (a + 1) (rowF w L a 0 g) = matF w L a g := by
  funext x
  unfold matF
  by_cases h : x = a
  · subst h
    rw [if_neg (by omega), if_pos ⟨Nat.le_refl _, ha⟩]
  · by_cases h2 : a ≤ x ∧ x < 16
    · rw [if_pos (by omega), if_pos h2]
      unfold rowF
      rw [if_pos rfl, if_pos rfl, if_neg h]
    · rw [if_neg (by omega), if_neg h2]
      unfold rowF
      rw [if_neg h]
theorem x16_16 {j : Nat} (h : j < 16) : mmX (nI j) 16 = some j := mmX_nI h (by omega)
section
variable {M : kM} {s dk gu kk pa ha : Nat} {vv : Nat → Option Nat} {r : Nat → Nat} {gg : Nat → Nat → Int32} {gw : Nat → Int32} {L : List Dd} {w : Int32}
theorem l2_k65 (h : SmR M s dk gu kk pa ha vv r gg gw L w) (hn : SmN M s dk gu r L) {a : Nat} (ha16 : a < 16) : ∀ (n b : Nat), b + n = 16 → ∀ (g : Nat → Nat → Int32) (v4 v5 v6 : Value), v4.category = 1 → v5.category = 1 → v6.category = 1 → ∃ v4' v5' v6' : Value, v4'.category = 1 ∧ v5'.category = 1 ∧ v6'.category = 1 ∧ kn 65 19 [.ref s, .ref (kN M + 1), .int (nI a), .int (nI b), v4, v5, v6] [] (kLg M g) = kn 65 177 [.ref s, .ref (kN M + 1), .int (nI a), .int 16, v4', v5', v6'] [] (kLg M (rowF w L a b g))
  | 0, b, hb, g, v4, v5, v6, c4, c5, c6 => by
    obtain rfl : b = 16 := by omega
    refine ⟨v4, v5, v6, c4, c5, c6, ?_⟩
    rw [k_65_19]
    simp only [k_65_20, k_65_22, sm_0, sm_c, ct_i, ct_r, ct_n, ct_l, ct_d, tl_s, tl_n, oK_s, cS_s, cI_0, cI_9, cA_s, cR_s, cQ_s, cN_i, cN_r, cO_s, rS_s, rK_s, cK_i, cK_j, cK_d, if_true, if_false, true_or, or_true, Nat.reduceAdd, Nat.reduceLeDiff, Nat.zero_le, Nat.reduceEqDiff, Nat.reduceSub, eq_self, Nat.le_refl, ne_eq, not_false_eq_true, i1_0, i0_1, kSm_0, kSm_1, kSm_2, kSm_3, kSm_4, x5_0, x5_1, x5_2, x5_3, x5_4, nI_16, Int32.le_refl, rowF_16]
  | n + 1, b, hb, g, v4, v5, v6, c4, c5, c6 => by
    have hle : ((16 : Int32) ≤ nI b) = False := p_hi (by omega)
    by_cases hab : a = b
    · subst hab
      obtain ⟨v4', v5', v6', d4, d5, d6, ih⟩ := l2_k65 h hn ha16 n (a + 1) (by omega) g v4 v5 v6 c4 c5 c6
      refine ⟨v4', v5', v6', d4, d5, d6, ?_⟩
      rw [← rowF_e, ← ih]
      rw [k_65_19]
      simp only [k_65_20, k_65_22, k_65_25, k_65_26, k_65_27, k_65_30, sm_0, sm_c, ct_i, ct_r, ct_n, ct_l, ct_d, tl_s, tl_n, oK_s, cS_s, cI_0, cI_9, cA_s, cR_s, cQ_s, cN_i, cN_r, cO_s, rS_s, rK_s, cK_i, cK_j, cK_d, if_true, if_false, true_or, or_true, Nat.reduceAdd, Nat.reduceLeDiff, Nat.zero_le, Nat.reduceEqDiff, Nat.reduceSub, eq_self, Nat.le_refl, ne_eq, not_false_eq_true, i1_0, i0_1, kSm_0, kSm_1, kSm_2, kSm_3, kSm_4, x5_0, x5_1, x5_2, x5_3, x5_4, hle, not_true_eq_false, k_65_171 (ct_i _), k_65_174, nI_1]
    · have hR := h.ex hn (kLg_ex (g := g))
      have ub : kn 61 0 [.ref s, .int (nI b), .int (-1), .null] [] (kLg M g) = some (some (.int (b01 (lvB w b L))), kLg M g) := s_k61 hR (show b < 16 by omega) (j := 0) (by omega)
      have ua : kn 61 0 [.ref s, .int (nI a), .int (-1), .null] [] (kLg M g) = some (some (.int (b01 (lvB w a L))), kLg M g) := s_k61 hR ha16 (j := 0) (by omega)
      obtain ⟨v7, hv7, e7⟩ := l1_k65 (c := kN M + 1) hR ha16 (show b < 16 by omega) hab L.length 0 (by omega) (lvB w a L && lvB w b L) v6 c6
      rw [List.drop_zero, nI_0] at e7
      obtain ⟨v4', v5', v6', d4, d5, d6, ih⟩ := l2_k65 h hn ha16 n (b + 1) (by omega) (kU g a (upd (g a) b (b01 (clM w L a b)))) (.int (b01 (clR w a b L (lvB w a L && lvB w b L)))) (.int (nI L.length)) v7 rfl rfl hv7
      rw [rowF_s (by omega) hab] at ih
      refine ⟨v4', v5', v6', d4, d5, d6, ?_⟩
      rw [← ih]
      have hS := hR.1
      have hne : (nI a = nI b) = False := eq_false (fun e => hab ((nI_eq (by omega) (by omega)).mp e))
      have hcl : clM w L a b = clR w a b L (lvB w a L && lvB w b L) := by
        unfold clM
        rw [decide_eq_true hab, Bool.true_and]
      have fin : kn 65 58 [.ref s, .ref (kN M + 1), .int (nI a), .int (nI b), .int (b01 (lvB w a L && lvB w b L)), v5, v6] [] (kLg M g) = kn 65 19 [.ref s, .ref (kN M + 1), .int (nI a), .int (nI (b + 1)), .int (b01 (clR w a b L (lvB w a L && lvB w b L))), .int (nI L.length), v7] [] (kLg M (kU g a (upd (g a) b (b01 (clM w L a b))))) := by
        rw [k_65_58, k_65_59 (ct_i _), e7]
        have h16 := x16_16 ha16
        have hb16 := x16_16 (show b < 16 by omega)
        have e9 : (if a < 16 then some (kN M + 1 + 1 + a) else none : Option Nat) = some (kN M + 1 + 1 + a) := if_pos ha16
        simp only [k_65_164, k_65_165, k_65_166, k_65_167, k_65_168, k_65_170, sm_0, sm_c, ct_i, ct_r, ct_n, ct_l, ct_d, tl_s, tl_n, oK_s, cS_s, cI_0, cI_9, cA_s, cR_s, cQ_s, cN_i, cN_r, cO_s, rS_s, rK_s, cK_i, cK_j, cK_d, if_true, if_false, true_or, or_true, Nat.reduceAdd, Nat.reduceLeDiff, Nat.zero_le, Nat.reduceEqDiff, Nat.reduceSub, eq_self, Nat.le_refl, ne_eq, not_false_eq_true, i1_0, i0_1, kSm_0, kSm_1, kSm_2, kSm_3, kSm_4, x5_0, x5_1, x5_2, x5_3, x5_4, kLg_c, kLg_r ha16, h16, hb16, e9, nar01 (b01_or _), kLg_w ha16, hcl]
        rw [k_65_171 (ct_i _), k_65_174, nI_1]
      rw [k_65_19]
      simp only [k_65_20, k_65_22, k_65_25, k_65_26, k_65_27, k_65_30, k_65_33, k_65_34, k_65_35, k_65_36, k_65_39, k_65_42, k_65_43, k_65_44, k_65_45, k_65_48, k_65_51, k_65_52, k_65_55, sm_0, sm_c, ct_i, ct_r, ct_n, ct_l, ct_d, tl_s, tl_n, oK_s, cS_s, cI_0, cI_9, cA_s, cR_s, cQ_s, cN_i, cN_r, cO_s, rS_s, rK_s, cK_i, cK_j, cK_d, if_true, if_false, true_or, or_true, Nat.reduceAdd, Nat.reduceLeDiff, Nat.zero_le, Nat.reduceEqDiff, Nat.reduceSub, eq_self, Nat.le_refl, ne_eq, not_false_eq_true, i1_0, i0_1, kSm_0, kSm_1, kSm_2, kSm_3, kSm_4, x5_0, x5_1, x5_2, x5_3, x5_4, hle, hne, hS, ua, ub, b01_c, not_false_eq_true]
      cases cA9 : lvB w a L <;> cases cB9 : lvB w b L <;> rw [cA9, cB9] at fin <;> simp only [b01, Bool.false_and, Bool.true_and, Bool.false_eq_true, Bool.true_eq_false, if_true, if_false, k_65_56 (ct_i _)] at fin ⊢ <;> exact fin
theorem l3_k65 (h : SmR M s dk gu kk pa ha vv r gg gw L w) (hn : SmN M s dk gu r L) : ∀ (n a : Nat), a + n = 16 → ∀ (g : Nat → Nat → Int32) (v3 v4 v5 v6 : Value), v4.category = 1 → v5.category = 1 → v6.category = 1 → kn 65 11 [.ref s, .ref (kN M + 1), .int (nI a), v3, v4, v5, v6] [] (kLg M g) = some (some (.ref (kN M + 1)), kLg M (matF w L a g))
  | 0, a, ha, g, v3, v4, v5, v6, c4, c5, c6 => by
    obtain rfl : a = 16 := by omega
    simp only [k_65_11, k_65_12, k_65_14, k_65_183, k_65_184, sm_0, sm_c, ct_i, ct_r, ct_n, ct_l, ct_d, tl_s, tl_n, oK_s, cS_s, cI_0, cI_9, cA_s, cR_s, cQ_s, cN_i, cN_r, cO_s, rS_s, rK_s, cK_i, cK_j, cK_d, if_true, if_false, true_or, or_true, Nat.reduceAdd, Nat.reduceLeDiff, Nat.zero_le, Nat.reduceEqDiff, Nat.reduceSub, eq_self, Nat.le_refl, ne_eq, not_false_eq_true, i1_0, i0_1, kSm_0, kSm_1, kSm_2, kSm_3, kSm_4, x5_0, x5_1, x5_2, x5_3, x5_4, nI_16, Int32.le_refl, matF_16]
  | n + 1, a, ha, g, v3, v4, v5, v6, c4, c5, c6 => by
    have hle : ((16 : Int32) ≤ nI a) = False := p_hi (by omega)
    obtain ⟨v4', v5', v6', d4, d5, d6, e⟩ := l2_k65 h hn (a := a) (by omega) 16 0 rfl g v4 v5 v6 c4 c5 c6
    have ih := l3_k65 h hn n (a + 1) (by omega) (rowF w L a 0 g) (.int 16) v4' v5' v6' d4 d5 d6
    rw [nI_0] at e
    rw [k_65_11, k_65_12, k_65_14, if_neg (of_eq_false hle), k_65_17, k_65_18 (ct_i _), e, k_65_177 (ct_r _), k_65_180, nI_1, ih, matF_s (by omega)]
/-- the matrix, by hand -/
theorem s_k65 (h : SmR M s dk gu kk pa ha vv r gg gw L w) (hn : SmN M s dk gu r L) : ∃ g : Nat → Nat → Int32, kn 65 0 [.ref s, .null, .null, .null, .null, .null, .null] [] M = some (some (.ref (kN M + 1)), kLg M g) ∧ ∀ a, a < 16 → ∀ b, b < 16 → g a b = b01 (clM w L a b) := by
  refine ⟨matF w L 0 (fun _ => kG0), ?_, fun a ha b hb => ?_⟩
  · have e := l3_k65 h hn 16 0 rfl (fun _ => kG0) .null .null .null .null rfl rfl rfl
    rw [nI_0, ← kL_g] at e
    rw [k_65_0, k_65_2, k_65_4, k_65_8 (ct_r _), k_65_9, k_65_10 (ct_r _)]
    exact e
  · unfold matF
    rw [if_pos ⟨Nat.zero_le _, ha⟩]
    unfold rowF
    rw [if_pos rfl]
    by_cases hab : a = b
    · subst hab
      rw [if_neg (by simp)]
      unfold clM
      simp [kG0, b01]
    · rw [if_pos ⟨Nat.zero_le _, hb, hab⟩]
end
/-- among: how many of the row are left -/
theorem l_k66 {M : kM} {ra lf : Nat} {g1 g2 : Nat → Int32} {f1 f2 : Nat → Bool} (h1 : M.1 ra = .inl (1, 16, g1)) (h2 : M.1 lf = .inl (1, 16, g2)) (e1 : ∀ q, q < 16 → g1 q = b01 (f1 q)) (e2 : ∀ q, q < 16 → g2 q = b01 (f2 q)) : ∀ (n q : Nat), q + n = 16 → ∀ c : Int32, kn 66 4 [.ref ra, .ref lf, .int c, .int (nI q)] [] M = some (some (.int (fcR (fun q => f1 q && f2 q) n c)), M)
  | 0, q, hq, c => by
    obtain rfl : q = 16 := by omega
    simp only [k_66_4, k_66_5, k_66_7, k_66_36, k_66_37, sm_0, sm_c, ct_i, ct_r, ct_n, ct_l, ct_d, tl_s, tl_n, oK_s, cS_s, cI_0, cI_9, cA_s, cR_s, cQ_s, cN_i, cN_r, cO_s, rS_s, rK_s, cK_i, cK_j, cK_d, if_true, if_false, true_or, or_true, Nat.reduceAdd, Nat.reduceLeDiff, Nat.zero_le, Nat.reduceEqDiff, Nat.reduceSub, eq_self, Nat.le_refl, ne_eq, not_false_eq_true, i1_0, i0_1, kSm_0, kSm_1, kSm_2, kSm_3, kSm_4, x5_0, x5_1, x5_2, x5_3, x5_4, nI_16, Int32.le_refl, fcR]
  | n + 1, q, hq, c => by
    have ih := l_k66 h1 h2 e1 e2 n (q + 1) (by omega)
    have hle : ((16 : Int32) ≤ nI q) = False := p_hi (by omega)
    have hx := x16_16 (show q < 16 by omega)
    rw [k_66_4]
    simp only [k_66_5, k_66_7, k_66_10, k_66_11, k_66_12, k_66_13, k_66_14, k_66_17, k_66_18, k_66_19, k_66_20, k_66_23, k_66_24, k_66_27, k_66_28, k_66_29, sm_0, sm_c, ct_i, ct_r, ct_n, ct_l, ct_d, tl_s, tl_n, oK_s, cS_s, cI_0, cI_9, cA_s, cR_s, cQ_s, cN_i, cN_r, cO_s, rS_s, rK_s, cK_i, cK_j, cK_d, if_true, if_false, true_or, or_true, Nat.reduceAdd, Nat.reduceLeDiff, Nat.zero_le, Nat.reduceEqDiff, Nat.reduceSub, eq_self, Nat.le_refl, ne_eq, not_false_eq_true, i1_0, i0_1, kSm_0, kSm_1, kSm_2, kSm_3, kSm_4, x5_0, x5_1, x5_2, x5_3, x5_4, h1, h2, hx, hle, e1 q (by omega), e2 q (by omega), b01_c]
    rw [fcR, show 15 - n = q by omega]
    cases f1 q <;> cases f2 q <;> simp only [if_true, if_false, Bool.true_eq_false, k_66_30 (ct_i _), k_66_33, nI_1, ih, b01, Bool.and_true, Bool.and_false, Bool.true_and, Bool.false_and, Bool.false_eq_true]
theorem s_k66 {M : kM} {ra lf : Nat} {g1 g2 : Nat → Int32} {f1 f2 : Nat → Bool} (h1 : M.1 ra = .inl (1, 16, g1)) (h2 : M.1 lf = .inl (1, 16, g2)) (e1 : ∀ q, q < 16 → g1 q = b01 (f1 q)) (e2 : ∀ q, q < 16 → g2 q = b01 (f2 q)) : kn 66 0 [.ref ra, .ref lf, .null, .null] [] M = some (some (.int (fcR (fun q => f1 q && f2 q) 16 0)), M) := by
  have hl := l_k66 h1 h2 e1 e2 16 0 rfl 0
  rw [nI_0] at hl
  simp only [k_66_0, k_66_1, k_66_2, k_66_3, sm_0, sm_c, ct_i, ct_r, ct_n, ct_l, ct_d, tl_s, tl_n, oK_s, cS_s, cI_0, cI_9, cA_s, cR_s, cQ_s, cN_i, cN_r, cO_s, rS_s, rK_s, cK_i, cK_j, cK_d, if_true, if_false, true_or, or_true, Nat.reduceAdd, Nat.reduceLeDiff, Nat.zero_le, Nat.reduceEqDiff, Nat.reduceSub, eq_self, Nat.le_refl, ne_eq, not_false_eq_true, i1_0, i0_1, kSm_0, kSm_1, kSm_2, kSm_3, kSm_4, x5_0, x5_1, x5_2, x5_3, x5_4]
  exact hl
/-- isTaken -/
def tkB (f : Nat → Bool) (hu : Nat → Int32) (x : Int32) : Nat → Bool
  | 0 => false
  | n + 1 => if f (15 - n) = true ∧ hu (15 - n) = x then true else tkB f hu x n
theorem l_k67 {M : kM} {s dk gu kk pa ha ra : Nat} {g1 hu : Nat → Int32} {f : Nat → Bool} {x : Int32} (hS : M.1 s = .inr (.inr (.inl (kSm dk gu kk pa ha)))) (hH : M.1 ha = .inl (0, 16, hu)) (h1 : M.1 ra = .inl (1, 16, g1)) (e1 : ∀ q, q < 16 → g1 q = b01 (f q)) : ∀ (n q : Nat), q + n = 16 → kn 67 2 [.ref s, .ref ra, .int x, .int (nI q)] [] M = some (some (.int (b01 (tkB f hu x n))), M)
  | 0, q, hq => by
    obtain rfl : q = 16 := by omega
    simp only [k_67_2, k_67_3, k_67_5, k_67_32, k_67_33, sm_0, sm_c, ct_i, ct_r, ct_n, ct_l, ct_d, tl_s, tl_n, oK_s, cS_s, cI_0, cI_9, cA_s, cR_s, cQ_s, cN_i, cN_r, cO_s, rS_s, rK_s, cK_i, cK_j, cK_d, if_true, if_false, true_or, or_true, Nat.reduceAdd, Nat.reduceLeDiff, Nat.zero_le, Nat.reduceEqDiff, Nat.reduceSub, eq_self, Nat.le_refl, ne_eq, not_false_eq_true, i1_0, i0_1, kSm_0, kSm_1, kSm_2, kSm_3, kSm_4, x5_0, x5_1, x5_2, x5_3, x5_4, nI_16, Int32.le_refl, tkB, b01, Bool.false_eq_true]
  | n + 1, q, hq => by
    have ih := l_k67 hS hH h1 e1 (x := x) n (q + 1) (by omega)
    have hle : ((16 : Int32) ≤ nI q) = False := p_hi (by omega)
    have hx := x16_16 (show q < 16 by omega)
    rw [k_67_2]
    simp only [k_67_3, k_67_5, k_67_8, k_67_9, k_67_10, k_67_11, k_67_14, k_67_15, k_67_18, k_67_19, k_67_20, k_67_21, k_67_24, k_67_25, sm_0, sm_c, ct_i, ct_r, ct_n, ct_l, ct_d, tl_s, tl_n, oK_s, cS_s, cI_0, cI_9, cA_s, cR_s, cQ_s, cN_i, cN_r, cO_s, rS_s, rK_s, cK_i, cK_j, cK_d, if_true, if_false, true_or, or_true, Nat.reduceAdd, Nat.reduceLeDiff, Nat.zero_le, Nat.reduceEqDiff, Nat.reduceSub, eq_self, Nat.le_refl, ne_eq, not_false_eq_true, i1_0, i0_1, kSm_0, kSm_1, kSm_2, kSm_3, kSm_4, x5_0, x5_1, x5_2, x5_3, x5_4, hS, hH, h1, hx, hle, e1 q (by omega), b01_c]
    rw [tkB, show 15 - n = q by omega]
    by_cases c2 : hu q = x
    · cases f q <;> simp only [c2, not_true_eq_false, if_true, if_false, Bool.true_eq_false, k_67_26 (ct_i _), k_67_29, nI_1, ih, b01, Bool.false_eq_true, and_true, and_self]
    · cases f q <;> simp only [c2, not_false_eq_true, if_true, if_false, Bool.true_eq_false, k_67_26 (ct_i _), k_67_29, nI_1, ih, b01, Bool.false_eq_true, and_false, false_and]
theorem s_k67 {M : kM} {s dk gu kk pa ha ra : Nat} {g1 hu : Nat → Int32} {f : Nat → Bool} {x : Int32} (hS : M.1 s = .inr (.inr (.inl (kSm dk gu kk pa ha)))) (hH : M.1 ha = .inl (0, 16, hu)) (h1 : M.1 ra = .inl (1, 16, g1)) (e1 : ∀ q, q < 16 → g1 q = b01 (f q)) : kn 67 0 [.ref s, .ref ra, .int x, .null] [] M = some (some (.int (b01 (tkB f hu x 16))), M) := by
  have hl := l_k67 hS hH h1 e1 (x := x) 16 0 rfl
  rw [nI_0] at hl
  simp only [k_67_0, k_67_1, sm_0, sm_c, ct_i, ct_r, ct_n, ct_l, ct_d, tl_s, tl_n, oK_s, cS_s, cI_0, cI_9, cA_s, cR_s, cQ_s, cN_i, cN_r, cO_s, rS_s, rK_s, cK_i, cK_j, cK_d, if_true, if_false, true_or, or_true, Nat.reduceAdd, Nat.reduceLeDiff, Nat.zero_le, Nat.reduceEqDiff, Nat.reduceSub, eq_self, Nat.le_refl, ne_eq, not_false_eq_true, i1_0, i0_1, kSm_0, kSm_1, kSm_2, kSm_3, kSm_4, x5_0, x5_1, x5_2, x5_3, x5_4]
  exact hl
