/-! the sim: hookFor -/
def mtN (d : Dd) (p : Nat) : Nat := if d.1 = nI p then d.2.1.toNatClampNeg else d.1.toNatClampNeg
def mtC (f : Nat → Bool) (hu : Nat → Int32) (p : Nat) (d : Dd) : Bool := decide (¬ d.2.2.2.2 = 0) && (decide (¬ d.1 = d.2.1) && ((decide (d.1 = nI p) || decide (d.2.1 = nI p)) && (decide (¬ hu (mtN d p) < 0) && !tkB f hu (hu (mtN d p)) 16)))
def bsN (f : Nat → Bool) (hu : Nat → Int32) (p : Nat) : List Dd → Nat → Nat
  | [], c => c
  | d :: L, c => bsN f hu p L (if mtC f hu p d = true then (if mtN d p < c then mtN d p else c) else c)
def hkR (f : Nat → Bool) (hu : Nat → Int32) (k : Nat) : Nat → Int32
  | 0 => -1
  | n + 1 => if tkB f hu (nI (k - (n + 1))) 16 = true then hkR f hu k n else nI (k - (n + 1))
def hfV (f : Nat → Bool) (hu : Nat → Int32) (L : List Dd) (p k : Nat) : Int32 := if bsN f hu p L 16 < 16 then hu (bsN f hu p L 16) else hkR f hu k k
theorem okD.mt {d : Dd} (h : okD d) (h5 : ¬ d.2.2.2.2 = 0) (p : Nat) : mtN d p < 16 ∧ (if d.1 = nI p then d.2.1 else d.1) = nI (mtN d p) := by
  obtain ⟨⟨a, ha, ea⟩, -, -, -, h9⟩ := h
  rcases h9 with h9 | ⟨-, ⟨b, hb, eb⟩, -⟩
  · exact absurd h9 h5
  · unfold mtN
    by_cases c1 : d.1 = nI p
    · rw [if_pos c1, if_pos c1, eb, nI_clamp (by omega)]
      exact ⟨hb, rfl⟩
    · rw [if_neg c1, if_neg c1, ea, nI_clamp (by omega)]
      exact ⟨ha, rfl⟩
section
variable {M : kM} {s dk gu kk pa ha ra : Nat} {vv : Nat → Option Nat} {r : Nat → Nat} {gg : Nat → Nat → Int32} {gw : Nat → Int32} {L : List Dd} {w : Int32} {g1 hu : Nat → Int32} {f : Nat → Bool}
theorem l1_k68 (h : SmR M s dk gu kk pa ha vv r gg gw L w) (hH : M.1 ha = .inl (0, 16, hu)) (h1 : M.1 ra = .inl (1, 16, g1)) (e1 : ∀ q, q < 16 → g1 q = b01 (f q)) {p : Nat} {x : Int32} : ∀ (n j : Nat), j + n = L.length → ∀ (c : Nat) (v8 v9 : Value), c ≤ 16 → v8.category = 1 → v9.category = 1 → ∃ v8' v9' : Value, v8'.category = 1 ∧ v9'.category = 1 ∧ bsN f hu p (L.drop j) c ≤ 16 ∧ kn 68 18 [.ref s, .int (nI p), .ref ra, .int x, .int (nI c), .ref dk, .int (nI L.length), .int (nI j), v8, v9] [] M = kn 68 130 [.ref s, .int (nI p), .ref ra, .int x, .int (nI (bsN f hu p (L.drop j) c)), .ref dk, .int (nI L.length), .int (nI L.length), v8', v9'] [] M
  | 0, j, hj, c, v8, v9, hc, c8, c9 => by
    obtain rfl : j = L.length := by omega
    refine ⟨v8, v9, c8, c9, ?_, ?_⟩
    · rw [List.drop_length]
      exact hc
    · rw [k_68_18]
      simp only [k_68_20, k_68_22, sm_0, sm_c, ct_i, ct_r, ct_n, ct_l, ct_d, tl_s, tl_n, oK_s, cS_s, cI_0, cI_9, cA_s, cR_s, cQ_s, cN_i, cN_r, cO_s, rS_s, rK_s, cK_i, cK_j, cK_d, if_true, if_false, true_or, or_true, Nat.reduceAdd, Nat.reduceLeDiff, Nat.zero_le, Nat.reduceEqDiff, Nat.reduceSub, eq_self, Nat.le_refl, ne_eq, not_false_eq_true, i1_0, i0_1, kSm_0, kSm_1, kSm_2, kSm_3, kSm_4, x5_0, x5_1, x5_2, x5_3, x5_4, Int32.le_refl, List.drop_length, bsN]
  | n + 1, j, hj, c, v8, v9, hc, c8, c9 => by
    have ih := fun (c : Nat) (hc : c ≤ 16) (v9 : Value) (c9 : v9.category = 1) => l1_k68 h hH h1 e1 (p := p) (x := x) n (j + 1) (by omega) c (.ref (r j)) v9 hc rfl c9
    have hS := h.1
    obtain ⟨q1, q2, h3, q4, q5, q6, h7⟩ := h
    obtain ⟨a1, a2, b0, b1, b2, b3, b4⟩ := h3 j (by omega)
    have hx := mmX_nI (show j < L.length by omega) (by omega)
    have hle : (nI L.length ≤ nI j) = False := eq_false (nI_ge (by omega) (by omega))
    rw [drop_dd (show j < L.length by omega), bsN]
    have head : kn 68 18 [.ref s, .int (nI p), .ref ra, .int x, .int (nI c), .ref dk, .int (nI L.length), .int (nI j), v8, v9] [] M = kn 68 32 [.ref s, .int (nI p), .ref ra, .int x, .int (nI c), .ref dk, .int (nI L.length), .int (nI j), .ref (r j), v9] [] M := by
      rw [k_68_18]
      simp only [k_68_20, k_68_22, k_68_25, k_68_27, k_68_29, k_68_30, sm_0, sm_c, ct_i, ct_r, ct_n, ct_l, ct_d, tl_s, tl_n, oK_s, cS_s, cI_0, cI_9, cA_s, cR_s, cQ_s, cN_i, cN_r, cO_s, rS_s, rK_s, cK_i, cK_j, cK_d, if_true, if_false, true_or, or_true, Nat.reduceAdd, Nat.reduceLeDiff, Nat.zero_le, Nat.reduceEqDiff, Nat.reduceSub, eq_self, Nat.le_refl, ne_eq, not_false_eq_true, i1_0, i0_1, kSm_0, kSm_1, kSm_2, kSm_3, kSm_4, x5_0, x5_1, x5_2, x5_3, x5_4, q2, a1, hx, hle]
    have tail : ∀ (c' : Nat) (v9 : Value), kn 68 124 [.ref s, .int (nI p), .ref ra, .int x, .int (nI c'), .ref dk, .int (nI L.length), .int (nI j), .ref (r j), v9] [] M = kn 68 18 [.ref s, .int (nI p), .ref ra, .int x, .int (nI c'), .ref dk, .int (nI L.length), .int (nI (j + 1)), .ref (r j), v9] [] M := by
      intro c' v9
      rw [k_68_124 (ct_i _), k_68_127, nI_1]
    by_cases d5 : (dd L j).2.2.2.2 = 0
    · have hm : mtC f hu p (dd L j) = false := by unfold mtC; simp [d5]
      obtain ⟨v8', v9', i1, i2, i3, ih⟩ := ih c hc v9 c9
      rw [hm]
      refine ⟨v8', v9', i1, i2, i3, ?_⟩
      rw [if_neg (by decide), ← ih, head]
      simp only [k_68_32, k_68_34, k_68_35, k_68_36, sm_0, sm_c, ct_i, ct_r, ct_n, ct_l, ct_d, tl_s, tl_n, oK_s, cS_s, cI_0, cI_9, cA_s, cR_s, cQ_s, cN_i, cN_r, cO_s, rS_s, rK_s, cK_i, cK_j, cK_d, if_true, if_false, true_or, or_true, Nat.reduceAdd, Nat.reduceLeDiff, Nat.zero_le, Nat.reduceEqDiff, Nat.reduceSub, eq_self, Nat.le_refl, ne_eq, not_false_eq_true, i1_0, i0_1, kSm_0, kSm_1, kSm_2, kSm_3, kSm_4, x5_0, x5_1, x5_2, x5_3, x5_4, a2, b4, d5, tail]
    · obtain ⟨hm16, hmE⟩ := (h7 _ (dd_mem (show j < L.length by omega))).mt d5 p
      by_cases d01 : (dd L j).1 = (dd L j).2.1
      · have hm : mtC f hu p (dd L j) = false := by unfold mtC; simp [d01]
        obtain ⟨v8', v9', i1, i2, i3, ih⟩ := ih c hc v9 c9
        rw [hm]
        refine ⟨v8', v9', i1, i2, i3, ?_⟩
        rw [if_neg (by decide), ← ih, head]
        simp only [k_68_32, k_68_34, k_68_35, k_68_36, k_68_39, k_68_41, k_68_42, k_68_43, k_68_45, k_68_46, k_68_47, sm_0, sm_c, ct_i, ct_r, ct_n, ct_l, ct_d, tl_s, tl_n, oK_s, cS_s, cI_0, cI_9, cA_s, cR_s, cQ_s, cN_i, cN_r, cO_s, rS_s, rK_s, cK_i, cK_j, cK_d, if_true, if_false, true_or, or_true, Nat.reduceAdd, Nat.reduceLeDiff, Nat.zero_le, Nat.reduceEqDiff, Nat.reduceSub, eq_self, Nat.le_refl, ne_eq, not_false_eq_true, i1_0, i0_1, kSm_0, kSm_1, kSm_2, kSm_3, kSm_4, x5_0, x5_1, x5_2, x5_3, x5_4, a2, b4, b0, b1, d5, if_pos d01, tail]
      · by_cases dp : (dd L j).1 = nI p ∨ (dd L j).2.1 = nI p
        · have mid : kn 68 32 [.ref s, .int (nI p), .ref ra, .int x, .int (nI c), .ref dk, .int (nI L.length), .int (nI j), .ref (r j), v9] [] M = kn 68 90 [.ref s, .int (nI p), .ref ra, .int x, .int (nI c), .ref dk, .int (nI L.length), .int (nI j), .ref (r j), .int (nI (mtN (dd L j) p))] [] M := by
            rw [← hmE]
            simp only [k_68_32, k_68_34, k_68_35, k_68_36, k_68_39, k_68_41, k_68_42, k_68_43, k_68_45, k_68_46, k_68_47, k_68_50, k_68_52, k_68_53, k_68_54, k_68_55, k_68_58, k_68_60, k_68_61, k_68_62, k_68_63, sm_0, sm_c, ct_i, ct_r, ct_n, ct_l, ct_d, tl_s, tl_n, oK_s, cS_s, cI_0, cI_9, cA_s, cR_s, cQ_s, cN_i, cN_r, cO_s, rS_s, rK_s, cK_i, cK_j, cK_d, if_true, if_false, true_or, or_true, Nat.reduceAdd, Nat.reduceLeDiff, Nat.zero_le, Nat.reduceEqDiff, Nat.reduceSub, eq_self, Nat.le_refl, ne_eq, not_false_eq_true, i1_0, i0_1, kSm_0, kSm_1, kSm_2, kSm_3, kSm_4, x5_0, x5_1, x5_2, x5_3, x5_4, a2, b4, b0, b1, d5, if_neg d01]
            by_cases d1 : (dd L j).1 = nI p
            · simp only [k_68_69, k_68_71, k_68_72, k_68_73, k_68_74, k_68_77, k_68_79, k_68_80, k_68_81, k_68_84, k_68_86, k_68_87, k_68_88, sm_0, sm_c, ct_i, ct_r, ct_n, ct_l, ct_d, tl_s, tl_n, oK_s, cS_s, cI_0, cI_9, cA_s, cR_s, cQ_s, cN_i, cN_r, cO_s, rS_s, rK_s, cK_i, cK_j, cK_d, if_true, if_false, true_or, or_true, Nat.reduceAdd, Nat.reduceLeDiff, Nat.zero_le, Nat.reduceEqDiff, Nat.reduceSub, eq_self, Nat.le_refl, ne_eq, not_false_eq_true, i1_0, i0_1, kSm_0, kSm_1, kSm_2, kSm_3, kSm_4, x5_0, x5_1, x5_2, x5_3, x5_4, a2, b0, b1, if_pos d1, if_neg (show ¬ ¬ (dd L j).1 = nI p from fun h => h d1)]
            · have d2 : (dd L j).2.1 = nI p := dp.resolve_left d1
              simp only [k_68_69, k_68_71, k_68_72, k_68_73, k_68_74, k_68_77, k_68_79, k_68_80, k_68_81, k_68_84, k_68_86, k_68_87, k_68_88, sm_0, sm_c, ct_i, ct_r, ct_n, ct_l, ct_d, tl_s, tl_n, oK_s, cS_s, cI_0, cI_9, cA_s, cR_s, cQ_s, cN_i, cN_r, cO_s, rS_s, rK_s, cK_i, cK_j, cK_d, if_true, if_false, true_or, or_true, Nat.reduceAdd, Nat.reduceLeDiff, Nat.zero_le, Nat.reduceEqDiff, Nat.reduceSub, eq_self, Nat.le_refl, ne_eq, not_false_eq_true, i1_0, i0_1, kSm_0, kSm_1, kSm_2, kSm_3, kSm_4, x5_0, x5_1, x5_2, x5_3, x5_4, a2, b0, b1, if_neg d1, if_pos d1, if_pos d2]
          have hxm := x16_16 hm16
          by_cases dh : hu (mtN (dd L j) p) < 0
          · have hm : mtC f hu p (dd L j) = false := by unfold mtC; simp [dh]
            obtain ⟨v8', v9', i1, i2, i3, ih⟩ := ih c hc (.int (nI (mtN (dd L j) p))) rfl
            rw [hm]
            refine ⟨v8', v9', i1, i2, i3, ?_⟩
            rw [if_neg (by decide), ← ih, head, mid]
            simp only [k_68_90, k_68_91, k_68_94, k_68_96, k_68_97, sm_0, sm_c, ct_i, ct_r, ct_n, ct_l, ct_d, tl_s, tl_n, oK_s, cS_s, cI_0, cI_9, cA_s, cR_s, cQ_s, cN_i, cN_r, cO_s, rS_s, rK_s, cK_i, cK_j, cK_d, if_true, if_false, true_or, or_true, Nat.reduceAdd, Nat.reduceLeDiff, Nat.zero_le, Nat.reduceEqDiff, Nat.reduceSub, eq_self, Nat.le_refl, ne_eq, not_false_eq_true, i1_0, i0_1, kSm_0, kSm_1, kSm_2, kSm_3, kSm_4, x5_0, x5_1, x5_2, x5_3, x5_4, hS, hH, hxm, if_pos dh, tail]
          · have hT := s_k67 (x := hu (mtN (dd L j) p)) hS hH h1 e1
            have run : kn 68 90 [.ref s, .int (nI p), .ref ra, .int x, .int (nI c), .ref dk, .int (nI L.length), .int (nI j), .ref (r j), .int (nI (mtN (dd L j) p))] [] M = kn 68 124 [.ref s, .int (nI p), .ref ra, .int x, .int (nI (if tkB f hu (hu (mtN (dd L j) p)) 16 = true then c else (if mtN (dd L j) p < c then mtN (dd L j) p else c))), .ref dk, .int (nI L.length), .int (nI j), .ref (r j), .int (nI (mtN (dd L j) p))] [] M := by
              simp only [k_68_90, k_68_91, k_68_94, k_68_96, k_68_97, k_68_100, k_68_101, k_68_102, k_68_103, k_68_106, k_68_108, k_68_109, k_68_112, sm_0, sm_c, ct_i, ct_r, ct_n, ct_l, ct_d, tl_s, tl_n, oK_s, cS_s, cI_0, cI_9, cA_s, cR_s, cQ_s, cN_i, cN_r, cO_s, rS_s, rK_s, cK_i, cK_j, cK_d, if_true, if_false, true_or, or_true, Nat.reduceAdd, Nat.reduceLeDiff, Nat.zero_le, Nat.reduceEqDiff, Nat.reduceSub, eq_self, Nat.le_refl, ne_eq, not_false_eq_true, i1_0, i0_1, kSm_0, kSm_1, kSm_2, kSm_3, kSm_4, x5_0, x5_1, x5_2, x5_3, x5_4, hS, hH, hxm, if_neg dh, hT, b01_c]
              cases tkB f hu (hu (mtN (dd L j) p)) 16 with
              | true => simp only [if_true, Bool.true_eq_false, not_false_eq_true]
              | false =>
                simp only [if_false, not_true_eq_false, Bool.false_eq_true]
                rw [k_68_115, k_68_117, k_68_119 (by simp only [sm_0, sm_c, ct_i, ct_r, ct_n, ct_l, ct_d, tl_s, tl_n, oK_s, cS_s, cI_0, cI_9, cA_s, cR_s, cQ_s, cN_i, cN_r, cO_s, rS_s, rK_s, cK_i, cK_j, cK_d, if_true, if_false, true_or, or_true, Nat.reduceAdd, Nat.reduceLeDiff, Nat.zero_le, Nat.reduceEqDiff, Nat.reduceSub, eq_self, Nat.le_refl, ne_eq, not_false_eq_true, i1_0, i0_1, kSm_0, kSm_1, kSm_2, kSm_3, kSm_4, x5_0, x5_1, x5_2, x5_3, x5_4])]
                have hlt : (nI (mtN (dd L j) p) < nI c) = (mtN (dd L j) p < c) := propext (nI_ltI (by omega) (by omega))
                by_cases hcm : mtN (dd L j) p < c
                · simp only [hlt, hcm, if_true, k_68_122 (ct_i _)]
                · simp only [hlt, hcm, if_false, k_68_122 (ct_i _)]
            have hm : mtC f hu p (dd L j) = !tkB f hu (hu (mtN (dd L j) p)) 16 := by
              have t3 : (decide ((dd L j).1 = nI p) || decide ((dd L j).2.1 = nI p)) = true := by rcases dp with dp | dp <;> simp [dp]
              unfold mtC
              rw [decide_eq_true d5, decide_eq_true d01, t3, decide_eq_true dh, Bool.true_and, Bool.true_and, Bool.true_and, Bool.true_and]
            have hif : (if mtC f hu p (dd L j) = true then (if mtN (dd L j) p < c then mtN (dd L j) p else c) else c) = (if tkB f hu (hu (mtN (dd L j) p)) 16 = true then c else (if mtN (dd L j) p < c then mtN (dd L j) p else c)) := by
              rw [hm]
              cases tkB f hu (hu (mtN (dd L j) p)) 16 <;> rfl
            rw [hif]
            have hle16 : (if tkB f hu (hu (mtN (dd L j) p)) 16 = true then c else (if mtN (dd L j) p < c then mtN (dd L j) p else c)) ≤ 16 := by
              split
              · exact hc
              · split <;> omega
            obtain ⟨v8', v9', i1, i2, i3, ih⟩ := ih _ hle16 (.int (nI (mtN (dd L j) p))) rfl
            refine ⟨v8', v9', i1, i2, i3, ?_⟩
            rw [← ih, head, mid, run, tail]
        · have dp1 : ¬ (dd L j).1 = nI p := fun h => dp (Or.inl h)
          have dp2 : ¬ (dd L j).2.1 = nI p := fun h => dp (Or.inr h)
          have hm : mtC f hu p (dd L j) = false := by unfold mtC; simp [dp1, dp2]
          obtain ⟨v8', v9', i1, i2, i3, ih⟩ := ih c hc v9 c9
          rw [hm]
          refine ⟨v8', v9', i1, i2, i3, ?_⟩
          rw [if_neg (by decide), ← ih, head]
          simp only [k_68_32, k_68_34, k_68_35, k_68_36, k_68_39, k_68_41, k_68_42, k_68_43, k_68_45, k_68_46, k_68_47, k_68_50, k_68_52, k_68_53, k_68_54, k_68_55, k_68_58, k_68_60, k_68_61, k_68_62, k_68_63, k_68_66, sm_0, sm_c, ct_i, ct_r, ct_n, ct_l, ct_d, tl_s, tl_n, oK_s, cS_s, cI_0, cI_9, cA_s, cR_s, cQ_s, cN_i, cN_r, cO_s, rS_s, rK_s, cK_i, cK_j, cK_d, if_true, if_false, true_or, or_true, Nat.reduceAdd, Nat.reduceLeDiff, Nat.zero_le, Nat.reduceEqDiff, Nat.reduceSub, eq_self, Nat.le_refl, ne_eq, not_false_eq_true, i1_0, i0_1, kSm_0, kSm_1, kSm_2, kSm_3, kSm_4, x5_0, x5_1, x5_2, x5_3, x5_4, a2, b4, b0, b1, d5, if_neg d01, if_neg dp1, if_neg dp2, tail]
theorem l2_k68 (h : SmR M s dk gu kk pa ha vv r gg gw L w) (hH : M.1 ha = .inl (0, 16, hu)) (h1 : M.1 ra = .inl (1, 16, g1)) (e1 : ∀ q, q < 16 → g1 q = b01 (f q)) {p k : Nat} (hk : k ≤ 16) {v4 v6 v7 v8 v9 : Value} (hv4 : v4.category = 1) : ∀ (n j : Nat), j + n = k → kn 68 148 [.ref s, .int (nI p), .ref ra, .int (nI k), v4, .int (nI j), v6, v7, v8, v9] [] M = some (some (.int (hkR f hu k n)), M)
  | 0, j, hj => by
    obtain rfl : j = k := by omega
    simp only [k_68_148, k_68_150, k_68_151, k_68_173, k_68_174, sm_0, sm_c, ct_i, ct_r, ct_n, ct_l, ct_d, tl_s, tl_n, oK_s, cS_s, cI_0, cI_9, cA_s, cR_s, cQ_s, cN_i, cN_r, cO_s, rS_s, rK_s, cK_i, cK_j, cK_d, if_true, if_false, true_or, or_true, Nat.reduceAdd, Nat.reduceLeDiff, Nat.zero_le, Nat.reduceEqDiff, Nat.reduceSub, eq_self, Nat.le_refl, ne_eq, not_false_eq_true, i1_0, i0_1, kSm_0, kSm_1, kSm_2, kSm_3, kSm_4, x5_0, x5_1, x5_2, x5_3, x5_4, Int32.le_refl, hkR]
  | n + 1, j, hj => by
    have ih := l2_k68 h hH h1 e1 (p := p) hk (v4 := v4) (v6 := v6) (v7 := v7) (v8 := v8) (v9 := v9) hv4 n (j + 1) (by omega)
    have hT := s_k67 (x := nI j) h.1 hH h1 e1
    have hS := h.1
    have hle : (nI k ≤ nI j) = False := eq_false (nI_ge (by omega) (by omega))
    rw [k_68_148]
    simp only [k_68_150, k_68_151, k_68_154, k_68_155, k_68_156, k_68_158, k_68_161, k_68_164, k_68_166, sm_0, sm_c, ct_i, ct_r, ct_n, ct_l, ct_d, tl_s, tl_n, oK_s, cS_s, cI_0, cI_9, cA_s, cR_s, cQ_s, cN_i, cN_r, cO_s, rS_s, rK_s, cK_i, cK_j, cK_d, if_true, if_false, true_or, or_true, Nat.reduceAdd, Nat.reduceLeDiff, Nat.zero_le, Nat.reduceEqDiff, Nat.reduceSub, eq_self, Nat.le_refl, ne_eq, not_false_eq_true, i1_0, i0_1, kSm_0, kSm_1, kSm_2, kSm_3, kSm_4, x5_0, x5_1, x5_2, x5_3, x5_4, hS, hle, hT, b01_c]
    rw [hkR, show k - (n + 1) = j by omega]
    cases tkB f hu (nI j) 16 with
    | true => simp only [if_true, Bool.true_eq_false, not_false_eq_true, k_68_167 hv4, k_68_170, nI_1, ih]
    | false => simp only [if_false, not_true_eq_false, Bool.false_eq_true]
theorem s_k68 (h : SmR M s dk gu kk pa ha vv r gg gw L w) (hH : M.1 ha = .inl (0, 16, hu)) (h1 : M.1 ra = .inl (1, 16, g1)) (e1 : ∀ q, q < 16 → g1 q = b01 (f q)) {p k : Nat} (hk : k ≤ 16) : kn 68 0 [.ref s, .int (nI p), .ref ra, .int (nI k), .null, .null, .null, .null, .null, .null] [] M = some (some (.int (hfV f hu L p k)), M) := by
  obtain ⟨v8, v9, c8, c9, hb, e⟩ := l1_k68 h hH h1 e1 (p := p) (x := nI k) L.length 0 (by omega) 16 .null .null (Nat.le_refl _) rfl rfl
  rw [nI_0, List.drop_zero] at e
  rw [List.drop_zero] at hb
  have hS := h.1
  have q2 := h.2.1
  simp only [k_68_0, k_68_2, k_68_4, k_68_5, k_68_8, k_68_10, k_68_12, k_68_13, k_68_15, k_68_16, sm_0, sm_c, ct_i, ct_r, ct_n, ct_l, ct_d, tl_s, tl_n, oK_s, cS_s, cI_0, cI_9, cA_s, cR_s, cQ_s, cN_i, cN_r, cO_s, rS_s, rK_s, cK_i, cK_j, cK_d, if_true, if_false, true_or, or_true, Nat.reduceAdd, Nat.reduceLeDiff, Nat.zero_le, Nat.reduceEqDiff, Nat.reduceSub, eq_self, Nat.le_refl, ne_eq, not_false_eq_true, i1_0, i0_1, kSm_0, kSm_1, kSm_2, kSm_3, kSm_4, x5_0, x5_1, x5_2, x5_3, x5_4, hS, q2]
  rw [nI_16] at e
  rw [e]
  unfold hfV
  by_cases hlt : bsN f hu p L 16 < 16
  · have hx := x16_16 hlt
    have hle : ((16 : Int32) ≤ nI (bsN f hu p L 16)) = False := p_hi hlt
    rw [if_pos hlt]
    simp only [k_68_130, k_68_132, k_68_134, k_68_137, k_68_138, k_68_141, k_68_143, k_68_144, sm_0, sm_c, ct_i, ct_r, ct_n, ct_l, ct_d, tl_s, tl_n, oK_s, cS_s, cI_0, cI_9, cA_s, cR_s, cQ_s, cN_i, cN_r, cO_s, rS_s, rK_s, cK_i, cK_j, cK_d, if_true, if_false, true_or, or_true, Nat.reduceAdd, Nat.reduceLeDiff, Nat.zero_le, Nat.reduceEqDiff, Nat.reduceSub, eq_self, Nat.le_refl, ne_eq, not_false_eq_true, i1_0, i0_1, kSm_0, kSm_1, kSm_2, kSm_3, kSm_4, x5_0, x5_1, x5_2, x5_3, x5_4, hS, hH, hx, hle]
  · have h16 : bsN f hu p L 16 = 16 := by omega
    have h2 := l2_k68 h hH h1 e1 (p := p) hk (v4 := .int 16) (v6 := .int (nI L.length)) (v7 := .int (nI L.length)) (v8 := v8) (v9 := v9) rfl k 0 (by omega)
    rw [nI_0] at h2
    rw [if_neg hlt, h16, nI_16]
    simp only [k_68_130, k_68_132, k_68_134, k_68_145, sm_0, sm_c, ct_i, ct_r, ct_n, ct_l, ct_d, tl_s, tl_n, oK_s, cS_s, cI_0, cI_9, cA_s, cR_s, cQ_s, cN_i, cN_r, cO_s, rS_s, rK_s, cK_i, cK_j, cK_d, if_true, if_false, true_or, or_true, Nat.reduceAdd, Nat.reduceLeDiff, Nat.zero_le, Nat.reduceEqDiff, Nat.reduceSub, eq_self, Nat.le_refl, ne_eq, not_false_eq_true, i1_0, i0_1, kSm_0, kSm_1, kSm_2, kSm_3, kSm_4, x5_0, x5_1, x5_2, x5_3, x5_4, Int32.le_refl]
    rw [k_68_146 (ct_i _), h2]
end
