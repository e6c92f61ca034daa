/-! the sim: hang, the pots put aside -/
section
variable {M1 : kM} {s dk gu kk pa ha rm lf b0 : Nat} {vv : Nat → Option Nat} {r : Nat → Nat} {gg : Nat → Nat → Int32} {gw : Nat → Int32} {L : List Dd} {w left : Int32} {g : Nat → Nat → Int32} {lg : Nat → Int32}
theorem le_lt (x y : Int32) : (x ≤ y) = ¬ (y < x) := propext Int32.not_lt.symm
theorem amg (hw : s16 w) (hO : okL L) (e1 : ∀ a, a < 16 → M1.1 (b0 + a) = .inl (1, 16, g a)) (h2 : M1.1 lf = .inl (1, 16, lg)) (eg : ∀ a, a < 16 → ∀ b, b < 16 → g a b = b01 (clM w L a b)) (el : ∀ q, q < 16 → lg q = b01 (bt left q)) {a : Nat} (ha16 : a < 16) : kn 66 0 [.ref (b0 + a), .ref lf, .null, .null] [] M1 = some (some (.int (bc ((STU L w).2.1 a &&& left))), M1) := by
  rw [s_k66 (e1 a ha16) h2 (eg a ha16) el, fcR_bc (s16_and (s16_cl hw hO a ha16)) (fun q hq => by rw [b_and, clM_bt hO ha16 hq])]
theorem l2_k69 (hR : SmR M1 s dk gu kk pa ha vv r gg gw L w) (hw : s16 w) (hrm : M1.1 rm = .inr (.inl (3, 16, fun i => if i < 16 then some (b0 + i) else none))) (e1 : ∀ a, a < 16 → M1.1 (b0 + a) = .inl (1, 16, g a)) (h2 : M1.1 lf = .inl (1, 16, lg)) (eg : ∀ a, a < 16 → ∀ b, b < 16 → g a b = b01 (clM w L a b)) (el : ∀ q, q < 16 → lg q = b01 (bt left q)) {l4 l5 : Value} {z6 : Int32} : ∀ (n q : Nat), q + n = 16 → ∃ v8 : Int32, kn 69 94 [.ref s, .int (nI kk), .ref rm, .ref lf, l4, l5, .int z6, .int (-1), .int (nI q)] [] M1 = kn 69 135 [.ref s, .int (nI kk), .ref rm, .ref lf, l4, l5, .int z6, .int (feR (STU L w).2.1 left (nI kk) n), .int v8] [] M1
  | 0, q, hq => by
    obtain rfl : q = 16 := by omega
    refine ⟨nI 16, ?_⟩
    rw [k_69_94]
    simp only [k_69_96, k_69_98, sm_0, sm_c, ct_i, ct_r, ct_n, ct_l, ct_d, tl_s, tl_n, oK_s, cS_s, cI_0, cI_9, cA_s, cR_s, cQ_s, cN_i, cN_r, cO_s, rS_s, rK_s, cK_i, cK_j, cK_d, if_true, if_false, true_or, or_true, Nat.reduceAdd, Nat.reduceLeDiff, Nat.zero_le, Nat.reduceEqDiff, Nat.reduceSub, eq_self, Nat.le_refl, ne_eq, not_false_eq_true, i1_0, i0_1, kSm_0, kSm_1, kSm_2, kSm_3, kSm_4, x5_0, x5_1, x5_2, x5_3, x5_4, nI_16, Int32.le_refl, feR]
  | n + 1, q, hq => by
    have hle : ((16 : Int32) ≤ nI q) = False := p_hi (by omega)
    have hx := x16_16 (show q < 16 by omega)
    have hi : (if q < 16 then some (b0 + q) else none : Option Nat) = some (b0 + q) := if_pos (by omega)
    have hO := hR.2.2.2.2.2.2
    have u := amg hw hO e1 h2 eg el (show q < 16 by omega)
    obtain ⟨v8, ih⟩ := l2_k69 hR hw hrm e1 h2 eg el (l4 := l4) (l5 := l5) (z6 := z6) n (q + 1) (by omega)
    rw [feR, show 15 - n = q by omega]
    have hd : kn 69 94 [.ref s, .int (nI kk), .ref rm, .ref lf, l4, l5, .int z6, .int (-1), .int (nI q)] [] M1 = if bt left q = true ∧ bc ((STU L w).2.1 q &&& left) < nI kk then kn 69 94 [.ref s, .int (nI kk), .ref rm, .ref lf, l4, l5, .int z6, .int (nI q), .int (nI (q + 1))] [] M1 else kn 69 94 [.ref s, .int (nI kk), .ref rm, .ref lf, l4, l5, .int z6, .int (-1), .int (nI (q + 1))] [] M1 := by
      conv => lhs; rw [k_69_94]
      simp only [k_69_96, k_69_98, k_69_101, k_69_103, k_69_106, k_69_107, k_69_109, k_69_110, k_69_113, k_69_114, k_69_116, k_69_117, k_69_118, k_69_121, k_69_122, sm_0, sm_c, ct_i, ct_r, ct_n, ct_l, ct_d, tl_s, tl_n, oK_s, cS_s, cI_0, cI_9, cA_s, cR_s, cQ_s, cN_i, cN_r, cO_s, rS_s, rK_s, cK_i, cK_j, cK_d, if_true, if_false, true_or, or_true, Nat.reduceAdd, Nat.reduceLeDiff, Nat.zero_le, Nat.reduceEqDiff, Nat.reduceSub, eq_self, Nat.le_refl, ne_eq, not_false_eq_true, i1_0, i0_1, kSm_0, kSm_1, kSm_2, kSm_3, kSm_4, x5_0, x5_1, x5_2, x5_3, x5_4, hle, i0_m1, hx, h2, hrm, hi, el q (by omega), u, b01_c]
      cases hb : bt left q with
      | false => 
        simp only [if_true, Bool.false_eq_true, false_and, if_false]
        rw [k_69_129 (ct_i _), k_69_132, nI_1]
      | true =>
        simp only [if_false, Bool.true_eq_false, true_and]
        by_cases hlt : bc ((STU L w).2.1 q &&& left) < nI kk
        · rw [if_neg (show ¬ nI kk ≤ bc ((STU L w).2.1 q &&& left) from Int32.not_le.mpr hlt), if_pos hlt, k_69_125, k_69_127 (ct_i _), k_69_129 (ct_i _), k_69_132, nI_1]
        · rw [if_pos (Int32.not_lt.mp hlt), if_neg hlt, k_69_129 (ct_i _), k_69_132, nI_1]
    rw [hd]
    by_cases hc : bt left q = true ∧ bc ((STU L w).2.1 q &&& left) < nI kk
    · rw [if_pos hc, if_pos hc]
      refine ⟨nI (q + 1), ?_⟩
      have hge : ((0 : Int32) ≤ nI q) = True := eq_true (Int32.not_lt.mp (nI_pos (by omega)))
      rw [k_69_94]
      by_cases h16 : q + 1 < 16
      · have hle2 : ((16 : Int32) ≤ nI (q + 1)) = False := p_hi h16
        simp only [k_69_96, k_69_98, k_69_101, k_69_103, sm_0, sm_c, ct_i, ct_r, ct_n, ct_l, ct_d, tl_s, tl_n, oK_s, cS_s, cI_0, cI_9, cA_s, cR_s, cQ_s, cN_i, cN_r, cO_s, rS_s, rK_s, cK_i, cK_j, cK_d, if_true, if_false, true_or, or_true, Nat.reduceAdd, Nat.reduceLeDiff, Nat.zero_le, Nat.reduceEqDiff, Nat.reduceSub, eq_self, Nat.le_refl, ne_eq, not_false_eq_true, i1_0, i0_1, kSm_0, kSm_1, kSm_2, kSm_3, kSm_4, x5_0, x5_1, x5_2, x5_3, x5_4, hle2, hge]
      · have h17 : q + 1 = 16 := by omega
        simp only [k_69_96, k_69_98, sm_0, sm_c, ct_i, ct_r, ct_n, ct_l, ct_d, tl_s, tl_n, oK_s, cS_s, cI_0, cI_9, cA_s, cR_s, cQ_s, cN_i, cN_r, cO_s, rS_s, rK_s, cK_i, cK_j, cK_d, if_true, if_false, true_or, or_true, Nat.reduceAdd, Nat.reduceLeDiff, Nat.zero_le, Nat.reduceEqDiff, Nat.reduceSub, eq_self, Nat.le_refl, ne_eq, not_false_eq_true, i1_0, i0_1, kSm_0, kSm_1, kSm_2, kSm_3, kSm_4, x5_0, x5_1, x5_2, x5_3, x5_4, h17, nI_16, Int32.le_refl]
    · rw [if_neg hc, if_neg hc]
      exact ⟨v8, ih⟩
theorem oI_n : oI none = -1 := rfl
theorem oI_p (p : Nat) : oI (some p) = nI p := rfl
theorem l3_k69 (hR : SmR M1 s dk gu kk pa ha vv r gg gw L w) (hw : s16 w) (hrm : M1.1 rm = .inr (.inl (3, 16, fun i => if i < 16 then some (b0 + i) else none))) (e1 : ∀ a, a < 16 → M1.1 (b0 + a) = .inl (1, 16, g a)) (h2 : M1.1 lf = .inl (1, 16, lg)) (eg : ∀ a, a < 16 → ∀ b, b < 16 → g a b = b01 (clM w L a b)) (el : ∀ q, q < 16 → lg q = b01 (bt left q)) {l4 l5 : Value} {z6 k : Int32} : ∀ (n q : Nat), q + n = 16 → ∀ b : Option Nat, (∀ p, b = some p → p < 16) → ∃ v8 : Int32, kn 69 143 [.ref s, .int k, .ref rm, .ref lf, l4, l5, .int z6, .int (oI b), .int (nI q)] [] M1 = kn 69 208 [.ref s, .int k, .ref rm, .ref lf, l4, l5, .int z6, .int (oI (ch2 (STU L w).2.2.2 (fun q => bc ((STU L w).2.1 q &&& left)) left n b)), .int v8] [] M1
  | 0, q, hq, b, hb => by
    obtain rfl : q = 16 := by omega
    refine ⟨nI 16, ?_⟩
    rw [k_69_143]
    simp only [k_69_145, k_69_147, sm_0, sm_c, ct_i, ct_r, ct_n, ct_l, ct_d, tl_s, tl_n, oK_s, cS_s, cI_0, cI_9, cA_s, cR_s, cQ_s, cN_i, cN_r, cO_s, rS_s, rK_s, cK_i, cK_j, cK_d, if_true, if_false, true_or, or_true, Nat.reduceAdd, Nat.reduceLeDiff, Nat.zero_le, Nat.reduceEqDiff, Nat.reduceSub, eq_self, Nat.le_refl, ne_eq, not_false_eq_true, i1_0, i0_1, kSm_0, kSm_1, kSm_2, kSm_3, kSm_4, x5_0, x5_1, x5_2, x5_3, x5_4, nI_16, Int32.le_refl, ch2]
  | n + 1, q, hq, b, hb => by
    have hle : ((16 : Int32) ≤ nI q) = False := p_hi (by omega)
    have hx := x16_16 (show q < 16 by omega)
    have hi : (if q < 16 then some (b0 + q) else none : Option Nat) = some (b0 + q) := if_pos (by omega)
    have hO := hR.2.2.2.2.2.2
    have u := amg hw hO e1 h2 eg el (show q < 16 by omega)
    have cq := s_k64 hR (p := q)
    rw [csR_co (w := w) (show q < 16 by omega) hO] at cq
    rw [ch2, show 15 - n = q by omega]
    have key : kn 69 143 [.ref s, .int k, .ref rm, .ref lf, l4, l5, .int z6, .int (oI b), .int (nI q)] [] M1 = kn 69 143 [.ref s, .int k, .ref rm, .ref lf, l4, l5, .int z6, .int (oI (if bt left q = true then st3 (STU L w).2.2.2 (fun q => bc ((STU L w).2.1 q &&& left)) q b else b)), .int (nI (q + 1))] [] M1 := by
      conv => lhs; rw [k_69_143]
      simp only [k_69_145, k_69_147, k_69_150, k_69_151, k_69_153, k_69_154, sm_0, sm_c, ct_i, ct_r, ct_n, ct_l, ct_d, tl_s, tl_n, oK_s, cS_s, cI_0, cI_9, cA_s, cR_s, cQ_s, cN_i, cN_r, cO_s, rS_s, rK_s, cK_i, cK_j, cK_d, if_true, if_false, true_or, or_true, Nat.reduceAdd, Nat.reduceLeDiff, Nat.zero_le, Nat.reduceEqDiff, Nat.reduceSub, eq_self, Nat.le_refl, ne_eq, not_false_eq_true, i1_0, i0_1, kSm_0, kSm_1, kSm_2, kSm_3, kSm_4, x5_0, x5_1, x5_2, x5_3, x5_4, hle, hx, h2, el q (by omega), b01_c]
      cases hbt : bt left q with
      | false =>
        simp only [not_true_eq_false, if_false, Bool.false_eq_true]
        rw [k_69_157, k_69_202 (ct_i _), k_69_205, nI_1]
      | true =>
        simp only [Bool.true_eq_false, not_false_eq_true, if_true]
        cases b with
        | none =>
          rw [k_69_160, k_69_162, oI_n, if_pos (show ((-1 : Int32) < 0) by decide), k_69_198, k_69_200 (ct_i _), k_69_202 (ct_i _), k_69_205, nI_1]
          rfl
        | some p =>
          have hp16 := hb p rfl
          have hxp := x16_16 hp16
          have hip : (if p < 16 then some (b0 + p) else none : Option Nat) = some (b0 + p) := if_pos hp16
          have up := amg hw hO e1 h2 eg el hp16
          have cp := s_k64 hR (p := p)
          rw [csR_co (w := w) hp16 hO] at cp
          have hS := hR.1
          have hpl : (nI p < 0) = False := p_lo (by omega)
          rw [oI_p]
          simp only [k_69_160, k_69_162, k_69_165, k_69_166, k_69_168, k_69_171, k_69_172, k_69_174, k_69_175, k_69_176, k_69_179, k_69_180, k_69_181, k_69_183, k_69_186, k_69_187, k_69_189, k_69_190, k_69_191, k_69_194, k_69_195, sm_0, sm_c, ct_i, ct_r, ct_n, ct_l, ct_d, tl_s, tl_n, oK_s, cS_s, cI_0, cI_9, cA_s, cR_s, cQ_s, cN_i, cN_r, cO_s, rS_s, rK_s, cK_i, cK_j, cK_d, if_true, if_false, true_or, or_true, Nat.reduceAdd, Nat.reduceLeDiff, Nat.zero_le, Nat.reduceEqDiff, Nat.reduceSub, eq_self, Nat.le_refl, ne_eq, not_false_eq_true, i1_0, i0_1, kSm_0, kSm_1, kSm_2, kSm_3, kSm_4, x5_0, x5_1, x5_2, x5_3, x5_4, hS, hpl, hx, hxp, h2, hrm, hi, hip, u, up, cq, cp, st3]
          by_cases hc : (STU L w).2.2.2 q * bc ((STU L w).2.1 p &&& left) < (STU L w).2.2.2 p * bc ((STU L w).2.1 q &&& left)
          · rw [if_neg (Int32.not_le.mpr hc), if_pos hc, k_69_198, k_69_200 (ct_i _), k_69_202 (ct_i _), k_69_205, nI_1, oI_p]
          · rw [if_pos (Int32.not_lt.mp hc), if_neg hc, k_69_202 (ct_i _), k_69_205, nI_1, oI_p]
    rw [key]
    refine l3_k69 hR hw hrm e1 h2 eg el n (q + 1) (by omega) _ ?_
    intro p hp
    cases hbt : bt left q with
    | false =>
      rw [hbt, if_neg (by decide)] at hp
      exact hb p hp
    | true =>
      rw [hbt, if_pos rfl] at hp
      cases b with
      | none => cases hp; omega
      | some p2 =>
        dsimp only [st3] at hp
        split at hp
        · cases hp; omega
        · cases hp; exact hb _ rfl
end
section
variable {M : kM} {s dk gu kk pa ha : Nat} {vv : Nat → Option Nat} {r : Nat → Nat} {gg : Nat → Nat → Int32} {gw : Nat → Int32} {L : List Dd} {w : Int32} {pl0 hu0 : Nat → Int32} {g : Nat → Nat → Int32} {y : Nat}
theorem l4_k69 (hR : SmR M s dk gu kk pa ha vv r gg gw L w) (hn : SmN M s dk gu r L) (hp : M.1 pa = .inl (0, 16, pl0)) (hh : M.1 ha = .inl (0, 16, hu0)) (np : pa ≤ kN M) (nh : ha ≤ kN M) (hne : pa ≠ ha) (hw : s16 w) (hk : 1 ≤ kk) (hk2 : kk ≤ 16) (eg : ∀ a, a < 16 → ∀ b, b < 16 → g a b = b01 (clM w L a b)) {C : Nat} (hC : C ≤ 16) {hu : Nat → Int32} : ∀ (n c : Nat), c + n = 16 → ∀ (M1 : kM) (left : Int32) (pl as lg : Nat → Int32) (v7 v8 : Value), v7.category = 1 → v8.category = 1 → HS M M1 19 y pa ha pl hu g lg → M1.1 (kN M + 19) = .inl (0, C, as) → pcn left 16 + c = C → s16 left → (∀ q, q < 16 → lg q = b01 (bt left q)) → ∃ (M2 : kM) (lg2 : Nat → Int32) (v7' v8' : Value), v7'.category = 1 ∧ v8'.category = 1 ∧ kn 69 81 [.ref s, .int (nI kk), .ref (kN M + 1), .ref (kN M + 18), .int (nI C), .ref (kN M + 19), .int (nI c), v7, v8] [] M1 = kn 69 235 [.ref s, .int (nI kk), .ref (kN M + 1), .ref (kN M + 18), .int (nI C), .ref (kN M + 19), .int (nI C), v7', v8'] [] M2 ∧ HS M M2 19 y pa ha (paR (STU L w).2.1 (STU L w).2.2.2 (nI kk) n left c pl as).2.1 hu g lg2 ∧ M2.1 (kN M + 19) = .inl (0, C, (paR (STU L w).2.1 (STU L w).2.2.2 (nI kk) n left c pl as).2.2) ∧ (paR (STU L w).2.1 (STU L w).2.2.2 (nI kk) n left c pl as).1 = C
  | 0, c, hc, M1, left, pl, as, lg, v7, v8, c7, c8, hH, hod, hpc, hs, el => by
    obtain rfl : c = C := by omega
    refine ⟨M1, lg, v7, v8, c7, c8, ?_, hH, hod, rfl⟩
    rw [k_69_81]
    simp only [k_69_83, k_69_85, sm_0, sm_c, ct_i, ct_r, ct_n, ct_l, ct_d, tl_s, tl_n, oK_s, cS_s, cI_0, cI_9, cA_s, cR_s, cQ_s, cN_i, cN_r, cO_s, rS_s, rK_s, cK_i, cK_j, cK_d, if_true, if_false, true_or, or_true, Nat.reduceAdd, Nat.reduceLeDiff, Nat.zero_le, Nat.reduceEqDiff, Nat.reduceSub, eq_self, Nat.le_refl, ne_eq, not_false_eq_true, i1_0, i0_1, kSm_0, kSm_1, kSm_2, kSm_3, kSm_4, x5_0, x5_1, x5_2, x5_3, x5_4, Int32.le_refl]
  | n + 1, c, hc, M1, left, pl, as, lg, v7, v8, c7, c8, hH, hod, hpc, hs, el => by
    have hR1 := hH.sm hR hn hp hh
    have hO := hR1.2.2.2.2.2.2
    have hl := hR1.2.2.2.2.2.1
    by_cases h0 : left = 0
    · obtain rfl : c = C := by rw [pcn_0 h0] at hpc; omega
      rw [paR, if_pos h0]
      refine ⟨M1, lg, v7, v8, c7, c8, ?_, hH, hod, rfl⟩
      rw [k_69_81]
      simp only [k_69_83, k_69_85, sm_0, sm_c, ct_i, ct_r, ct_n, ct_l, ct_d, tl_s, tl_n, oK_s, cS_s, cI_0, cI_9, cA_s, cR_s, cQ_s, cN_i, cN_r, cO_s, rS_s, rK_s, cK_i, cK_j, cK_d, if_true, if_false, true_or, or_true, Nat.reduceAdd, Nat.reduceLeDiff, Nat.zero_le, Nat.reduceEqDiff, Nat.reduceSub, eq_self, Nat.le_refl, ne_eq, not_false_eq_true, i1_0, i0_1, kSm_0, kSm_1, kSm_2, kSm_3, kSm_4, x5_0, x5_1, x5_2, x5_3, x5_4, Int32.le_refl]
    · have hco := cSm_STU (w := w) hO hl
      obtain ⟨p, hp16, hb, e⟩ := nxt_in (cl := (STU L w).2.1) hk hk2 hco hs h0
      have hpr := pcn_rm hp16 hb 16 (Nat.le_refl _)
      rw [if_pos hp16] at hpr
      have hcC : c < C := by
        have := pcn_pos 16 p hp16 hb
        omega
      have hle : (nI C ≤ nI c) = False := eq_false (nI_ge hcC (by omega))
      have hS := hR1.1
      obtain ⟨h1, h2', h3, h4, h5, hP, hHu, hrm, hrow, hlf⟩ := hH
      obtain ⟨w8, f1⟩ := l2_k69 hR1 hw hrm hrow hlf eg el (l4 := .int (nI C)) (l5 := .ref (kN M + 19)) (z6 := nI c) 16 0 rfl
      obtain ⟨w9, f2⟩ := l3_k69 hR1 hw hrm hrow hlf eg el (l4 := .int (nI C)) (l5 := .ref (kN M + 19)) (z6 := nI c) (k := nI kk) 16 0 rfl none (fun p h => by cases h)
      rw [nI_0] at f1 f2
      have fc := chR_ch2 (cl := (STU L w).2.1) (co := (STU L w).2.2.2) (left := left) 16 none (fun p h => by cases h)
      rw [← fc] at f2
      have hnx : ∃ v8' : Int32, kn 69 81 [.ref s, .int (nI kk), .ref (kN M + 1), .ref (kN M + 18), .int (nI C), .ref (kN M + 19), .int (nI c), v7, v8] [] M1 = kn 69 208 [.ref s, .int (nI kk), .ref (kN M + 1), .ref (kN M + 18), .int (nI C), .ref (kN M + 19), .int (nI c), .int (nI p), .int v8'] [] M1 := by
        have a1 : kn 69 81 [.ref s, .int (nI kk), .ref (kN M + 1), .ref (kN M + 18), .int (nI C), .ref (kN M + 19), .int (nI c), v7, v8] [] M1 = kn 69 94 [.ref s, .int (nI kk), .ref (kN M + 1), .ref (kN M + 18), .int (nI C), .ref (kN M + 19), .int (nI c), .int (-1), .int 0] [] M1 := by
          rw [k_69_81]
          simp only [k_69_83, k_69_85, k_69_88, k_69_91, sm_0, sm_c, ct_i, ct_r, ct_n, ct_l, ct_d, tl_s, tl_n, oK_s, cS_s, cI_0, cI_9, cA_s, cR_s, cQ_s, cN_i, cN_r, cO_s, rS_s, rK_s, cK_i, cK_j, cK_d, if_true, if_false, true_or, or_true, Nat.reduceAdd, Nat.reduceLeDiff, Nat.zero_le, Nat.reduceEqDiff, Nat.reduceSub, eq_self, Nat.le_refl, ne_eq, not_false_eq_true, i1_0, i0_1, kSm_0, kSm_1, kSm_2, kSm_3, kSm_4, x5_0, x5_1, x5_2, x5_3, x5_4, hle, k_69_89 (ct_i _), k_69_92 (ct_i _)]
        rw [a1, f1, ← e]
        unfold nxt
        rcases feR_in (cl := (STU L w).2.1) (left := left) (k := nI kk) 16 with hf | ⟨p2, hp2, hb2, e2⟩
        · refine ⟨w9, ?_⟩
          rw [hf, if_pos rfl, k_69_135, k_69_137, if_neg (of_eq_false i0_m1), k_69_140, k_69_141 (ct_i _)]
          exact f2
        · refine ⟨w8, ?_⟩
          rw [e2, if_neg (nI_m1 hp2), k_69_135, k_69_137, if_pos (Int32.not_lt.mp (nI_pos (by omega)))]
      obtain ⟨v9, hnx⟩ := hnx
      have hH : HS M M1 19 y pa ha pl hu g lg := ⟨h1, h2', h3, h4, h5, hP, hHu, hrm, hrow, hlf⟩
      have hx := x16_16 hp16
      have s1 : kn 69 208 [.ref s, .int (nI kk), .ref (kN M + 1), .ref (kN M + 18), .int (nI C), .ref (kN M + 19), .int (nI c), .int (nI p), .int v9] [] M1 = kn 69 213 [.ref s, .int (nI kk), .ref (kN M + 1), .ref (kN M + 18), .int (nI C), .ref (kN M + 19), .int (nI c), .int (nI p), .int v9] [] (kI M1 (kN M + 18) (.inl (1, 16, upd lg p 0))) := by
        rw [k_69_208]
        simp only [k_69_209, k_69_211, k_69_212, sm_0, sm_c, ct_i, ct_r, ct_n, ct_l, ct_d, tl_s, tl_n, oK_s, cS_s, cI_0, cI_9, cA_s, cR_s, cQ_s, cN_i, cN_r, cO_s, rS_s, rK_s, cK_i, cK_j, cK_d, if_true, if_false, true_or, or_true, Nat.reduceAdd, Nat.reduceLeDiff, Nat.zero_le, Nat.reduceEqDiff, Nat.reduceSub, eq_self, Nat.le_refl, ne_eq, not_false_eq_true, i1_0, i0_1, kSm_0, kSm_1, kSm_2, kSm_3, kSm_4, x5_0, x5_1, x5_2, x5_3, x5_4, hlf, hx, nar01 (Or.inl rfl)]
      have hA := hH.lf np nh (upd lg p 0)
      have hod2 : (kI M1 (kN M + 18) (.inl (1, 16, upd lg p 0))).1 (kN M + 19) = .inl (0, C, as) := (kI_ne (by omega)).trans hod
      generalize kI M1 (kN M + 18) (.inl (1, 16, upd lg p 0)) = M2 at s1 hA hod2
      have hxc : mmX (nI c) C = some c := mmX_nI hcC (by omega)
      have s2 : kn 69 213 [.ref s, .int (nI kk), .ref (kN M + 1), .ref (kN M + 18), .int (nI C), .ref (kN M + 19), .int (nI c), .int (nI p), .int v9] [] M2 = kn 69 220 [.ref s, .int (nI kk), .ref (kN M + 1), .ref (kN M + 18), .int (nI C), .ref (kN M + 19), .int (nI c), .int (nI p), .int v9] [] (kI M2 (kN M + 19) (.inl (0, C, upd as c (nI p)))) := by
        rw [k_69_213]
        simp only [k_69_215, k_69_217, k_69_219, sm_0, sm_c, ct_i, ct_r, ct_n, ct_l, ct_d, tl_s, tl_n, oK_s, cS_s, cI_0, cI_9, cA_s, cR_s, cQ_s, cN_i, cN_r, cO_s, rS_s, rK_s, cK_i, cK_j, cK_d, if_true, if_false, true_or, or_true, Nat.reduceAdd, Nat.reduceLeDiff, Nat.zero_le, Nat.reduceEqDiff, Nat.reduceSub, eq_self, Nat.le_refl, ne_eq, not_false_eq_true, i1_0, i0_1, kSm_0, kSm_1, kSm_2, kSm_3, kSm_4, x5_0, x5_1, x5_2, x5_3, x5_4, hod2, hxc]
      have hA2 := hA.od np nh (.inl (0, C, upd as c (nI p)))
      have hod3 : (kI M2 (kN M + 19) (.inl (0, C, upd as c (nI p)))).1 (kN M + 19) = .inl (0, C, upd as c (nI p)) := kI_self
      generalize kI M2 (kN M + 19) (.inl (0, C, upd as c (nI p))) = M3 at s2 hA2 hod3
      have hS3 := (hA2.sm hR hn hp hh).1
      have hP3 := hA2.2.2.2.2.2.1
      have s3 : kn 69 220 [.ref s, .int (nI kk), .ref (kN M + 1), .ref (kN M + 18), .int (nI C), .ref (kN M + 19), .int (nI c), .int (nI p), .int v9] [] M3 = kn 69 81 [.ref s, .int (nI kk), .ref (kN M + 1), .ref (kN M + 18), .int (nI C), .ref (kN M + 19), .int (nI (c + 1)), .int (nI p), .int v9] [] (kI M3 pa (.inl (0, 16, upd pl p (nI c)))) := by
        rw [k_69_220]
        simp only [k_69_221, k_69_224, k_69_226, k_69_228, sm_0, sm_c, ct_i, ct_r, ct_n, ct_l, ct_d, tl_s, tl_n, oK_s, cS_s, cI_0, cI_9, cA_s, cR_s, cQ_s, cN_i, cN_r, cO_s, rS_s, rK_s, cK_i, cK_j, cK_d, if_true, if_false, true_or, or_true, Nat.reduceAdd, Nat.reduceLeDiff, Nat.zero_le, Nat.reduceEqDiff, Nat.reduceSub, eq_self, Nat.le_refl, ne_eq, not_false_eq_true, i1_0, i0_1, kSm_0, kSm_1, kSm_2, kSm_3, kSm_4, x5_0, x5_1, x5_2, x5_3, x5_4, hS3, hP3, hx]
        rw [k_69_229 (ct_r _), k_69_232, nI_1]
      have hA3 := hA2.upa np hne (upd pl p (nI c))
      have hod4 : (kI M3 pa (.inl (0, 16, upd pl p (nI c)))).1 (kN M + 19) = .inl (0, C, upd as c (nI p)) := (kI_ne (by omega)).trans hod3
      generalize kI M3 pa (.inl (0, 16, upd pl p (nI c))) = M4 at s3 hA3 hod4
      obtain ⟨M5, lg2, v7', v8', d7, d8, s4, r1, r2, r3⟩ := l4_k69 hR hn hp hh np nh hne hw hk hk2 eg hC (hu := hu) n (c + 1) (by omega) M4 (left &&& (bI (nI p) ^^^ (-1))) (upd pl p (nI c)) (upd as c (nI p)) (upd lg p 0) (.int (nI p)) (.int v9) rfl rfl hA3 hod4 (by omega) (s16_and hs) (fun q hq => by
        rw [b_and, bt_not _ (by omega), bt_bI hp16]
        by_cases hqp : q = p
        · subst hqp
          rw [upd_at]
          simp [b01]
        · rw [upd_ne hqp, el q hq]
          simp [hqp])
      rw [paR, if_neg h0, e, atP_p hp16]
      exact ⟨M5, lg2, v7', v8', d7, d8, by rw [hnx, s1, s2, s3, s4], r1, r2, r3⟩
end
