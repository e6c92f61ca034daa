/-! the sim: hang, the pots hung -/
section
variable {M : kM} {s dk gu kk pa ha : Nat} {vv : Nat → Option Nat} {r : Nat → Nat} {gg : Nat → Nat → Int32} {gw : Nat → Int32} {L : List Dd} {w : Int32} {pl0 hu0 : Nat → Int32} {g : Nat → Nat → Int32} {y : Nat}
theorem l5_k69 (hR : SmR M s dk gu kk pa ha vv r gg gw L w) (hn : SmN M s dk gu r L) (hp : M.1 pa = .inl (0, 16, pl0)) (hh : M.1 ha = .inl (0, 16, hu0)) (np : pa ≤ kN M) (nh : ha ≤ kN M) (hne : pa ≠ ha) (hk2 : kk ≤ 16) (eg : ∀ a, a < 16 → ∀ b, b < 16 → g a b = b01 (clM w L a b)) {C : Nat} (hC : C ≤ 16) {pl as lg : Nat → Int32} (hD : ∀ i j, i < j → j < C → ¬ as i = as j) : ∀ (n : Nat), n ≤ C → ∀ (M1 : kM) (u : huT) (v8 : Value), v8.category = 1 → HS M M1 19 y pa ha pl u.1 g lg → M1.1 (kN M + 19) = .inl (0, C, as) → hgI C as n u → ∃ M2 : kM, kn 69 244 [.ref s, .int (nI kk), .ref (kN M + 1), .ref (kN M + 18), .int (nI C), .ref (kN M + 19), .int (nI (pcn u.2.2 16)), .int (dn n), v8] [] M1 = some (some (.int (nI (pcn (hgR (STU L w).2.1 (STU L w).2.2.1 kk as n u).2.2 16))), M2) ∧ HS M M2 19 y pa ha pl (hgR (STU L w).2.1 (STU L w).2.2.1 kk as n u).1 g lg
  | 0, hnC, M1, u, v8, c8, hH, hod, hI => by
    refine ⟨M1, ?_, hH⟩
    rw [k_69_244]
    simp only [k_69_246, k_69_300, k_69_302, sm_0, sm_c, ct_i, ct_r, ct_n, ct_l, ct_d, tl_s, tl_n, oK_s, cS_s, cI_0, cI_9, cA_s, cR_s, cQ_s, cN_i, cN_r, cO_s, rS_s, rK_s, cK_i, cK_j, cK_d, if_true, if_false, true_or, or_true, Nat.reduceAdd, Nat.reduceLeDiff, Nat.zero_le, Nat.reduceEqDiff, Nat.reduceSub, eq_self, Nat.le_refl, ne_eq, not_false_eq_true, i1_0, i0_1, kSm_0, kSm_1, kSm_2, kSm_3, kSm_4, x5_0, x5_1, x5_2, x5_3, x5_4, dn_0, m1_0, hgR]
  | n + 1, hnC, M1, u, v8, c8, hH, hod, hI => by
    have hR1 := hH.sm hR hn hp hh
    have hO := hR1.2.2.2.2.2.2
    have hS := hR1.1
    obtain ⟨p, hp16, e, hm⟩ := hI.2.2.1 n (by omega)
    have hI2 := hgI_s (cl := (STU L w).2.1) (po := (STU L w).2.2.1) hk2 hD hnC hI
    have hPA := PAi_huS (cl := (STU L w).2.1) (po := (STU L w).2.2.1) (s := u) hk2 hp16 hI.1 hm
    have hH0 := hH
    obtain ⟨h1, h2', h3, h4, h5, hP, hHu, hrm, hrow, hlf⟩ := hH
    have hx := x16_16 hp16
    have hxn : mmX (nI n) C = some n := mmX_nI (by omega) (by omega)
    have hlo : (nI n < 0) = False := p_lo (by omega)
    have hip : (if p < 16 then some (kN M + 1 + 1 + p) else none : Option Nat) = some (kN M + 1 + 1 + p) := if_pos hp16
    have f := s_k68 hR1 hHu (hrow p hp16) (eg p hp16) (p := p) (k := kk) hk2
    have hch := hfV_chs (w := w) hO (f := clM w L p) (hu := u.1) (pa := u.2.1) (fl := u.2.2) hp16 hk2 (fun q hq => clM_bt hO hp16 hq) hI.1 hm
    rw [hch] at f
    have s1 : kn 69 244 [.ref s, .int (nI kk), .ref (kN M + 1), .ref (kN M + 18), .int (nI C), .ref (kN M + 19), .int (nI (pcn u.2.2 16)), .int (dn (n + 1)), v8] [] M1 = kn 69 274 [.ref s, .int (nI kk), .ref (kN M + 1), .ref (kN M + 18), .int (nI C), .ref (kN M + 19), .int (nI (pcn u.2.2 16)), .int (nI n), .int (nI p)] [] (kI M1 ha (.inl (0, 16, upd u.1 p (chs (STU L w).2.1 (STU L w).2.2.1 kk p u)))) := by
      rw [k_69_244]
      simp only [k_69_246, k_69_249, k_69_251, k_69_253, k_69_254, k_69_256, k_69_257, k_69_260, k_69_262, k_69_263, k_69_265, k_69_266, k_69_268, k_69_269, k_69_270, k_69_273, sm_0, sm_c, ct_i, ct_r, ct_n, ct_l, ct_d, tl_s, tl_n, oK_s, cS_s, cI_0, cI_9, cA_s, cR_s, cQ_s, cN_i, cN_r, cO_s, rS_s, rK_s, cK_i, cK_j, cK_d, if_true, if_false, true_or, or_true, Nat.reduceAdd, Nat.reduceLeDiff, Nat.zero_le, Nat.reduceEqDiff, Nat.reduceSub, eq_self, Nat.le_refl, ne_eq, not_false_eq_true, i1_0, i0_1, kSm_0, kSm_1, kSm_2, kSm_3, kSm_4, x5_0, x5_1, x5_2, x5_3, x5_4, dn_s, hlo, hod, hxn, e, hS, hrm, hx, hip, f, hHu]
    have hA := hH0.uha nh hne (upd u.1 p (chs (STU L w).2.1 (STU L w).2.2.1 kk p u))
    have hod2 : (kI M1 ha (.inl (0, 16, upd u.1 p (chs (STU L w).2.1 (STU L w).2.2.1 kk p u)))).1 (kN M + 19) = .inl (0, C, as) := (kI_ne (by omega)).trans hod
    generalize kI M1 ha (.inl (0, 16, upd u.1 p (chs (STU L w).2.1 (STU L w).2.2.1 kk p u))) = M2 at s1 hA hod2
    have hS2 := (hA.sm hR hn hp hh).1
    have hHu2 := hA.2.2.2.2.2.2.1
    have hpc : nI (pcn u.2.2 16) + b01 (decide (chs (STU L w).2.1 (STU L w).2.2.1 kk p u < 0)) = nI (pcn (huS (STU L w).2.1 (STU L w).2.2.1 kk (nI p) u).2.2 16) := by
      rcases chs_in (cl := (STU L w).2.1) (po := (STU L w).2.2.1) (p := p) hk2 hI.1 with hc | ⟨x, hx, hc⟩
      · rw [huS_m1 hp16 hc, hc]
        have hb : bt u.2.2 p = false := by
          cases hb : bt u.2.2 p with
          | false => rfl
          | true =>
            obtain ⟨⟨j, j1, j2, j3⟩, -⟩ := (hI.2.2.2 p hp16).mp hb
            exact absurd (by rw [e, j3]) (hD n j (by omega) j2)
        rw [pcn_add hp16 hb]
        exact nI_1 _
      · rw [huS_h hp16 hx hc, hc, decide_eq_false (nI_pos (by omega))]
        exact Int32.add_zero _
    have s2 : kn 69 274 [.ref s, .int (nI kk), .ref (kN M + 1), .ref (kN M + 18), .int (nI C), .ref (kN M + 19), .int (nI (pcn u.2.2 16)), .int (nI n), .int (nI p)] [] M2 = kn 69 244 [.ref s, .int (nI kk), .ref (kN M + 1), .ref (kN M + 18), .int (nI C), .ref (kN M + 19), .int (nI (pcn (huS (STU L w).2.1 (STU L w).2.2.1 kk (nI p) u).2.2 16)), .int (dn n), .int (nI p)] [] M2 := by
      rw [← hpc, k_69_274]
      have hdn : nI n + (-1) = dn n := by
        rw [← dn_dec]
      by_cases hc0 : chs (STU L w).2.1 (STU L w).2.2.1 kk p u < 0
      · have hc1 : ((0 : Int32) ≤ chs (STU L w).2.1 (STU L w).2.2.1 kk p u) = False := eq_false (Int32.not_le.mpr hc0)
        simp only [k_69_276, k_69_277, k_69_280, k_69_282, k_69_283, k_69_286, k_69_287, k_69_290, k_69_291, sm_0, sm_c, ct_i, ct_r, ct_n, ct_l, ct_d, tl_s, tl_n, oK_s, cS_s, cI_0, cI_9, cA_s, cR_s, cQ_s, cN_i, cN_r, cO_s, rS_s, rK_s, cK_i, cK_j, cK_d, if_true, if_false, true_or, or_true, Nat.reduceAdd, Nat.reduceLeDiff, Nat.zero_le, Nat.reduceEqDiff, Nat.reduceSub, eq_self, Nat.le_refl, ne_eq, not_false_eq_true, i1_0, i0_1, kSm_0, kSm_1, kSm_2, kSm_3, kSm_4, x5_0, x5_1, x5_2, x5_3, x5_4, hS2, hHu2, hx, upd_at, hc0, hc1, decide_true, b01]
        rw [k_69_292 (ct_r _), k_69_294 (ct_i _), k_69_297, hdn]
      · have hc1 : ((0 : Int32) ≤ chs (STU L w).2.1 (STU L w).2.2.1 kk p u) = True := eq_true (Int32.not_lt.mp hc0)
        simp only [k_69_276, k_69_277, k_69_280, k_69_282, k_69_283, k_69_286, k_69_287, k_69_290, k_69_291, sm_0, sm_c, ct_i, ct_r, ct_n, ct_l, ct_d, tl_s, tl_n, oK_s, cS_s, cI_0, cI_9, cA_s, cR_s, cQ_s, cN_i, cN_r, cO_s, rS_s, rK_s, cK_i, cK_j, cK_d, if_true, if_false, true_or, or_true, Nat.reduceAdd, Nat.reduceLeDiff, Nat.zero_le, Nat.reduceEqDiff, Nat.reduceSub, eq_self, Nat.le_refl, ne_eq, not_false_eq_true, i1_0, i0_1, kSm_0, kSm_1, kSm_2, kSm_3, kSm_4, x5_0, x5_1, x5_2, x5_3, x5_4, hS2, hHu2, hx, upd_at, hc0, hc1, decide_false, b01, Bool.false_eq_true]
        rw [k_69_292 (ct_r _), k_69_294 (ct_i _), k_69_297, hdn]
    rw [e] at hI2
    have hA' : HS M M2 19 y pa ha pl (huS (STU L w).2.1 (STU L w).2.2.1 kk (nI p) u).1 g lg := by rw [hPA.2]; exact hA
    obtain ⟨M3, s3, r3⟩ := l5_k69 hR hn hp hh np nh hne hk2 eg hC hD n (by omega) M2 (huS (STU L w).2.1 (STU L w).2.2.1 kk (nI p) u) (.int (nI p)) rfl hA' hod2 hI2
    rw [hgR, e]
    exact ⟨M3, by rw [s1, s2, s3], r3⟩
theorem HS_0 : HS M (kA (kLg M g) (.inl (1, 16, kG0)) 16) 18 288 pa ha pl0 hu0 g kG0 ↔ (M.1 pa = .inl (0, 16, pl0) ∧ M.1 ha = .inl (0, 16, hu0)) ∧ pa ≤ kN M ∧ ha ≤ kN M ∨ HS M (kA (kLg M g) (.inl (1, 16, kG0)) 16) 18 288 pa ha pl0 hu0 g kG0 := by
  constructor
  · exact Or.inr
  · rintro (⟨⟨hp, hh⟩, np, nh⟩ | h)
    · have lo : ∀ k, k ≤ kN M → (kA (kLg M g) (.inl (1, 16, kG0)) 16).1 k = M.1 k := fun k hk => (kA_ex.2.1 k (show k ≤ kN M + 17 by omega)).trans (kLg_ex.2.1 k hk)
      refine ⟨rfl, rfl, rfl, rfl, fun k hk _ _ => lo k hk, (lo _ np).trans hp, (lo _ nh).trans hh, (kA_ex.2.1 _ (show kN M + 1 ≤ kN M + 17 by omega)).trans kLg_c, fun a ha => (kA_ex.2.1 _ (show kN M + 1 + 1 + a ≤ kN M + 17 by omega)).trans (kLg_r ha), kU_self _ _ _⟩
    · exact h
/-- hang: where the pots are, on which hooks, and how many lie on the floor -/
theorem s_k69 (hR : SmR M s dk gu kk pa ha vv r gg gw L w) (hn : SmN M s dk gu r L) (hp : M.1 pa = .inl (0, 16, pl0)) (hh : M.1 ha = .inl (0, 16, hu0)) (np : pa ≤ kN M) (nh : ha ≤ kN M) (hne : pa ≠ ha) (hw : s16 w) (hk : 1 ≤ kk) (hk2 : kk ≤ 16) (zp : zb pl0) (zh : zb hu0) : ∃ (M2 : kM) (g : Nat → Nat → Int32) (lg : Nat → Int32) (y : Nat), y ≤ 304 ∧ kn 69 0 [.ref s, .int (nI kk), .null, .null, .null, .null, .null, .null, .null] [] M = some (some (.int (bc (HG L w kk).2.2)), M2) ∧ HS M M2 19 y pa ha (PL L w kk) (HG L w kk).1 g lg := by
  obtain ⟨g, c1, eg⟩ := s_k65 hR hn
  have hO := hR.2.2.2.2.2.2
  have hl := hR.2.2.2.2.2.1
  have hS := hR.1
  have hA := HS_0.mpr (Or.inl ⟨⟨hp, hh⟩, np, nh⟩ : (M.1 pa = .inl (0, 16, pl0) ∧ M.1 ha = .inl (0, 16, hu0)) ∧ pa ≤ kN M ∧ ha ≤ kN M ∨ HS M (kA (kLg M g) (.inl (1, 16, kG0)) 16) 18 288 pa ha pl0 hu0 g kG0)
  have s1 : kn 69 0 [.ref s, .int (nI kk), .null, .null, .null, .null, .null, .null, .null] [] M = kn 69 16 [.ref s, .int (nI kk), .ref (kN M + 1), .ref (kN M + 18), .int 0, .int 0, .null, .null, .null] [] (kA (kLg M g) (.inl (1, 16, kG0)) 16) := by
    have e16 : nA 16 = fun k => k 16 := rfl
    simp only [k_69_0, k_69_1, k_69_4, k_69_5, k_69_7, k_69_9, k_69_10, k_69_11, k_69_13, k_69_14, sm_0, sm_c, ct_i, ct_r, ct_n, ct_l, ct_d, tl_s, tl_n, oK_s, cS_s, cI_0, cI_9, cA_s, cR_s, cQ_s, cN_i, cN_r, cO_s, rS_s, rK_s, cK_i, cK_j, cK_d, if_true, if_false, true_or, or_true, Nat.reduceAdd, Nat.reduceLeDiff, Nat.zero_le, Nat.reduceEqDiff, Nat.reduceSub, eq_self, Nat.le_refl, ne_eq, not_false_eq_true, i1_0, i0_1, kSm_0, kSm_1, kSm_2, kSm_3, kSm_4, x5_0, x5_1, x5_2, x5_3, x5_4, hS, c1, e16, tl_s]
    rfl
  generalize kA (kLg M g) (.inl (1, 16, kG0)) 16 = M1 at s1 hA
  obtain ⟨M2, s2, hA2⟩ := l1_k69 hR hn hp hh np nh hne (k := nI kk) (v6 := .null) (v7 := .null) (v8 := .null) 16 0 rfl M1 0 _ _ _ hA
  rw [fT_n16 zp, fT_n16 zh] at hA2
  rw [nI_0] at s2
  have hth := s16_th hO hw
  obtain ⟨C, hC⟩ : ∃ C, C = pcn (STU L w).1 16 := ⟨_, rfl⟩
  have hC16 : C ≤ 16 := by rw [hC]; exact pcn_le _ 16
  have hcnt : fcR (fun p => thR p L (bt w p)) 16 0 = nI C := by
    rw [hC, ← bc_pcn hth]
    exact fcR_bc hth (fun q hq => thR_bt hq hO)
  rw [hcnt] at s2
  have eN : nA (nI C) = fun k => k C := by
    funext k
    unfold nA
    rw [nI_clamp (by omega), if_neg]
    rintro (h | h)
    · exact nI_pos (show C < 2147483648 by omega) h
    · omega
  have hN2 : kN M2 = kN M + 18 := hA2.2.1
  have s3 : kn 69 72 [.ref s, .int (nI kk), .ref (kN M + 1), .ref (kN M + 18), .int (nI C), .int 16, .null, .null, .null] [] M2 = kn 69 81 [.ref s, .int (nI kk), .ref (kN M + 1), .ref (kN M + 18), .int (nI C), .ref (kN M + 19), .int 0, .null, .null] [] (kA M2 (.inl (0, C, kG0)) C) := by
    simp only [k_69_72, k_69_74, k_69_76, k_69_78, k_69_79, sm_0, sm_c, ct_i, ct_r, ct_n, ct_l, ct_d, tl_s, tl_n, oK_s, cS_s, cI_0, cI_9, cA_s, cR_s, cQ_s, cN_i, cN_r, cO_s, rS_s, rK_s, cK_i, cK_j, cK_d, if_true, if_false, true_or, or_true, Nat.reduceAdd, Nat.reduceLeDiff, Nat.zero_le, Nat.reduceEqDiff, Nat.reduceSub, eq_self, Nat.le_refl, ne_eq, not_false_eq_true, i1_0, i0_1, kSm_0, kSm_1, kSm_2, kSm_3, kSm_4, x5_0, x5_1, x5_2, x5_3, x5_4, eN, hN2]
  have hA3 : HS M (kA M2 (.inl (0, C, kG0)) C) 19 (288 + C) pa ha n16 n16 g (fT 0 (fun i => b01 (thR i L (bt w i))) kG0) := by
    obtain ⟨h1, h2, h3, h4, h5, h6, h7, h8, h9, h10⟩ := hA2
    have lo : ∀ k, k ≤ kN M + 18 → (kA M2 (.inl (0, C, kG0)) C).1 k = M2.1 k := fun k hk => kA_ex.2.1 k (by rw [h2]; exact hk)
    refine ⟨h1, ?_, ?_, ?_, fun k hk a b => (lo k (by omega)).trans (h5 k hk a b), (lo _ (by omega)).trans h6, (lo _ (by omega)).trans h7, (lo _ (by omega)).trans h8, fun a ha16 => (lo _ (by omega)).trans (h9 a ha16), (lo _ (by omega)).trans h10⟩
    · show kN M2 + 1 = _
      omega
    · show kCs M2 + 1 = _
      omega
    · show kSs M2 + C = _
      omega
  have hod : (kA M2 (.inl (0, C, kG0)) C).1 (kN M + 19) = .inl (0, C, kG0) := by
    show kU M2.1 (kN M2 + 1) (.inl (0, C, kG0)) (kN M + 19) = _
    rw [hN2]
    exact kU_self _ _ _
  generalize kA M2 (.inl (0, C, kG0)) C = M3 at s3 hA3 hod
  obtain ⟨M4, lg2, v7', v8', d7, d8, s4, hA4, hod4, r4⟩ := l4_k69 hR hn hp hh np nh hne hw hk hk2 eg hC16 (hu := n16) 16 0 rfl M3 (STU L w).1 n16 kG0 _ .null .null rfl rfl hA3 hod (by omega) hth (fun q hq => by rw [fT_at hq (Nat.zero_le _), thR_bt hq hO])
  rw [nI_0] at s4
  obtain ⟨hB, hB2⟩ := PLA_inv (L := L) (w := w) (kk := kk) hO hl hw hk hk2
  have hPLA : paR (STU L w).2.1 (STU L w).2.2.2 (nI kk) 16 (STU L w).1 0 n16 kG0 = PLA (STU L w) kk := rfl
  rw [hPLA] at hA4 hod4 r4
  rw [r4] at hB
  have s5 : kn 69 235 [.ref s, .int (nI kk), .ref (kN M + 1), .ref (kN M + 18), .int (nI C), .ref (kN M + 19), .int (nI C), v7', v8'] [] M4 = kn 69 244 [.ref s, .int (nI kk), .ref (kN M + 1), .ref (kN M + 18), .int (nI C), .ref (kN M + 19), .int 0, .int (dn C), v8'] [] M4 := by
    have hdn : nI C - 1 = dn C := by
      cases C with
      | zero => decide
      | succ n =>
        rw [dn_s, ← nI_1, Int32.add_sub_cancel]
    simp only [k_69_235, k_69_236, k_69_238, k_69_240, k_69_241, k_69_242, sm_0, sm_c, ct_i, ct_r, ct_n, ct_l, ct_d, tl_s, tl_n, oK_s, cS_s, cI_0, cI_9, cA_s, cR_s, cQ_s, cN_i, cN_r, cO_s, rS_s, rK_s, cK_i, cK_j, cK_d, if_true, if_false, true_or, or_true, Nat.reduceAdd, Nat.reduceLeDiff, Nat.zero_le, Nat.reduceEqDiff, Nat.reduceSub, eq_self, Nat.le_refl, ne_eq, not_false_eq_true, i1_0, i0_1, kSm_0, kSm_1, kSm_2, kSm_3, kSm_4, x5_0, x5_1, x5_2, x5_3, x5_4, hdn]
  have h0 : hgI C (PLA (STU L w) kk).2.2 C (n16, zf, 0) := ⟨PAi_0, s16_0, fun j hj => by
    obtain ⟨p, hp, e, _⟩ := hB.1 j hj
    exact ⟨p, hp, e, by show n16 p = -1; unfold n16; rw [if_pos hp]⟩, fun q hq => by
    dsimp only
    rw [b_0]
    exact ⟨fun h => (by cases h), fun h => by
      obtain ⟨j, h1, h2, _⟩ := h.1
      omega⟩⟩
  obtain ⟨M5, s6, hA5⟩ := l5_k69 hR hn hp hh np nh hne hk2 eg hC16 hB.2.1 C (Nat.le_refl _) M4 (n16, zf, 0) v8' d8 hA4 hod4 h0
  have e0 : nI (pcn (n16, zf, (0 : Int32)).2.2 16) = 0 := by
    rw [pcn_0 rfl]
    rfl
  rw [e0] at s6
  have hHG : hgR (STU L w).2.1 (STU L w).2.2.1 kk (PLA (STU L w) kk).2.2 C (n16, zf, 0) = HG L w kk := by
    unfold HG HGA
    rw [r4]
  rw [hHG] at s6 hA5
  refine ⟨M5, g, lg2, 288 + C, by omega, ?_, hA5⟩
  rw [s1, s2, s3, s4, s5, s6, bc_pcn (HG_inv hO hl hw hk hk2).2.1]
end
