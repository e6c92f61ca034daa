/-! the law: act; what holds between two acts -/
noncomputable def blw (v : Int32) (n : Nat) : Nat := Classical.choose (and_nI v) % n
theorem blw_lt {v : Int32} {n : Nat} (h : 1 ≤ n) : blw v n < n := Nat.mod_lt _ h
theorem s_bl {M : kM} {v : Int32} {n : Nat} (h1 : 1 ≤ n) (hn : n < 2147483648) : kn 77 0 [.int v, .int (nI n)] [] M = some (some (.int (nI (blw v n))), M) := by
  obtain ⟨hm, e⟩ := Classical.choose_spec (and_nI v)
  unfold blw
  generalize Classical.choose (and_nI v) = m at hm e
  have hne : ¬ nI n = 0 := nI_ne0 h1 hn
  have hmod : nI m - nI m / nI n * nI n = nI (m % n) := by
    rw [nI_div hm hn, nI_mul, nI_sub (Nat.div_mul_le_self m n)]
    congr 1
    have := Nat.div_add_mod m n
    rw [Nat.mul_comm] at this
    omega
  simp only [k_77_0, k_77_1, k_77_3, k_77_4, sm_0, sm_c, ct_i, ct_r, ct_n, ct_l, ct_d, tl_s, tl_n, oK_s, cS_s, cI_0, cI_9, cA_s, cR_s, cQ_s, cN_i, cN_r, cO_s, rS_s, rK_s, cK_i, cK_j, cK_d, if_true, if_false, true_or, or_true, Nat.reduceAdd, Nat.reduceLeDiff, Nat.zero_le, Nat.reduceEqDiff, Nat.reduceSub, eq_self, Nat.le_refl, ne_eq, not_false_eq_true, not_true_eq_false, i1_0, i0_1, kSm_0, kSm_1, kSm_2, kSm_3, kSm_4, x5_0, x5_1, x5_2, x5_3, x5_4, e, k_77_5 hne, k_77_6, hmod]
theorem sub1 (q : Nat) : nI q - 1 = dn q := by
  cases q with
  | zero => decide
  | succ n => rw [dn_s, ← nI_1, Int32.add_sub_cancel]
theorem dn_P {q : Nat} (h : q ≤ 16) : dn q = -1 ∨ isP (dn q) := by
  cases q with
  | zero => exact Or.inl rfl
  | succ n => exact Or.inr ⟨n, by omega, rfl⟩
theorem ponB_i {x : Int32} (h : x = -1 ∨ isP x) : ponB x = true := by
  rcases h with rfl | ⟨p, hp, rfl⟩
  · rfl
  · unfold ponB
    rw [potB_p hp, Bool.or_true]
theorem wtB_n {t : Nat} (h1 : 1 ≤ t) (h9 : t ≤ 9) : wtB (nI t) = true := by
  unfold wtB
  rw [decide_eq_true (show ¬ nI t < 1 from Int32.not_lt.mpr (show nI 1 ≤ nI t from nI_le h1 (by omega))), decide_eq_true (show ¬ 9 < nI t from Int32.not_lt.mpr (show nI t ≤ nI 9 from nI_le h9 (by omega)))]
  rfl
def KtI (M : kM) (b : Nat) (L : List Dd) (w : Int32) (kk : Nat) : Prop := M.1 b = .inr (.inr (.inr (b, 0))) ∧ b + 34 ≤ kN M ∧ Cls (M.2.1 b) L w kk
def LI (M : kM) (b s n : Nat) (xs : Nat → Int32) (L : List Dd) (w : Int32) (kk : Nat) : Prop := M.1 0 = .inl (9, n, xs) ∧ n < 2147483648 ∧ KtI M b L w kk ∧ SimI M s L w kk ∧ s16 w ∧ 1 ≤ kk ∧ kk ≤ 8
theorem b01_b (b : Bool) : (b01 b = 0) = (b = false) := b01_c b
theorem act_head {M : kM} {b s n kk : Nat} {xs : Nat → Int32} {L : List Dd} {w v : Int32} (h : LI M b s n xs L w kk) : ∃ m p t c : Nat, ∃ x6 x7 : Int32, p < 16 ∧ (x6 = -1 ∨ isP x6) ∧ (x7 = -1 ∨ isP x7) ∧ 1 ≤ t ∧ t ≤ 9 ∧ c < 12 ∧ (m = 16 ∨ m = 7) ∧ kn 79 0 [.ref b, .ref s, .int v, .null, .null, .null, .null, .null, .null, .null, .null] [] M = kn 79 84 [.ref b, .ref s, .int v, .int (nI L.length), .int (nI m), .int (nI p), .int x6, .int x7, .int (nI t), .null, .null] [.int (nI c)] M := by
  obtain ⟨-, -, -, ⟨dk, gu, pa, ha, vv, r, gg, gw, pl, hu, hR, -⟩, -⟩ := h
  have q1 := hR.1
  have q2 := hR.2.1
  have u3 : ∀ v, kn 77 0 [.int v, .int 3] [] M = some (some (.int (nI (blw v 3))), M) := fun v => s_bl (n := 3) (by omega) (by omega)
  have u9 : ∀ v, kn 77 0 [.int v, .int 9] [] M = some (some (.int (nI (blw v 9))), M) := fun v => s_bl (n := 9) (by omega) (by omega)
  have u12 : ∀ v, kn 77 0 [.int v, .int 12] [] M = some (some (.int (nI (blw v 12))), M) := fun v => s_bl (n := 12) (by omega) (by omega)
  have key : ∀ m, m = 16 ∨ m = 7 → kn 79 24 [.ref b, .ref s, .int v, .int (nI L.length), .null, .null, .null, .null, .null, .null, .null] [.int (nI m)] M = kn 79 84 [.ref b, .ref s, .int v, .int (nI L.length), .int (nI m), .int (nI (blw (v >>> (4 &&& 31)) m)), .int (dn (blw (v >>> (6 &&& 31)) (m + 1))), .int (dn (blw (v >>> (8 &&& 31)) (m + 1))), .int (nI (1 + blw (v >>> (3 &&& 31)) 9)), .null, .null] [.int (nI (blw v 12))] M := by
    intro m hm
    have um : ∀ v, kn 77 0 [.int v, .int (nI m)] [] M = some (some (.int (nI (blw v m))), M) := fun v => s_bl (by omega) (by omega)
    have um1 : ∀ v, kn 77 0 [.int v, .int (nI (m + 1))] [] M = some (some (.int (nI (blw v (m + 1)))), M) := fun v => s_bl (by omega) (by omega)
    have e1 : ∀ q, (1 : Int32) + nI q = nI (1 + q) := fun q => nI_add 1 q
    simp only [k_79_24, k_79_26, k_79_27, k_79_28, k_79_29, k_79_31, k_79_34, k_79_36, k_79_37, k_79_39, k_79_40, k_79_42, k_79_43, k_79_44, k_79_47, k_79_48, k_79_49, k_79_51, k_79_52, k_79_54, k_79_55, k_79_57, k_79_58, k_79_59, k_79_62, k_79_63, k_79_64, k_79_66, k_79_67, k_79_68, k_79_69, k_79_70, k_79_72, k_79_75, k_79_76, k_79_78, k_79_79, k_79_81, sm_0, sm_c, ct_i, ct_r, ct_n, ct_l, ct_d, tl_s, tl_n, oK_s, cS_s, cI_0, cI_9, cA_s, cR_s, cQ_s, cN_i, cN_r, cO_s, rS_s, rK_s, cK_i, cK_j, cK_d, if_true, if_false, true_or, or_true, Nat.reduceAdd, Nat.reduceLeDiff, Nat.zero_le, Nat.reduceEqDiff, Nat.reduceSub, eq_self, Nat.le_refl, ne_eq, not_false_eq_true, not_true_eq_false, i1_0, i0_1, kSm_0, kSm_1, kSm_2, kSm_3, kSm_4, x5_0, x5_1, x5_2, x5_3, x5_4, nI_1, um, um1, u9, u12, sub1, e1]
  have hd : kn 79 0 [.ref b, .ref s, .int v, .null, .null, .null, .null, .null, .null, .null, .null] [] M = kn 79 24 [.ref b, .ref s, .int v, .int (nI L.length), .null, .null, .null, .null, .null, .null, .null] [.int (nI (if blw (v >>> (13 &&& 31)) 3 = 0 then 16 else 7))] M := by
    by_cases h0 : blw (v >>> (13 &&& 31)) 3 = 0
    · have h1 : (nI (blw (v >>> (13 &&& 31)) 3) = 0) = True := by rw [h0]; exact eq_true rfl
      rw [if_pos h0, nI_16]
      simp only [k_79_0, k_79_1, k_79_4, k_79_5, k_79_6, k_79_7, k_79_9, k_79_10, k_79_11, k_79_14, k_79_17, k_79_19, sm_0, sm_c, ct_i, ct_r, ct_n, ct_l, ct_d, tl_s, tl_n, oK_s, cS_s, cI_0, cI_9, cA_s, cR_s, cQ_s, cN_i, cN_r, cO_s, rS_s, rK_s, cK_i, cK_j, cK_d, if_true, if_false, true_or, or_true, Nat.reduceAdd, Nat.reduceLeDiff, Nat.zero_le, Nat.reduceEqDiff, Nat.reduceSub, eq_self, Nat.le_refl, ne_eq, not_false_eq_true, not_true_eq_false, i1_0, i0_1, kSm_0, kSm_1, kSm_2, kSm_3, kSm_4, x5_0, x5_1, x5_2, x5_3, x5_4, q1, q2, u3, h1, not_true_eq_false]
    · have h1 : (nI (blw (v >>> (13 &&& 31)) 3) = 0) = False := eq_false (nI_ne0 (by omega) (by have := blw_lt (v := v >>> (13 &&& 31)) (n := 3) (by omega); omega))
      rw [if_neg h0, show nI 7 = 7 from rfl]
      simp only [k_79_0, k_79_1, k_79_4, k_79_5, k_79_6, k_79_7, k_79_9, k_79_10, k_79_11, k_79_14, k_79_22, sm_0, sm_c, ct_i, ct_r, ct_n, ct_l, ct_d, tl_s, tl_n, oK_s, cS_s, cI_0, cI_9, cA_s, cR_s, cQ_s, cN_i, cN_r, cO_s, rS_s, rK_s, cK_i, cK_j, cK_d, if_true, if_false, true_or, or_true, Nat.reduceAdd, Nat.reduceLeDiff, Nat.zero_le, Nat.reduceEqDiff, Nat.reduceSub, eq_self, Nat.le_refl, ne_eq, not_false_eq_true, not_true_eq_false, i1_0, i0_1, kSm_0, kSm_1, kSm_2, kSm_3, kSm_4, x5_0, x5_1, x5_2, x5_3, x5_4, q1, q2, u3, h1, not_false_eq_true]
  obtain ⟨m, hm⟩ : ∃ m, m = if blw (v >>> (13 &&& 31)) 3 = 0 then 16 else 7 := ⟨_, rfl⟩
  rw [← hm] at hd
  have hm2 : m = 16 ∨ m = 7 := by rw [hm]; split <;> simp
  have a1 := blw_lt (v := v >>> (4 &&& 31)) (n := m) (by omega)
  have a2 := blw_lt (v := v >>> (6 &&& 31)) (n := m + 1) (by omega)
  have a3 := blw_lt (v := v >>> (8 &&& 31)) (n := m + 1) (by omega)
  have a4 := blw_lt (v := v >>> (3 &&& 31)) (n := 9) (by omega)
  refine ⟨m, _, _, _, _, _, ?_, dn_P ?_, dn_P ?_, ?_, ?_, blw_lt (n := 12) (v := v) (by omega), hm2, hd.trans (key m hm2)⟩ <;> omega
theorem Fr.kt {M M' : kM} {b : Nat} {L : List Dd} {w : Int32} {kk : Nat} (h : KtI M b L w kk) (hf : Fr M M') : M'.1 b = .inr (.inr (.inr (b, 0))) ∧ b + 34 ≤ kN M' := ⟨(hf.2 b (by have := h.2.1; omega) (by rw [h.1]; rfl)).trans h.1, Nat.le_trans h.2.1 hf.1⟩
theorem LI.scr {M M' : kM} {b s n kk : Nat} {xs : Nat → Int32} {L : List Dd} {w : Int32} (h : LI M b s n xs L w kk) (hf : Fr M M') : M'.1 0 = .inl (9, n, xs) := (hf.2 0 (Nat.zero_le _) (by rw [h.1]; rfl)).trans h.1
/-- after the sim's part of an act (to M1), the kitchen's (to kV M1 b f x) -/
theorem LI.nx {M M1 : kM} {b s n kk : Nat} {xs : Nat → Int32} {L : List Dd} {w : Int32} (h : LI M b s n xs L w kk) (hf : Fr M M1) {L2 : List Dd} {w2 : Int32} {k2 x : Nat} {f : Nat → Nat → Int32} (hS : SimI M1 s L2 w2 k2) (hC : Cls f L2 w2 k2) (hw : s16 w2) (h1 : 1 ≤ k2) (h8 : k2 ≤ 8) : LI (kV M1 b f x) b s n xs L2 w2 k2 := by
  have hk := hf.kt h.2.2.1
  refine ⟨h.scr hf, h.2.1, ⟨hk.1, hk.2, ?_⟩, hS.ey (Nat.le_refl _) (fun _ _ => rfl), hw, h1, h8⟩
  show Cls (kU M1.2.1 b f b) L2 w2 k2
  rw [kU_self]
  exact hC
theorem hk_190 {b s : Nat} {v3 v4 v5 v6 v7 v2 v10 : Value} {t8 : Int32} {M : kM} : hK mr79 79 190 [.ref b, .ref s, v2, v3, v4, v5, v6, v7, .int t8, .null, v10] 2 M = kn 79 215 [.ref b, .ref s, v2, v3, v4, v5, v6, v7, .int t8, .null, v10] [] M := by
  unfold hK
  rw [show mmHf (mmOw mr79) 190 2 (mmHh mr79) = some 213 by decide +kernel]
  dsimp only
  rw [show decode (mmCd mr79) 213 = _ from dL_act_213]
  have e : mmSt1 [.ref b, .ref s, v2, v3, v4, v5, v6, v7, .int t8, .null, v10] 9 .null = some [.ref b, .ref s, v2, v3, v4, v5, v6, v7, .int t8, .null, v10] := mmSt1_ok (Nat.le_of_ble_eq_true rfl) (Or.inr rfl) rfl
  simp only [e]
theorem hk_281 {b s : Nat} {v3 v4 v5 v6 v7 v8 v2 : Value} {t9 : Int32} {M : kM} : hK mr79 79 281 [.ref b, .ref s, v2, v3, v4, v5, v6, v7, v8, .int t9, .null] 2 M = kn 79 306 [.ref b, .ref s, v2, v3, v4, v5, v6, v7, v8, .int t9, .null] [] M := by
  unfold hK
  rw [show mmHf (mmOw mr79) 281 2 (mmHh mr79) = some 304 by decide +kernel]
  dsimp only
  rw [show decode (mmCd mr79) 304 = _ from dL_act_304]
  have e : mmSt1 [.ref b, .ref s, v2, v3, v4, v5, v6, v7, v8, .int t9, .null] 10 .null = some [.ref b, .ref s, v2, v3, v4, v5, v6, v7, v8, .int t9, .null] := mmSt1_ok (Nat.le_of_ble_eq_true rfl) (Or.inr rfl) rfl
  simp only [e]
