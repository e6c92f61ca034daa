/-! the law: a round, pot by pot -/
theorem hgR_only {th : Int32} {cl po : Nat → Int32} {kk : Nat} {as : Nat → Int32} : ∀ (n : Nat), (∀ j, j < n → ∃ p, p < 16 ∧ as j = nI p ∧ bt th p = true) → ∀ (s : huT), (∀ q, q < 16 → ¬ s.1 q = -1 → bt th q = true) → ∀ q, q < 16 → ¬ (hgR cl po kk as n s).1 q = -1 → bt th q = true
  | 0, _, s, h => h
  | n + 1, hA, s, h => by
    obtain ⟨p, hp, e, ht⟩ := hA n (by omega)
    rw [hgR, e]
    refine hgR_only n (fun j hj => hA j (by omega)) _ (fun q hq hne => ?_)
    by_cases hqp : q = p
    · rw [hqp]; exact ht
    · unfold huS at hne
      rw [if_neg (by rw [p_lo (by omega)]; exact id), if_neg (by rw [p_hi hp]; exact id), nI_clamp (by omega)] at hne
      split at hne
      · exact h q hq hne
      · split at hne
        · exact h q hq hne
        · dsimp only at hne
          rw [upd_ne hqp] at hne
          exact h q hq hne
theorem HG_only {L : List Dd} {w : Int32} {kk : Nat} (hO : okL L) (hl : L.length ≤ 30) (hw : s16 w) (hk : 1 ≤ kk) (hk2 : kk ≤ 16) {q : Nat} (hq : q < 16) (h : bt (STU L w).1 q = false) : (HG L w kk).1 q = -1 := by
  obtain ⟨hA, hC⟩ := PLA_inv (L := L) (w := w) (kk := kk) hO hl hw hk hk2
  apply Classical.byContradiction
  intro hne
  have := hgR_only (th := (STU L w).1) (cl := (STU L w).2.1) (po := (STU L w).2.2.1) (kk := kk) (as := (PLA (STU L w) kk).2.2) (PLA (STU L w) kk).1 (fun j hj => by
    obtain ⟨p, hp, e, _, ht⟩ := hA.1 j hj
    exact ⟨p, hp, e, ht⟩) (n16, zf, 0) (fun q hq hne => absurd (by show n16 q = -1; unfold n16; rw [if_pos hq]) hne) q hq hne
  rw [h] at this
  cases this
/-- the hooks of a pot's rivals, as bits -/
def fiR (hk : Nat → Int32) (rv : Int32) : Nat → Int32 → Int32
  | 0, f => f
  | n + 1, f => fiR hk rv n (if bt rv (15 - n) = true then (if hk (15 - n) < 0 then f else f ||| ((1 : Int32) <<< (hk (15 - n) &&& 31))) else f)
theorem shl_bI {h : Nat} (hh : h < 16) : (1 : Int32) <<< (nI h &&& 31) = bI (nI h) := by
  unfold bI
  rw [if_neg (by rw [p_lo (by omega)]; exact id), if_neg (by rw [p_hi hh]; exact id)]
theorem bt_fiR {hk : Nat → Int32} {rv : Int32} (hK : ∀ i, i < 16 → hk i = -1 ∨ ∃ h, h < 16 ∧ hk i = nI h) {i : Nat} (hi : i < 16) : ∀ (n : Nat), n ≤ 16 → ∀ f : Int32, (bt (fiR hk rv n f) i = true ↔ (bt f i = true ∨ ∃ q, 16 - n ≤ q ∧ q < 16 ∧ bt rv q = true ∧ hk q = nI i))
  | 0, _, f => by
    rw [fiR]
    refine ⟨Or.inl, ?_⟩
    rintro (h | ⟨q, h1, h2, -⟩)
    · exact h
    · omega
  | n + 1, hn, f => by
    rw [fiR, bt_fiR hK hi n (by omega)]
    have key : (bt (if bt rv (15 - n) = true then (if hk (15 - n) < 0 then f else f ||| ((1 : Int32) <<< (hk (15 - n) &&& 31))) else f) i = true) ↔ (bt f i = true ∨ (bt rv (15 - n) = true ∧ hk (15 - n) = nI i)) := by
      by_cases hb : bt rv (15 - n) = true
      · rw [if_pos hb]
        rcases hK (15 - n) (by omega) with hm | ⟨h, hh, hm⟩
        · rw [hm, if_pos (by decide)]
          refine ⟨Or.inl, ?_⟩
          rintro (h1 | ⟨-, h1⟩)
          · exact h1
          · exact absurd h1.symm (nI_m1 hi)
        · rw [hm, if_neg (nI_pos (by omega)), shl_bI hh, b_or, bt_bI hh, Bool.or_eq_true, decide_eq_true_eq]
          refine ⟨?_, ?_⟩
          · rintro (h1 | h1)
            · exact Or.inl h1
            · exact Or.inr ⟨hb, by rw [h1]⟩
          · rintro (h1 | ⟨-, h1⟩)
            · exact Or.inl h1
            · exact Or.inr ((nI_eq (by omega) (by omega)).mp h1).symm
      · rw [if_neg hb]
        refine ⟨Or.inl, ?_⟩
        rintro (h1 | ⟨h1, -⟩)
        · exact h1
        · exact absurd h1 hb
    rw [key]
    constructor
    · rintro ((h1 | ⟨h1, h2⟩) | ⟨q, h1, h2, h3, h4⟩)
      · exact Or.inl h1
      · exact Or.inr ⟨15 - n, by omega, by omega, h1, h2⟩
      · exact Or.inr ⟨q, by omega, h2, h3, h4⟩
    · rintro (h1 | ⟨q, h1, h2, h3, h4⟩)
      · exact Or.inl (Or.inl h1)
      · by_cases hq : q = 15 - n
        · rw [hq] at h3 h4
          exact Or.inl (Or.inr ⟨h3, h4⟩)
        · exact Or.inr ⟨q, by omega, h2, h3, h4⟩
theorem s16_fiR {hk : Nat → Int32} {rv : Int32} (hK : ∀ i, i < 16 → hk i = -1 ∨ ∃ h, h < 16 ∧ hk i = nI h) : ∀ (n : Nat), n ≤ 16 → ∀ f : Int32, s16 f → s16 (fiR hk rv n f)
  | 0, _, f, h => h
  | n + 1, hn, f, h => by
    rw [fiR]
    refine s16_fiR hK n (by omega) _ ?_
    split
    · rcases hK (15 - n) (by omega) with hm | ⟨x, hx, hm⟩
      · rw [hm, if_pos (by decide)]; exact h
      · rw [hm, if_neg (nI_pos (by omega)), shl_bI hx]
        exact s16_or h (s16_bI (Or.inr ⟨x, hx, rfl⟩))
    · exact h
theorem ones : ∀ k, k < 9 → ∀ i, i < 32 → bt (((1 : Int32) <<< (nI k &&& 31)) - 1) i = decide (i < k) := by decide +kernel
theorem fiR_full {hk : Nat → Int32} {rv : Int32} {kk : Nat} (hK : KR hk kk) (hk8 : kk ≤ 8) (h : ∀ x, x < kk → ∃ j, j < 16 ∧ bt rv j = true ∧ hk j = nI x) : fiR hk rv 16 0 = ((1 : Int32) <<< (nI kk &&& 31)) - 1 := by
  have hK2 : ∀ i, i < 16 → hk i = -1 ∨ ∃ h, h < 16 ∧ hk i = nI h := fun i hi => by
    rcases hK i hi with e | ⟨x, hx, e⟩
    · exact Or.inl e
    · exact Or.inr ⟨x, by omega, e⟩
  apply b_ext
  intro i hi
  rw [ones kk (by omega) i hi]
  by_cases h16 : i < 16
  · have hb := bt_fiR (rv := rv) hK2 h16 16 (Nat.le_refl _) 0
    by_cases hik : i < kk
    · rw [decide_eq_true hik]
      obtain ⟨j, hj, h1, h2⟩ := h i hik
      exact hb.mpr (Or.inr ⟨j, by omega, hj, h1, h2⟩)
    · rw [decide_eq_false hik]
      cases hc : bt (fiR hk rv 16 0) i with
      | false => rfl
      | true =>
        rcases hb.mp hc with h1 | ⟨q, -, hq, -, h2⟩
        · rw [b_0] at h1; cases h1
        · rcases hK q hq with e | ⟨x, hx, e⟩
          · rw [e] at h2; exact absurd h2.symm (nI_m1 h16)
          · rw [e] at h2
            have := (nI_eq (show x < 2 ^ 31 by omega) (show i < 2 ^ 31 by omega)).mp h2
            omega
  · rw [decide_eq_false (by omega)]
    exact s16_fiR hK2 16 (Nat.le_refl _) 0 s16_0 i (by omega)
/-- how many hang where -/
def gaR (hk : Nat → Int32) : Nat → (Nat → Int32) → (Nat → Int32)
  | 0, f => f
  | n + 1, f => gaR hk n (if hk (15 - n) < 0 then f else upd f (hk (15 - n)).toNatClampNeg (f (hk (15 - n)).toNatClampNeg + 1))
theorem gaR_at {hk : Nat → Int32} (hK : ∀ i, i < 16 → hk i = -1 ∨ ∃ h, h < 16 ∧ hk i = nI h) {x : Nat} (hx : x < 16) : ∀ (n : Nat), n ≤ 16 → ∀ f : Nat → Int32, gaR hk n f x = fcR (fun q => decide (hk q = nI x)) n (f x)
  | 0, _, f => rfl
  | n + 1, hn, f => by
    rw [gaR, fcR, gaR_at hK hx n (by omega)]
    congr 1
    rcases hK (15 - n) (by omega) with hm | ⟨h, hh, hm⟩
    · rw [hm, if_pos (by decide), decide_eq_false (fun e => nI_m1 hx e.symm)]
      exact (Int32.add_zero _).symm
    · rw [hm, if_neg (nI_pos (by omega)), nI_clamp (by omega), nI_dec hh hx]
      by_cases hxh : x = h
      · subst hxh
        rw [upd_at]
        simp [b01]
      · rw [upd_ne hxh, decide_eq_false (fun e => hxh e.symm)]
        exact (Int32.add_zero _).symm
section
variable {M : kM} {b s n kk ca ga : Nat} {xs : Nat → Int32} {L : List Dd} {w : Int32} {p : Nat} {z3 x4 x10 x11 x12 x13 y14 y15 y16 y17 : Int32} {dg : Int64} {v19 v20 v21 v22 v23 v24 v25 : Value}
theorem p_q (h : LI M b s n xs L w kk) (hp : p < 16) : ∀ (m q : Nat), q + m = 16 → ∀ (c fi : Int32) (v25 : Value), ∃ v25', kn 82 663 [.ref 0, .ref b, .ref s, .int z3, .int x4, .int (nI L.length), .int (nI kk), .long dg, .null, .ref ca, .int x10, .int x11, .int x12, .int x13, .int y14, .int y15, .int y16, .int y17, .ref ga, .int (nI p), .int ((HG L w kk).1 p), .int (b01 (bt (STU L w).1 p)), .int c, .int fi, .int (nI q), v25] [] M = kn 82 774 [.ref 0, .ref b, .ref s, .int z3, .int x4, .int (nI L.length), .int (nI kk), .long dg, .null, .ref ca, .int x10, .int x11, .int x12, .int x13, .int y14, .int y15, .int y16, .int y17, .ref ga, .int (nI p), .int ((HG L w kk).1 p), .int (b01 (bt (STU L w).1 p)), .int (fcR (bt ((STU L w).2.1 p)) m c), .int (fiR (HG L w kk).1 ((STU L w).2.1 p) m fi), .int 16, v25'] [] M
  | 0, q, hq, c, fi, v25 => by
    obtain rfl : q = 16 := by omega
    refine ⟨v25, ?_⟩
    rw [k_82_663]
    simp only [k_82_665, k_82_667, sm_0, sm_c, ct_i, ct_r, ct_n, ct_l, ct_d, tl_s, tl_n, oK_s, cS_s, cI_0, cI_9, cA_s, cR_s, cQ_s, cN_i, cN_r, cO_s, rS_s, rK_s, cK_i, cK_j, cK_d, if_true, if_false, true_or, or_true, Nat.reduceAdd, Nat.reduceLeDiff, Nat.zero_le, Nat.reduceEqDiff, Nat.reduceSub, eq_self, Nat.le_refl, ne_eq, not_false_eq_true, not_true_eq_false, i1_0, i0_1, kSm_0, kSm_1, kSm_2, kSm_3, kSm_4, x5_0, x5_1, x5_2, x5_3, x5_4, nI_16, Int32.le_refl, fcR, fiR]
  | m + 1, q, hq, c, fi, v25 => by
    have hb := h.2.2.1.1
    have hK := h.2.2.1.2.2
    have hlen := h.2.2.2.1.len
    have hO := h.2.2.2.1.ok
    obtain ⟨hw, hk1, hk8⟩ := h.2.2.2.2
    have hq16 : q < 16 := by omega
    have e : ((16 : Int32) ≤ nI q) = False := p_hi hq16
    have u1 := s_34 (kk := kk) hp hq16 (M := (M.2.1 b, zL)) hK
    have u2 := s_34 (kk := kk) hq16 hp (M := (M.2.1 b, zL)) hK
    rw [cl_sym (w := w) hO hq16 hp] at u2
    have u3 : rn none 35 0 [.ref 0, .int (nI q), .int 3] [] (M.2.1 b, zL) = some (.inl (some (.int ((HG L w kk).1 q))), (M.2.1 b, zL)) := s_35 hq16 (j := 3) (by omega) (M := (M.2.1 b, zL)) hK
    have n10 : ((1 : Int32) = 0) = False := by decide
    rw [fcR, fiR, show 15 - m = q by omega]
    have s1 : kn 82 663 [.ref 0, .ref b, .ref s, .int z3, .int x4, .int (nI L.length), .int (nI kk), .long dg, .null, .ref ca, .int x10, .int x11, .int x12, .int x13, .int y14, .int y15, .int y16, .int y17, .ref ga, .int (nI p), .int ((HG L w kk).1 p), .int (b01 (bt (STU L w).1 p)), .int c, .int fi, .int (nI q), v25] [] M = kn 82 709 [.ref 0, .ref b, .ref s, .int z3, .int x4, .int (nI L.length), .int (nI kk), .long dg, .null, .ref ca, .int x10, .int x11, .int x12, .int x13, .int y14, .int y15, .int y16, .int y17, .ref ga, .int (nI p), .int ((HG L w kk).1 p), .int (b01 (bt (STU L w).1 p)), .int c, .int fi, .int (nI q), v25] [] M := by
      rw [k_82_663]
      by_cases hpq : p = q
      · subst hpq
        rw [cl_irr (w := w) hO hp] at u1 u2
        simp only [k_82_665, k_82_667, k_82_670, k_82_671, k_82_673, k_82_675, k_82_678, k_82_679, k_82_681, k_82_683, k_82_686, k_82_689, k_82_691, k_82_693, k_82_696, k_82_697, k_82_699, k_82_701, k_82_704, sm_0, sm_c, ct_i, ct_r, ct_n, ct_l, ct_d, tl_s, tl_n, oK_s, cS_s, cI_0, cI_9, cA_s, cR_s, cQ_s, cN_i, cN_r, cO_s, rS_s, rK_s, cK_i, cK_j, cK_d, if_true, if_false, true_or, or_true, Nat.reduceAdd, Nat.reduceLeDiff, Nat.zero_le, Nat.reduceEqDiff, Nat.reduceSub, eq_self, Nat.le_refl, ne_eq, not_false_eq_true, not_true_eq_false, i1_0, i0_1, kSm_0, kSm_1, kSm_2, kSm_3, kSm_4, x5_0, x5_1, x5_2, x5_3, x5_4, e, hb, u1, u2, kV_id, b01, Bool.false_eq_true]
      · have hne : (nI p = nI q) = False := eq_false (fun hh => hpq ((nI_eq (by omega) (by omega)).mp hh))
        simp only [k_82_665, k_82_667, k_82_670, k_82_671, k_82_673, k_82_675, k_82_678, k_82_679, k_82_681, k_82_683, k_82_686, k_82_689, k_82_691, k_82_693, sm_0, sm_c, ct_i, ct_r, ct_n, ct_l, ct_d, tl_s, tl_n, oK_s, cS_s, cI_0, cI_9, cA_s, cR_s, cQ_s, cN_i, cN_r, cO_s, rS_s, rK_s, cK_i, cK_j, cK_d, if_true, if_false, true_or, or_true, Nat.reduceAdd, Nat.reduceLeDiff, Nat.zero_le, Nat.reduceEqDiff, Nat.reduceSub, eq_self, Nat.le_refl, ne_eq, not_false_eq_true, not_true_eq_false, i1_0, i0_1, kSm_0, kSm_1, kSm_2, kSm_3, kSm_4, x5_0, x5_1, x5_2, x5_3, x5_4, e, hb, u1, u2, kV_id, hne]
    have fin : ∀ v fi c, kn 82 768 [.ref 0, .ref b, .ref s, .int z3, .int x4, .int (nI L.length), .int (nI kk), .long dg, .null, .ref ca, .int x10, .int x11, .int x12, .int x13, .int y14, .int y15, .int y16, .int y17, .ref ga, .int (nI p), .int ((HG L w kk).1 p), .int (b01 (bt (STU L w).1 p)), .int c, .int fi, .int (nI q), v] [] M = kn 82 663 [.ref 0, .ref b, .ref s, .int z3, .int x4, .int (nI L.length), .int (nI kk), .long dg, .null, .ref ca, .int x10, .int x11, .int x12, .int x13, .int y14, .int y15, .int y16, .int y17, .ref ga, .int (nI p), .int ((HG L w kk).1 p), .int (b01 (bt (STU L w).1 p)), .int c, .int fi, .int (nI (q + 1)), v] [] M := fun v fi c => by
      rw [k_82_768 (ct_i _), k_82_771, nI_1]
    rw [s1]
    cases hc : bt ((STU L w).2.1 p) q with
    | false =>
      rw [hc] at u1
      obtain ⟨w25, ih⟩ := p_q h hp m (q + 1) (by omega) c fi v25
      refine ⟨w25, ?_⟩
      have : c + b01 false = c := Int32.add_zero c
      rw [this, if_neg (by decide), ← ih, ← fin]
      simp only [k_82_709, k_82_710, k_82_712, k_82_714, k_82_717, k_82_720, sm_0, sm_c, ct_i, ct_r, ct_n, ct_l, ct_d, tl_s, tl_n, oK_s, cS_s, cI_0, cI_9, cA_s, cR_s, cQ_s, cN_i, cN_r, cO_s, rS_s, rK_s, cK_i, cK_j, cK_d, if_true, if_false, true_or, or_true, Nat.reduceAdd, Nat.reduceLeDiff, Nat.zero_le, Nat.reduceEqDiff, Nat.reduceSub, eq_self, Nat.le_refl, ne_eq, not_false_eq_true, not_true_eq_false, i1_0, i0_1, kSm_0, kSm_1, kSm_2, kSm_3, kSm_4, x5_0, x5_1, x5_2, x5_3, x5_4, hb, u1, kV_id, b01, Bool.false_eq_true]
    | true =>
      rw [hc] at u1
      have hth := cl_th (w := w) hO hp hq16 hc
      obtain ⟨w25, ih⟩ := p_q h hp m (q + 1) (by omega) (c + 1) (if (HG L w kk).1 q < 0 then fi else fi ||| ((1 : Int32) <<< ((HG L w kk).1 q &&& 31))) (.int ((HG L w kk).1 q))
      refine ⟨w25, ?_⟩
      have : c + b01 true = c + 1 := rfl
      rw [this, if_pos rfl, ← ih, ← fin]
      have s2 : kn 82 709 [.ref 0, .ref b, .ref s, .int z3, .int x4, .int (nI L.length), .int (nI kk), .long dg, .null, .ref ca, .int x10, .int x11, .int x12, .int x13, .int y14, .int y15, .int y16, .int y17, .ref ga, .int (nI p), .int ((HG L w kk).1 p), .int (b01 (bt (STU L w).1 p)), .int c, .int fi, .int (nI q), v25] [] M = kn 82 749 [.ref 0, .ref b, .ref s, .int z3, .int x4, .int (nI L.length), .int (nI kk), .long dg, .null, .ref ca, .int x10, .int x11, .int x12, .int x13, .int y14, .int y15, .int y16, .int y17, .ref ga, .int (nI p), .int ((HG L w kk).1 p), .int (b01 (bt (STU L w).1 p)), .int (c + 1), .int (if (HG L w kk).1 q < 0 then fi else fi ||| ((1 : Int32) <<< ((HG L w kk).1 q &&& 31))), .int (nI q), .int ((HG L w kk).1 q)] [] M := by
        simp only [k_82_709, k_82_710, k_82_712, k_82_714, k_82_717, sm_0, sm_c, ct_i, ct_r, ct_n, ct_l, ct_d, tl_s, tl_n, oK_s, cS_s, cI_0, cI_9, cA_s, cR_s, cQ_s, cN_i, cN_r, cO_s, rS_s, rK_s, cK_i, cK_j, cK_d, if_true, if_false, true_or, or_true, Nat.reduceAdd, Nat.reduceLeDiff, Nat.zero_le, Nat.reduceEqDiff, Nat.reduceSub, eq_self, Nat.le_refl, ne_eq, not_false_eq_true, not_true_eq_false, i1_0, i0_1, kSm_0, kSm_1, kSm_2, kSm_3, kSm_4, x5_0, x5_1, x5_2, x5_3, x5_4, hb, u1, kV_id, b01, n10]
        rw [k_82_723 (ct_i _)]
        simp only [k_82_726, k_82_727, k_82_729, k_82_730, sm_0, sm_c, ct_i, ct_r, ct_n, ct_l, ct_d, tl_s, tl_n, oK_s, cS_s, cI_0, cI_9, cA_s, cR_s, cQ_s, cN_i, cN_r, cO_s, rS_s, rK_s, cK_i, cK_j, cK_d, if_true, if_false, true_or, or_true, Nat.reduceAdd, Nat.reduceLeDiff, Nat.zero_le, Nat.reduceEqDiff, Nat.reduceSub, eq_self, Nat.le_refl, ne_eq, not_false_eq_true, not_true_eq_false, i1_0, i0_1, kSm_0, kSm_1, kSm_2, kSm_3, kSm_4, x5_0, x5_1, x5_2, x5_3, x5_4, hb, u3, kV_id]
        rw [k_82_733 (ct_i _)]
        by_cases hn : (HG L w kk).1 q < 0
        · rw [if_pos hn]
          have hn := eq_true hn
          simp only [k_82_735, k_82_737, sm_0, sm_c, ct_i, ct_r, ct_n, ct_l, ct_d, tl_s, tl_n, oK_s, cS_s, cI_0, cI_9, cA_s, cR_s, cQ_s, cN_i, cN_r, cO_s, rS_s, rK_s, cK_i, cK_j, cK_d, if_true, if_false, true_or, or_true, Nat.reduceAdd, Nat.reduceLeDiff, Nat.zero_le, Nat.reduceEqDiff, Nat.reduceSub, eq_self, Nat.le_refl, ne_eq, not_false_eq_true, not_true_eq_false, i1_0, i0_1, kSm_0, kSm_1, kSm_2, kSm_3, kSm_4, x5_0, x5_1, x5_2, x5_3, x5_4, hn]
        · rw [if_neg hn]
          have hn := eq_false hn
          simp only [k_82_735, k_82_737, k_82_740, k_82_742, k_82_743, k_82_745, k_82_746, sm_0, sm_c, ct_i, ct_r, ct_n, ct_l, ct_d, tl_s, tl_n, oK_s, cS_s, cI_0, cI_9, cA_s, cR_s, cQ_s, cN_i, cN_r, cO_s, rS_s, rK_s, cK_i, cK_j, cK_d, if_true, if_false, true_or, or_true, Nat.reduceAdd, Nat.reduceLeDiff, Nat.zero_le, Nat.reduceEqDiff, Nat.reduceSub, eq_self, Nat.le_refl, ne_eq, not_false_eq_true, not_true_eq_false, i1_0, i0_1, kSm_0, kSm_1, kSm_2, kSm_3, kSm_4, x5_0, x5_1, x5_2, x5_3, x5_4, hn]
          rw [k_82_747 (ct_i _)]
      rw [s2]
      have hth1 : b01 (bt (STU L w).1 p) = 1 := by rw [hth]; rfl
      by_cases hn : (HG L w kk).1 p < 0
      · have hn := eq_true hn
        simp only [k_82_749, k_82_751, k_82_754, k_82_756, k_82_758, k_82_761, k_82_763, sm_0, sm_c, ct_i, ct_r, ct_n, ct_l, ct_d, tl_s, tl_n, oK_s, cS_s, cI_0, cI_9, cA_s, cR_s, cQ_s, cN_i, cN_r, cO_s, rS_s, rK_s, cK_i, cK_j, cK_d, if_true, if_false, true_or, or_true, Nat.reduceAdd, Nat.reduceLeDiff, Nat.zero_le, Nat.reduceEqDiff, Nat.reduceSub, eq_self, Nat.le_refl, ne_eq, not_false_eq_true, not_true_eq_false, i1_0, i0_1, kSm_0, kSm_1, kSm_2, kSm_3, kSm_4, x5_0, x5_1, x5_2, x5_3, x5_4, hn, hth1, n10]
      · have hV := (HG_V (L := L) (w := w) (kk := kk) hO hlen hw hk1 (by omega)).1 p q hp hq16 hc
        have hne : ((HG L w kk).1 p = (HG L w kk).1 q) = False := eq_false (fun hh => hn (by rw [hV hh]; decide))
        have hn := eq_false hn
        simp only [k_82_749, k_82_751, k_82_754, k_82_756, k_82_758, k_82_761, k_82_763, sm_0, sm_c, ct_i, ct_r, ct_n, ct_l, ct_d, tl_s, tl_n, oK_s, cS_s, cI_0, cI_9, cA_s, cR_s, cQ_s, cN_i, cN_r, cO_s, rS_s, rK_s, cK_i, cK_j, cK_d, if_true, if_false, true_or, or_true, Nat.reduceAdd, Nat.reduceLeDiff, Nat.zero_le, Nat.reduceEqDiff, Nat.reduceSub, eq_self, Nat.le_refl, ne_eq, not_false_eq_true, not_true_eq_false, i1_0, i0_1, kSm_0, kSm_1, kSm_2, kSm_3, kSm_4, x5_0, x5_1, x5_2, x5_3, x5_4, hn, hne, hth1, n10]
/-- a pot's round: the checks -/
theorem p_chk (h : LI M b s n xs L w kk) (hp : p < 16) (hca : M.1 ca = .inl (0, 16, (STU L w).2.2.2)) {fi : Int32} : kn 82 774 [.ref 0, .ref b, .ref s, .int z3, .int x4, .int (nI L.length), .int (nI kk), .long dg, .null, .ref ca, .int x10, .int x11, .int x12, .int x13, .int y14, .int y15, .int y16, .int y17, .ref ga, .int (nI p), .int ((HG L w kk).1 p), .int (b01 (bt (STU L w).1 p)), .int (bc ((STU L w).2.1 p)), .int fi, .int 16, v25] [] M = kn 82 894 [.ref 0, .ref b, .ref s, .int z3, .int x4, .int (nI L.length), .int (nI kk), .long dg, .null, .ref ca, .int x10, .int x11, .int x12, .int x13, .int (y14 + b01 (bt (STU L w).1 p)), .int y15, .int y16, .int (y17 + bc ((STU L w).2.1 p)), .ref ga, .int (nI p), .int ((HG L w kk).1 p), .int (b01 (bt (STU L w).1 p)), .int (bc ((STU L w).2.1 p)), .int fi, .int 16, v25] [] M := by
  have hb := h.2.2.1.1
  have hK := h.2.2.1.2.2
  have hlen := h.2.2.2.1.len
  have hO := h.2.2.2.1.ok
  obtain ⟨hw, hk1, hk8⟩ := h.2.2.2.2
  have hx := x16_16 hp
  have n10 : ((1 : Int32) = 0) = False := by decide
  have n01 : ((0 : Int32) = 1) = False := by decide
  have n11 : ((1 : Int32) = 1) = True := eq_true rfl
  have n00 : ((0 : Int32) < 0) = False := by decide
  have u1 : rn none 35 0 [.ref 0, .int (nI p), .int 1] [] (M.2.1 b, zL) = some (.inl (some (.int ((STU L w).2.2.2 p))), (M.2.1 b, zL)) := s_35 hp (j := 1) (by omega) (M := (M.2.1 b, zL)) hK
  have u2 : rn none 35 0 [.ref 0, .int (nI p), .int 2] [] (M.2.1 b, zL) = some (.inl (some (.int (bc ((STU L w).2.1 p)))), (M.2.1 b, zL)) := s_35 hp (j := 2) (by omega) (M := (M.2.1 b, zL)) hK
  have u4 : rn none 35 0 [.ref 0, .int (nI p), .int 4] [] (M.2.1 b, zL) = some (.inl (some (.int (PL L w kk p))), (M.2.1 b, zL)) := s_35 hp (j := 4) (by omega) (M := (M.2.1 b, zL)) hK
  have u5 : rn none 35 0 [.ref 0, .int (nI p), .int 5] [] (M.2.1 b, zL) = some (.inl (some (.int (b01 (bt (HG L w kk).2.2 p)))), (M.2.1 b, zL)) := s_35 hp (j := 5) (by omega) (M := (M.2.1 b, zL)) hK
  have hkk : (nI kk ≤ (HG L w kk).1 p) = False := by
    rcases HG_KR hO hlen hw hk1 (show kk ≤ 16 by omega) p hp with e | ⟨x, hx, e⟩
    · rw [e]
      exact eq_false (Int32.not_le.mpr (Int32.lt_of_lt_of_le (show (-1 : Int32) < 0 by decide) (Int32.not_lt.mp (nI_pos (by omega)))))
    · rw [e]
      exact eq_false (nI_ge hx (by omega))
  have hf := fl_hand (w := w) hO hlen hw hk1 (show kk ≤ 16 by omega) hp
  cases hth : bt (STU L w).1 p with
  | false =>
    have hm := HG_only hO hlen hw hk1 (show kk ≤ 16 by omega) hp hth
    have hpl : ((0 : Int32) ≤ PL L w kk p) = False := eq_false (fun hh => by
      rw [PL_pos hO hlen hw hk1 (show kk ≤ 16 by omega) hp, hth] at hh
      cases hh)
    have hco := co_no (w := w) hO hp hth
    rw [hco] at u1
    rw [hth] at hf
    have hf : bt (HG L w kk).2.2 p = false := hf
    rw [hf] at u5
    rw [hm] at hkk ⊢
    have i01 : ((0 : Int32) ≤ -1) = False := by decide
    simp only [k_82_774, k_82_776, k_82_778, k_82_781, k_82_782, k_82_785, k_82_786, sm_0, sm_c, ct_i, ct_r, ct_n, ct_l, ct_d, tl_s, tl_n, oK_s, cS_s, cI_0, cI_9, cA_s, cR_s, cQ_s, cN_i, cN_r, cO_s, rS_s, rK_s, cK_i, cK_j, cK_d, if_true, if_false, true_or, or_true, Nat.reduceAdd, Nat.reduceLeDiff, Nat.zero_le, Nat.reduceEqDiff, Nat.reduceSub, eq_self, Nat.le_refl, ne_eq, not_false_eq_true, not_true_eq_false, i1_0, i0_1, kSm_0, kSm_1, kSm_2, kSm_3, kSm_4, x5_0, x5_1, x5_2, x5_3, x5_4, b01, Bool.false_eq_true, Int32.add_zero]
    rw [k_82_787 (ct_i _)]
    simp only [k_82_789, k_82_791, k_82_793, sm_0, sm_c, ct_i, ct_r, ct_n, ct_l, ct_d, tl_s, tl_n, oK_s, cS_s, cI_0, cI_9, cA_s, cR_s, cQ_s, cN_i, cN_r, cO_s, rS_s, rK_s, cK_i, cK_j, cK_d, if_true, if_false, true_or, or_true, Nat.reduceAdd, Nat.reduceLeDiff, Nat.zero_le, Nat.reduceEqDiff, Nat.reduceSub, eq_self, Nat.le_refl, ne_eq, not_false_eq_true, not_true_eq_false, i1_0, i0_1, kSm_0, kSm_1, kSm_2, kSm_3, kSm_4, x5_0, x5_1, x5_2, x5_3, x5_4]
    rw [k_82_794 (ct_i _)]
    simp only [k_82_796, k_82_798, k_82_800, k_82_803, k_82_805, k_82_808, k_82_810, k_82_813, k_82_814, k_82_816, k_82_817, k_82_820, k_82_823, k_82_825, k_82_827, k_82_828, k_82_831, k_82_832, k_82_834, k_82_835, k_82_838, k_82_840, k_82_842, k_82_843, k_82_846, k_82_847, k_82_849, k_82_850, k_82_853, k_82_855, k_82_858, k_82_859, k_82_861, k_82_862, k_82_865, k_82_866, k_82_869, k_82_870, k_82_873, k_82_874, k_82_876, k_82_888, k_82_889, sm_0, sm_c, ct_i, ct_r, ct_n, ct_l, ct_d, tl_s, tl_n, oK_s, cS_s, cI_0, cI_9, cA_s, cR_s, cQ_s, cN_i, cN_r, cO_s, rS_s, rK_s, cK_i, cK_j, cK_d, if_true, if_false, true_or, or_true, Nat.reduceAdd, Nat.reduceLeDiff, Nat.zero_le, Nat.reduceEqDiff, Nat.reduceSub, eq_self, Nat.le_refl, ne_eq, not_false_eq_true, not_true_eq_false, i1_0, i0_1, kSm_0, kSm_1, kSm_2, kSm_3, kSm_4, x5_0, x5_1, x5_2, x5_3, x5_4, b01, Bool.false_eq_true, hkk, i01, hb, u1, u2, u4, u5, kV_id, hpl, hca, hx, hco, n00, n01]
  | true =>
    rw [hth, Bool.true_and] at hf
    simp only [k_82_774, k_82_776, k_82_778, k_82_781, k_82_782, k_82_785, k_82_786, sm_0, sm_c, ct_i, ct_r, ct_n, ct_l, ct_d, tl_s, tl_n, oK_s, cS_s, cI_0, cI_9, cA_s, cR_s, cQ_s, cN_i, cN_r, cO_s, rS_s, rK_s, cK_i, cK_j, cK_d, if_true, if_false, true_or, or_true, Nat.reduceAdd, Nat.reduceLeDiff, Nat.zero_le, Nat.reduceEqDiff, Nat.reduceSub, eq_self, Nat.le_refl, ne_eq, not_false_eq_true, not_true_eq_false, i1_0, i0_1, kSm_0, kSm_1, kSm_2, kSm_3, kSm_4, x5_0, x5_1, x5_2, x5_3, x5_4, b01, n10]
    rw [k_82_787 (ct_i _)]
    simp only [k_82_789, k_82_791, k_82_793, sm_0, sm_c, ct_i, ct_r, ct_n, ct_l, ct_d, tl_s, tl_n, oK_s, cS_s, cI_0, cI_9, cA_s, cR_s, cQ_s, cN_i, cN_r, cO_s, rS_s, rK_s, cK_i, cK_j, cK_d, if_true, if_false, true_or, or_true, Nat.reduceAdd, Nat.reduceLeDiff, Nat.zero_le, Nat.reduceEqDiff, Nat.reduceSub, eq_self, Nat.le_refl, ne_eq, not_false_eq_true, not_true_eq_false, i1_0, i0_1, kSm_0, kSm_1, kSm_2, kSm_3, kSm_4, x5_0, x5_1, x5_2, x5_3, x5_4]
    rw [k_82_794 (ct_i _)]
    by_cases hn : (HG L w kk).1 p < 0
    · rw [decide_eq_true hn] at hf
      rw [hf] at u5
      have hn2 : ((0 : Int32) ≤ (HG L w kk).1 p) = False := eq_false (Int32.not_le.mpr hn)
      simp only [k_82_796, k_82_798, k_82_800, k_82_803, k_82_805, k_82_831, k_82_832, k_82_834, k_82_835, k_82_838, k_82_840, k_82_842, k_82_843, k_82_846, k_82_847, k_82_849, k_82_850, k_82_853, k_82_855, k_82_858, k_82_859, k_82_861, k_82_862, k_82_865, k_82_866, k_82_869, k_82_870, k_82_873, k_82_874, k_82_876, k_82_879, k_82_881, k_82_884, k_82_885, k_82_888, k_82_889, sm_0, sm_c, ct_i, ct_r, ct_n, ct_l, ct_d, tl_s, tl_n, oK_s, cS_s, cI_0, cI_9, cA_s, cR_s, cQ_s, cN_i, cN_r, cO_s, rS_s, rK_s, cK_i, cK_j, cK_d, if_true, if_false, true_or, or_true, Nat.reduceAdd, Nat.reduceLeDiff, Nat.zero_le, Nat.reduceEqDiff, Nat.reduceSub, eq_self, Nat.le_refl, ne_eq, not_false_eq_true, not_true_eq_false, i1_0, i0_1, kSm_0, kSm_1, kSm_2, kSm_3, kSm_4, x5_0, x5_1, x5_2, x5_3, x5_4, b01, n10, n11, hkk, hb, u1, u2, u5, kV_id, hca, hx, hn2]
    · rw [decide_eq_false hn] at hf
      rw [hf] at u5
      have hn2 : ((0 : Int32) ≤ (HG L w kk).1 p) = True := eq_true (Int32.not_lt.mp hn)
      simp only [k_82_796, k_82_798, k_82_800, k_82_803, k_82_805, k_82_831, k_82_832, k_82_834, k_82_835, k_82_838, k_82_840, k_82_842, k_82_843, k_82_846, k_82_847, k_82_849, k_82_850, k_82_853, k_82_855, k_82_858, k_82_859, k_82_861, k_82_862, k_82_865, k_82_866, k_82_869, k_82_870, k_82_873, k_82_874, k_82_876, k_82_879, k_82_881, k_82_884, k_82_885, k_82_888, k_82_889, sm_0, sm_c, ct_i, ct_r, ct_n, ct_l, ct_d, tl_s, tl_n, oK_s, cS_s, cI_0, cI_9, cA_s, cR_s, cQ_s, cN_i, cN_r, cO_s, rS_s, rK_s, cK_i, cK_j, cK_d, if_true, if_false, true_or, or_true, Nat.reduceAdd, Nat.reduceLeDiff, Nat.zero_le, Nat.reduceEqDiff, Nat.reduceSub, eq_self, Nat.le_refl, ne_eq, not_false_eq_true, not_true_eq_false, i1_0, i0_1, kSm_0, kSm_1, kSm_2, kSm_3, kSm_4, x5_0, x5_1, x5_2, x5_3, x5_4, b01, n10, n01, Bool.false_eq_true, hkk, hb, u1, u2, u5, kV_id, hca, hx, hn2]
end
