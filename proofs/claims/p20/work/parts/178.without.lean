/-! the law: a kitchen without one deed -/
theorem kV_1 {M : kM} {b x : Nat} {f : Nat → Nat → Int32} : (kV M b f x).1 = M.1 := rfl
theorem kV_at {M : kM} {b x : Nat} {f : Nat → Nat → Int32} : (kV M b f x).2.1 b = f := kU_self _ _ _
theorem kV_ne {M : kM} {b c x : Nat} {f : Nat → Nat → Int32} (h : c ≠ b) : (kV M b f x).2.1 c = M.2.1 c := kU_ne h
theorem KtI.v {M : kM} {b kk k2 x : Nat} {L L2 : List Dd} {w w2 : Int32} {f : Nat → Nat → Int32} (h : KtI M b L w kk) (hf : Cls f L2 w2 k2) : KtI (kV M b f x) b L2 w2 k2 := ⟨h.1, h.2.1, by rw [kV_at]; exact hf⟩
theorem KtI.vn {M : kM} {b c kk x : Nat} {L : List Dd} {w : Int32} {f : Nat → Nat → Int32} (h : KtI M c L w kk) (hc : c ≠ b) : KtI (kV M b f x) c L w kk := ⟨h.1, h.2.1, by rw [kV_ne hc]; exact h.2.2⟩
def K2 (M : kM) (b s n : Nat) (xs : Nat → Int32) (L : List Dd) (w : Int32) (kk b2 : Nat) (L2 : List Dd) (w2 : Int32) (k2 : Nat) : Prop := LI M b s n xs L w kk ∧ KtI M b2 L2 w2 k2 ∧ b2 ≠ b
theorem K2.u2 {M : kM} {b s n kk b2 k2 k3 x : Nat} {xs : Nat → Int32} {L L2 L3 : List Dd} {w w2 w3 : Int32} {f : Nat → Nat → Int32} (h : K2 M b s n xs L w kk b2 L2 w2 k2) (hf : Cls f L3 w3 k3) : K2 (kV M b2 f x) b s n xs L w kk b2 L3 w3 k3 := by
  obtain ⟨⟨h1, h2, h3, h4, h5⟩, h6, h7⟩ := h
  exact ⟨⟨h1, h2, h3.vn (Ne.symm h7), h4.ey (Nat.le_refl _) (fun _ _ => rfl), h5⟩, h6.v hf, h7⟩
theorem take_dd {L : List Dd} {i : Nat} (hi : i < L.length) : L.take (i + 1) = L.take i ++ [dd L i] := by
  rw [List.take_succ]
  congr 1
  unfold dd
  rw [List.getD_eq_getElem?_getD, List.getElem?_eq_getElem hi]
  rfl
theorem erase_take {L : List Dd} {d i : Nat} (hi : i < L.length) : (L.take (i + 1)).eraseIdx d = if i = d then (L.take i).eraseIdx d else (L.take i).eraseIdx d ++ [dd L i] := by
  have hl : (L.take i).length = i := by rw [List.length_take]; omega
  rw [take_dd hi]
  by_cases h1 : i = d
  · subst h1
    rw [if_pos rfl, List.eraseIdx_append_of_length_le (by omega), hl, Nat.sub_self]
    rw [List.eraseIdx_of_length_le (l := L.take i) (by omega)]
    simp
  · rw [if_neg h1]
    by_cases h2 : d < i
    · rw [List.eraseIdx_append_of_lt_length (by omega)]
    · rw [List.eraseIdx_append_of_length_le (by omega), hl, List.eraseIdx_of_length_le (l := L.take i) (by omega)]
      rw [List.eraseIdx_of_length_le (by simp; omega)]
theorem okD.w {d : Dd} (h : okD d) : potB d.1 = true ∧ ponB d.2.1 = true ∧ ponB d.2.2.1 = true ∧ wtB d.2.2.2.1 = true := by
  obtain ⟨⟨p, hp, e⟩, h2, h3, ⟨t, t1, t9, e4⟩, -⟩ := h
  exact ⟨by rw [e]; exact potB_p hp, ponB_i h2, ponB_i h3, by rw [e4]; exact wtB_n t1 t9⟩
section
variable {b s n kk b2 d : Nat} {xs : Nat → Int32} {L : List Dd} {w : Int32}
theorem l1_k83 (hd : d < L.length) : ∀ (j i : Nat), i + j = L.length → ∀ (M : kM) (v4 : Value), K2 M b s n xs L w kk b2 ((L.take i).eraseIdx d) 0 kk → ∃ M2, kn 83 20 [.ref b, .int (nI d), .ref b2, .int (nI i), v4] [] M = kn 83 108 [.ref b, .int (nI d), .ref b2, .int (nI L.length), v4] [] M2 ∧ K2 M2 b s n xs L w kk b2 (L.eraseIdx d) 0 kk ∧ kCs M2 = kCs M ∧ kSs M2 = kSs M
  | 0, i, hi, M, v4, h => by
    obtain rfl : i = L.length := by omega
    rw [List.take_length] at h
    refine ⟨M, ?_, h, rfl, rfl⟩
    have hb := h.1.2.2.1.1
    have u0 : rn none 36 0 [.ref 0, .int 0] [] (M.2.1 b, zL) = some (.inl (some (.int (nI L.length))), (M.2.1 b, zL)) := s_36 (j := 0) (by omega) (M := (M.2.1 b, zL)) h.1.2.2.1.2.2
    rw [k_83_20]
    simp only [k_83_21, k_83_22, k_83_23, k_83_26, sm_0, sm_c, ct_i, ct_r, ct_n, ct_l, ct_d, tl_s, tl_n, oK_s, cS_s, cI_0, cI_9, cA_s, cR_s, cQ_s, cN_i, cN_r, cO_s, rS_s, rK_s, cK_i, cK_j, cK_d, if_true, if_false, true_or, or_true, Nat.reduceAdd, Nat.reduceLeDiff, Nat.zero_le, Nat.reduceEqDiff, Nat.reduceSub, eq_self, Nat.le_refl, ne_eq, not_false_eq_true, not_true_eq_false, i1_0, i0_1, kSm_0, kSm_1, kSm_2, kSm_3, kSm_4, x5_0, x5_1, x5_2, x5_3, x5_4, hb, u0, kV_id, Int32.le_refl]
  | j + 1, i, hi, M, v4, h => by
    have hb := h.1.2.2.1.1
    have hK := h.1.2.2.1.2.2
    have hb2 := h.2.1.1
    have hK2 := h.2.1.2.2
    have hk8 := h.1.2.2.2.2.2.2
    have hlen := h.1.2.2.2.1.len
    have hil : i < L.length := by omega
    have u36 : rn none 36 0 [.ref 0, .int 0] [] (M.2.1 b, zL) = some (.inl (some (.int (nI L.length))), (M.2.1 b, zL)) := s_36 (j := 0) (by omega) (M := (M.2.1 b, zL)) hK
    have hle : (nI L.length ≤ nI i) = False := eq_false (nI_ge hil (by omega))
    have u0 : rn none 32 0 [.ref 0, .int (nI i), .int 0] [] (M.2.1 b, zL) = some (.inl (some (.int (dd L i).1)), (M.2.1 b, zL)) := s_32 hil (j := 0) (by omega) (M := (M.2.1 b, zL)) hK
    have u1 : rn none 32 0 [.ref 0, .int (nI i), .int 1] [] (M.2.1 b, zL) = some (.inl (some (.int (dd L i).2.1)), (M.2.1 b, zL)) := s_32 hil (j := 1) (by omega) (M := (M.2.1 b, zL)) hK
    have u2 : rn none 32 0 [.ref 0, .int (nI i), .int 2] [] (M.2.1 b, zL) = some (.inl (some (.int (dd L i).2.2.1)), (M.2.1 b, zL)) := s_32 hil (j := 2) (by omega) (M := (M.2.1 b, zL)) hK
    have u3 : rn none 32 0 [.ref 0, .int (nI i), .int 3] [] (M.2.1 b, zL) = some (.inl (some (.int (dd L i).2.2.2.1)), (M.2.1 b, zL)) := s_32 hil (j := 3) (by omega) (M := (M.2.1 b, zL)) hK
    have u4 : rn none 32 0 [.ref 0, .int (nI i), .int 4] [] (M.2.1 b, zL) = some (.inl (some (.int (dd L i).2.2.2.2)), (M.2.1 b, zL)) := s_32 hil (j := 4) (by omega) (M := (M.2.1 b, zL)) hK
    have hET := erase_take (d := d) hil
    by_cases hid : i = d
    · rw [if_pos hid] at hET
      obtain ⟨M2, e, r⟩ := l1_k83 hd j (i + 1) (by omega) M v4 (by rw [hET]; exact h)
      refine ⟨M2, ?_, r⟩
      rw [← e, k_83_20]
      have hq : (nI i = nI d) = True := by rw [hid]; exact eq_true rfl
      simp only [k_83_21, k_83_22, k_83_23, k_83_26, k_83_29, k_83_30, k_83_31, k_83_34, sm_0, sm_c, ct_i, ct_r, ct_n, ct_l, ct_d, tl_s, tl_n, oK_s, cS_s, cI_0, cI_9, cA_s, cR_s, cQ_s, cN_i, cN_r, cO_s, rS_s, rK_s, cK_i, cK_j, cK_d, if_true, if_false, true_or, or_true, Nat.reduceAdd, Nat.reduceLeDiff, Nat.zero_le, Nat.reduceEqDiff, Nat.reduceSub, eq_self, Nat.le_refl, ne_eq, not_false_eq_true, not_true_eq_false, i1_0, i0_1, kSm_0, kSm_1, kSm_2, kSm_3, kSm_4, x5_0, x5_1, x5_2, x5_3, x5_4, hb, u36, kV_id, hle, hq]
      rw [k_83_102 (ct_r _), k_83_105, nI_1]
    · rw [if_neg hid] at hET
      have hq : (nI i = nI d) = False := eq_false (fun e => hid ((nI_eq (by omega) (by omega)).mp e))
      have hlt : ((L.take i).eraseIdx d).length < 30 := by
        have h1 := List.length_eraseIdx_le (L.take i) d
        have h2 : (L.take i).length ≤ i := by rw [List.length_take]; omega
        omega
      have hok := h.1.2.2.2.1.ok (dd L i) (dd_mem hil)
      obtain ⟨o1, o2, o3, o4⟩ := hok.w
      by_cases h5 : (dd L i).2.2.2.2 = 1
      · obtain ⟨-, hu1, hu2⟩ := hok.2.2.2.2.resolve_left (by rw [h5]; decide)
        have hpot : potB (dd L i).2.1 = true := by obtain ⟨u, hu, e⟩ := hu1; rw [e]; exact potB_p hu
        obtain ⟨f', u28, c28, -⟩ := s_28 (kk := kk) (by omega) (M := (M.2.1 b2, zL)) hK2 o1 hpot o4 hlt
        have hx : ((dd L i).1, (dd L i).2.1, (-1 : Int32), (dd L i).2.2.2.1, (1 : Int32)) = dd L i := by
          rw [← hu2, ← h5]
        rw [hx, ← hET] at c28
        obtain ⟨M2, e, r1, r2, r3⟩ := l1_k83 hd j (i + 1) (by omega) (kV M b2 f' 0) v4 (h.u2 c28)
        refine ⟨M2, ?_, r1, r2, r3⟩
        rw [← e, k_83_20]
        simp only [k_83_21, k_83_22, k_83_23, k_83_26, k_83_29, k_83_30, k_83_31, k_83_37, k_83_38, k_83_39, k_83_40, k_83_43, k_83_44, k_83_47, k_83_48, k_83_49, k_83_50, k_83_51, k_83_54, k_83_55, k_83_56, k_83_57, k_83_60, k_83_61, k_83_62, k_83_63, k_83_66, sm_0, sm_c, ct_i, ct_r, ct_n, ct_l, ct_d, tl_s, tl_n, oK_s, cS_s, cI_0, cI_9, cA_s, cR_s, cQ_s, cN_i, cN_r, cO_s, rS_s, rK_s, cK_i, cK_j, cK_d, if_true, if_false, true_or, or_true, Nat.reduceAdd, Nat.reduceLeDiff, Nat.zero_le, Nat.reduceEqDiff, Nat.reduceSub, eq_self, Nat.le_refl, ne_eq, not_false_eq_true, not_true_eq_false, i1_0, i0_1, kSm_0, kSm_1, kSm_2, kSm_3, kSm_4, x5_0, x5_1, x5_2, x5_3, x5_4, hb, hb2, u36, u0, u1, u3, u4, u28, kV_id, hle, hq, h5]
        rw [k_83_69 (ct_i _), k_83_70, k_83_102 (ct_r _), k_83_105, nI_1]
      · obtain ⟨f', u27, c27, -⟩ := s_27 (kk := kk) (by omega) (M := (M.2.1 b2, zL)) hK2 o1 o2 o3 o4 hlt
        have h50 : (dd L i).2.2.2.2 = 0 := by
          rcases hok.2.2.2.2 with h0 | ⟨h1, -⟩
          · exact h0
          · exact absurd h1 h5
        have hx : ((dd L i).1, (dd L i).2.1, (dd L i).2.2.1, (dd L i).2.2.2.1, (0 : Int32)) = dd L i := by
          rw [← h50]
        rw [hx, ← hET] at c27
        obtain ⟨M2, e, r1, r2, r3⟩ := l1_k83 hd j (i + 1) (by omega) (kV M b2 f' 0) v4 (h.u2 c27)
        refine ⟨M2, ?_, r1, r2, r3⟩
        have h5 := eq_false h5
        rw [← e, k_83_20]
        simp only [k_83_21, k_83_22, k_83_23, k_83_26, k_83_29, k_83_30, k_83_31, k_83_37, k_83_38, k_83_39, k_83_40, k_83_43, k_83_44, k_83_73, k_83_74, k_83_75, k_83_76, k_83_77, k_83_80, k_83_81, k_83_82, k_83_83, k_83_86, k_83_87, k_83_88, k_83_89, k_83_92, k_83_93, k_83_94, k_83_95, k_83_98, sm_0, sm_c, ct_i, ct_r, ct_n, ct_l, ct_d, tl_s, tl_n, oK_s, cS_s, cI_0, cI_9, cA_s, cR_s, cQ_s, cN_i, cN_r, cO_s, rS_s, rK_s, cK_i, cK_j, cK_d, if_true, if_false, true_or, or_true, Nat.reduceAdd, Nat.reduceLeDiff, Nat.zero_le, Nat.reduceEqDiff, Nat.reduceSub, eq_self, Nat.le_refl, ne_eq, not_false_eq_true, not_true_eq_false, i1_0, i0_1, kSm_0, kSm_1, kSm_2, kSm_3, kSm_4, x5_0, x5_1, x5_2, x5_3, x5_4, hb, hb2, u36, u0, u1, u2, u3, u4, u27, kV_id, hle, hq, h5]
        rw [k_83_101 (ct_i _), k_83_102 (ct_r _), k_83_105, nI_1]
theorem wN_back {w : Int32} {p : Nat} (hp : p < 16) : wN (wN w p false) p (bt w p) = w := b_ext fun i hi => by
  rw [bt_wN hp hi, bt_wN hp hi]
  by_cases h : i = p
  · rw [if_pos h, h]
  · rw [if_neg h, if_neg h]
theorem l2_k83 {z : Int32} {Le : List Dd} : ∀ (j p : Nat), p + j = 16 → ∀ (M : kM) (w2 : Int32) (v4 : Value), K2 M b s n xs L w kk b2 Le w2 kk → (∀ q, q < 32 → bt w2 q = (decide (q < p) && bt w q)) → ∃ (M2 : kM) (v4' : Value), kn 83 110 [.ref b, .int z, .ref b2, .int (nI p), v4] [] M = kn 83 146 [.ref b, .int z, .ref b2, .int 16, v4'] [] M2 ∧ K2 M2 b s n xs L w kk b2 Le w kk ∧ kCs M2 = kCs M ∧ kSs M2 = kSs M
  | 0, p, hp, M, w2, v4, h, hw2 => by
    obtain rfl : p = 16 := by omega
    have : w2 = w := b_ext fun i hi => by
      rw [hw2 i hi]
      by_cases h16 : i < 16
      · simp [h16]
      · rw [h.1.2.2.2.2.1 i (by omega)]
        simp
    rw [this] at h
    refine ⟨M, v4, ?_, h, rfl, rfl⟩
    rw [k_83_110]
    simp only [k_83_111, k_83_113, sm_0, sm_c, ct_i, ct_r, ct_n, ct_l, ct_d, tl_s, tl_n, oK_s, cS_s, cI_0, cI_9, cA_s, cR_s, cQ_s, cN_i, cN_r, cO_s, rS_s, rK_s, cK_i, cK_j, cK_d, if_true, if_false, true_or, or_true, Nat.reduceAdd, Nat.reduceLeDiff, Nat.zero_le, Nat.reduceEqDiff, Nat.reduceSub, eq_self, Nat.le_refl, ne_eq, not_false_eq_true, not_true_eq_false, i1_0, i0_1, kSm_0, kSm_1, kSm_2, kSm_3, kSm_4, x5_0, x5_1, x5_2, x5_3, x5_4, nI_16, Int32.le_refl]
  | j + 1, p, hp, M, w2, v4, h, hw2 => by
    have hb := h.1.2.2.1.1
    have hK := h.1.2.2.1.2.2
    have hb2 := h.2.1.1
    have hK2 := h.2.1.2.2
    have hk8 := h.1.2.2.2.2.2.2
    have hle : ((16 : Int32) ≤ nI p) = False := p_hi (by omega)
    have hp16 : p < 16 := by omega
    obtain ⟨f1, a1, c1, -⟩ := s_30 (kk := kk) (by omega) hp16 (b := false) (M := (M.2.1 b, zL)) hK
    obtain ⟨f2, a2, c2, -⟩ := s_30 (kk := kk) (by omega) hp16 (b := bt w p) (M := (f1, zL)) c1
    obtain ⟨f3, a3, c3, -⟩ := s_30 (kk := kk) (by omega) hp16 (b := bt w p) (M := (M.2.1 b2, zL)) hK2
    rw [wN_back hp16] at c2
    have a1 : rn none 30 0 [.ref 0, .int (nI p), .int 0, .null] [] (M.2.1 b, zL) = some (.inl (some (.int (b01 (bt w p)))), (f1, zL)) := a1
    have hK3 : K2 (kV (kV (kV M b f1 0) b f2 0) b2 f3 0) b s n xs L w kk b2 Le (wN w2 p (bt w p)) kk := by
      obtain ⟨⟨h1, h2, h3, h4, h5⟩, h6, h7⟩ := h
      exact ⟨⟨h1, h2, ((h3.v c1).v c2).vn (Ne.symm h7), h4.ey (Nat.le_refl _) (fun _ _ => rfl), h5⟩, ((h6.vn h7).vn h7).v c3, h7⟩
    obtain ⟨M2, v4', e, r1, r2, r3⟩ := l2_k83 (z := z) j (p + 1) (by omega) (kV (kV (kV M b f1 0) b f2 0) b2 f3 0) (wN w2 p (bt w p)) (.int (b01 (bt w p))) hK3 (fun q hq => by
      rw [bt_wN hp16 hq, hw2 q hq]
      by_cases hqp : q = p
      · subst hqp
        simp
      · rw [if_neg hqp]
        congr 1
        exact decide_eq_decide.mpr (by omega))
    refine ⟨M2, v4', ?_, r1, r2, r3⟩
    have hne := h.2.2
    rw [← e, k_83_110]
    simp only [k_83_111, k_83_113, k_83_116, k_83_117, k_83_118, k_83_119, sm_0, sm_c, ct_i, ct_r, ct_n, ct_l, ct_d, tl_s, tl_n, oK_s, cS_s, cI_0, cI_9, cA_s, cR_s, cQ_s, cN_i, cN_r, cO_s, rS_s, rK_s, cK_i, cK_j, cK_d, if_true, if_false, true_or, or_true, Nat.reduceAdd, Nat.reduceLeDiff, Nat.zero_le, Nat.reduceEqDiff, Nat.reduceSub, eq_self, Nat.le_refl, ne_eq, not_false_eq_true, not_true_eq_false, i1_0, i0_1, kSm_0, kSm_1, kSm_2, kSm_3, kSm_4, x5_0, x5_1, x5_2, x5_3, x5_4, hb, hle, a1]
    rw [k_83_122 (ct_i _)]
    simp only [k_83_124, k_83_125, k_83_126, k_83_128, sm_0, sm_c, ct_i, ct_r, ct_n, ct_l, ct_d, tl_s, tl_n, oK_s, cS_s, cI_0, cI_9, cA_s, cR_s, cQ_s, cN_i, cN_r, cO_s, rS_s, rK_s, cK_i, cK_j, cK_d, if_true, if_false, true_or, or_true, Nat.reduceAdd, Nat.reduceLeDiff, Nat.zero_le, Nat.reduceEqDiff, Nat.reduceSub, eq_self, Nat.le_refl, ne_eq, not_false_eq_true, not_true_eq_false, i1_0, i0_1, kSm_0, kSm_1, kSm_2, kSm_3, kSm_4, x5_0, x5_1, x5_2, x5_3, x5_4, hb, kV_1, kV_at, a2]
    rw [k_83_131 (ct_i _)]
    simp only [k_83_132, k_83_133, k_83_134, k_83_136, sm_0, sm_c, ct_i, ct_r, ct_n, ct_l, ct_d, tl_s, tl_n, oK_s, cS_s, cI_0, cI_9, cA_s, cR_s, cQ_s, cN_i, cN_r, cO_s, rS_s, rK_s, cK_i, cK_j, cK_d, if_true, if_false, true_or, or_true, Nat.reduceAdd, Nat.reduceLeDiff, Nat.zero_le, Nat.reduceEqDiff, Nat.reduceSub, eq_self, Nat.le_refl, ne_eq, not_false_eq_true, not_true_eq_false, i1_0, i0_1, kSm_0, kSm_1, kSm_2, kSm_3, kSm_4, x5_0, x5_1, x5_2, x5_3, x5_4, hb2, kV_1, kV_ne hne, a3]
    rw [k_83_139 (ct_i _), k_83_140 (ct_r _), k_83_143, nI_1]
/-- what the floor would cost without a deed -/
theorem s_k83 {M : kM} (hd : d < L.length) (h : LI M b s n xs L w kk) : ∃ M2, kn 83 0 [.ref b, .int (nI d), .null, .null, .null] [] M = some (some (.int (aCnt (L.eraseIdx d) w kk 8)), M2) ∧ LI M2 b s n xs L w kk ∧ kLe M M2 35 688 := by
  have hne : kN M + 1 ≠ b := by have := h.2.2.1.2.1; omega
  have hbl : b ≤ kN M := by have := h.2.2.1.2.1; omega
  have h0 : K2 (kK M) b s n xs L w kk (kN M + 1) [] 0 3 := by
    obtain ⟨h1, h2, h3, h4, h5⟩ := h
    exact ⟨⟨(kK_lo (Nat.zero_le _)).trans h1, h2, ⟨(kK_lo hbl).trans h3.1, Nat.le_trans h3.2.1 (show kN M ≤ kN M + 35 by omega), by show Cls (kU M.2.1 (kN M + 1) kH0 b) L w kk; rw [kU_ne (Ne.symm hne)]; exact h3.2.2⟩, h4.ey (show kN M ≤ kN M + 35 by omega) (fun k hk => kK_lo hk), h5⟩, kt_first, hne⟩
  have hc0 : kCs (kK M) = kCs M + 35 := rfl
  have hs0 : kSs (kK M) = kSs M + 688 := rfl
  have e0 : kn 83 0 [.ref b, .int (nI d), .null, .null, .null] [] M = kn 83 8 [.ref b, .int (nI d), .ref (kN M + 1), .null, .null] [] (kK M) := by
    rw [k_83_0 (by decide), k_83_7 (ct_i _)]
  generalize kN M + 1 = b2 at e0 h0 hne
  generalize kK M = M0 at e0 h0 hc0 hs0
  have hk1 := h.2.2.2.2.2.1
  have hk8 := h.2.2.2.2.2.2
  have hb := h0.1.2.2.1.1
  have hb2 := h0.2.1.1
  have u36 : rn none 36 0 [.ref 0, .int 1] [] (M0.2.1 b, zL) = some (.inl (some (.int (nI kk))), (M0.2.1 b, zL)) := s_36 (j := 1) (by omega) (M := (M0.2.1 b, zL)) h0.1.2.2.1.2.2
  obtain ⟨f', u31, c31, -⟩ := s_31 (kk := 3) hk1 hk8 (M := (M0.2.1 b2, zL)) h0.2.1.2.2
  have e1 : kn 83 8 [.ref b, .int (nI d), .ref b2, .null, .null] [] M0 = kn 83 20 [.ref b, .int (nI d), .ref b2, .int 0, .null] [] (kV M0 b2 f' 0) := by
    simp only [k_83_8, k_83_9, k_83_10, k_83_11, k_83_14, sm_0, sm_c, ct_i, ct_r, ct_n, ct_l, ct_d, tl_s, tl_n, oK_s, cS_s, cI_0, cI_9, cA_s, cR_s, cQ_s, cN_i, cN_r, cO_s, rS_s, rK_s, cK_i, cK_j, cK_d, if_true, if_false, true_or, or_true, Nat.reduceAdd, Nat.reduceLeDiff, Nat.zero_le, Nat.reduceEqDiff, Nat.reduceSub, eq_self, Nat.le_refl, ne_eq, not_false_eq_true, not_true_eq_false, i1_0, i0_1, kSm_0, kSm_1, kSm_2, kSm_3, kSm_4, x5_0, x5_1, x5_2, x5_3, x5_4, hb, hb2, u36, u31, kV_id]
    rw [k_83_17 (ct_i _)]
    simp only [k_83_18, k_83_19, sm_0, sm_c, ct_i, ct_r, ct_n, ct_l, ct_d, tl_s, tl_n, oK_s, cS_s, cI_0, cI_9, cA_s, cR_s, cQ_s, cN_i, cN_r, cO_s, rS_s, rK_s, cK_i, cK_j, cK_d, if_true, if_false, true_or, or_true, Nat.reduceAdd, Nat.reduceLeDiff, Nat.zero_le, Nat.reduceEqDiff, Nat.reduceSub, eq_self, Nat.le_refl, ne_eq, not_false_eq_true, not_true_eq_false, i1_0, i0_1, kSm_0, kSm_1, kSm_2, kSm_3, kSm_4, x5_0, x5_1, x5_2, x5_3, x5_4]
  obtain ⟨M2, e2, r1, r2, r3⟩ := l1_k83 hd L.length 0 (by omega) (kV M0 b2 f' 0) .null (by simpa using h0.u2 c31)
  rw [nI_0] at e2
  obtain ⟨M3, v4', e4, r4, r5, r6⟩ := l2_k83 (z := nI d) 16 0 rfl M2 0 .null r1 (fun q hq => by rw [b_0]; simp)
  rw [nI_0] at e4
  have e3 : kn 83 108 [.ref b, .int (nI d), .ref b2, .int (nI L.length), .null] [] M2 = kn 83 110 [.ref b, .int (nI d), .ref b2, .int 0, .null] [] M2 := by
    simp only [k_83_108, k_83_109, sm_0, sm_c, ct_i, ct_r, ct_n, ct_l, ct_d, tl_s, tl_n, oK_s, cS_s, cI_0, cI_9, cA_s, cR_s, cQ_s, cN_i, cN_r, cO_s, rS_s, rK_s, cK_i, cK_j, cK_d, if_true, if_false, true_or, or_true, Nat.reduceAdd, Nat.reduceLeDiff, Nat.zero_le, Nat.reduceEqDiff, Nat.reduceSub, eq_self, Nat.le_refl, ne_eq, not_false_eq_true, not_true_eq_false, i1_0, i0_1, kSm_0, kSm_1, kSm_2, kSm_3, kSm_4, x5_0, x5_1, x5_2, x5_3, x5_4]
  have hb3 := r4.2.1.1
  have u8 : rn none 36 0 [.ref 0, .int 8] [] (M3.2.1 b2, zL) = some (.inl (some (.int (aCnt (L.eraseIdx d) w kk 8))), (M3.2.1 b2, zL)) := s_36 (j := 8) (by omega) (M := (M3.2.1 b2, zL)) r4.2.1.2.2
  refine ⟨M3, ?_, r4.1, ?_⟩
  · rw [e0, e1, e2, e3, e4]
    simp only [k_83_146, k_83_147, k_83_149, k_83_152, sm_0, sm_c, ct_i, ct_r, ct_n, ct_l, ct_d, tl_s, tl_n, oK_s, cS_s, cI_0, cI_9, cA_s, cR_s, cQ_s, cN_i, cN_r, cO_s, rS_s, rK_s, cK_i, cK_j, cK_d, if_true, if_false, true_or, or_true, Nat.reduceAdd, Nat.reduceLeDiff, Nat.zero_le, Nat.reduceEqDiff, Nat.reduceSub, eq_self, Nat.le_refl, ne_eq, not_false_eq_true, not_true_eq_false, i1_0, i0_1, kSm_0, kSm_1, kSm_2, kSm_3, kSm_4, x5_0, x5_1, x5_2, x5_3, x5_4, hb3, u8, kV_id]
  · have c1 : kCs (kV M0 b2 f' 0) = kCs M0 := rfl
    have c2 : kSs (kV M0 b2 f' 0) = kSs M0 := rfl
    exact ⟨by omega, by omega⟩
end
