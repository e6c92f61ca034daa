/-! the sim: what it holds, its small questions -/
def kSm (dk gu kk pa ha : Nat) : Nat → Value := fun f => if f = 0 then .ref dk else if f = 1 then .ref gu else if f = 2 then .int (nI kk) else if f = 3 then .ref pa else .ref ha
theorem kSm_0 {dk gu kk pa ha : Nat} : kSm dk gu kk pa ha 0 = .ref dk := rfl
theorem kSm_1 {dk gu kk pa ha : Nat} : kSm dk gu kk pa ha 1 = .ref gu := rfl
theorem kSm_2 {dk gu kk pa ha : Nat} : kSm dk gu kk pa ha 2 = .int (nI kk) := rfl
theorem kSm_3 {dk gu kk pa ha : Nat} : kSm dk gu kk pa ha 3 = .ref pa := rfl
theorem kSm_4 {dk gu kk pa ha : Nat} : kSm dk gu kk pa ha 4 = .ref ha := rfl
theorem x5_0 : mmX 0 5 = some 0 := by decide
theorem x5_1 : mmX 1 5 = some 1 := by decide
theorem x5_2 : mmX 2 5 = some 2 := by decide
theorem x5_3 : mmX 3 5 = some 3 := by decide
theorem x5_4 : mmX 4 5 = some 4 := by decide
/-- what can be read: the sim s, its rows dk (vv, r: where they lie; gg: their numbers), its guests gu (gw) -/
def SmR (M : kM) (s dk gu kk pa ha : Nat) (vv : Nat → Option Nat) (r : Nat → Nat) (gg : Nat → Nat → Int32) (gw : Nat → Int32) (L : List Dd) (w : Int32) : Prop :=
  M.1 s = .inr (.inr (.inl (kSm dk gu kk pa ha))) ∧ M.1 dk = .inr (.inl (2, L.length, vv)) ∧ (∀ d, d < L.length → vv d = some (r d) ∧ M.1 (r d) = .inl (0, 5, gg d) ∧ gg d 0 = (dd L d).1 ∧ gg d 1 = (dd L d).2.1 ∧ gg d 2 = (dd L d).2.2.1 ∧ gg d 3 = (dd L d).2.2.2.1 ∧ gg d 4 = (dd L d).2.2.2.2) ∧
  M.1 gu = .inl (1, 16, gw) ∧ (∀ p, p < 16 → gw p = b01 (bt w p)) ∧ L.length ≤ 30 ∧ okL L
def usB (d : Dd) (p : Nat) : Bool := decide (d.2.1 = nI p) || decide (d.2.2.1 = nI p)
section
variable {M : kM} {s dk gu kk pa ha : Nat} {vv : Nat → Option Nat} {r : Nat → Nat} {gg : Nat → Nat → Int32} {gw : Nat → Int32} {L : List Dd} {w : Int32}
theorem s_k60 (h : SmR M s dk gu kk pa ha vv r gg gw L w) {p d : Nat} (hd : d < L.length) : kn 60 0 [.ref s, .int (nI d), .int (nI p)] [] M = some (some (.int (b01 (usB (dd L d) p))), M) := by
  obtain ⟨h1, h2, h3, h4, h5, h6, h7⟩ := h
  obtain ⟨a1, a2, b0, b1, b2, b3, b4⟩ := h3 d hd
  have hx := mmX_nI hd (by omega)
  simp only [k_60_0, k_60_1, k_60_4, k_60_5, k_60_6, k_60_7, k_60_8, k_60_9, k_60_12, k_60_13, k_60_16, k_60_17, k_60_18, k_60_19, k_60_20, k_60_21, k_60_24, k_60_25, k_60_28, k_60_29, sm_0, sm_c, ct_i, ct_r, ct_n, ct_l, ct_d, tl_s, tl_n, oK_s, cS_s, cI_0, cI_9, cA_s, cR_s, cQ_s, cN_i, cN_r, cO_s, rS_s, rK_s, cK_i, cK_j, cK_d, if_true, if_false, true_or, or_true, Nat.reduceAdd, Nat.reduceLeDiff, Nat.zero_le, Nat.reduceEqDiff, Nat.reduceSub, eq_self, Nat.le_refl, ne_eq, not_false_eq_true, i1_0, i0_1, kSm_0, kSm_1, kSm_2, kSm_3, kSm_4, x5_0, x5_1, x5_2, x5_3, x5_4, h1, h2, a1, a2, hx, b1, b2]
  unfold usB
  by_cases c1 : (dd L d).2.1 = nI p
  · simp [c1, b01]
  · by_cases c2 : (dd L d).2.2.1 = nI p
    · simp [c1, c2, b01]
    · simp [c1, c2, b01]
/-- whether a pot lives ahead of these deeds: by the next deed that names it -/
def lvB (w : Int32) (p : Nat) : List Dd → Bool
  | [] => bt w p
  | d :: L => if usB d p = true then true else if d.1 = nI p then false else lvB w p L
theorem drop_dd {L : List Dd} {j : Nat} (h : j < L.length) : L.drop j = dd L j :: L.drop (j + 1) := by
  rw [List.drop_eq_getElem_cons h]
  unfold dd
  rw [List.getD_eq_getElem?_getD, List.getElem?_eq_getElem h]
  rfl
theorem b01_c (b : Bool) : (b01 b = 0) = (b = false) := by cases b <;> simp [b01]
theorem b01_or (b : Bool) : b01 b = 0 ∨ b01 b = 1 := by cases b <;> simp [b01]
theorem l_k61 (h : SmR M s dk gu kk pa ha vv r gg gw L w) {p : Nat} (hp : p < 16) {x : Int32} : ∀ (n j : Nat), j + n = L.length → kn 61 4 [.ref s, .int (nI p), .int x, .int (nI j)] [] M = some (some (.int (b01 (lvB w p (L.drop j)))), M)
  | 0, j, hj => by
    obtain ⟨h1, h2, h3, h4, h5, h6, h7⟩ := h
    have hx := mmX_nI hp (by omega)
    obtain rfl : j = L.length := by omega
    rw [k_61_4]
    simp only [k_61_0, k_61_1, k_61_2, k_61_3, k_61_5, k_61_6, k_61_9, k_61_10, k_61_13, k_61_14, k_61_15, k_61_16, k_61_44, k_61_45, k_61_48, k_61_49, k_61_50, sm_0, sm_c, ct_i, ct_r, ct_n, ct_l, ct_d, tl_s, tl_n, oK_s, cS_s, cI_0, cI_9, cA_s, cR_s, cQ_s, cN_i, cN_r, cO_s, rS_s, rK_s, cK_i, cK_j, cK_d, if_true, if_false, true_or, or_true, Nat.reduceAdd, Nat.reduceLeDiff, Nat.zero_le, Nat.reduceEqDiff, Nat.reduceSub, eq_self, Nat.le_refl, ne_eq, not_false_eq_true, i1_0, i0_1, kSm_0, kSm_1, kSm_2, kSm_3, kSm_4, x5_0, x5_1, x5_2, x5_3, x5_4, h1, h2, h4, hx, h5 p hp, Int32.le_refl, List.drop_length, lvB, b01_or]
  | n + 1, j, hj => by
    have hu := s_k60 h (p := p) (show j < L.length by omega)
    have ih := l_k61 h hp (x := x) n (j + 1) (by omega)
    obtain ⟨h1, h2, h3, h4, h5, h6, h7⟩ := h
    obtain ⟨a1, a2, b0, b1, b2, b3, b4⟩ := h3 j (by omega)
    have hx := mmX_nI (show j < L.length by omega) (by omega)
    have hle : (nI L.length ≤ nI j) = False := eq_false (nI_ge (by omega) (by omega))
    rw [k_61_4]
    rw [drop_dd (show j < L.length by omega), lvB]
    simp only [k_61_0, k_61_1, k_61_2, k_61_3, k_61_5, k_61_6, k_61_9, k_61_10, k_61_13, k_61_14, k_61_15, k_61_16, k_61_19, k_61_22, k_61_23, k_61_24, k_61_25, k_61_28, k_61_29, k_61_30, k_61_31, k_61_32, k_61_33, k_61_36, k_61_37, k_61_41, k_61_44, k_61_45, k_61_48, k_61_49, k_61_50, sm_0, sm_c, ct_i, ct_r, ct_n, ct_l, ct_d, tl_s, tl_n, oK_s, cS_s, cI_0, cI_9, cA_s, cR_s, cQ_s, cN_i, cN_r, cO_s, rS_s, rK_s, cK_i, cK_j, cK_d, if_true, if_false, true_or, or_true, Nat.reduceAdd, Nat.reduceLeDiff, Nat.zero_le, Nat.reduceEqDiff, Nat.reduceSub, eq_self, Nat.le_refl, ne_eq, not_false_eq_true, i1_0, i0_1, kSm_0, kSm_1, kSm_2, kSm_3, kSm_4, x5_0, x5_1, x5_2, x5_3, x5_4, h1, h2, a1, a2, hx, hle, hu, b0, b01_c]
    by_cases c1 : usB (dd L j) p = true
    · simp [c1, b01]
    · have c1 : usB (dd L j) p = false := by simpa using c1
      by_cases c2 : (dd L j).1 = nI p
      · simp [c1, c2, b01]
      · simp only [c1, c2, if_true, if_false, not_false_eq_true, Bool.false_eq_true, k_61_38 (ct_i _), nI_1]
        simp only [k_61_41]
        exact ih
theorem dn_1 (j : Nat) : dn j + 1 = nI j := by
  cases j with
  | zero => decide
  | succ n => exact (nI_succ n).symm
/-- lives, from the place j on -/
theorem s_k61 (h : SmR M s dk gu kk pa ha vv r gg gw L w) {p j : Nat} (hp : p < 16) (hj : j ≤ L.length) : kn 61 0 [.ref s, .int (nI p), .int (dn j), .null] [] M = some (some (.int (b01 (lvB w p (L.drop j)))), M) := by
  have hl := l_k61 h hp (x := dn j) (L.length - j) j (by omega)
  rw [k_61_0, k_61_1, k_61_2, dn_1, k_61_3 (ct_i _)]
  exact hl
theorem l_k62 (h : SmR M s dk gu kk pa ha vv r gg gw L w) {j : Nat} (hj : j ≤ L.length) : ∀ (n q : Nat), q + n = 16 → ∀ c : Int32, kn 62 4 [.ref s, .int (dn j), .int c, .int (nI q)] [] M = some (some (.int (fcR (fun p => lvB w p (L.drop j)) n c)), M)
  | 0, q, hq, c => by
    obtain rfl : q = 16 := by omega
    simp only [k_62_4, k_62_5, k_62_7, k_62_33, k_62_34, sm_0, sm_c, ct_i, ct_r, ct_n, ct_l, ct_d, tl_s, tl_n, oK_s, cS_s, cI_0, cI_9, cA_s, cR_s, cQ_s, cN_i, cN_r, cO_s, rS_s, rK_s, cK_i, cK_j, cK_d, if_true, if_false, true_or, or_true, Nat.reduceAdd, Nat.reduceLeDiff, Nat.zero_le, Nat.reduceEqDiff, Nat.reduceSub, eq_self, Nat.le_refl, ne_eq, not_false_eq_true, i1_0, i0_1, kSm_0, kSm_1, kSm_2, kSm_3, kSm_4, x5_0, x5_1, x5_2, x5_3, x5_4, nI_16, Int32.le_refl, fcR]
  | n + 1, q, hq, c => by
    have hu := s_k61 h (p := q) (show q < 16 by omega) hj
    have ih := l_k62 h hj n (q + 1) (by omega)
    obtain ⟨h1, h2, h3, h4, h5, h6, h7⟩ := h
    have hle : ((16 : Int32) ≤ nI q) = False := p_hi (by omega)
    rw [k_62_4]
    simp only [k_62_0, k_62_1, k_62_2, k_62_3, k_62_5, k_62_7, k_62_10, k_62_11, k_62_12, k_62_13, k_62_14, k_62_17, k_62_20, k_62_21, k_62_24, k_62_25, k_62_26, sm_0, sm_c, ct_i, ct_r, ct_n, ct_l, ct_d, tl_s, tl_n, oK_s, cS_s, cI_0, cI_9, cA_s, cR_s, cQ_s, cN_i, cN_r, cO_s, rS_s, rK_s, cK_i, cK_j, cK_d, if_true, if_false, true_or, or_true, Nat.reduceAdd, Nat.reduceLeDiff, Nat.zero_le, Nat.reduceEqDiff, Nat.reduceSub, eq_self, Nat.le_refl, ne_eq, not_false_eq_true, i1_0, i0_1, kSm_0, kSm_1, kSm_2, kSm_3, kSm_4, x5_0, x5_1, x5_2, x5_3, x5_4, h1, hu, hle, b01_c]
    rw [fcR, show 15 - n = q by omega]
    cases hb : lvB w q (L.drop j) with
    | false => simp only [if_true, k_62_27 (ct_i _), k_62_30, nI_1, ih, b01, Bool.false_eq_true, if_false]
    | true => simp only [if_true, k_62_27 (ct_i _), k_62_30, nI_1, ih, b01, Bool.true_eq_false, if_false]
theorem s_k62 (h : SmR M s dk gu kk pa ha vv r gg gw L w) {j : Nat} (hj : j ≤ L.length) : kn 62 0 [.ref s, .int (dn j), .null, .null] [] M = some (some (.int (fcR (fun p => lvB w p (L.drop j)) 16 0)), M) := by
  have hl := l_k62 h hj 16 0 rfl 0
  rw [nI_0] at hl
  simp only [k_62_0, k_62_1, k_62_2, k_62_3, sm_0, sm_c, ct_i, ct_r, ct_n, ct_l, ct_d, tl_s, tl_n, oK_s, cS_s, cI_0, cI_9, cA_s, cR_s, cQ_s, cN_i, cN_r, cO_s, rS_s, rK_s, cK_i, cK_j, cK_d, if_true, if_false, true_or, or_true, Nat.reduceAdd, Nat.reduceLeDiff, Nat.zero_le, Nat.reduceEqDiff, Nat.reduceSub, eq_self, Nat.le_refl, ne_eq, not_false_eq_true, i1_0, i0_1, kSm_0, kSm_1, kSm_2, kSm_3, kSm_4, x5_0, x5_1, x5_2, x5_3, x5_4]
  exact hl
def thR (p : Nat) : List Dd → Bool → Bool
  | [], b => b
  | d :: L, b => thR p L (b || (decide (d.1 = nI p) || usB d p))
theorem or_b01 (a b : Bool) : b01 a ||| b01 b = b01 (a || b) := by cases a <;> cases b <;> decide
theorem l_k63 (h : SmR M s dk gu kk pa ha vv r gg gw L w) {p : Nat} : ∀ (n j : Nat), j + n = L.length → ∀ c : Bool, kn 63 9 [.ref s, .int (nI p), .int (b01 c), .int (nI j)] [] M = some (some (.int (b01 (thR p (L.drop j) c))), M)
  | 0, j, hj, c => by
    obtain ⟨h1, h2, h3, h4, h5, h6, h7⟩ := h
    obtain rfl : j = L.length := by omega
    simp only [k_63_9, k_63_10, k_63_11, k_63_14, k_63_15, k_63_53, k_63_54, sm_0, sm_c, ct_i, ct_r, ct_n, ct_l, ct_d, tl_s, tl_n, oK_s, cS_s, cI_0, cI_9, cA_s, cR_s, cQ_s, cN_i, cN_r, cO_s, rS_s, rK_s, cK_i, cK_j, cK_d, if_true, if_false, true_or, or_true, Nat.reduceAdd, Nat.reduceLeDiff, Nat.zero_le, Nat.reduceEqDiff, Nat.reduceSub, eq_self, Nat.le_refl, ne_eq, not_false_eq_true, i1_0, i0_1, kSm_0, kSm_1, kSm_2, kSm_3, kSm_4, x5_0, x5_1, x5_2, x5_3, x5_4, h1, h2, Int32.le_refl, List.drop_length, thR, b01_or]
  | n + 1, j, hj, c => by
    have hu := s_k60 h (p := p) (show j < L.length by omega)
    have ih := l_k63 h (p := p) n (j + 1) (by omega)
    obtain ⟨h1, h2, h3, h4, h5, h6, h7⟩ := h
    obtain ⟨a1, a2, b0, b1, b2, b3, b4⟩ := h3 j (by omega)
    have hx := mmX_nI (show j < L.length by omega) (by omega)
    have hle : (nI L.length ≤ nI j) = False := eq_false (nI_ge (by omega) (by omega))
    rw [k_63_9]
    rw [drop_dd (show j < L.length by omega), thR]
    simp only [k_63_0, k_63_1, k_63_4, k_63_5, k_63_6, k_63_7, k_63_8, k_63_10, k_63_11, k_63_14, k_63_15, k_63_18, k_63_19, k_63_20, k_63_23, k_63_24, k_63_25, k_63_26, k_63_27, k_63_28, k_63_31, k_63_32, k_63_33, k_63_34, k_63_37, k_63_40, k_63_41, k_63_44, k_63_45, k_63_46, sm_0, sm_c, ct_i, ct_r, ct_n, ct_l, ct_d, tl_s, tl_n, oK_s, cS_s, cI_0, cI_9, cA_s, cR_s, cQ_s, cN_i, cN_r, cO_s, rS_s, rK_s, cK_i, cK_j, cK_d, if_true, if_false, true_or, or_true, Nat.reduceAdd, Nat.reduceLeDiff, Nat.zero_le, Nat.reduceEqDiff, Nat.reduceSub, eq_self, Nat.le_refl, ne_eq, not_false_eq_true, i1_0, i0_1, kSm_0, kSm_1, kSm_2, kSm_3, kSm_4, x5_0, x5_1, x5_2, x5_3, x5_4, h1, h2, a1, a2, hx, hle, hu, b0, b01_c]
    have e1 : b01 c ||| 1 = b01 (c || true) := or_b01 c true
    have e0 : b01 c ||| 0 = b01 (c || false) := or_b01 c false
    by_cases c2 : (dd L j).1 = nI p
    · simp only [c2, if_true, e1, k_63_47 (ct_i _), k_63_50, nI_1, ih, decide_true, Bool.true_or]
    · cases c1 : usB (dd L j) p with
      | true => simp only [c2, if_false, e1, k_63_47 (ct_i _), k_63_50, nI_1, ih, decide_false, Bool.false_or, Bool.true_eq_false]
      | false => simp only [c2, if_true, if_false, e0, k_63_47 (ct_i _), k_63_50, nI_1, ih, decide_false, Bool.false_or]
theorem s_k63 (h : SmR M s dk gu kk pa ha vv r gg gw L w) {p : Nat} (hp : p < 16) : kn 63 0 [.ref s, .int (nI p), .null, .null] [] M = some (some (.int (b01 (thR p L (bt w p)))), M) := by
  have hl := l_k63 h (p := p) L.length 0 (by omega) (bt w p)
  rw [nI_0, List.drop_zero] at hl
  obtain ⟨h1, h2, h3, h4, h5, h6, h7⟩ := h
  have hx := mmX_nI hp (by omega)
  simp only [k_63_0, k_63_1, k_63_4, k_63_5, k_63_6, k_63_7, k_63_8, sm_0, sm_c, ct_i, ct_r, ct_n, ct_l, ct_d, tl_s, tl_n, oK_s, cS_s, cI_0, cI_9, cA_s, cR_s, cQ_s, cN_i, cN_r, cO_s, rS_s, rK_s, cK_i, cK_j, cK_d, if_true, if_false, true_or, or_true, Nat.reduceAdd, Nat.reduceLeDiff, Nat.zero_le, Nat.reduceEqDiff, Nat.reduceSub, eq_self, Nat.le_refl, ne_eq, not_false_eq_true, i1_0, i0_1, kSm_0, kSm_1, kSm_2, kSm_3, kSm_4, x5_0, x5_1, x5_2, x5_3, x5_4, h1, h4, hx, h5 p hp]
  exact hl
/-- the cost of a pot, deed by deed -/
def csR (p : Nat) : List Dd → Int32 → Int32
  | [], c => c
  | d :: L, c => csR p L (((c + (if d.1 = nI p then d.2.2.2.1 else 0)) + (if d.2.1 = nI p then d.2.2.2.1 else 0)) + (if d.2.2.1 = nI p then d.2.2.2.1 else 0))
theorem q_k64 (h : SmR M s dk gu kk pa ha vv r gg gw L w) {p j : Nat} (hj : j < L.length) {c : Int32} : kn 64 30 [.ref s, .int (nI p), .int c, .ref dk, .int (nI L.length), .int (nI j), .ref (r j), .int 0] [] M = kn 64 62 [.ref s, .int (nI p), .int (((c + (if (dd L j).1 = nI p then (dd L j).2.2.2.1 else 0)) + (if (dd L j).2.1 = nI p then (dd L j).2.2.2.1 else 0)) + (if (dd L j).2.2.1 = nI p then (dd L j).2.2.2.1 else 0)), .ref dk, .int (nI L.length), .int (nI j), .ref (r j), .int 3] [] M := by
  obtain ⟨h1, h2, h3, h4, h5, h6, h7⟩ := h
  obtain ⟨a1, a2, b0, b1, b2, b3, b4⟩ := h3 j hj
  have e0 : ((3 : Int32) ≤ 0) = False := by decide
  have e1 : ((3 : Int32) ≤ 0 + 1) = False := by decide
  have e2 : ((3 : Int32) ≤ 0 + 1 + 1) = False := by decide
  have e3 : ((3 : Int32) ≤ 0 + 1 + 1 + 1) = True := by decide
  have y1 : mmX (0 + 1) 5 = some 1 := by decide
  have y2 : mmX (0 + 1 + 1) 5 = some 2 := by decide
  have step : ∀ (x c : Int32) (i : Nat), ((3 : Int32) ≤ x) = False → mmX x 5 = some i → kn 64 30 [.ref s, .int (nI p), .int c, .ref dk, .int (nI L.length), .int (nI j), .ref (r j), .int x] [] M = kn 64 30 [.ref s, .int (nI p), .int (c + (if gg j i = nI p then (dd L j).2.2.2.1 else 0)), .ref dk, .int (nI L.length), .int (nI j), .ref (r j), .int (x + 1)] [] M := by
    intro x c i hx hi
    rw [k_64_30]
    simp only [k_64_32, k_64_33, k_64_36, k_64_37, k_64_39, k_64_41, k_64_42, k_64_43, k_64_46, k_64_48, k_64_49, k_64_50, k_64_53, k_64_54, k_64_55, sm_0, sm_c, ct_i, ct_r, ct_n, ct_l, ct_d, tl_s, tl_n, oK_s, cS_s, cI_0, cI_9, cA_s, cR_s, cQ_s, cN_i, cN_r, cO_s, rS_s, rK_s, cK_i, cK_j, cK_d, if_true, if_false, true_or, or_true, Nat.reduceAdd, Nat.reduceLeDiff, Nat.zero_le, Nat.reduceEqDiff, Nat.reduceSub, eq_self, Nat.le_refl, ne_eq, not_false_eq_true, i1_0, i0_1, kSm_0, kSm_1, kSm_2, kSm_3, kSm_4, x5_0, x5_1, x5_2, x5_3, x5_4, a2, hx, hi, b3]
    by_cases c2 : gg j i = nI p
    · simp only [c2, not_true_eq_false, if_false, if_true, k_64_56 (ct_r _), k_64_59]
    · simp only [c2, not_false_eq_true, if_false, if_true, k_64_56 (ct_r _), k_64_59]
  rw [step 0 c 0 e0 x5_0, step (0 + 1) _ 1 e1 y1, step (0 + 1 + 1) _ 2 e2 y2, b0, b1, b2]
  rw [k_64_30, k_64_32, k_64_33, if_pos (of_eq_true e3)]
  rfl
theorem l_k64 (h : SmR M s dk gu kk pa ha vv r gg gw L w) {p : Nat} : ∀ (n j : Nat), j + n = L.length → ∀ (c : Int32) (v1 v2 : Value), v1.category = 1 → kn 64 14 [.ref s, .int (nI p), .int c, .ref dk, .int (nI L.length), .int (nI j), v1, v2] [] M = some (some (.int (csR p (L.drop j) c)), M)
  | 0, j, hj, c, v1, v2, hv => by
    obtain rfl : j = L.length := by omega
    simp only [k_64_14, k_64_16, k_64_18, k_64_68, k_64_69, sm_0, sm_c, ct_i, ct_r, ct_n, ct_l, ct_d, tl_s, tl_n, oK_s, cS_s, cI_0, cI_9, cA_s, cR_s, cQ_s, cN_i, cN_r, cO_s, rS_s, rK_s, cK_i, cK_j, cK_d, if_true, if_false, true_or, or_true, Nat.reduceAdd, Nat.reduceLeDiff, Nat.zero_le, Nat.reduceEqDiff, Nat.reduceSub, eq_self, Nat.le_refl, ne_eq, not_false_eq_true, i1_0, i0_1, kSm_0, kSm_1, kSm_2, kSm_3, kSm_4, x5_0, x5_1, x5_2, x5_3, x5_4, Int32.le_refl, List.drop_length, csR]
  | n + 1, j, hj, c, v1, v2, hv => by
    have hq := q_k64 h (p := p) (c := c) (show j < L.length by omega)
    have ih := l_k64 h (p := p) n (j + 1) (by omega)
    obtain ⟨h1, h2, h3, h4, h5, h6, h7⟩ := h
    obtain ⟨a1, a2, b0, b1, b2, b3, b4⟩ := h3 j (by omega)
    have hx := mmX_nI (show j < L.length by omega) (by omega)
    have hle : (nI L.length ≤ nI j) = False := eq_false (nI_ge (by omega) (by omega))
    rw [k_64_14]
    simp only [k_64_16, k_64_18, k_64_21, k_64_22, k_64_24, k_64_25, k_64_27, k_64_28, sm_0, sm_c, ct_i, ct_r, ct_n, ct_l, ct_d, tl_s, tl_n, oK_s, cS_s, cI_0, cI_9, cA_s, cR_s, cQ_s, cN_i, cN_r, cO_s, rS_s, rK_s, cK_i, cK_j, cK_d, if_true, if_false, true_or, or_true, Nat.reduceAdd, Nat.reduceLeDiff, Nat.zero_le, Nat.reduceEqDiff, Nat.reduceSub, eq_self, Nat.le_refl, ne_eq, not_false_eq_true, i1_0, i0_1, kSm_0, kSm_1, kSm_2, kSm_3, kSm_4, x5_0, x5_1, x5_2, x5_3, x5_4, h2, a1, hx, hle]
    rw [hq, k_64_62 (ct_i _), k_64_65, nI_1, ih _ _ _ rfl, drop_dd (show j < L.length by omega), csR]
theorem s_k64 (h : SmR M s dk gu kk pa ha vv r gg gw L w) {p : Nat} : kn 64 0 [.ref s, .int (nI p), .null, .null, .null, .null, .null, .null] [] M = some (some (.int (csR p L 0)), M) := by
  have hl := l_k64 h (p := p) L.length 0 (by omega) 0 .null .null rfl
  rw [nI_0, List.drop_zero] at hl
  obtain ⟨h1, h2, h3, h4, h5, h6, h7⟩ := h
  simp only [k_64_0, k_64_1, k_64_2, k_64_3, k_64_6, k_64_7, k_64_8, k_64_9, k_64_11, k_64_12, sm_0, sm_c, ct_i, ct_r, ct_n, ct_l, ct_d, tl_s, tl_n, oK_s, cS_s, cI_0, cI_9, cA_s, cR_s, cQ_s, cN_i, cN_r, cO_s, rS_s, rK_s, cK_i, cK_j, cK_d, if_true, if_false, true_or, or_true, Nat.reduceAdd, Nat.reduceLeDiff, Nat.zero_le, Nat.reduceEqDiff, Nat.reduceSub, eq_self, Nat.le_refl, ne_eq, not_false_eq_true, i1_0, i0_1, kSm_0, kSm_1, kSm_2, kSm_3, kSm_4, x5_0, x5_1, x5_2, x5_3, x5_4, h1, h2]
  exact hl
end
