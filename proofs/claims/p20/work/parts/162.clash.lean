/-! the sim: who clashes, by hand -/
/-- what lies where it lay; nothing else is said -/
def kEx (M M' : kM) : Prop := kN M ≤ kN M' ∧ (∀ k, k ≤ kN M → M'.1 k = M.1 k) ∧ ∀ b, b + 34 ≤ kN M → M'.2.1 b = M.2.1 b
theorem kEx.rf (M : kM) : kEx M M := ⟨Nat.le_refl _, fun _ _ => rfl, fun _ _ => rfl⟩
theorem kEx.tr {A B C : kM} (h : kEx A B) (g : kEx B C) : kEx A C := ⟨Nat.le_trans h.1 g.1, fun k hk => (g.2.1 k (Nat.le_trans hk h.1)).trans (h.2.1 k hk), fun b hb => (g.2.2 b (Nat.le_trans hb h.1)).trans (h.2.2 b hb)⟩
theorem kA_ex {M : kM} {v : kC} {n : Nat} : kEx M (kA M v n) := ⟨Nat.le_succ _, fun k hk => kU_ne (by omega), fun _ _ => rfl⟩
def SmN (M : kM) (s dk gu : Nat) (r : Nat → Nat) (L : List Dd) : Prop := s ≤ kN M ∧ dk ≤ kN M ∧ gu ≤ kN M ∧ ∀ d, d < L.length → r d ≤ kN M
theorem SmR.ex {M M' : kM} {s dk gu kk pa ha : Nat} {vv : Nat → Option Nat} {r : Nat → Nat} {gg : Nat → Nat → Int32} {gw : Nat → Int32} {L : List Dd} {w : Int32} (h : SmR M s dk gu kk pa ha vv r gg gw L w) (hn : SmN M s dk gu r L) (he : kEx M M') : SmR M' s dk gu kk pa ha vv r gg gw L w := by
  obtain ⟨h1, h2, h3, h4, h5⟩ := h
  obtain ⟨n1, n2, n3, n4⟩ := hn
  refine ⟨(he.2.1 _ n1).trans h1, (he.2.1 _ n2).trans h2, fun d hd => ?_, (he.2.1 _ n3).trans h4, h5⟩
  obtain ⟨a1, a2, a3⟩ := h3 d hd
  exact ⟨a1, (he.2.1 _ (n4 d hd)).trans a2, a3⟩
theorem SmN.ex {M M' : kM} {s dk gu : Nat} {r : Nat → Nat} {L : List Dd} (hn : SmN M s dk gu r L) (he : kEx M M') : SmN M' s dk gu r L := ⟨Nat.le_trans hn.1 he.1, Nat.le_trans hn.2.1 he.1, Nat.le_trans hn.2.2.1 he.1, fun d hd => Nat.le_trans (hn.2.2.2 d hd) he.1⟩
/-- sixteen rows of sixteen, with these contents -/
def kQg (H : Nat → kC) (b : Nat) (g : Nat → Nat → Int32) : Nat → kC := fun a => if a = b then .inr (.inl (3, 16, fun i => if i < 16 then some (b + 1 + i) else none)) else if b < a ∧ a < b + 17 then .inl (1, 16, g (a - b - 1)) else H a
def kLg (M : kM) (g : Nat → Nat → Int32) : kM := (kQg M.1 (kN M + 1) g, (M.2.1, (kN M + 17, (kCs M + 17, kSs M + 272))))
theorem kL_g (M : kM) : kL M = kLg M (fun _ => kG0) := rfl
theorem kLg_ex {M : kM} {g : Nat → Nat → Int32} : kEx M (kLg M g) := ⟨by show kN M ≤ kN M + 17; omega, fun k hk => by
  show kQg M.1 (kN M + 1) g k = _
  unfold kQg
  rw [if_neg (by omega), if_neg (by omega)], fun _ _ => rfl⟩
theorem kLg_c {M : kM} {g : Nat → Nat → Int32} : (kLg M g).1 (kN M + 1) = .inr (.inl (3, 16, fun i => if i < 16 then some (kN M + 1 + 1 + i) else none)) := by
  show kQg M.1 (kN M + 1) g (kN M + 1) = _
  simp [kQg]
theorem kLg_r {M : kM} {g : Nat → Nat → Int32} {a : Nat} (ha : a < 16) : (kLg M g).1 (kN M + 1 + 1 + a) = .inl (1, 16, g a) := by
  show kQg M.1 (kN M + 1) g (kN M + 1 + 1 + a) = _
  unfold kQg
  rw [if_neg (by omega), if_pos (by omega), show kN M + 1 + 1 + a - (kN M + 1) - 1 = a by omega]
theorem kLg_w {M : kM} {g : Nat → Nat → Int32} {a : Nat} (ha : a < 16) {x : Nat → Int32} : kI (kLg M g) (kN M + 1 + 1 + a) (.inl (1, 16, x)) = kLg M (kU g a x) := by
  unfold kI kLg
  congr 1
  funext k
  by_cases hk : k = kN M + 1 + 1 + a
  · subst hk
    simp only [kU, if_true, kQg]
    rw [if_neg (by omega), if_pos (by omega), show kN M + 1 + 1 + a - (kN M + 1) - 1 = a by omega, if_pos rfl]
  · simp only [kU, if_neg hk, kQg]
    by_cases h1 : k = kN M + 1
    · simp only [h1, if_true]
    · simp only [h1, if_false]
      by_cases h2 : kN M + 1 < k ∧ k < kN M + 1 + 17
      · simp only [h2, and_self, if_true]
        rw [if_neg (show ¬ k - (kN M + 1) - 1 = a by omega)]
      · simp only [h2, if_false]
def clD (w : Int32) (a b : Nat) (d : Dd) (L : List Dd) : Bool := (decide (d.1 = nI a) && (lvB w b L && !(decide (d.2.2.2.2 = 1) && decide (d.2.1 = nI b)))) || (decide (d.1 = nI b) && (lvB w a L && !(decide (d.2.2.2.2 = 1) && decide (d.2.1 = nI a))))
def clR (w : Int32) (a b : Nat) : List Dd → Bool → Bool
  | [], x => x
  | d :: L, x => clR w a b L (x || clD w a b d L)
def clM (w : Int32) (L : List Dd) (a b : Nat) : Bool := decide (¬ a = b) && clR w a b L (lvB w a L && lvB w b L)
section
variable {M : kM} {s dk gu kk pa ha : Nat} {vv : Nat → Option Nat} {r : Nat → Nat} {gg : Nat → Nat → Int32} {gw : Nat → Int32} {L : List Dd} {w : Int32}
theorem l1_k65 {c : Nat} (h : SmR M s dk gu kk pa ha vv r gg gw L w) {a b : Nat} (ha16 : a < 16) (hb16 : b < 16) (hab : ¬ a = b) : ∀ (n j : Nat), j + n = L.length → ∀ (x : Bool) (v : Value), v.category = 1 → ∃ v' : Value, v'.category = 1 ∧ kn 65 61 [.ref s, .ref c, .int (nI a), .int (nI b), .int (b01 x), .int (nI j), v] [] M = kn 65 164 [.ref s, .ref c, .int (nI a), .int (nI b), .int (b01 (clR w a b (L.drop j) x)), .int (nI L.length), v'] [] M
  | 0, j, hj, x, v, hv => by
    obtain ⟨h1, h2, h3, h4, h5, h6, h7⟩ := h
    obtain rfl : j = L.length := by omega
    refine ⟨v, hv, ?_⟩
    rw [k_65_61]
    simp only [k_65_63, k_65_64, k_65_67, k_65_68, sm_0, sm_c, ct_i, ct_r, ct_n, ct_l, ct_d, tl_s, tl_n, oK_s, cS_s, cI_0, cI_9, cA_s, cR_s, cQ_s, cN_i, cN_r, cO_s, rS_s, rK_s, cK_i, cK_j, cK_d, if_true, if_false, true_or, or_true, Nat.reduceAdd, Nat.reduceLeDiff, Nat.zero_le, Nat.reduceEqDiff, Nat.reduceSub, eq_self, Nat.le_refl, ne_eq, not_false_eq_true, i1_0, i0_1, kSm_0, kSm_1, kSm_2, kSm_3, kSm_4, x5_0, x5_1, x5_2, x5_3, x5_4, h1, h2, Int32.le_refl, List.drop_length, clR]
  | n + 1, j, hj, x, v, hv => by
    have ub : kn 61 0 [.ref s, .int (nI b), .int (nI j), .null] [] M = some (some (.int (b01 (lvB w b (L.drop (j + 1))))), M) := s_k61 h hb16 (j := j + 1) (by omega)
    have ua : kn 61 0 [.ref s, .int (nI a), .int (nI j), .null] [] M = some (some (.int (b01 (lvB w a (L.drop (j + 1))))), M) := s_k61 h ha16 (j := j + 1) (by omega)
    obtain ⟨v', hv', ih⟩ := l1_k65 (c := c) h ha16 hb16 hab n (j + 1) (by omega) (x || clD w a b (dd L j) (L.drop (j + 1))) (.ref (r j)) rfl
    refine ⟨v', hv', ?_⟩
    obtain ⟨h1, h2, h3, h4, h5, h6, h7⟩ := h
    obtain ⟨a1, a2, b0, b1, b2, b3, b4⟩ := h3 j (by omega)
    have hx := mmX_nI (show j < L.length by omega) (by omega)
    have hle : (nI L.length ≤ nI j) = False := eq_false (nI_ge (by omega) (by omega))
    rw [drop_dd (show j < L.length by omega), clR, ← ih]
    have fin : ∀ y : Bool, kn 65 155 [.ref s, .ref c, .int (nI a), .int (nI b), .int (b01 x), .int (nI j), .ref (r j)] [.int (b01 y), .int (b01 x)] M = kn 65 61 [.ref s, .ref c, .int (nI a), .int (nI b), .int (b01 (x || y)), .int (nI (j + 1)), .ref (r j)] [] M := by
      intro y
      rw [k_65_155, or_b01, k_65_156 (ct_i _), k_65_158 (ct_i _), k_65_161, nI_1]
    have fin1 := fin true
    have fin0 := fin false
    rw [k_65_61]
    rw [show b01 true = 1 from rfl] at fin1
    rw [show b01 false = 0 from rfl] at fin0
    simp only [k_65_63, k_65_64, k_65_67, k_65_68, k_65_71, k_65_72, k_65_75, k_65_77, k_65_78, k_65_80, k_65_82, k_65_84, k_65_85, k_65_86, k_65_87, k_65_90, k_65_91, k_65_92, k_65_94, k_65_97, k_65_100, k_65_102, k_65_103, k_65_104, k_65_105, k_65_108, k_65_110, k_65_111, k_65_112, k_65_113, k_65_116, k_65_118, k_65_119, k_65_120, k_65_121, k_65_124, k_65_125, k_65_126, k_65_128, k_65_131, k_65_134, k_65_136, k_65_137, k_65_138, k_65_139, k_65_142, k_65_144, k_65_145, k_65_146, k_65_147, k_65_150, k_65_151, k_65_154, sm_0, sm_c, ct_i, ct_r, ct_n, ct_l, ct_d, tl_s, tl_n, oK_s, cS_s, cI_0, cI_9, cA_s, cR_s, cQ_s, cN_i, cN_r, cO_s, rS_s, rK_s, cK_i, cK_j, cK_d, if_true, if_false, true_or, or_true, Nat.reduceAdd, Nat.reduceLeDiff, Nat.zero_le, Nat.reduceEqDiff, Nat.reduceSub, eq_self, Nat.le_refl, ne_eq, not_false_eq_true, i1_0, i0_1, kSm_0, kSm_1, kSm_2, kSm_3, kSm_4, x5_0, x5_1, x5_2, x5_3, x5_4, h1, h2, a1, a2, hx, hle, ua, ub, b0, b1, b4, b01_c, fin0, fin1]
    have hne : ¬ nI a = nI b := fun e => hab ((nI_eq (by omega) (by omega)).mp e)
    have hne' : ¬ nI b = nI a := fun e => hne e.symm
    unfold clD
    by_cases c1 : (dd L j).1 = nI a <;> by_cases c2 : (dd L j).1 = nI b <;> by_cases c4 : (dd L j).2.1 = nI a <;> by_cases c5 : (dd L j).2.1 = nI b <;> first
      | exact absurd (c1.symm.trans c2) hne
      | exact absurd (c4.symm.trans c5) hne
      | (by_cases c3 : (dd L j).2.2.2.2 = 1 <;> cases lvB w a (L.drop (j + 1)) <;> cases lvB w b (L.drop (j + 1)) <;> simp [c1, c2, c3, c4, c5, hne, hne'])
end
