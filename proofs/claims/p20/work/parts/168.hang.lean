/-! the sim: hang -/
def fT (q : Nat) (v g : Nat → Int32) : Nat → Int32 := fun i => if q ≤ i ∧ i < 16 then v i else g i
theorem fT_s {q : Nat} (hq : q < 16) {v g : Nat → Int32} : fT (q + 1) v (upd g q (v q)) = fT q v g := by
  funext i
  unfold fT
  by_cases hi : i = q
  · subst hi
    rw [if_neg (by omega), if_pos ⟨Nat.le_refl _, hq⟩, upd_at]
  · rw [upd_ne hi]
    by_cases h2 : q ≤ i ∧ i < 16
    · rw [if_pos (by omega), if_pos h2]
    · rw [if_neg (by omega), if_neg h2]
theorem fT_16 {v g : Nat → Int32} : fT 16 v g = g := by
  funext i
  unfold fT
  rw [if_neg (by omega)]
theorem fT_at {q i : Nat} (h : i < 16) (hq : q ≤ i) {v g : Nat → Int32} : fT q v g i = v i := by
  unfold fT
  rw [if_pos ⟨hq, h⟩]
theorem fT_n16 {g : Nat → Int32} (h : zb g) : fT 0 (fun _ => -1) g = n16 := by
  funext i
  unfold fT n16
  by_cases hi : i < 16
  · rw [if_pos ⟨Nat.zero_le _, hi⟩, if_pos hi]
  · rw [if_neg (by omega), if_neg hi, h i (by omega)]
theorem kI_self {M : kM} {k : Nat} {v : kC} : (kI M k v).1 k = v := kU_self _ _ _
theorem kI_ne {M : kM} {k a : Nat} {v : kC} (h : a ≠ k) : (kI M k v).1 a = M.1 a := kU_ne h
theorem cell_ne {M : kM} {a b : Nat} {c d : kC} (h1 : M.1 a = c) (h2 : M.1 b = d) (h : c ≠ d) : a ≠ b := fun e => h (by rw [← h1, ← h2, e])
/-- the memory while a sim hangs its pots -/
def HS (M M1 : kM) (x y pa ha : Nat) (pl hu : Nat → Int32) (g : Nat → Nat → Int32) (lg : Nat → Int32) : Prop :=
  M1.2.1 = M.2.1 ∧ kN M1 = kN M + x ∧ kCs M1 = kCs M + x ∧ kSs M1 = kSs M + y ∧ (∀ k, k ≤ kN M → k ≠ pa → k ≠ ha → M1.1 k = M.1 k) ∧ M1.1 pa = .inl (0, 16, pl) ∧ M1.1 ha = .inl (0, 16, hu) ∧ M1.1 (kN M + 1) = .inr (.inl (3, 16, fun i => if i < 16 then some (kN M + 1 + 1 + i) else none)) ∧ (∀ a, a < 16 → M1.1 (kN M + 1 + 1 + a) = .inl (1, 16, g a)) ∧ M1.1 (kN M + 18) = .inl (1, 16, lg)
section
variable {M M1 : kM} {x y pa ha : Nat} {pl hu lg : Nat → Int32} {g : Nat → Nat → Int32}
theorem HS.upa (h : HS M M1 x y pa ha pl hu g lg) (hp : pa ≤ kN M) (hne : pa ≠ ha) (v : Nat → Int32) : HS M (kI M1 pa (.inl (0, 16, v))) x y pa ha v hu g lg := by
  obtain ⟨h1, h2, h3, h4, h5, h6, h7, h8, h9, h10⟩ := h
  exact ⟨h1, h2, h3, h4, fun k hk a b => (kI_ne a).trans (h5 k hk a b), kI_self, (kI_ne (Ne.symm hne)).trans h7, (kI_ne (by omega)).trans h8, fun a ha16 => (kI_ne (by omega)).trans (h9 a ha16), (kI_ne (by omega)).trans h10⟩
theorem HS.uha (h : HS M M1 x y pa ha pl hu g lg) (hp : ha ≤ kN M) (hne : pa ≠ ha) (v : Nat → Int32) : HS M (kI M1 ha (.inl (0, 16, v))) x y pa ha pl v g lg := by
  obtain ⟨h1, h2, h3, h4, h5, h6, h7, h8, h9, h10⟩ := h
  exact ⟨h1, h2, h3, h4, fun k hk a b => (kI_ne b).trans (h5 k hk a b), (kI_ne hne).trans h6, kI_self, (kI_ne (by omega)).trans h8, fun a ha16 => (kI_ne (by omega)).trans (h9 a ha16), (kI_ne (by omega)).trans h10⟩
theorem HS.lf (h : HS M M1 x y pa ha pl hu g lg) (hp : pa ≤ kN M) (hh : ha ≤ kN M) (v : Nat → Int32) : HS M (kI M1 (kN M + 18) (.inl (1, 16, v))) x y pa ha pl hu g v := by
  obtain ⟨h1, h2, h3, h4, h5, h6, h7, h8, h9, h10⟩ := h
  exact ⟨h1, h2, h3, h4, fun k hk a b => (kI_ne (by omega)).trans (h5 k hk a b), (kI_ne (by omega)).trans h6, (kI_ne (by omega)).trans h7, (kI_ne (by omega)).trans h8, fun a ha16 => (kI_ne (by omega)).trans (h9 a ha16), kI_self⟩
theorem HS.od (h : HS M M1 x y pa ha pl hu g lg) (hp : pa ≤ kN M) (hh : ha ≤ kN M) (v : kC) : HS M (kI M1 (kN M + 19) v) x y pa ha pl hu g lg := by
  obtain ⟨h1, h2, h3, h4, h5, h6, h7, h8, h9, h10⟩ := h
  exact ⟨h1, h2, h3, h4, fun k hk a b => (kI_ne (by omega)).trans (h5 k hk a b), (kI_ne (by omega)).trans h6, (kI_ne (by omega)).trans h7, (kI_ne (by omega)).trans h8, fun a ha16 => (kI_ne (by omega)).trans (h9 a ha16), (kI_ne (by omega)).trans h10⟩
theorem HS.sm {s dk gu kk : Nat} {vv : Nat → Option Nat} {r : Nat → Nat} {gg : Nat → Nat → Int32} {gw : Nat → Int32} {L : List Dd} {w : Int32} {pl0 hu0 : Nat → Int32} (h : HS M M1 x y pa ha pl hu g lg) (hR : SmR M s dk gu kk pa ha vv r gg gw L w) (hn : SmN M s dk gu r L) (hp : M.1 pa = .inl (0, 16, pl0)) (hh : M.1 ha = .inl (0, 16, hu0)) : SmR M1 s dk gu kk pa ha vv r gg gw L w := by
  obtain ⟨h1, h2, h3, h4, h5⟩ := hR
  obtain ⟨n1, n2, n3, n4⟩ := hn
  have hk := h.2.2.2.2.1
  have go : ∀ k c, k ≤ kN M → M.1 k = c → c ≠ .inl (0, 16, pl0) → c ≠ .inl (0, 16, hu0) → M1.1 k = c := fun k c hkn e a b => (hk k hkn (cell_ne e hp a) (cell_ne e hh b)).trans e
  refine ⟨go _ _ n1 h1 (by simp) (by simp), go _ _ n2 h2 (by simp) (by simp), fun d hd => ?_, go _ _ n3 h4 (by simp) (by simp), h5⟩
  obtain ⟨a1, a2, a3⟩ := h3 d hd
  exact ⟨a1, go _ _ (n4 d hd) a2 (by simp) (by simp), a3⟩
end
theorem i0_m1 : ((0 : Int32) ≤ -1) = False := by decide
theorem m1_0 : ((-1 : Int32) < 0) = True := by decide
theorem hgI_s {cl po : Nat → Int32} {kk C : Nat} {as : Nat → Int32} (hk : kk ≤ 16) (hD : ∀ i j, i < j → j < C → ¬ as i = as j) {n : Nat} (hn : n + 1 ≤ C) {s : huT} (h : hgI C as (n + 1) s) : hgI C as n (huS cl po kk (as n) s) := by
  obtain ⟨p, hp, e, hm⟩ := h.2.2.1 n (by omega)
  have hS := PAi_huS (cl := cl) (po := po) (s := s) hk hp h.1 hm
  rw [e]
  refine ⟨hS.1, ?_, fun j hj => ?_, fun q hq => ?_⟩
  · rcases chs_in (cl := cl) (po := po) (p := p) hk h.1 with hc | ⟨x, hx, hc⟩
    · rw [huS_m1 hp hc]; exact s16_or h.2.1 (s16_bI (Or.inr ⟨p, hp, rfl⟩))
    · rw [huS_h hp hx hc]; exact h.2.1
  · obtain ⟨q, hq, e2, hm2⟩ := h.2.2.1 j (by omega)
    refine ⟨q, hq, e2, ?_⟩
    rw [hS.2, upd_ne ?_]
    · exact hm2
    · intro hqp
      exact hD j n hj (by omega) (by rw [e2, e, hqp])
  · have hold := h.2.2.2 q hq
    rcases chs_in (cl := cl) (po := po) (p := p) hk h.1 with hc | ⟨x, hx, hc⟩
    · rw [huS_m1 hp hc]
      dsimp only
      rw [b_or, bt_bI hp]
      by_cases hqp : q = p
      · subst hqp
        simp only [decide_true, Bool.or_true, true_iff]
        exact ⟨⟨n, Nat.le_refl _, by omega, e⟩, hm⟩
      · simp only [hqp, decide_false, Bool.or_false]
        rw [hold]
        refine ⟨fun hh => ⟨?_, hh.2⟩, fun hh => ⟨?_, hh.2⟩⟩
        · obtain ⟨j, h1, h2, h3⟩ := hh.1
          exact ⟨j, by omega, h2, h3⟩
        · obtain ⟨j, h1, h2, h3⟩ := hh.1
          refine ⟨j, ?_, h2, h3⟩
          by_cases hjn : j = n
          · rw [hjn, e] at h3
            exact absurd ((nI_eq (show p < 2 ^ 31 by omega) (show q < 2 ^ 31 by omega)).mp h3).symm hqp
          · omega
    · rw [huS_h hp hx hc]
      dsimp only
      by_cases hqp : q = p
      · subst hqp
        rw [upd_at, hold]
        refine ⟨fun hh => ?_, fun hh => absurd hh.2 (nI_m1 hx)⟩
        obtain ⟨j, h1, h2, h3⟩ := hh.1
        exact absurd (by rw [e, h3]) (hD n j (by omega) h2)
      · rw [upd_ne hqp, hold]
        refine ⟨fun hh => ⟨?_, hh.2⟩, fun hh => ⟨?_, hh.2⟩⟩
        · obtain ⟨j, h1, h2, h3⟩ := hh.1
          exact ⟨j, by omega, h2, h3⟩
        · obtain ⟨j, h1, h2, h3⟩ := hh.1
          refine ⟨j, ?_, h2, h3⟩
          by_cases hjn : j = n
          · rw [hjn, e] at h3
            exact absurd ((nI_eq (show p < 2 ^ 31 by omega) (show q < 2 ^ 31 by omega)).mp h3).symm hqp
          · omega
section
variable {M : kM} {s dk gu kk pa ha : Nat} {vv : Nat → Option Nat} {r : Nat → Nat} {gg : Nat → Nat → Int32} {gw : Nat → Int32} {L : List Dd} {w : Int32} {pl0 hu0 : Nat → Int32} {g : Nat → Nat → Int32} {x y : Nat}
theorem l1_k69 (hR : SmR M s dk gu kk pa ha vv r gg gw L w) (hn : SmN M s dk gu r L) (hp : M.1 pa = .inl (0, 16, pl0)) (hh : M.1 ha = .inl (0, 16, hu0)) (np : pa ≤ kN M) (nh : ha ≤ kN M) (hne : pa ≠ ha) {k : Int32} {v6 v7 v8 : Value} : ∀ (n q : Nat), q + n = 16 → ∀ (M1 : kM) (c : Int32) (pl hu lg : Nat → Int32), HS M M1 x y pa ha pl hu g lg → ∃ M2, kn 69 16 [.ref s, .int k, .ref (kN M + 1), .ref (kN M + 18), .int c, .int (nI q), v6, v7, v8] [] M1 = kn 69 72 [.ref s, .int k, .ref (kN M + 1), .ref (kN M + 18), .int (fcR (fun p => thR p L (bt w p)) n c), .int 16, v6, v7, v8] [] M2 ∧ HS M M2 x y pa ha (fT q (fun _ => -1) pl) (fT q (fun _ => -1) hu) g (fT q (fun i => b01 (thR i L (bt w i))) lg)
  | 0, q, hq, M1, c, pl, hu, lg, hH => by
    obtain rfl : q = 16 := by omega
    refine ⟨M1, ?_, by rw [fT_16, fT_16, fT_16]; exact hH⟩
    rw [k_69_16]
    simp only [k_69_18, k_69_20, sm_0, sm_c, ct_i, ct_r, ct_n, ct_l, ct_d, tl_s, tl_n, oK_s, cS_s, cI_0, cI_9, cA_s, cR_s, cQ_s, cN_i, cN_r, cO_s, rS_s, rK_s, cK_i, cK_j, cK_d, if_true, if_false, true_or, or_true, Nat.reduceAdd, Nat.reduceLeDiff, Nat.zero_le, Nat.reduceEqDiff, Nat.reduceSub, eq_self, Nat.le_refl, ne_eq, not_false_eq_true, i1_0, i0_1, kSm_0, kSm_1, kSm_2, kSm_3, kSm_4, x5_0, x5_1, x5_2, x5_3, x5_4, nI_16, Int32.le_refl, fcR]
  | n + 1, q, hq, M1, c, pl, hu, lg, hH => by
    have hle : ((16 : Int32) ≤ nI q) = False := p_hi (by omega)
    have hx := x16_16 (show q < 16 by omega)
    have hR1 := hH.sm hR hn hp hh
    have u := s_k63 hR1 (show q < 16 by omega)
    have hS := hR1.1
    have hL := hH.2.2.2.2.2.2.2.2.2
    have e1 : kn 69 16 [.ref s, .int k, .ref (kN M + 1), .ref (kN M + 18), .int c, .int (nI q), v6, v7, v8] [] M1 = kn 69 33 [.ref s, .int k, .ref (kN M + 1), .ref (kN M + 18), .int c, .int (nI q), v6, v7, v8] [] (kI M1 (kN M + 18) (.inl (1, 16, upd lg q (b01 (thR q L (bt w q)))))) := by
      rw [k_69_16]
      simp only [k_69_18, k_69_20, k_69_23, k_69_24, k_69_26, k_69_27, k_69_29, k_69_32, sm_0, sm_c, ct_i, ct_r, ct_n, ct_l, ct_d, tl_s, tl_n, oK_s, cS_s, cI_0, cI_9, cA_s, cR_s, cQ_s, cN_i, cN_r, cO_s, rS_s, rK_s, cK_i, cK_j, cK_d, if_true, if_false, true_or, or_true, Nat.reduceAdd, Nat.reduceLeDiff, Nat.zero_le, Nat.reduceEqDiff, Nat.reduceSub, eq_self, Nat.le_refl, ne_eq, not_false_eq_true, i1_0, i0_1, kSm_0, kSm_1, kSm_2, kSm_3, kSm_4, x5_0, x5_1, x5_2, x5_3, x5_4, hle, hS, hL, hx, u, nar01 (b01_or _)]
    have hA := hH.lf np nh (upd lg q (b01 (thR q L (bt w q))))
    generalize kI M1 (kN M + 18) (.inl (1, 16, upd lg q (b01 (thR q L (bt w q))))) = M2 at e1 hA
    have hS2 := (hA.sm hR hn hp hh).1
    have hL2 := hA.2.2.2.2.2.2.2.2.2
    have hP2 := hA.2.2.2.2.2.1
    have e2 : kn 69 33 [.ref s, .int k, .ref (kN M + 1), .ref (kN M + 18), .int c, .int (nI q), v6, v7, v8] [] M2 = kn 69 58 [.ref s, .int k, .ref (kN M + 1), .ref (kN M + 18), .int (c + b01 (thR q L (bt w q))), .int (nI q), v6, v7, v8] [] (kI M2 pa (.inl (0, 16, upd pl q (-1)))) := by
      rw [k_69_33]
      cases hb : thR q L (bt w q) <;> simp only [k_69_35, k_69_36, k_69_38, k_69_39, k_69_42, k_69_43, k_69_46, k_69_47, k_69_48, k_69_50, k_69_51, k_69_54, k_69_56, k_69_57, sm_0, sm_c, ct_i, ct_r, ct_n, ct_l, ct_d, tl_s, tl_n, oK_s, cS_s, cI_0, cI_9, cA_s, cR_s, cQ_s, cN_i, cN_r, cO_s, rS_s, rK_s, cK_i, cK_j, cK_d, if_true, if_false, true_or, or_true, Nat.reduceAdd, Nat.reduceLeDiff, Nat.zero_le, Nat.reduceEqDiff, Nat.reduceSub, eq_self, Nat.le_refl, ne_eq, not_false_eq_true, i1_0, i0_1, kSm_0, kSm_1, kSm_2, kSm_3, kSm_4, x5_0, x5_1, x5_2, x5_3, x5_4, hS2, hL2, hP2, hx, upd_at, hb, b01_c, b01, Bool.false_eq_true, Bool.true_eq_false]
    have hA2 := hA.upa np hne (upd pl q (-1))
    generalize kI M2 pa (.inl (0, 16, upd pl q (-1))) = M3 at e2 hA2
    have hS3 := (hA2.sm hR hn hp hh).1
    have hH3 := hA2.2.2.2.2.2.2.1
    have e3 : kn 69 58 [.ref s, .int k, .ref (kN M + 1), .ref (kN M + 18), .int (c + b01 (thR q L (bt w q))), .int (nI q), v6, v7, v8] [] M3 = kn 69 16 [.ref s, .int k, .ref (kN M + 1), .ref (kN M + 18), .int (c + b01 (thR q L (bt w q))), .int (nI (q + 1)), v6, v7, v8] [] (kI M3 ha (.inl (0, 16, upd hu q (-1)))) := by
      rw [k_69_58]
      simp only [k_69_59, k_69_62, k_69_64, k_69_65, sm_0, sm_c, ct_i, ct_r, ct_n, ct_l, ct_d, tl_s, tl_n, oK_s, cS_s, cI_0, cI_9, cA_s, cR_s, cQ_s, cN_i, cN_r, cO_s, rS_s, rK_s, cK_i, cK_j, cK_d, if_true, if_false, true_or, or_true, Nat.reduceAdd, Nat.reduceLeDiff, Nat.zero_le, Nat.reduceEqDiff, Nat.reduceSub, eq_self, Nat.le_refl, ne_eq, not_false_eq_true, i1_0, i0_1, kSm_0, kSm_1, kSm_2, kSm_3, kSm_4, x5_0, x5_1, x5_2, x5_3, x5_4, hS3, hH3, hx]
      rw [k_69_66 (ct_i _), k_69_69, nI_1]
    have hA3 := hA2.uha nh hne (upd hu q (-1))
    generalize kI M3 ha (.inl (0, 16, upd hu q (-1))) = M4 at e3 hA3
    obtain ⟨M5, e4, hA4⟩ := l1_k69 hR hn hp hh np nh hne (k := k) (v6 := v6) (v7 := v7) (v8 := v8) n (q + 1) (by omega) M4 (c + b01 (thR q L (bt w q))) _ _ _ hA3
    refine ⟨M5, ?_, ?_⟩
    · rw [e1, e2, e3, e4, fcR, show 15 - n = q by omega]
    · have f1 := fT_s (show q < 16 by omega) (v := fun _ => -1) (g := pl)
      have f2 := fT_s (show q < 16 by omega) (v := fun _ => -1) (g := hu)
      have f3 := fT_s (show q < 16 by omega) (v := fun i => b01 (thR i L (bt w i))) (g := lg)
      rw [f1, f2, f3] at hA4
      exact hA4
end
