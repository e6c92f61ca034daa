/-! the sim's rows: add, drop -/
theorem kI_id {M : kM} {k : Nat} {v : kC} (h : M.1 k = v) : kI M k v = M := by
  unfold kI
  have : kU M.1 k v = M.1 := by
    funext x
    by_cases hx : x = k
    · subst hx; simp [kU, h]
    · simp [kU, hx]
  rw [this]
theorem s_k80 {M : kM} {s ra kk : Nat} {L : List Dd} {w : Int32} {ga : Nat → Int32} {x : Dd} (h : SimI M s L w kk) (hra : M.1 ra = .inl (0, 5, ga)) (hrn : ra ≤ kN M) (e0 : ga 0 = x.1) (e1 : ga 1 = x.2.1) (e2 : ga 2 = x.2.2.1) (e3 : ga 3 = x.2.2.2.1) (e4 : ga 4 = x.2.2.2.2) (hx : okD x) (hl : L.length < 30) : ∃ M', kn 80 0 [.ref s, .ref ra, .null, .null] [] M = some (none, M') ∧ SimI M' s (L ++ [x]) w kk ∧ Fr M M' ∧ M'.2.1 = M.2.1 ∧ kLe M M' 1 31 := by
  obtain ⟨dk, gu, pa, ha, vv, r, gg, gw, pl, hu, hR, hn, hp, hh, np, nh, hne, zp, zh⟩ := h
  obtain ⟨q1, q2, q3, q4, q5, q6, q7⟩ := hR
  obtain ⟨n1, n2, n3, n4⟩ := hn
  obtain ⟨o, ho⟩ : ∃ o, o = kN M + 1 := ⟨_, rfl⟩
  obtain ⟨M0, hM0⟩ : ∃ M0, M0 = kA M (.inr (.inl (2, L.length + 1, kR0))) (L.length + 1) := ⟨_, rfl⟩
  have lo0 : ∀ k, k ≤ kN M → M0.1 k = M.1 k := fun k hk => by rw [hM0]; exact kA_ex.2.1 k hk
  have hoc : M0.1 o = .inr (.inl (2, L.length + 1, kR0)) := by rw [hM0, ho]; exact kA_self
  have hN0 : kN M0 = kN M + 1 := by rw [hM0]; rfl
  have hS0 := (lo0 _ n1).trans q1
  have hD0 := (lo0 _ n2).trans q2
  have lp := l_k80 (ra := ra) (M0 := M0) (o := o) hS0 (by omega) (by omega) hD0 (by omega) (fun d hd => ⟨(q3 d hd).1, (lo0 _ (n4 d hd)).trans (q3 d hd).2.1, by have := n4 d hd; omega⟩) L.length 0 (by omega) kR0
  rw [kI_id hoc, nI_0] at lp
  have s1 : kn 80 0 [.ref s, .ref ra, .null, .null] [] M = kn 80 13 [.ref s, .ref ra, .ref o, .int 0] [] M0 := by
    rw [hM0, ho]
    simp only [k_80_0, k_80_1, k_80_4, k_80_5, k_80_6, k_80_7, k_80_10, k_80_11, k_80_12, sm_0, sm_c, ct_i, ct_r, ct_n, ct_l, ct_d, tl_s, tl_n, oK_s, cS_s, cI_0, cI_9, cA_s, cR_s, cQ_s, cN_i, cN_r, cO_s, rS_s, rK_s, cK_i, cK_j, cK_d, if_true, if_false, true_or, or_true, Nat.reduceAdd, Nat.reduceLeDiff, Nat.zero_le, Nat.reduceEqDiff, Nat.reduceSub, eq_self, Nat.le_refl, ne_eq, not_false_eq_true, i1_0, i0_1, kSm_0, kSm_1, kSm_2, kSm_3, kSm_4, x5_0, x5_1, x5_2, x5_3, x5_4, q1, q2, nI_1, nA_n (show L.length + 1 ≤ 1000 by omega)]
  obtain ⟨v2, hv2⟩ : ∃ v2, v2 = kU (cpy 0 L.length vv kR0) L.length (some ra) := ⟨_, rfl⟩
  have hra0 := (lo0 _ hrn).trans hra
  have hxl : mmX (nI L.length) (L.length + 1) = some L.length := mmX_nI (by omega) (by omega)
  have s2 : kn 80 37 [.ref s, .ref ra, .ref o, .int (nI L.length)] [] (kI M0 o (.inr (.inl (2, L.length + 1, cpy 0 L.length vv kR0)))) = some (none, kI (kI M0 o (.inr (.inl (2, L.length + 1, v2)))) s (.inr (.inr (.inl (kSm o gu kk pa ha))))) := by
    rw [hv2]
    simp only [k_80_37, k_80_38, k_80_39, k_80_42, k_80_43, k_80_44, k_80_45, k_80_46, k_80_47, k_80_50, sm_0, sm_c, ct_i, ct_r, ct_n, ct_l, ct_d, tl_s, tl_n, oK_s, cS_s, cI_0, cI_9, cA_s, cR_s, cQ_s, cN_i, cN_r, cO_s, rS_s, rK_s, cK_i, cK_j, cK_d, if_true, if_false, true_or, or_true, Nat.reduceAdd, Nat.reduceLeDiff, Nat.zero_le, Nat.reduceEqDiff, Nat.reduceSub, eq_self, Nat.le_refl, ne_eq, not_false_eq_true, i1_0, i0_1, kSm_0, kSm_1, kSm_2, kSm_3, kSm_4, x5_0, x5_1, x5_2, x5_3, x5_4, kI_self, kI_kI, kI_ne (show s ≠ o by omega), kI_ne (show dk ≠ o by omega), kI_ne (show ra ≠ o by omega), hS0, hD0, hra0, hxl, kSm_u0]
  refine ⟨_, by rw [s1, lp, s2], ?_, ?_, by rw [hM0]; rfl, ?_⟩
  · have lo : ∀ k c, k ≤ kN M → M.1 k = c → c ≠ .inr (.inr (.inl (kSm dk gu kk pa ha))) → (kI (kI M0 o (.inr (.inl (2, L.length + 1, v2)))) s (.inr (.inr (.inl (kSm o gu kk pa ha))))).1 k = c := fun k c hk e hc => (kI_ne (cell_ne e q1 hc)).trans ((kI_ne (by omega)).trans ((lo0 k hk).trans e))
    have hN : kN (kI (kI M0 o (.inr (.inl (2, L.length + 1, v2)))) s (.inr (.inr (.inl (kSm o gu kk pa ha))))) = kN M + 1 := hN0
    refine ⟨o, gu, pa, ha, v2, fun d => if d < L.length then r d else ra, fun d => if d < L.length then gg d else ga, gw, pl, hu, ⟨kI_self, (kI_ne (by omega)).trans (by rw [List.length_append]; exact kI_self), fun d hd => ?_, lo _ _ n3 q4 (by simp), q5, by rw [List.length_append]; simp only [List.length_cons, List.length_nil]; omega, q7.app hx⟩, ⟨by omega, by omega, by omega, fun d hd => ?_⟩, lo _ _ np hp (by simp), lo _ _ nh hh (by simp), by omega, by omega, hne, zp, zh⟩
    · rw [List.length_append] at hd
      simp only [List.length_cons, List.length_nil] at hd
      by_cases hdl : d < L.length
      · obtain ⟨a1, a2, a3⟩ := q3 d hdl
        simp only [if_pos hdl, dd_app hdl]
        refine ⟨?_, lo _ _ (n4 d hdl) a2 (by simp), a3⟩
        rw [hv2, kU_ne (by omega)]
        unfold cpy
        rw [if_pos ⟨Nat.zero_le _, hdl⟩]
        exact a1
      · obtain rfl : d = L.length := by omega
        simp only [if_neg hdl, dd_last]
        refine ⟨?_, lo _ _ hrn hra (by simp), e0, e1, e2, e3, e4⟩
        rw [hv2, kU_self]
    · show (if d < L.length then r d else ra) ≤ _
      rw [hN]
      by_cases hdl : d < L.length
      · have := n4 d hdl
        rw [if_pos hdl]; omega
      · rw [if_neg hdl]; omega
  · refine Fr.tr (B := M0) (by rw [hM0]; exact Fr.ka) (Fr.tr (Fr.ki (by rw [hoc]; rfl)) (Fr.ki ?_))
    rw [kI_ne (show s ≠ o by omega), hS0]
    rfl
  · rw [hM0]
    exact ⟨Nat.le_refl _, by show kSs M + (L.length + 1) ≤ _; omega⟩
theorem s_k72 {M : kM} {s kk d dk gu pa ha : Nat} {L : List Dd} {w : Int32} {vv : Nat → Option Nat} {r : Nat → Nat} {gg : Nat → Nat → Int32} {gw pl hu : Nat → Int32} (hR : SmR M s dk gu kk pa ha vv r gg gw L w) (hn : SmN M s dk gu r L) (hp : M.1 pa = .inl (0, 16, pl)) (hh : M.1 ha = .inl (0, 16, hu)) (np : pa ≤ kN M) (nh : ha ≤ kN M) (hne : pa ≠ ha) (zp : zb pl) (zh : zb hu) (hd : d < L.length) : ∃ M1, kn 72 0 [.ref dk, .int (nI d), .null, .null] [] M = some (some (.ref (kN M + 1)), M1) ∧ M1.1 s = .inr (.inr (.inl (kSm dk gu kk pa ha))) ∧ Fr M (kI M1 s (.inr (.inr (.inl (kSm (kN M + 1) gu kk pa ha))))) ∧ M1.2.1 = M.2.1 ∧ SimI (kI M1 s (.inr (.inr (.inl (kSm (kN M + 1) gu kk pa ha))))) s (L.eraseIdx d) w kk ∧ kLe M M1 1 30 := by
  obtain ⟨q1, q2, q3, q4, q5, q6, q7⟩ := hR
  obtain ⟨n1, n2, n3, n4⟩ := hn
  obtain ⟨o, ho⟩ : ∃ o, o = kN M + 1 := ⟨_, rfl⟩
  obtain ⟨M0, hM0⟩ : ∃ M0, M0 = kA M (.inr (.inl (2, L.length - 1, kR0))) (L.length - 1) := ⟨_, rfl⟩
  have lo0 : ∀ k, k ≤ kN M → M0.1 k = M.1 k := fun k hk => by rw [hM0]; exact kA_ex.2.1 k hk
  have hoc : M0.1 o = .inr (.inl (2, L.length - 1, kR0)) := by rw [hM0, ho]; exact kA_self
  have hN0 : kN M0 = kN M + 1 := by rw [hM0]; rfl
  have hS0 := (lo0 _ n1).trans q1
  have hD0 := (lo0 _ n2).trans q2
  have lp := l_k72 (M0 := M0) (o := o) hd (by omega) hD0 (by omega) (fun d hd => ⟨(q3 d hd).1, (lo0 _ (n4 d hd)).trans (q3 d hd).2.1, by have := n4 d hd; omega⟩) (L.length - 1) 0 (by omega) kR0
  rw [kI_id hoc, nI_0] at lp
  have hsub : nI L.length - 1 = nI (L.length - 1) := nI_sub (a := L.length) (b := 1) (by omega)
  have s1 : kn 72 0 [.ref dk, .int (nI d), .null, .null] [] M = kn 72 10 [.ref dk, .int (nI d), .ref o, .int 0] [] M0 := by
    rw [hM0, ho]
    simp only [k_72_0, k_72_1, k_72_2, k_72_3, k_72_4, k_72_7, k_72_8, k_72_9, sm_0, sm_c, ct_i, ct_r, ct_n, ct_l, ct_d, tl_s, tl_n, oK_s, cS_s, cI_0, cI_9, cA_s, cR_s, cQ_s, cN_i, cN_r, cO_s, rS_s, rK_s, cK_i, cK_j, cK_d, if_true, if_false, true_or, or_true, Nat.reduceAdd, Nat.reduceLeDiff, Nat.zero_le, Nat.reduceEqDiff, Nat.reduceSub, eq_self, Nat.le_refl, ne_eq, not_false_eq_true, i1_0, i0_1, kSm_0, kSm_1, kSm_2, kSm_3, kSm_4, x5_0, x5_1, x5_2, x5_3, x5_4, q2, hsub, nA_n (show L.length - 1 ≤ 1000 by omega)]
  rw [← ho]
  have hlE : (L.eraseIdx d).length = L.length - 1 := by rw [List.length_eraseIdx, if_pos hd]
  generalize hv2 : cpy 0 (L.length - 1) (fun i => if i < d then vv i else vv (i + 1)) kR0 = v2 at lp
  refine ⟨_, by rw [s1, lp], (kI_ne (by omega)).trans hS0, ?_, by rw [hM0]; rfl, ?_, ?_⟩
  · refine Fr.tr (B := M0) (by rw [hM0]; exact Fr.ka) (Fr.tr (Fr.ki (by rw [hoc]; rfl)) (Fr.ki ?_))
    rw [kI_ne (show s ≠ o by omega), hS0]
    rfl
  · have lo : ∀ k c, k ≤ kN M → M.1 k = c → c ≠ .inr (.inr (.inl (kSm dk gu kk pa ha))) → (kI (kI M0 o (.inr (.inl (2, L.length - 1, v2)))) s (.inr (.inr (.inl (kSm o gu kk pa ha))))).1 k = c := fun k c hk e hc => (kI_ne (cell_ne e q1 hc)).trans ((kI_ne (by omega)).trans ((lo0 k hk).trans e))
    have hN : kN (kI (kI M0 o (.inr (.inl (2, L.length - 1, v2)))) s (.inr (.inr (.inl (kSm o gu kk pa ha))))) = kN M + 1 := hN0
    refine ⟨o, gu, pa, ha, v2, fun i => if i < d then r i else r (i + 1), fun i => if i < d then gg i else gg (i + 1), gw, pl, hu, ⟨kI_self, (kI_ne (by omega)).trans (by rw [hlE]; exact kI_self), fun i hi => ?_, lo _ _ n3 q4 (by simp), q5, by omega, q7.erase d⟩, ⟨by omega, by omega, by omega, fun i hi => ?_⟩, lo _ _ np hp (by simp), lo _ _ nh hh (by simp), by omega, by omega, hne, zp, zh⟩
    · rw [hlE] at hi
      have hv : v2 i = if i < d then vv i else vv (i + 1) := by
        rw [← hv2]
        unfold cpy
        rw [if_pos ⟨Nat.zero_le _, hi⟩]
      rw [hv, dd_erase]
      by_cases hid : i < d
      · obtain ⟨a1, a2, a3⟩ := q3 i (by omega)
        simp only [if_pos hid]
        exact ⟨a1, lo _ _ (n4 i (by omega)) a2 (by simp), a3⟩
      · obtain ⟨a1, a2, a3⟩ := q3 (i + 1) (by omega)
        simp only [if_neg hid]
        exact ⟨a1, lo _ _ (n4 (i + 1) (by omega)) a2 (by simp), a3⟩
    · rw [hlE] at hi
      show (if i < d then r i else r (i + 1)) ≤ _
      rw [hN]
      by_cases hid : i < d
      · have := n4 i (by omega)
        rw [if_pos hid]; omega
      · have := n4 (i + 1) (by omega)
        rw [if_neg hid]; omega
  · rw [hM0]
    exact ⟨Nat.le_refl _, by show kSs M + (L.length - 1) ≤ _; omega⟩
