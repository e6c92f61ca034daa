/-! the reference: hang; what holds of a hanging -/
def pcn (x : Int32) : Nat → Nat
  | 0 => 0
  | n + 1 => pcn x n + (if bt x n = true then 1 else 0)
theorem pcn_le (x : Int32) : ∀ n, pcn x n ≤ n
  | 0 => Nat.le_refl _
  | n + 1 => by
    have := pcn_le x n
    rw [pcn]
    split <;> omega
theorem pcn_pos {x : Int32} : ∀ (n i : Nat), i < n → bt x i = true → 1 ≤ pcn x n
  | 0, i, h, _ => absurd h (by omega)
  | n + 1, i, h, hb => by
    rw [pcn]
    by_cases hi : i = n
    · rw [hi] at hb
      rw [if_pos hb]; omega
    · have := pcn_pos n i (by omega) hb
      omega
theorem pcn_rm {x : Int32} {p : Nat} (hp : p < 16) (hb : bt x p = true) : ∀ n, n ≤ 16 → pcn (x &&& (bI (nI p) ^^^ (-1))) n + (if p < n then 1 else 0) = pcn x n
  | 0, _ => by simp [pcn]
  | n + 1, hn => by
    have ih := pcn_rm hp hb n (by omega)
    have hr : bt (x &&& (bI (nI p) ^^^ (-1))) n = (bt x n && decide (¬ n = p)) := by
      rw [b_and, bt_not _ (by omega), bt_bI hp]; simp
    rw [pcn, pcn, hr]
    by_cases h : n = p
    · subst h
      rw [if_neg (show ¬ n < n by omega)] at ih
      rw [show (bt x n && decide (¬ n = n)) = false by simp, if_neg (show ¬ false = true by decide), if_pos (show n < n + 1 by omega), if_pos hb]
      omega
    · have e : (if p < n + 1 then 1 else 0) = (if p < n then (1 : Nat) else 0) := by
        by_cases h2 : p < n
        · rw [if_pos h2, if_pos (by omega)]
        · rw [if_neg h2, if_neg (by omega)]
      rw [e, ← ih]
      simp only [h, not_false_eq_true, decide_true, Bool.and_true]
      omega
theorem bit_ex {x : Int32} (hs : s16 x) (h : ¬ x = 0) : ∃ i, i < 16 ∧ bt x i = true := by
  apply Classical.byContradiction
  intro hn
  apply h
  apply b_ext
  intro i hi
  rw [b_0]
  by_cases h16 : i < 16
  · cases hb : bt x i with
    | false => rfl
    | true => exact absurd ⟨i, h16, hb⟩ hn
  · exact hs i (by omega)
theorem nx2_in {co R : Nat → Int32} {left : Int32} : ∀ (n : Nat), n ≤ 16 → ∀ (b : Option Nat), (∀ p, b = some p → p < 16 ∧ bt left p = true) → (∀ p, nx2 co R left n b = some p → p < 16 ∧ bt left p = true) ∧ (nx2 co R left n b = none → b = none ∧ ∀ i, i < n → bt left i = false)
  | 0, _, b, hb => ⟨hb, fun h => ⟨h, fun i hi => absurd hi (by omega)⟩⟩
  | n + 1, hn, b, hb => by
    rw [nx2]
    cases hbt : bt left n with
    | false =>
      rw [if_neg (by simp)]
      obtain ⟨h1, h2⟩ := nx2_in (co := co) (R := R) n (by omega) b hb
      refine ⟨h1, fun h => ⟨(h2 h).1, fun i hi => ?_⟩⟩
      by_cases hin : i = n
      · rw [hin]; exact hbt
      · exact (h2 h).2 i (by omega)
    | true =>
      rw [if_pos (show true = true from rfl)]
      have hs : ∃ p, st2 co R n b = some p ∧ p < 16 ∧ bt left p = true := by
        cases b with
        | none => exact ⟨n, rfl, by omega, hbt⟩
        | some p =>
          have := hb p rfl
          by_cases hc : co p * R n < co n * R p
          · exact ⟨p, (if_pos hc : (if co p * R n < co n * R p then some p else some n) = some p), this⟩
          · exact ⟨n, (if_neg hc : (if co p * R n < co n * R p then some p else some n) = some n), by omega, hbt⟩
      obtain ⟨p, e, hp⟩ := hs
      obtain ⟨h1, h2⟩ := nx2_in (co := co) (R := R) n (by omega) (st2 co R n b) (fun q hq => by rw [e] at hq; cases hq; exact hp)
      refine ⟨h1, fun h => ?_⟩
      have := (h2 h).1
      rw [e] at this
      cases this
theorem nxt_in {cl co : Nat → Int32} {left : Int32} {kk : Nat} (hk : 1 ≤ kk) (hk2 : kk ≤ 16) (hc : cSm 10000 co) (hs : s16 left) (h0 : ¬ left = 0) : ∃ p, p < 16 ∧ bt left p = true ∧ nxt cl co left (nI kk) = nI p := by
  rw [nxt_eq hk hk2 hc]
  rcases feR_in (cl := cl) (left := left) (k := nI kk) 16 with h | ⟨p, hp, hb, e⟩
  · rw [if_pos h]
    obtain ⟨h1, h2⟩ := nx2_in (co := co) (R := fun q => bc (cl q &&& left)) (left := left) 16 (Nat.le_refl _) none (fun p hp => by cases hp)
    cases hn : nx2 co (fun q => bc (cl q &&& left)) left 16 none with
    | none =>
      obtain ⟨i, hi, hb⟩ := bit_ex hs h0
      rw [(h2 hn).2 i hi] at hb
      cases hb
    | some p => exact ⟨p, (h1 p hn).1, (h1 p hn).2, rfl⟩
  · rw [if_neg (by rw [e]; exact nI_m1 hp)]
    exact ⟨p, hp, hb, e⟩
theorem atP_p {p : Nat} (hp : p < 16) {g : Nat → Int32} {v : Int32} : atP (nI p) g v = upd g p v := by
  unfold atP
  rw [if_neg (by rw [p_lo (by omega)]; exact id), if_neg (by rw [p_hi hp]; exact id), nI_clamp (by omega)]
theorem uC_4 {f : Nat → Nat → Int32} {a b c d : Nat → Int32} : uC (uC (uC (uC f 45 a) 44 b) 44 c) 45 d = uC (uC f 44 c) 45 d := by
  rw [uC_uC, uC_comm (k := 45) (a := 44) (by omega), uC_uC]
theorem hpR_in {hk pa : Nat → Int32} {pr rv : Int32} (hP : PAi hk pa) : ∀ (n : Nat), hpR hk pa pr rv n = -1 ∨ ∃ h, h < 16 ∧ hpR hk pa pr rv n = nI h
  | 0 => Or.inl rfl
  | n + 1 => by
    rw [hpR]
    split
    · exact hP.2 _ (by omega)
    · exact hpR_in hP n
theorem ffR_in {pa : Nat → Int32} {rv : Int32} {kk : Nat} (hk : kk ≤ 16) : ∀ (n : Nat), n ≤ kk → ffR pa rv kk n = -1 ∨ ∃ h, h < 16 ∧ ffR pa rv kk n = nI h
  | 0, _ => Or.inl rfl
  | n + 1, h => by
    rw [ffR]
    split
    · exact Or.inr ⟨kk - (n + 1), by omega, rfl⟩
    · exact ffR_in hk n (by omega)
theorem chs_in {cl po : Nat → Int32} {kk p : Nat} {s : huT} (hk : kk ≤ 16) (hP : PAi s.1 s.2.1) : chs cl po kk p s = -1 ∨ ∃ h, h < 16 ∧ chs cl po kk p s = nI h := by
  unfold chs
  split
  · exact ffR_in hk kk (Nat.le_refl _)
  · exact hpR_in hP 16
theorem huS_m1 {cl po : Nat → Int32} {kk p : Nat} {s : huT} (hp : p < 16) (h : chs cl po kk p s = -1) : huS cl po kk (nI p) s = (s.1, s.2.1, s.2.2 ||| bI (nI p)) := by
  unfold huS
  rw [if_neg (by rw [p_lo (by omega)]; exact id), if_neg (by rw [p_hi hp]; exact id), nI_clamp (by omega), h, if_pos (by decide)]
theorem huS_h {cl po : Nat → Int32} {kk p q : Nat} {s : huT} (hp : p < 16) (hq : q < 16) (h : chs cl po kk p s = nI q) : huS cl po kk (nI p) s = (upd s.1 p (nI q), upd s.2.1 q (s.2.1 q ||| bI (nI p)), s.2.2) := by
  unfold huS
  rw [if_neg (by rw [p_lo (by omega)]; exact id), if_neg (by rw [p_hi hp]; exact id), nI_clamp (by omega), h, if_neg (by rw [p_lo (by omega)]; exact id), if_neg (by rw [p_hi hq]; exact id), nI_clamp (by omega)]
theorem PAi_upd {hk pa : Nat → Int32} (hP : PAi hk pa) {p q : Nat} (hp : p < 16) (hq : q < 16) (hm : hk p = -1) : PAi (upd hk p (nI q)) (upd pa q (pa q ||| bI (nI p))) := by
  refine ⟨fun h hh i hi => ?_, fun i hi => ?_⟩
  · by_cases hqh : h = q
    · subst hqh
      rw [upd_at, b_or, hP.1 h hh i hi, bt_bI hp]
      by_cases hip : i = p
      · subst hip
        rw [upd_at]
        simp [hp]
      · rw [upd_ne hip]
        simp [hip]
    · rw [upd_ne hqh, hP.1 h hh i hi]
      by_cases hip : i = p
      · subst hip
        rw [upd_at, hm, nI_dec hq hh]
        have h1 : ¬ (-1 : Int32) = nI h := fun e => nI_m1 hh e.symm
        simp [h1, Ne.symm hqh]
      · rw [upd_ne hip]
  · by_cases hip : i = p
    · subst hip
      rw [upd_at]
      exact Or.inr ⟨q, hq, rfl⟩
    · rw [upd_ne hip]
      exact hP.2 i hi
theorem PAi_huS {cl po : Nat → Int32} {kk p : Nat} {s : huT} (hk : kk ≤ 16) (hp : p < 16) (hP : PAi s.1 s.2.1) (hm : s.1 p = -1) : PAi (huS cl po kk (nI p) s).1 (huS cl po kk (nI p) s).2.1 ∧ (huS cl po kk (nI p) s).1 = upd s.1 p (chs cl po kk p s) := by
  rcases chs_in (cl := cl) (po := po) (p := p) hk hP with h | ⟨q, hq, h⟩
  · rw [huS_m1 hp h, h]
    refine ⟨hP, ?_⟩
    rw [← hm, upd_id]
  · rw [huS_h hp hq h, h]
    exact ⟨PAi_upd hP hp hq hm, rfl⟩
/-- the pots put aside so far, of those there -/
def paI (th left : Int32) (c : Nat) (as : Nat → Int32) : Prop := (∀ j, j < c → ∃ p, p < 16 ∧ as j = nI p ∧ bt left p = false ∧ bt th p = true) ∧ (∀ i j, i < j → j < c → ¬ as i = as j) ∧ (∀ p, p < 16 → bt th p = true → bt left p = true ∨ ∃ j, j < c ∧ as j = nI p) ∧ (∀ p, p < 16 → bt left p = true → bt th p = true)
theorem paR_inv {th : Int32} {cl co : Nat → Int32} {kk : Nat} (hk : 1 ≤ kk) (hk2 : kk ≤ 16) (hco : cSm 10000 co) : ∀ (n c : Nat), c + n = 16 → ∀ (left : Int32) (pl as : Nat → Int32), s16 left → pcn left 16 ≤ n → paI th left c as → paI th 0 (paR cl co (nI kk) n left c pl as).1 (paR cl co (nI kk) n left c pl as).2.2 ∧ (paR cl co (nI kk) n left c pl as).1 ≤ 16
  | 0, c, hc, left, pl, as, hs, hp, hI => by
    have h0 : left = 0 := Classical.byContradiction fun h => by
      obtain ⟨i, hi, hb⟩ := bit_ex hs h
      have := pcn_pos 16 i hi hb
      omega
    rw [paR, ← h0]
    exact ⟨hI, by dsimp only; omega⟩
  | n + 1, c, hc, left, pl, as, hs, hp, hI => by
    by_cases h0 : left = 0
    · rw [paR, if_pos h0]
      rw [h0] at hI
      exact ⟨hI, by dsimp only; omega⟩
    · obtain ⟨p, hp16, hb, e⟩ := nxt_in (cl := cl) hk hk2 hco hs h0
      have hpc := pcn_rm hp16 hb 16 (Nat.le_refl _)
      rw [if_pos hp16] at hpc
      rw [paR, if_neg h0, e]
      have hr : ∀ i, i < 16 → bt (left &&& (bI (nI p) ^^^ (-1))) i = (bt left i && decide (¬ i = p)) := fun i hi => by
        rw [b_and, bt_not _ (by omega), bt_bI hp16]; simp
      refine paR_inv hk hk2 hco n (c + 1) (by omega) _ _ _ (s16_and hs) (by omega) ⟨fun j hj => ?_, fun i j hi hj => ?_, fun q hq hth => ?_, fun q hq hl => ?_⟩
      · by_cases hjc : j = c
        · subst hjc
          exact ⟨p, hp16, upd_at _ _ _, by rw [hr p hp16]; simp, hI.2.2.2 p hp16 hb⟩
        · obtain ⟨q, hq, e2, hl, ht⟩ := hI.1 j (by omega)
          exact ⟨q, hq, by rw [upd_ne hjc]; exact e2, by rw [hr q hq, hl]; rfl, ht⟩
      · by_cases hjc : j = c
        · subst hjc
          rw [upd_at, upd_ne (by omega)]
          obtain ⟨q, hq, e2, hl, ht⟩ := hI.1 i (by omega)
          rw [e2]
          intro e3
          have := (nI_eq (show q < 2 ^ 31 by omega) (show p < 2 ^ 31 by omega)).mp e3
          rw [this, hb] at hl
          cases hl
        · rw [upd_ne hjc, upd_ne (by omega)]
          exact hI.2.1 i j hi (by omega)
      · by_cases hqp : q = p
        · exact Or.inr ⟨c, by omega, by rw [upd_at, hqp]⟩
        · rcases hI.2.2.1 q hq hth with h | ⟨j, hj, e2⟩
          · exact Or.inl (by rw [hr q hq, h]; simp [hqp])
          · exact Or.inr ⟨j, by omega, by rw [upd_ne (by omega)]; exact e2⟩
      · rw [hr q hq] at hl
        simp only [Bool.and_eq_true] at hl
        exact hI.2.2.2 q hq hl.1
def hgI (C : Nat) (as : Nat → Int32) (n : Nat) (s : huT) : Prop := PAi s.1 s.2.1 ∧ s16 s.2.2 ∧ (∀ j, j < n → ∃ p, p < 16 ∧ as j = nI p ∧ s.1 p = -1) ∧ (∀ q, q < 16 → (bt s.2.2 q = true ↔ (∃ j, n ≤ j ∧ j < C ∧ as j = nI q) ∧ s.1 q = -1))
theorem hgR_inv {cl po : Nat → Int32} {kk C : Nat} {as : Nat → Int32} (hk : kk ≤ 16) (hD : ∀ i j, i < j → j < C → ¬ as i = as j) : ∀ (n : Nat), n ≤ C → ∀ (s : huT), hgI C as n s → hgI C as 0 (hgR cl po kk as n s)
  | 0, _, s, h => h
  | n + 1, hn, s, h => by
    obtain ⟨p, hp, e, hm⟩ := h.2.2.1 n (by omega)
    have hS := PAi_huS (cl := cl) (po := po) (s := s) hk hp h.1 hm
    rw [hgR, e]
    refine hgR_inv hk hD n (by omega) _ ⟨hS.1, ?_, fun j hj => ?_, fun q hq => ?_⟩
    · rcases chs_in (cl := cl) (po := po) (p := p) hk h.1 with hc | ⟨x, hx, hc⟩
      · rw [huS_m1 hp hc]; exact s16_or h.2.1 (s16_bI (Or.inr ⟨p, hp, rfl⟩))
      · rw [huS_h hp hx hc]; exact h.2.1
    · obtain ⟨q, hq, e2, hm2⟩ := h.2.2.1 j (by omega)
      refine ⟨q, hq, e2, ?_⟩
      rw [hS.2, upd_ne ?_]
      · exact hm2
      · intro hqp
        exact hD j n hj (by omega) (by rw [e2, e, hqp])
    · have hold := h.2.2.2 q hq
      rcases chs_in (cl := cl) (po := po) (p := p) hk h.1 with hc | ⟨x, hx, hc⟩
      · rw [huS_m1 hp hc]
        dsimp only
        rw [b_or, bt_bI hp]
        by_cases hqp : q = p
        · subst hqp
          simp only [decide_true, Bool.or_true, true_iff]
          exact ⟨⟨n, Nat.le_refl _, by omega, e⟩, hm⟩
        · simp only [hqp, decide_false, Bool.or_false]
          rw [hold]
          refine ⟨fun hh => ⟨?_, hh.2⟩, fun hh => ⟨?_, hh.2⟩⟩
          · obtain ⟨j, h1, h2, h3⟩ := hh.1
            exact ⟨j, by omega, h2, h3⟩
          · obtain ⟨j, h1, h2, h3⟩ := hh.1
            refine ⟨j, ?_, h2, h3⟩
            by_cases hjn : j = n
            · rw [hjn, e] at h3
              exact absurd ((nI_eq (show p < 2 ^ 31 by omega) (show q < 2 ^ 31 by omega)).mp h3).symm hqp
            · omega
      · rw [huS_h hp hx hc]
        dsimp only
        by_cases hqp : q = p
        · subst hqp
          rw [upd_at, hold]
          refine ⟨fun hh => ?_, fun hh => absurd hh.2 (nI_m1 hx)⟩
          obtain ⟨j, h1, h2, h3⟩ := hh.1
          exact absurd (by rw [e, h3]) (hD n j (by omega) h2)
        · rw [upd_ne hqp, hold]
          refine ⟨fun hh => ⟨?_, hh.2⟩, fun hh => ⟨?_, hh.2⟩⟩
          · obtain ⟨j, h1, h2, h3⟩ := hh.1
            exact ⟨j, by omega, h2, h3⟩
          · obtain ⟨j, h1, h2, h3⟩ := hh.1
            refine ⟨j, ?_, h2, h3⟩
            by_cases hjn : j = n
            · rw [hjn, e] at h3
              exact absurd ((nI_eq (show p < 2 ^ 31 by omega) (show q < 2 ^ 31 by omega)).mp h3).symm hqp
            · omega
theorem s16_thF : ∀ (L : List Dd) (t : Int32), okL L → s16 t → s16 (thF L t)
  | [], _, _, h => h
  | d :: L, t, hO, h => by
    have hd := hO d List.mem_cons_self
    exact s16_thF L _ (fun x hx => hO x (List.mem_cons_of_mem _ hx)) (s16_or h (s16_or (s16_bI (Or.inr hd.1)) (s16_usd hd)))
theorem s16_th {L : List Dd} {w : Int32} (hO : okL L) (hw : s16 w) : s16 (STU L w).1 := by
  unfold STU
  rw [stF_eq]
  exact s16_thF L w hO hw
theorem PAi_0 : PAi n16 zf := ⟨fun h hh i hi => by
    rw [show zf h = 0 from rfl, b_0]
    by_cases h16 : i < 16
    · have : n16 i = -1 := by unfold n16; rw [if_pos h16]
      rw [this]
      have h2 : ¬ (-1 : Int32) = nI h := fun e => nI_m1 hh e.symm
      simp [h2]
    · simp [h16], fun i hi => Or.inl (by unfold n16; rw [if_pos hi])⟩
theorem PLA_inv {L : List Dd} {w : Int32} {kk : Nat} (hO : okL L) (hl : L.length ≤ 30) (hw : s16 w) (hk : 1 ≤ kk) (hk2 : kk ≤ 16) : paI (STU L w).1 0 (PLA (STU L w) kk).1 (PLA (STU L w) kk).2.2 ∧ (PLA (STU L w) kk).1 ≤ 16 :=
  paR_inv hk hk2 (cSm_STU hO hl) 16 0 (by omega) _ _ _ (s16_th hO hw) (pcn_le _ 16) ⟨fun j hj => absurd hj (by omega), fun i j _ hj => absurd hj (by omega), fun p hp h => Or.inl h, fun p hp h => h⟩
theorem HG_inv {L : List Dd} {w : Int32} {kk : Nat} (hO : okL L) (hl : L.length ≤ 30) (hw : s16 w) (hk : 1 ≤ kk) (hk2 : kk ≤ 16) : PAi (HG L w kk).1 (HG L w kk).2.1 ∧ s16 (HG L w kk).2.2 ∧ ∀ q, q < 16 → bt (HG L w kk).2.2 q = (bt (STU L w).1 q && decide ((HG L w kk).1 q = -1)) := by
  obtain ⟨hA, hC⟩ := PLA_inv hO hl hw hk hk2
  have h0 := hgR_inv (cl := (STU L w).2.1) (po := (STU L w).2.2.1) (kk := kk) hk2 hA.2.1 _ (Nat.le_refl _) (n16, zf, 0) ⟨PAi_0, s16_0, fun j hj => by
    obtain ⟨p, hp, e, _⟩ := hA.1 j hj
    exact ⟨p, hp, e, by show n16 p = -1; unfold n16; rw [if_pos hp]⟩, fun q hq => by
    dsimp only
    rw [b_0]
    exact ⟨fun h => (by cases h), fun h => by
      obtain ⟨j, h1, h2, _⟩ := h.1
      omega⟩⟩
  refine ⟨h0.1, h0.2.1, fun q hq => ?_⟩
  have h1 := h0.2.2.2 q hq
  have hth : (∃ j, 0 ≤ j ∧ j < (PLA (STU L w) kk).1 ∧ (PLA (STU L w) kk).2.2 j = nI q) ↔ bt (STU L w).1 q = true := by
    constructor
    · rintro ⟨j, _, hj, e⟩
      obtain ⟨p, hp, e2, _, ht⟩ := hA.1 j hj
      rw [e2] at e
      rw [← (nI_eq (show p < 2 ^ 31 by omega) (show q < 2 ^ 31 by omega)).mp e]
      exact ht
    · intro h
      rcases hA.2.2.1 q hq h with h2 | ⟨j, hj, e⟩
      · rw [b_0] at h2; cases h2
      · exact ⟨j, by omega, hj, e⟩
  rw [hth] at h1
  have h2 : bt (HG L w kk).2.2 q = true ↔ (bt (STU L w).1 q && decide ((HG L w kk).1 q = -1)) = true := by
    simp only [Bool.and_eq_true, decide_eq_true_eq]
    exact h1
  exact Bool.eq_iff_iff.mpr h2
