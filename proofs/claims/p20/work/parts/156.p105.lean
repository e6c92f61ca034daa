/-! the reference: fewest, advise, mean, digest; sixteen hooks are always enough -/
theorem pcn_add {x : Int32} {p : Nat} (hp : p < 16) (hb : bt x p = false) : pcn (x ||| bI (nI p)) 16 = pcn x 16 + 1 := by
  have h1 : bt (x ||| bI (nI p)) p = true := by rw [b_or, bt_bI hp]; simp
  have h2 := pcn_rm hp h1 16 (Nat.le_refl _)
  rw [if_pos hp] at h2
  have e : (x ||| bI (nI p)) &&& (bI (nI p) ^^^ (-1)) = x := b_ext fun i hi => by
    rw [b_and, bt_not _ hi, b_or, bt_bI hp]
    by_cases h : i = p
    · rw [h, hb]; simp
    · simp [h]
  rw [e] at h2
  exact h2.symm
/-- a set of m pots that hang, if each of the first m hooks has one -/
theorem hung_m {hk : Nat → Int32} (hq : ∀ h, h < 16 → ∃ q, q < 16 ∧ hk q = nI h) : ∀ m, m ≤ 16 → ∃ x : Int32, (∀ q, q < 16 → bt x q = true → ∃ h, h < m ∧ hk q = nI h) ∧ pcn x 16 = m
  | 0, _ => ⟨0, fun q _ h => (by rw [b_0] at h; cases h), pcn_0 rfl 16⟩
  | m + 1, hm => by
    obtain ⟨x, h1, h2⟩ := hung_m hq m (by omega)
    obtain ⟨q, hq16, hqe⟩ := hq m (by omega)
    have hb : bt x q = false := by
      cases hb : bt x q with
      | false => rfl
      | true =>
        obtain ⟨h, hh, e⟩ := h1 q hq16 hb
        rw [hqe] at e
        have := (nI_eq (show m < 2 ^ 31 by omega) (show h < 2 ^ 31 by omega)).mp e
        omega
    refine ⟨x ||| bI (nI q), fun r hr hbr => ?_, by rw [pcn_add hq16 hb, h2]⟩
    rw [b_or, bt_bI hq16] at hbr
    by_cases hrq : r = q
    · exact ⟨m, by omega, by rw [hrq]; exact hqe⟩
    · obtain ⟨h, hh, e⟩ := h1 r hr (by simpa [hrq] using hbr)
      exact ⟨h, by omega, e⟩
theorem ffR_all {pa : Nat → Int32} {rv : Int32} {kk : Nat} : ∀ n, n ≤ kk → kk ≤ 16 → ffR pa rv kk n = -1 → ∀ h, kk - n ≤ h → h < kk → frB pa (nI h) rv = false
  | 0, _, _, _, h, h1, h2 => absurd h2 (by omega)
  | n + 1, hn, hk, he, h, h1, h2 => by
    rw [ffR] at he
    split at he
    · exact absurd he (nI_m1 (by omega))
    · rename_i hc
      by_cases hh : h = kk - (n + 1)
      · rw [hh]
        exact Bool.eq_false_iff.mpr hc
      · exact ffR_all n (by omega) hk he h (by omega) h2
theorem chs_16 {cl po : Nat → Int32} {p : Nat} (hp : p < 16) {s : huT} (hP : PAi s.1 s.2.1) (hm : s.1 p = -1) : ¬ chs cl po 16 p s = -1 := by
  unfold chs
  split
  · intro he
    have hall := ffR_all 16 (Nat.le_refl _) (Nat.le_refl _) he
    have hq : ∀ h, h < 16 → ∃ q, q < 16 ∧ s.1 q = nI h := fun h hh => by
      have h1 := hall h (by omega) hh
      rw [frB_frR hP hh] at h1
      apply Classical.byContradiction
      intro hn
      have : frR (cl p) s.1 (nI h) 16 = true := (frR_iff 16 (Nat.le_refl _)).mpr (fun j _ hj hc => hn ⟨j, hj, hc.2⟩)
      rw [this] at h1
      cases h1
    obtain ⟨x, h1, h2⟩ := hung_m hq 16 (Nat.le_refl _)
    cases hb : bt x p with
    | true =>
      obtain ⟨h, hh, e⟩ := h1 p hp hb
      rw [hm] at e
      exact nI_m1 hh e.symm
    | false =>
      have := pcn_add hp hb
      have := pcn_le (x ||| bI (nI p)) 16
      omega
  · assumption
theorem hgR_16 {cl po : Nat → Int32} {as : Nat → Int32} : ∀ (n : Nat) (s : huT), PAi s.1 s.2.1 → (∀ j, j < n → ∃ p, p < 16 ∧ as j = nI p ∧ s.1 p = -1) → (∀ i j, i < j → j < n → ¬ as i = as j) → (hgR cl po 16 as n s).2.2 = s.2.2
  | 0, s, _, _, _ => rfl
  | n + 1, s, hP, hA, hD => by
    obtain ⟨p, hp, e, hm⟩ := hA n (by omega)
    have hS := PAi_huS (cl := cl) (po := po) (s := s) (kk := 16) (Nat.le_refl _) hp hP hm
    rw [hgR, e, hgR_16 n _ hS.1 (fun j hj => by
      obtain ⟨q, hq, e2, hm2⟩ := hA j (by omega)
      refine ⟨q, hq, e2, ?_⟩
      rw [hS.2, upd_ne ?_]
      · exact hm2
      · intro hqp
        exact hD j n hj (by omega) (by rw [e2, e, hqp])) (fun i j hi hj => hD i j hi (by omega))]
    rcases chs_in (cl := cl) (po := po) (p := p) (s := s) (kk := 16) (Nat.le_refl _) hP with hc | ⟨x, hx, hc⟩
    · exact absurd hc (chs_16 hp hP hm)
    · rw [huS_h hp hx hc]
theorem HG_16 {L : List Dd} {w : Int32} (hO : okL L) (hl : L.length ≤ 30) (hw : s16 w) : (HG L w 16).2.2 = 0 := by
  obtain ⟨hA, hC⟩ := PLA_inv (kk := 16) hO hl hw (by omega) (by omega)
  exact hgR_16 _ (n16, zf, 0) PAi_0 (fun j hj => by
    obtain ⟨p, hp, e, _⟩ := hA.1 j hj
    exact ⟨p, hp, e, by show n16 p = -1; unfold n16; rw [if_pos hp]⟩) hA.2.1
section
variable {L : List Dd} {w : Int32} {K : Nat}
end

