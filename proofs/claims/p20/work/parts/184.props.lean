/-! what the law asks, of the answers alone -/
section
variable {L : List Dd} {w : Int32} {a b : Nat}
theorem clD_sym {d : Dd} : clD w a b d L = clD w b a d L := by
  unfold clD
  rw [Bool.or_comm]
theorem clR_sym : ∀ (L : List Dd) (x : Bool), clR w a b L x = clR w b a L x
  | [], x => rfl
  | d :: L, x => by rw [clR, clR, clD_sym, clR_sym L]
theorem cl_sym (hO : okL L) (ha : a < 16) (hb : b < 16) : bt ((STU L w).2.1 a) b = bt ((STU L w).2.1 b) a := by
  rw [← clM_bt hO ha hb, ← clM_bt hO hb ha]
  unfold clM
  rw [clR_sym, Bool.and_comm (lvB w a L)]
  congr 1
  exact decide_eq_decide.mpr ⟨fun h e => h e.symm, fun h e => h e.symm⟩
theorem cl_irr (hO : okL L) (ha : a < 16) : bt ((STU L w).2.1 a) a = false := by
  rw [← clM_bt hO ha ha]
  unfold clM
  rw [decide_eq_false (fun h => h rfl)]
  rfl
theorem clR_t : ∀ L : List Dd, clR w a b L true = true
  | [] => rfl
  | d :: L => by rw [clR, Bool.true_or]; exact clR_t L
theorem clR_ge : ∀ (L : List Dd) (d : Nat) (x : Bool), d < L.length → clD w a b (dd L d) (L.drop (d + 1)) = true → clR w a b L x = true
  | [], d, x, hd, _ => absurd hd (by simp)
  | e :: L, 0, x, _, h => by
    rw [clR]
    have : clD w a b e L = true := h
    rw [this, Bool.or_true]
    exact clR_t L
  | e :: L, d + 1, x, hd, h => by
    rw [clR]
    exact clR_ge L d _ (by simpa using hd) h
theorem clash_live (hO : okL L) {d p q : Nat} (hd : d < L.length) (hp : p < 16) (hq : q < 16) (hpq : ¬ q = p) (e : (dd L d).1 = nI p) (hl : bt (liveL (L.drop (d + 1)) w) q = true) (hn : ¬ ((dd L d).2.2.2.2 = 1 ∧ (dd L d).2.1 = nI q)) : bt ((STU L w).2.1 q) p = true := by
  rw [← clM_bt hO hq hp]
  unfold clM
  rw [decide_eq_true hpq, Bool.true_and]
  apply clR_ge L d _ hd
  unfold clD
  rw [lvB_bt hq (hO.drop _), hl, e]
  have : (decide ((dd L d).2.2.2.2 = 1) && decide ((dd L d).2.1 = nI q)) = false := by
    cases h1 : (decide ((dd L d).2.2.2.2 = 1) && decide ((dd L d).2.1 = nI q)) with
    | false => rfl
    | true => simp only [Bool.and_eq_true, decide_eq_true_eq] at h1; exact absurd h1 hn
  rw [this]
  simp
theorem live_prev (hO : okL L) {d q : Nat} (hd : d < L.length) (hq : q < 16) : bt (liveL (L.drop d) w) q = ((decide (nI q = (dd L d).2.1) || decide (nI q = (dd L d).2.2.1)) || (bt (liveL (L.drop (d + 1)) w) q && decide (¬ nI q = (dd L d).1))) := by
  rw [← lvB_bt hq (hO.drop _), ← lvB_bt hq (hO.drop _), drop_dd hd, lvB]
  unfold usB
  have e1 : decide ((dd L d).2.1 = nI q) = decide (nI q = (dd L d).2.1) := decide_eq_decide.mpr ⟨Eq.symm, Eq.symm⟩
  have e2 : decide ((dd L d).2.2.1 = nI q) = decide (nI q = (dd L d).2.2.1) := decide_eq_decide.mpr ⟨Eq.symm, Eq.symm⟩
  rw [e1, e2]
  by_cases h1 : (dd L d).1 = nI q
  · rw [decide_eq_false (show ¬ ¬ nI q = (dd L d).1 from fun h => h h1.symm), if_pos h1]
    cases (decide (nI q = (dd L d).2.1) || decide (nI q = (dd L d).2.2.1)) <;> simp
  · rw [decide_eq_true (show ¬ nI q = (dd L d).1 from fun h => h1 h.symm), if_neg h1]
    cases (decide (nI q = (dd L d).2.1) || decide (nI q = (dd L d).2.2.1)) <;> simp
def nmB (p : Nat) (d : Dd) : Bool := decide (d.1 = nI p) || usB d p
theorem lvB_nm : ∀ L : List Dd, lvB w a L = true → (bt w a || L.any (nmB a)) = true
  | [], h => by rw [lvB] at h; simp [h]
  | d :: L, h => by
    rw [lvB] at h
    rw [List.any_cons]
    by_cases h1 : usB d a = true
    · simp [nmB, h1]
    · rw [if_neg h1] at h
      by_cases h2 : d.1 = nI a
      · rw [if_pos h2] at h; cases h
      · rw [if_neg h2] at h
        have := lvB_nm L h
        simp only [Bool.or_eq_true] at this ⊢
        rcases this with h3 | h3
        · exact Or.inl h3
        · exact Or.inr (Or.inr h3)
theorem clR_nm : ∀ (L : List Dd) (x : Bool), clR w a b L x = true → x = true ∨ (bt w a || L.any (nmB a)) = true
  | [], x, h => Or.inl h
  | d :: L, x, h => by
    rw [clR] at h
    rw [List.any_cons]
    rcases clR_nm L _ h with h1 | h1
    · rw [Bool.or_eq_true] at h1
      rcases h1 with h1 | h1
      · exact Or.inl h1
      · right
        unfold clD at h1
        simp only [Bool.or_eq_true, Bool.and_eq_true, decide_eq_true_eq] at h1
        rcases h1 with ⟨h2, -⟩ | ⟨-, h2, -⟩
        · simp [nmB, h2]
        · have := lvB_nm L h2
          simp only [Bool.or_eq_true] at this ⊢
          rcases this with h3 | h3
          · exact Or.inl h3
          · exact Or.inr (Or.inr h3)
    · right
      simp only [Bool.or_eq_true] at h1 ⊢
      rcases h1 with h3 | h3
      · exact Or.inl h3
      · exact Or.inr (Or.inr h3)
theorem th_nm (hO : okL L) {p : Nat} (hp : p < 16) : bt (STU L w).1 p = (bt w p || L.any (nmB p)) := by
  rw [← thR_bt hp hO, thR_or]
  rfl
theorem cl_th (hO : okL L) (ha : a < 16) (hb : b < 16) (h : bt ((STU L w).2.1 a) b = true) : bt (STU L w).1 a = true := by
  rw [th_nm hO ha]
  rw [← clM_bt hO ha hb] at h
  unfold clM at h
  simp only [Bool.and_eq_true] at h
  rcases clR_nm L _ h.2 with h1 | h1
  · simp only [Bool.and_eq_true] at h1
    exact lvB_nm L h1.1
  · exact h1
theorem csR_no {p : Nat} : ∀ (L : List Dd) (c : Int32), L.any (nmB p) = false → csR p L c = c
  | [], c, _ => rfl
  | d :: L, c, h => by
    rw [List.any_cons, Bool.or_eq_false_iff] at h
    obtain ⟨h1, h2⟩ := h
    unfold nmB usB at h1
    simp only [Bool.or_eq_false_iff, decide_eq_false_iff_not] at h1
    obtain ⟨a1, a2, a3⟩ := h1
    rw [csR, if_neg a1, if_neg a2, if_neg a3, Int32.add_zero, Int32.add_zero, Int32.add_zero]
    exact csR_no L c h2
theorem co_no (hO : okL L) {p : Nat} (hp : p < 16) (h : bt (STU L w).1 p = false) : (STU L w).2.2.2 p = 0 := by
  rw [th_nm hO hp, Bool.or_eq_false_iff] at h
  rw [← csR_co hp hO]
  exact csR_no L 0 h.2
theorem pcn_mono {x y : Int32} (h : ∀ i, i < 16 → bt x i = true → bt y i = true) : ∀ n, n ≤ 16 → pcn x n ≤ pcn y n
  | 0, _ => Nat.le_refl _
  | n + 1, hn => by
    have := pcn_mono h n (by omega)
    rw [pcn, pcn]
    cases hb : bt x n with
    | false => rw [if_neg (by decide)]; omega
    | true => rw [if_pos rfl, if_pos (h n (by omega) hb)]; omega
theorem bc_mono {x y : Int32} (hx : s16 x) (hy : s16 y) (h : ∀ i, i < 16 → bt x i = true → bt y i = true) : bc x ≤ bc y := by
  rw [bc_pcn hx, bc_pcn hy]
  exact nI_le (pcn_mono h 16 (Nat.le_refl _)) (by have := pcn_le y 16; omega)
theorem live_th (hO : okL L) {d p : Nat} (hp : p < 16) (h : bt (liveL (L.drop d) w) p = true) : bt (STU L w).1 p = true := by
  rw [th_nm hO hp]
  rw [← lvB_bt hp (hO.drop _)] at h
  have := lvB_nm _ h
  simp only [Bool.or_eq_true, List.any_eq_true] at this ⊢
  rcases this with h1 | ⟨x, hx, h1⟩
  · exact Or.inl h1
  · exact Or.inr ⟨x, List.mem_of_mem_drop hx, h1⟩
theorem crw_c : ∀ (L : List Dd) (c : Int32), c ≤ crw w L c
  | [], c => Int32.le_refl c
  | _ :: L, c => by
    rw [crw]
    refine Int32.le_trans ?_ (crw_c L _)
    split
    · rename_i h; exact Int32.le_of_lt h
    · exact Int32.le_refl c
theorem crw_ge : ∀ (L : List Dd) (d : Nat) (c : Int32), d < L.length → bc (liveL (L.drop (d + 1)) w) ≤ crw w L c
  | [], d, c, hd => absurd hd (by simp)
  | e :: L, 0, c, _ => by
    rw [crw]
    refine Int32.le_trans ?_ (crw_c L _)
    show bc (liveL L w) ≤ _
    split
    · exact Int32.le_refl _
    · rename_i h; exact Int32.not_lt.mp h
  | e :: L, d + 1, c, hd => by
    rw [crw]
    exact crw_ge L d _ (by simpa using hd)
theorem crw_le {B : Int32} : ∀ (L : List Dd) (c : Int32), c ≤ B → (∀ d, d < L.length → bc (liveL (L.drop (d + 1)) w) ≤ B) → crw w L c ≤ B
  | [], c, hc, _ => hc
  | e :: L, c, hc, h => by
    rw [crw]
    refine crw_le L _ ?_ (fun d hd => h (d + 1) (by simpa using hd))
    split
    · exact h 0 (by simp)
    · exact hc
theorem crowd_th (hO : okL L) (hw : s16 w) : crw w L (bc (liveL L w)) ≤ bc (STU L w).1 := by
  have hth := s16_th hO hw
  refine crw_le L _ ?_ (fun d hd => bc_mono (s16_liveL hw (hO.drop _)) hth (fun i hi hb => live_th hO hi hb))
  exact bc_mono (s16_liveL hw hO) hth (fun i hi hb => live_th (d := 0) hO hi hb)
/-- pairs of clashing pots, counted from both sides -/
def psT (cl : Nat → Int32) (n : Nat) : Nat → Nat
  | 0 => 0
  | m + 1 => psT cl n m + pcn (cl m) n
def psC (cl : Nat → Int32) (n : Nat) : Nat → Nat
  | 0 => 0
  | m + 1 => psC cl n m + (if bt (cl m) n = true then 1 else 0)
theorem psT_s {cl : Nat → Int32} {n : Nat} : ∀ m, psT cl (n + 1) m = psT cl n m + psC cl n m
  | 0 => rfl
  | m + 1 => by rw [psT, psT, psC, psT_s m, pcn]; omega
theorem psC_pcn {cl : Nat → Int32} {n : Nat} (hn : n < 16) (hS : ∀ i, i < 16 → bt (cl i) n = bt (cl n) i) : ∀ m, m ≤ 16 → psC cl n m = pcn (cl n) m
  | 0, _ => rfl
  | m + 1, hm => by rw [psC, pcn, psC_pcn hn hS m (by omega), hS m (by omega)]
theorem psT_even {cl : Nat → Int32} (hS : ∀ i, i < 16 → ∀ j, j < 16 → bt (cl i) j = bt (cl j) i) (hI : ∀ i, i < 16 → bt (cl i) i = false) : ∀ n, n ≤ 16 → ∃ t, psT cl n n = 2 * t
  | 0, _ => ⟨0, rfl⟩
  | n + 1, hn => by
    obtain ⟨t, ht⟩ := psT_even hS hI n (by omega)
    refine ⟨t + pcn (cl n) n, ?_⟩
    rw [psT, psT_s, psC_pcn (by omega) (fun i hi => hS i hi n (by omega)) n (by omega), ht, pcn, hI n (by omega), if_neg (by decide)]
    omega
theorem psT_le {cl : Nat → Int32} : ∀ m, psT cl 16 m ≤ 16 * m
  | 0 => Nat.le_refl _
  | m + 1 => by have := psT_le (cl := cl) m; have := pcn_le (cl m) 16; rw [psT]; omega
theorem prR_ps {cl : Nat → Int32} (hs : ∀ i, i < 16 → s16 (cl i)) : ∀ (n : Nat), n ≤ 16 → prR cl n (nI (psT cl 16 (16 - n))) = nI (psT cl 16 16)
  | 0, _ => rfl
  | n + 1, hn => by
    have ih := prR_ps hs n (by omega)
    rw [show 16 - n = (15 - n) + 1 by omega, psT] at ih
    rw [prR, bc_pcn (hs _ (by omega)), nI_add, show 16 - (n + 1) = 15 - n by omega]
    exact ih
theorem pairs_2 (hO : okL L) (hw : s16 w) {kk : Nat} : prR (STU L w).2.1 16 0 = 2 * aCnt L w kk 3 := by
  have h1 := prR_ps (cl := (STU L w).2.1) (fun i hi => s16_cl hw hO i hi) 16 (Nat.le_refl _)
  obtain ⟨t, ht⟩ := psT_even (cl := (STU L w).2.1) (fun i hi j hj => cl_sym hO hi hj) (fun i hi => cl_irr hO hi) 16 (Nat.le_refl _)
  have hle := psT_le (cl := (STU L w).2.1) 16
  rw [ht] at h1 hle
  have h0 : prR (STU L w).2.1 16 0 = nI (2 * t) := h1
  show _ = 2 * (prR (STU L w).2.1 16 0 >>> ((1 : Int32) &&& 31))
  rw [h0, ← half (2 * t) (by omega)]
  have e2 : nI (2 * t) / 2 = nI t := by
    have := nI_div (a := 2 * t) (b := 2) (by omega) (by omega)
    rw [show 2 * t / 2 = t by omega] at this
    exact this
  rw [e2]
  exact (nI_mul 2 t).symm
/-- the hanging: no clash on a hook, no hook that was free -/
def hgV (cl : Nat → Int32) (kk : Nat) (s : huT) : Prop := (∀ p q, p < 16 → q < 16 → bt (cl p) q = true → s.1 p = s.1 q → s.1 p = -1) ∧ ∀ p, p < 16 → bt s.2.2 p = true → ∀ h, h < kk → ∃ j, j < 16 ∧ bt (cl p) j = true ∧ s.1 j = nI h
theorem ffR_fr {pa : Nat → Int32} {rv : Int32} {kk x : Nat} (hk : kk ≤ 16) (hx : x < 16) : ∀ n, n ≤ kk → ffR pa rv kk n = nI x → frB pa (nI x) rv = true
  | 0, _, h => absurd h.symm (nI_m1 hx)
  | n + 1, hn, h => by
    rw [ffR] at h
    split at h
    · rename_i hc
      rw [← h]; exact hc
    · exact ffR_fr hk hx n (by omega) h
theorem chs_fr {cl po : Nat → Int32} {kk p x : Nat} {s : huT} (hk : kk ≤ 16) (hx : x < 16) (h : chs cl po kk p s = nI x) : frB s.2.1 (nI x) (cl p) = true := by
  unfold chs at h
  rcases hpR_spec (hk := s.1) (pa := s.2.1) (pr := po p) (rv := cl p) 16 (Nat.le_refl _) with ⟨h1, -⟩ | ⟨q, -, h2, h3, -, h5⟩
  · rw [if_pos h1] at h
    exact ffR_fr hk hx kk (Nat.le_refl _) h
  · by_cases h1 : hpR s.1 s.2.1 (po p) (cl p) 16 = -1
    · rw [if_pos h1] at h
      exact ffR_fr hk hx kk (Nat.le_refl _) h
    · rw [if_neg h1] at h
      rw [← h, h5]
      exact h3.2
theorem chs_no {cl po : Nat → Int32} {kk p : Nat} {s : huT} (hk : kk ≤ 16) (h : chs cl po kk p s = -1) : ∀ x, x < kk → frB s.2.1 (nI x) (cl p) = false := by
  unfold chs at h
  split at h
  · intro x hx
    exact ffR_all kk (Nat.le_refl _) hk h x (by omega) hx
  · rename_i hn; exact absurd h hn
theorem fr_no {hk pa : Nat → Int32} (hP : PAi hk pa) {h : Nat} (hh : h < 16) {rv : Int32} (e : frB pa (nI h) rv = true) : ∀ j, j < 16 → bt rv j = true → ¬ hk j = nI h := fun j hj hb he => by
  rw [frB_frR hP hh] at e
  exact (frR_iff 16 (Nat.le_refl _)).mp e j (by omega) hj ⟨hb, he⟩
theorem fr_ex {hk pa : Nat → Int32} (hP : PAi hk pa) {h : Nat} (hh : h < 16) {rv : Int32} (e : frB pa (nI h) rv = false) : ∃ j, j < 16 ∧ bt rv j = true ∧ hk j = nI h := by
  rw [frB_frR hP hh] at e
  apply Classical.byContradiction
  intro hn
  have : frR rv hk (nI h) 16 = true := (frR_iff 16 (Nat.le_refl _)).mpr (fun j _ hj hc => hn ⟨j, hj, hc.1, hc.2⟩)
  rw [this] at e
  cases e
theorem hgV_hgR {cl po : Nat → Int32} {kk C : Nat} {as : Nat → Int32} (hk : kk ≤ 16) (hD : ∀ i j, i < j → j < C → ¬ as i = as j) (hS : ∀ i, i < 16 → ∀ j, j < 16 → bt (cl i) j = bt (cl j) i) (hI : ∀ i, i < 16 → bt (cl i) i = false) : ∀ (n : Nat), n ≤ C → ∀ (s : huT), hgI C as n s → hgV cl kk s → hgV cl kk (hgR cl po kk as n s)
  | 0, _, s, _, h => h
  | n + 1, hn, s, h, hv => by
    obtain ⟨p, hp, e, hm⟩ := h.2.2.1 n (by omega)
    have hI2 := hgI_s (cl := cl) (po := po) hk hD hn h
    rw [hgR]
    refine hgV_hgR hk hD hS hI n (by omega) _ hI2 ?_
    rw [e]
    rcases chs_in (cl := cl) (po := po) (p := p) hk h.1 with hc | ⟨x, hx, hc⟩
    · rw [huS_m1 hp hc]
      refine ⟨hv.1, fun q hq hb y hy => ?_⟩
      dsimp only at hb ⊢
      by_cases hqp : q = p
      · subst hqp
        exact fr_ex h.1 (by omega) (chs_no hk hc y hy)
      · rw [b_or, bt_bI hp] at hb
        exact hv.2 q hq (by simpa [hqp] using hb) y hy
    · have hfr := fr_no h.1 hx (chs_fr hk hx hc)
      rw [huS_h hp hx hc]
      refine ⟨fun q r hq hr hb he => ?_, fun q hq hb y hy => ?_⟩
      · dsimp only at he ⊢
        by_cases hqp : q = p
        · subst hqp
          by_cases hrp : r = q
          · subst hrp
            rw [hI _ hq] at hb
            cases hb
          · rw [upd_at, upd_ne hrp] at he
            exact absurd he.symm (hfr r hr hb)
        · by_cases hrp : r = p
          · subst hrp
            rw [upd_at, upd_ne hqp] at he
            rw [hS q hq r hr] at hb
            exact absurd he (hfr q hq hb)
          · rw [upd_ne hqp, upd_ne hrp] at he
            rw [upd_ne hqp]
            exact hv.1 q r hq hr hb he
      · obtain ⟨j, hj, h1, h2⟩ := hv.2 q hq hb y hy
        refine ⟨j, hj, h1, ?_⟩
        dsimp only
        rw [upd_ne (fun ej => by rw [ej, hm] at h2; exact nI_m1 (by omega) h2.symm)]
        exact h2
theorem HG_V {kk : Nat} (hO : okL L) (hl : L.length ≤ 30) (hw : s16 w) (hk : 1 ≤ kk) (hk2 : kk ≤ 16) : hgV (STU L w).2.1 kk (HG L w kk) := by
  obtain ⟨hA, hC⟩ := PLA_inv (L := L) (w := w) (kk := kk) hO hl hw hk hk2
  have hn : ∀ p, p < 16 → n16 p = -1 := fun p hp => by unfold n16; rw [if_pos hp]
  refine hgV_hgR hk2 hA.2.1 (fun i hi j hj => cl_sym hO hi hj) (fun i hi => cl_irr hO hi) _ (Nat.le_refl _) (n16, zf, 0) ⟨PAi_0, s16_0, fun j hj => ?_, fun q hq => ?_⟩ ⟨fun p q hp hq _ _ => hn p hp, fun p hp hb => ?_⟩
  · obtain ⟨p, hp, e, _⟩ := hA.1 j hj
    exact ⟨p, hp, e, hn p hp⟩
  · dsimp only
    rw [b_0]
    exact ⟨fun h => (by cases h), fun h => by
      obtain ⟨j, h1, h2, _⟩ := h.1
      omega⟩
  · dsimp only at hb
    rw [b_0] at hb
    cases hb
/-- fewest, by what would lie on the floor -/
theorem fwR_spec (hO : okL L) (hl : L.length ≤ 30) (hw : s16 w) : ∀ (n : Nat), n ≤ 15 → ∃ k, 16 - n ≤ k ∧ k ≤ 16 ∧ fwR L w n = nI k ∧ bc (HG L w k).2.2 = 0 ∧ ∀ j, 16 - n ≤ j → j < k → ¬ bc (HG L w j).2.2 = 0
  | 0, _ => ⟨16, Nat.le_refl _, Nat.le_refl _, rfl, by rw [HG_16 hO hl hw, bc_0 s16_0], fun j h1 h2 => by omega⟩
  | n + 1, hn => by
    rw [fwR]
    by_cases h0 : bc (HG L w (15 - n)).2.2 = 0
    · rw [if_pos h0]
      exact ⟨15 - n, by omega, by omega, rfl, h0, fun j h1 h2 => by omega⟩
    · rw [if_neg h0]
      obtain ⟨k, h1, h2, h3, h4, h5⟩ := fwR_spec hO hl hw n (by omega)
      refine ⟨k, by omega, h2, h3, h4, fun j h6 h7 => ?_⟩
      by_cases hj : j = 15 - n
      · rw [hj]; exact h0
      · exact h5 j (by omega) h7
/-- advise: the least, and of equals the first -/
theorem advR_spec {g : Nat → Int32} : ∀ (n j : Nat) (b c : Int32), j + n < 2147483648 → (b = -1 ∧ j = 0 ∨ ∃ x, x < j ∧ b = nI x ∧ c = g x ∧ ∀ y, y < j → g x ≤ g y ∧ (y < x → ¬ g x = g y)) → (advR g n j b c = -1 ∧ j + n = 0) ∨ ∃ x, x < j + n ∧ advR g n j b c = nI x ∧ ∀ y, y < j + n → g x ≤ g y ∧ (y < x → ¬ g x = g y)
  | 0, j, b, c, hj, h => by
    rcases h with ⟨h1, h2⟩ | ⟨x, h1, h2, h3, h4⟩
    · exact Or.inl ⟨h1, h2⟩
    · exact Or.inr ⟨x, h1, h2, h4⟩
  | n + 1, j, b, c, hj, h => by
    rw [advR, show j + (n + 1) = (j + 1) + n by omega]
    by_cases hc : b = -1 ∨ g j < c
    · rw [if_pos hc]
      refine advR_spec n (j + 1) _ _ (by omega) (Or.inr ⟨j, by omega, rfl, rfl, fun y hy => ?_⟩)
      by_cases hyj : y = j
      · rw [hyj]; exact ⟨Int32.le_refl _, fun hh => absurd hh (by omega)⟩
      · rcases h with ⟨h1, h2⟩ | ⟨x, h1, h2, h3, h4⟩
        · omega
        · have hlt : g j < g x := by
            rcases hc with hc | hc
            · exact absurd (h2.symm.trans hc) (fun e => by
                have := p_lo (show x < 2147483648 by omega)
                rw [e] at this
                exact absurd this (by decide))
            · rw [h3] at hc; exact hc
          have h5 := (h4 y (by omega)).1
          have h6 : g j < g y := Int32.lt_of_lt_of_le hlt h5
          exact ⟨Int32.le_of_lt h6, fun _ e => by rw [e] at h6; exact Int32.lt_irrefl h6⟩
    · rw [if_neg hc]
      refine advR_spec n (j + 1) _ _ (by omega) ?_
      rcases h with ⟨h1, h2⟩ | ⟨x, h1, h2, h3, h4⟩
      · exact absurd (Or.inl h1) hc
      · refine Or.inr ⟨x, by omega, h2, h3, fun y hy => ?_⟩
        by_cases hyj : y = j
        · rw [hyj, ← h3]
          exact ⟨Int32.not_lt.mp (fun hh => hc (Or.inr hh)), fun hh => absurd hh (by omega)⟩
        · exact h4 y (by omega)
end
