/-! what the sim finds by hand is what the kitchen holds in bits -/
theorem bt_bIx {x : Int32} (h : x = -1 ∨ isP x) {p : Nat} (hp : p < 16) : bt (bI x) p = decide (x = nI p) := by
  rcases h with rfl | ⟨a, ha, rfl⟩
  · rw [bI_m1, b_0, decide_eq_false (fun e => nI_m1 hp e.symm)]
  · rw [bt_bI ha, nI_dec ha hp]
    exact decide_eq_decide.mpr ⟨Eq.symm, Eq.symm⟩
theorem usB_bt {d : Dd} (h : okD d) {p : Nat} (hp : p < 16) : usB d p = bt (usd d) p := by
  unfold usB usd
  rw [b_or, bt_bIx h.2.1 hp, bt_bIx h.2.2.1 hp]
theorem lvB_bt {w : Int32} {p : Nat} (hp : p < 16) : ∀ {L : List Dd}, okL L → lvB w p L = bt (liveL L w) p
  | [], _ => rfl
  | d :: L, h => by
    have hd := h d List.mem_cons_self
    have ih := lvB_bt (w := w) hp (L := L) (fun x hx => h x (List.mem_cons_of_mem _ hx))
    rw [lvB, liveL, b_or, b_and, bt_not _ (by omega), bt_bIx (Or.inr hd.1) hp, usB_bt hd hp, ih]
    cases bt (usd d) p
    · by_cases h1 : d.1 = nI p <;> simp [h1]
    · simp
theorem thR_or {p : Nat} : ∀ (L : List Dd) (b : Bool), thR p L b = (b || L.any (fun d => decide (d.1 = nI p) || usB d p))
  | [], b => by simp [thR]
  | d :: L, b => by
    rw [thR, thR_or L, List.any_cons, Bool.or_assoc]
theorem thR_bt {w : Int32} {p : Nat} (hp : p < 16) {L : List Dd} (h : okL L) : thR p L (bt w p) = bt (STU L w).1 p := by
  have h1 : (STU L w).1 = thF L w := by unfold STU; rw [stF_eq]
  rw [h1, bt_thF, thR_or]
  congr 1
  have key : ∀ (L : List Dd), okL L → L.any (fun d => decide (d.1 = nI p) || usB d p) = L.any (fun d => bt (bI d.1) p || bt (usd d) p) := by
    intro L
    induction L with
    | nil => intro _; rfl
    | cons d L ih =>
      intro h
      have hd := h d List.mem_cons_self
      rw [List.any_cons, List.any_cons, ih (fun x hx => h x (List.mem_cons_of_mem _ hx)), bt_bIx (Or.inr hd.1) hp, usB_bt hd hp]
  exact key L h
theorem adC_at {g : Nat → Int32} {x w : Int32} (h : x = -1 ∨ isP x) {p : Nat} (hp : p < 16) : adC g x w p = g p + (if x = nI p then w else 0) := by
  rcases h with rfl | ⟨a, ha, rfl⟩
  · rw [adC_m1, if_neg (fun e => nI_m1 hp e.symm), Int32.add_zero]
  · rw [adC_p ha]
    by_cases hap : p = a
    · subst hap
      rw [upd_at, if_pos rfl]
    · rw [upd_ne hap, if_neg (fun e => hap ((nI_eq (by omega) (by omega)).mp e).symm), Int32.add_zero]
theorem csR_coF {p : Nat} (hp : p < 16) : ∀ (L : List Dd) (g : Nat → Int32), okL L → csR p L (g p) = coF L g p
  | [], g, _ => rfl
  | d :: L, g, h => by
    have hd := h d List.mem_cons_self
    rw [csR, coF, ← csR_coF hp L _ (fun x hx => h x (List.mem_cons_of_mem _ hx)), adC_at hd.2.2.1 hp, adC_at hd.2.1 hp, adC_at (Or.inr hd.1) hp]
theorem csR_co {w : Int32} {p : Nat} (hp : p < 16) {L : List Dd} (h : okL L) : csR p L 0 = (STU L w).2.2.2 p := by
  rw [STU_co]
  exact csR_coF hp L zf h
theorem clF_bt {w : Int32} {a b : Nat} (ha : a < 16) (hb : b < 16) (hab : ¬ a = b) : ∀ (L : List Dd) (cl : Nat → Int32), okL L → bt (clF L w cl a) b = clR w a b L (bt (cl a) b)
  | [], cl, _ => rfl
  | d :: L, cl, h => by
    have hd := h d List.mem_cons_self
    have hL : okL L := fun x hx => h x (List.mem_cons_of_mem _ hx)
    rw [clF, clR, clF_bt ha hb hab L _ hL]
    congr 1
    obtain ⟨p, hp, ep⟩ := hd.1
    rw [ep, nI_clamp (by omega), bt_addC hp ha (by omega)]
    congr 1
    have e1 : ∀ q, q < 16 → bt (if d.2.2.2.2 = 0 then liveL L w else liveL L w &&& (bI d.2.1 ^^^ (-1))) q = (lvB w q L && !(decide (d.2.2.2.2 = 1) && decide (d.2.1 = nI q))) := by
      intro q hq
      rw [lvB_bt hq hL]
      rcases hd.2.2.2.2 with h0 | ⟨h1, -, -⟩
      · rw [if_pos h0, h0]
        simp
      · rw [h1, if_neg (by decide), b_and, bt_not _ (by omega), bt_bIx hd.2.1 hq]
        simp
    unfold prB clD
    rw [e1 a ha, e1 b hb, ep, nI_dec hp ha, nI_dec hp hb]
    by_cases h1 : a = p
    · subst h1
      have h2 : ¬ b = a := fun e => hab e.symm
      simp [h2, hab]
    · by_cases h2 : b = p
      · subst h2
        have h3 : ¬ b = a := fun e => hab e.symm
        simp [h1, h3]
      · have h3 : ¬ p = a := fun e => h1 e.symm
        have h4 : ¬ p = b := fun e => h2 e.symm
        simp [h1, h2, h3, h4]
theorem clF_self {w : Int32} {a : Nat} (ha : a < 16) : ∀ (L : List Dd) (cl : Nat → Int32), okL L → bt (clF L w cl a) a = bt (cl a) a
  | [], cl, _ => rfl
  | d :: L, cl, h => by
    have hd := h d List.mem_cons_self
    rw [clF, clF_self ha L _ (fun x hx => h x (List.mem_cons_of_mem _ hx))]
    obtain ⟨p, hp, ep⟩ := hd.1
    rw [ep, nI_clamp (by omega), bt_addC hp ha (by omega)]
    unfold prB
    by_cases h1 : a = p <;> simp [h1]
theorem l1_bt {fst : Int32} {a b : Nat} (ha : a < 16) (hb : b < 16) (hab : ¬ a = b) : ∀ (n : Nat), n ≤ 16 → ∀ (cl : Nat → Int32), bt (l1 fst n cl a) b = (bt (cl a) b || ((decide (16 - n ≤ a) || decide (16 - n ≤ b)) && (bt fst a && bt fst b)))
  | 0, _, cl => by
    rw [l1, decide_eq_false (by omega), decide_eq_false (by omega)]
    simp
  | n + 1, hn, cl => by
    rw [l1, l1_bt ha hb hab n (by omega)]
    by_cases h0 : bt fst (15 - n) = true
    · rw [if_pos h0, bt_addC (by omega) ha (by omega)]
      unfold prB
      by_cases h1 : a = 15 - n
      · subst h1
        have h2 : ¬ b = 15 - n := fun e => hab e.symm
        rw [decide_eq_false (show ¬ 16 - n ≤ 15 - n by omega), decide_eq_true (show 16 - (n + 1) ≤ 15 - n by omega)]
        simp [h2, h0]
        cases bt (cl (15 - n)) b <;> cases bt fst b <;> simp
      · by_cases h2 : b = 15 - n
        · subst h2
          rw [decide_eq_false (show ¬ 16 - n ≤ 15 - n by omega), decide_eq_true (show 16 - (n + 1) ≤ 15 - n by omega)]
          simp [h1, h0]
          cases bt (cl a) (15 - n) <;> cases bt fst a <;> simp
        · have e1 : decide (16 - n ≤ a) = decide (16 - (n + 1) ≤ a) := decide_eq_decide.mpr (by omega)
          have e2 : decide (16 - n ≤ b) = decide (16 - (n + 1) ≤ b) := decide_eq_decide.mpr (by omega)
          rw [e1, e2]
          simp [h1, h2]
    · have h0 : bt fst (15 - n) = false := by simpa using h0
      rw [if_neg (by rw [h0]; decide)]
      by_cases h1 : a = 15 - n
      · subst h1
        simp [h0]
      · by_cases h2 : b = 15 - n
        · subst h2
          simp [h0]
        · have e1 : decide (16 - n ≤ a) = decide (16 - (n + 1) ≤ a) := decide_eq_decide.mpr (by omega)
          have e2 : decide (16 - n ≤ b) = decide (16 - (n + 1) ≤ b) := decide_eq_decide.mpr (by omega)
          rw [e1, e2]
theorem l1_self {fst : Int32} {a : Nat} (ha : a < 16) : ∀ (n : Nat), n ≤ 16 → ∀ (cl : Nat → Int32), bt (l1 fst n cl a) a = bt (cl a) a
  | 0, _, cl => rfl
  | n + 1, hn, cl => by
    rw [l1, l1_self ha n (by omega)]
    split
    · rw [bt_addC (by omega) ha (by omega)]
      unfold prB
      by_cases h1 : a = 15 - n <;> simp [h1]
    · rfl
theorem clR_or {w : Int32} {a b : Nat} : ∀ (L : List Dd) (x y : Bool), clR w a b L (x || y) = (clR w a b L x || y)
  | [], x, y => rfl
  | d :: L, x, y => by
    rw [clR, clR, Bool.or_right_comm]
    exact clR_or L _ y
/-- the clashes -/
theorem clM_bt {w : Int32} {L : List Dd} (h : okL L) {a b : Nat} (ha : a < 16) (hb : b < 16) : clM w L a b = bt ((STU L w).2.1 a) b := by
  rw [STU_cl h]
  unfold clM
  by_cases hab : a = b
  · subst hab
    rw [l1_self ha 16 (Nat.le_refl _), clF_self ha L zf h]
    simp [zf, b_0]
  · rw [decide_eq_true hab, Bool.true_and, l1_bt ha hb hab 16 (Nat.le_refl _), clF_bt ha hb hab L zf h, lvB_bt ha h, lvB_bt hb h]
    rw [show bt (zf a) b = false from b_0 b]
    have := clR_or (w := w) (a := a) (b := b) L false (bt (liveL L w) a && bt (liveL L w) b)
    rw [Bool.false_or] at this
    rw [this]
    simp
theorem s16_addC {f : Nat → Int32} {p : Nat} {s : Int32} (hp : p < 16) (hs : s16 s) (hf : ∀ a, a < 16 → s16 (f a)) : ∀ a, a < 16 → s16 (addC f p s a) := fun a ha i hi => by
  by_cases h32 : i < 32
  · rw [bt_addC hp ha h32, hf a ha i hi]
    unfold prB
    rw [hs i hi, decide_eq_false (show ¬ i = p by omega)]
    simp
  · exact b_big (by omega)
theorem s16_clF {w : Int32} (hw : s16 w) : ∀ (L : List Dd) (cl : Nat → Int32), okL L → (∀ a, a < 16 → s16 (cl a)) → ∀ a, a < 16 → s16 (clF L w cl a)
  | [], cl, _, h => h
  | d :: L, cl, hO, h => by
    have hd := hO d List.mem_cons_self
    have hL : okL L := fun x hx => hO x (List.mem_cons_of_mem _ hx)
    rw [clF]
    refine s16_clF hw L _ hL (s16_addC (isP_clamp hd.1) ?_ h)
    split
    · exact s16_liveL hw hL
    · exact s16_and (s16_liveL hw hL)
theorem s16_l1 {fst : Int32} (hf : s16 fst) : ∀ (n : Nat), n ≤ 16 → ∀ (cl : Nat → Int32), (∀ a, a < 16 → s16 (cl a)) → ∀ a, a < 16 → s16 (l1 fst n cl a)
  | 0, _, cl, h => h
  | n + 1, hn, cl, h => by
    rw [l1]
    refine s16_l1 hf n (by omega) _ ?_
    split
    · exact s16_addC (by omega) hf h
    · exact h
theorem s16_cl {w : Int32} (hw : s16 w) {L : List Dd} (hO : okL L) : ∀ a, a < 16 → s16 ((STU L w).2.1 a) := by
  rw [STU_cl hO]
  exact s16_l1 (s16_liveL hw hO) 16 (Nat.le_refl _) _ (s16_clF hw L zf hO (fun a _ => s16_0))
theorem tkB_frR {f : Nat → Bool} {rv : Int32} {hu : Nat → Int32} {x : Int32} (hf : ∀ q, q < 16 → f q = bt rv q) : ∀ (n : Nat), n ≤ 16 → tkB f hu x n = !frR rv hu x n
  | 0, _ => rfl
  | n + 1, hn => by
    rw [tkB, frR, hf _ (by omega), tkB_frR hf n (by omega)]
    split <;> rfl
theorem bsN_spec {f : Nat → Bool} {hu : Nat → Int32} {p : Nat} : ∀ (L : List Dd) (c : Nat), bsN f hu p L c ≤ c ∧ (bsN f hu p L c = c ∨ ∃ d ∈ L, mtC f hu p d = true ∧ mtN d p = bsN f hu p L c) ∧ ∀ d ∈ L, mtC f hu p d = true → bsN f hu p L c ≤ mtN d p
  | [], c => ⟨Nat.le_refl _, Or.inl rfl, fun d hd => by cases hd⟩
  | d :: L, c => by
    rw [bsN]
    generalize hc : (if mtC f hu p d = true then (if mtN d p < c then mtN d p else c) else c) = c1
    have h1 : c1 ≤ c := by rw [← hc]; split; split <;> omega; omega
    obtain ⟨i1, i2, i3⟩ := bsN_spec (f := f) (hu := hu) (p := p) L c1
    refine ⟨Nat.le_trans i1 h1, ?_, fun x hx hm => ?_⟩
    · rcases i2 with i2 | ⟨x, hx, hm, e⟩
      · rw [i2]
        by_cases hm : mtC f hu p d = true
        · rw [if_pos hm] at hc
          by_cases hlt : mtN d p < c
          · rw [if_pos hlt] at hc
            exact Or.inr ⟨d, List.mem_cons_self, hm, hc⟩
          · rw [if_neg hlt] at hc
            exact Or.inl hc.symm
        · rw [if_neg hm] at hc
          exact Or.inl hc.symm
      · exact Or.inr ⟨x, List.mem_cons_of_mem _ hx, hm, e⟩
    · rcases List.mem_cons.mp hx with rfl | hx
      · rw [if_pos hm] at hc
        have h2 : c1 ≤ mtN x p := by rw [← hc]; split <;> omega
        exact Nat.le_trans i1 h2
      · exact i3 x hx hm
theorem hpR_spec {hk pa : Nat → Int32} {pr rv : Int32} : ∀ (n : Nat), n ≤ 16 → (hpR hk pa pr rv n = -1 ∧ ∀ q, 16 - n ≤ q → q < 16 → ¬ (bt pr q = true ∧ frB pa (hk q) rv = true)) ∨ ∃ q, 16 - n ≤ q ∧ q < 16 ∧ (bt pr q = true ∧ frB pa (hk q) rv = true) ∧ (∀ j, 16 - n ≤ j → j < q → ¬ (bt pr j = true ∧ frB pa (hk j) rv = true)) ∧ hpR hk pa pr rv n = hk q
  | 0, _ => Or.inl ⟨rfl, fun q h1 h2 => by omega⟩
  | n + 1, hn => by
    rw [hpR]
    by_cases hc : bt pr (15 - n) = true ∧ frB pa (hk (15 - n)) rv = true
    · rw [if_pos hc]
      exact Or.inr ⟨15 - n, by omega, by omega, hc, fun j h1 h2 => by omega, rfl⟩
    · rw [if_neg hc]
      rcases hpR_spec (hk := hk) (pa := pa) (pr := pr) (rv := rv) n (by omega) with ⟨h1, h2⟩ | ⟨q, h1, h2, h3, h4, h5⟩
      · refine Or.inl ⟨h1, fun q h3 h4 => ?_⟩
        by_cases hq : q = 15 - n
        · rw [hq]; exact hc
        · exact h2 q (by omega) h4
      · refine Or.inr ⟨q, by omega, h2, h3, fun j h6 h7 => ?_, h5⟩
        by_cases hj : j = 15 - n
        · rw [hj]; exact hc
        · exact h4 j (by omega) h7
theorem pouB_ex {x y : Int32} : ∀ (L : List Dd), pouB x y L = true ↔ ∃ d ∈ L, pouD x y d = true
  | [] => by simp [pouB]
  | d :: L => by
    rw [pouB]
    simp only [List.mem_cons, exists_eq_or_imp]
    by_cases h : pouD x y d = true
    · simp [h]
    · have h : pouD x y d = false := by simpa using h
      simp [h, pouB_ex L]
/-- the hook of a pot, by hand, is the kitchen's choice -/
theorem hfV_chs {L : List Dd} {w : Int32} (hO : okL L) {f : Nat → Bool} {hu pa : Nat → Int32} {fl : Int32} {p kk : Nat} (hp : p < 16) (hk : kk ≤ 16) (hf : ∀ q, q < 16 → f q = bt ((STU L w).2.1 p) q) (hP : PAi hu pa) (hm : hu p = -1) : hfV f hu L p kk = chs (STU L w).2.1 (STU L w).2.2.1 kk p (hu, pa, fl) := by
  have htk : ∀ h, h < 16 → tkB f hu (nI h) 16 = !frB pa (nI h) ((STU L w).2.1 p) := fun h hh => by
    rw [tkB_frR hf 16 (Nat.le_refl _), frB_frR hP hh]
  have hff : ∀ n, n ≤ kk → hkR f hu kk n = ffR pa ((STU L w).2.1 p) kk n := by
    intro n
    induction n with
    | zero => intro _; rfl
    | succ n ih =>
      intro hn
      rw [hkR, ffR, htk _ (by omega), ih (by omega)]
      cases frB pa (nI (kk - (n + 1))) ((STU L w).2.1 p) <;> rfl
  have hC : ∀ q, q < 16 → ((bt ((STU L w).2.2.1 p) q = true ∧ frB pa (hu q) ((STU L w).2.1 p) = true) ↔ ∃ d ∈ L, mtC f hu p d = true ∧ mtN d p = q) := by
    intro q hq
    have hpo : bt ((STU L w).2.2.1 p) q = pouB (nI p) (nI q) L := by
      rw [STU_po, bt_poF hp hq L zf hO]
      simp [zf, b_0]
    rw [hpo, pouB_ex]
    constructor
    · rintro ⟨⟨d, hd, hpd⟩, hfr⟩
      have hqp : ¬ q = p := fun e => by
        rw [e, hm, frB_m1] at hfr
        cases hfr
      have hne : ¬ nI q = nI p := fun e => hqp ((nI_eq (by omega) (by omega)).mp e)
      have hne' : ¬ nI p = nI q := fun e => hne e.symm
      obtain ⟨h, hh, eh⟩ := (hP.2 q hq).resolve_left (fun e => by rw [e, frB_m1] at hfr; cases hfr)
      refine ⟨d, hd, ?_⟩
      unfold pouD at hpd
      simp only [Bool.and_eq_true, Bool.or_eq_true, decide_eq_true_eq] at hpd
      have hmt : mtN d p = q := by
        unfold mtN
        rcases hpd.2 with ⟨h1, h2⟩ | ⟨h1, h2⟩
        · rw [if_pos h1, h2, nI_clamp (by omega)]
        · rw [if_neg (by rw [h1]; exact hne), h1, nI_clamp (by omega)]
      refine ⟨?_, hmt⟩
      have t1 : ¬ d.2.2.2.2 = 0 := by rw [hpd.1]; decide
      have t2 : ¬ d.1 = d.2.1 := by
        rcases hpd.2 with ⟨h1, h2⟩ | ⟨h1, h2⟩
        · rw [h1, h2]; exact hne'
        · rw [h1, h2]; exact hne
      have t3 : (decide (d.1 = nI p) || decide (d.2.1 = nI p)) = true := by
        rcases hpd.2 with ⟨h1, -⟩ | ⟨-, h2⟩
        · simp [h1]
        · simp [h2]
      have t4 : ¬ hu q < 0 := by rw [eh]; exact nI_pos (by omega)
      unfold mtC
      rw [decide_eq_true t1, decide_eq_true t2, t3, hmt, decide_eq_true t4, eh, htk h hh, ← eh, hfr]
      rfl
    · rintro ⟨d, hd, hmc, hmt⟩
      unfold mtC at hmc
      simp only [Bool.and_eq_true, Bool.or_eq_true, decide_eq_true_eq, Bool.not_eq_true'] at hmc
      obtain ⟨t1, t2, t3, t4, t5⟩ := hmc
      rw [hmt] at t4 t5
      obtain ⟨h, hh, eh⟩ := (hP.2 q hq).resolve_left (fun e => t4 (by rw [e]; decide))
      obtain ⟨hmlt, hme⟩ := (hO d hd).mt t1 p
      have h5 : d.2.2.2.2 = 1 := ((hO d hd).2.2.2.2.resolve_left t1).1
      refine ⟨⟨d, hd, ?_⟩, ?_⟩
      · unfold pouD
        simp only [Bool.and_eq_true, Bool.or_eq_true, decide_eq_true_eq]
        refine ⟨h5, ?_⟩
        rw [hmt] at hme
        by_cases c1 : d.1 = nI p
        · rw [if_pos c1] at hme
          exact Or.inl ⟨c1, hme⟩
        · rw [if_neg c1] at hme
          exact Or.inr ⟨hme, t3.resolve_left c1⟩
      · rw [eh, htk h hh] at t5
        rw [eh]
        simpa using t5
  unfold hfV chs
  dsimp only
  rcases hpR_spec (hk := hu) (pa := pa) (pr := (STU L w).2.2.1 p) (rv := (STU L w).2.1 p) 16 (Nat.le_refl _) with ⟨h1, h2⟩ | ⟨q, -, h2, h3, h4, h5⟩
  · rw [h1, if_pos rfl]
    obtain ⟨b1, b2, b3⟩ := bsN_spec (f := f) (hu := hu) (p := p) L 16
    have hb : ¬ bsN f hu p L 16 < 16 := by
      intro hlt
      rcases b2 with b2 | ⟨d, hd, hmc, hmt⟩
      · omega
      · exact h2 _ (by omega) hlt ((hC _ hlt).mpr ⟨d, hd, hmc, hmt⟩)
    rw [if_neg hb, hff kk (Nat.le_refl _)]
  · obtain ⟨d, hd, hmc, hmt⟩ := (hC q h2).mp h3
    obtain ⟨b1, b2, b3⟩ := bsN_spec (f := f) (hu := hu) (p := p) L 16
    have hle : bsN f hu p L 16 ≤ q := by rw [← hmt]; exact b3 d hd hmc
    have hq : bsN f hu p L 16 = q := by
      rcases b2 with b2 | ⟨d2, hd2, hmc2, hmt2⟩
      · omega
      · apply Classical.byContradiction
        intro hne
        exact h4 _ (by omega) (by omega) ((hC _ (by omega)).mpr ⟨d2, hd2, hmc2, hmt2⟩)
    have hne : ¬ hu q = -1 := fun e => by
      rw [e, frB_m1] at h3
      exact absurd h3.2 (by decide)
    rw [hq, if_pos h2, h5, if_neg hne]
