/-! one call of the law: the class's answer and the reference's -/
theorem Cls.ref {f g : Nat → Nat → Int32} {L : List Dd} {w : Int32} {K : Nat} (h : Cls f L w K) (m : frm 35 46 f g) : Cls g L w K :=
  ⟨h.1.frm m (by omega), h.ok, by rw [m 0 (by omega)]; exact h.wn, by rw [m 0 (by omega)]; exact h.k, h.2.2.2.2.1.frm m (by omega), h.2.2.2.2.2.1.frm m (by omega), h.2.2.2.2.2.2.1.frm m (by omega), h.2.2.2.2.2.2.2.frm m (by omega)⟩
theorem RefO.cls {f g : Nat → Nat → Int32} {L : List Dd} {w o : Int32} {K : Nat} (h : RefO f L w K o) (m : frm 0 34 f g) : RefO g L w K o :=
  h.same (by rw [m 35 (by omega)]) (by rw [m 35 (by omega)]) (by rw [m 35 (by omega)]) (by rw [m 35 (by omega)]) (fun a h1 h2 => m a (by omega)) (by rw [m 42 (by omega)]; exact h.z42) (by rw [m 43 (by omega)]; exact h.z43) (by rw [m 44 (by omega)]; exact h.z44) (by rw [m 46 (by omega)]; exact h.z46)
def Inv (f : Nat → Nat → Int32) (L : List Dd) (w : Int32) (K : Nat) : Prop := Cls f L w K ∧ RefO f L w K (-1) ∧ 1 ≤ K ∧ K ≤ 8
def OpI (bl : Bool) (yh yr : Nat) (ha ra : List Value) (M : mmM) : Prop := ∃ (code y : Int32) (f1 f2 : Nat → Nat → Int32) (m1 : (Nat → Int64) × Nat) (L' : List Dd) (w' : Int32) (K' : Nat), rn none yh 0 ha [] M = some (.inl (some (.int code)), (f1, m1)) ∧ rn none yr 0 ra [] (f1, m1) = some (.inl (some (.int y)), (f2, m1)) ∧ f2 35 0 = code ∧ (code = 0 → m1.1 0 = y.toInt64) ∧ Inv f2 L' w' K' ∧ (bl = true → y = 0 ∨ y = 1) ∧ m1.2 ≤ M.2.2 + 1
section
variable {bl : Bool} {yh yr : Nat} {ha ra : List Value} {M : mmM} {L L' : List Dd} {w w' : Int32} {K K' : Nat}
theorem OpI.yes (hI : Inv M.1 L w K) {y : Int32} {f1 : Nat → Nat → Int32} (e : rn none yh 0 ha [] M = some (.inl (some (.int 0)), (f1, (vp_updL M.2.1 0 y.toInt64, M.2.2)))) (c : Cls f1 L' w' K') (m : frm 0 34 M.1 f1) (hK : 1 ≤ K' ∧ K' ≤ 8) (r : ∀ M' : mmM, RefO M'.1 L w K (-1) → rAns yr ra M' (.int y) 0 L' w' K') (hb : bl = true → y = 0 ∨ y = 1 := by intro h; cases h) : OpI bl yh yr ha ra M := by
  obtain ⟨f2, e2, r2, z2, m2⟩ := r (f1, (vp_updL M.2.1 0 y.toInt64, M.2.2)) (hI.2.1.cls m)
  exact ⟨0, y, f1, f2, _, L', w', K', e, e2, z2, fun _ => by simp [vp_updL], ⟨c.ref m2, r2, hK⟩, hb, by dsimp only; omega⟩
theorem OpI.no (hI : Inv M.1 L w K) {t : Int32} (e : rn none yh 0 ha [] M = some (.inl (some (.int t)), mmT M)) (ht : ¬ t = 0) (r : ∀ M' : mmM, RefO M'.1 L w K (-1) → rAns yr ra M' (.int 0) t L w K) : OpI bl yh yr ha ra M := by
  obtain ⟨f2, e2, r2, z2, m2⟩ := r (mmT M) hI.2.1
  exact ⟨t, 0, M.1, f2, (M.2.1, M.2.2 + 1), L, w, K, e, e2, z2, fun h => absurd h ht, ⟨hI.1.ref m2, r2, hI.2.2⟩, fun _ => Or.inl rfl, by dsimp only; omega⟩
theorem in_cases (x : Int32) {n : Nat} (hn : n < 2147483648) : ((decide (¬ x < 0) && decide (¬ nI n ≤ x)) = false ∧ (x < 0 ∨ nI n ≤ x)) ∨ ∃ d, d < n ∧ x = nI d := by
  rcases pk_ix x (n := n) (by omega) with h | h | ⟨j, h3, h4⟩
  · exact Or.inl ⟨by rw [decide_eq_false (fun hh => hh h)]; rfl, Or.inl h⟩
  · exact Or.inl ⟨by rw [Bool.and_comm, decide_eq_false (show ¬ ¬ nI n ≤ x from fun hh => hh h)]; rfl, Or.inr h⟩
  · exact Or.inr ⟨j, h3, h4⟩
theorem inB_cases (x : Int32) {n : Nat} (hn : n < 2147483647) : (inB 0 (nI n) x = false ∧ (x.toInt < 0 ∨ (n : Int) < x.toInt)) ∨ ∃ d, d < n + 1 ∧ x = nI d := by
  rcases in_cases x (n := n + 1) (by omega) with ⟨h1, h2⟩ | h
  · refine Or.inl ⟨?_, ?_⟩
    · unfold inB
      have e : decide (¬ nI n < x) = decide (¬ nI (n + 1) ≤ x) := decide_eq_decide.mpr (by rw [lt_nI hn])
      rw [e]; exact h1
    · rcases h2 with h2 | h2
      · rw [Int32.lt_iff_toInt_lt] at h2
        exact Or.inl h2
      · rw [Int32.le_iff_toInt_le, nI_toInt (by omega)] at h2
        exact Or.inr (by omega)
  · exact Or.inr h
theorem potB_cases (x : Int32) : potB x = false ∨ ∃ p, p < 16 ∧ x = nI p := by
  cases h : potB x with
  | false => exact Or.inl rfl
  | true =>
    obtain ⟨p, hp, e⟩ := isP_potB h
    exact Or.inr ⟨p, hp, e⟩
theorem Inv.k16 {f : Nat → Nat → Int32} (h : Inv f L w K) : K ≤ 16 := by have := h.2.2.2; omega
theorem op_cook (hI : Inv M.1 L w K) {p u v t : Int32} : OpI false 114 84 [.ref 0, .int p, .int u, .int v, .int t, .ref 47, .null] [.ref 35, .int p, .int u, .int v, .int t] M := by
  cases hx : (potB p && ponB u && ponB v) with
  | false => exact .no hI (hT_114_0 (s_27x hx)) (by decide) (fun M' r => s_84x r hx)
  | true =>
    simp only [Bool.and_eq_true] at hx
    cases ht : wtB t with
    | false => exact .no hI (hT_114_1 (s_27y hx.1.1 hx.1.2 hx.2 ht)) (by decide) (fun M' r => s_84y r hx.1.1 hx.1.2 hx.2 ht)
    | true =>
      have hl := hI.1.le
      by_cases hl30 : L.length = 30
      · exact .no hI (hT_114_2 (s_27z hI.1 hx.1.1 hx.1.2 hx.2 ht hl30)) (by decide) (fun M' r => s_84z r hx.1.1 hx.1.2 hx.2 ht hl30)
      · obtain ⟨f1, e, c, m⟩ := s_27 hI.k16 hI.1 hx.1.1 hx.1.2 hx.2 ht (by omega)
        exact .yes hI (hS_114 e) c m hI.2.2 (fun M' r => s_84 r hx.1.1 hx.1.2 hx.2 ht (by omega))
theorem op_pour (hI : Inv M.1 L w K) {p u t : Int32} : OpI false 115 85 [.ref 0, .int p, .int u, .int t, .ref 47, .null] [.ref 35, .int p, .int u, .int t] M := by
  cases hx : (potB p && potB u) with
  | false => exact .no hI (hT_115_0 (s_28x hx)) (by decide) (fun M' r => s_85x r hx)
  | true =>
    simp only [Bool.and_eq_true] at hx
    cases ht : wtB t with
    | false => exact .no hI (hT_115_1 (s_28y hx.1 hx.2 ht)) (by decide) (fun M' r => s_85y r hx.1 hx.2 ht)
    | true =>
      have hl := hI.1.le
      by_cases hl30 : L.length = 30
      · exact .no hI (hT_115_2 (s_28z hI.1 hx.1 hx.2 ht hl30)) (by decide) (fun M' r => s_85z r hx.1 hx.2 ht hl30)
      · obtain ⟨f1, e, c, m⟩ := s_28 hI.k16 hI.1 hx.1 hx.2 ht (by omega)
        exact .yes hI (hS_115 e) c m hI.2.2 (fun M' r => s_85 r hx.1 hx.2 ht (by omega))
theorem op_drop (hI : Inv M.1 L w K) {x : Int32} : OpI false 116 87 [.ref 0, .int x, .ref 47, .null] [.ref 35, .int x] M := by
  have hl := hI.1.le
  rcases in_cases x (n := L.length) (by omega) with ⟨h1, h2⟩ | ⟨d, hd, rfl⟩
  · exact .no hI (hT_116_0 (s_29x hI.1 h2)) (by decide) (fun M' r => s_87x r h1)
  · obtain ⟨f1, e, c, m⟩ := s_29 hI.k16 hI.1 hd
    exact .yes hI (hS_116 e) c m hI.2.2 (fun M' r => s_87 r hd)
theorem op_want (hI : Inv M.1 L w K) {x : Int32} {b : Bool} : OpI true 117 88 [.ref 0, .int x, .int (b01 b), .ref 47, .null] [.ref 35, .int x, .int (b01 b), .null] M := by
  rcases potB_cases x with h1 | ⟨p, hp, rfl⟩
  · exact .no hI (hT_117_0 (s_30x h1)) (by decide) (fun M' r => s_88x r h1)
  · obtain ⟨f1, e, c, m⟩ := s_30 (b := b) hI.k16 hp hI.1
    exact .yes hI (hS_117 e) c m hI.2.2 (fun M' r => s_88 r hp) (fun _ => b01_01 _)
theorem op_hooks (hI : Inv M.1 L w K) {x : Int32} : OpI false 118 89 [.ref 0, .int x, .ref 47, .null] [.ref 35, .int x, .null] M := by
  cases h1 : (decide (¬ x < 1) && decide (¬ 8 < x)) with
  | false =>
    have h2 : x < 1 ∨ 8 < x := by
      by_cases h3 : x < 1
      · exact Or.inl h3
      · by_cases h4 : 8 < x
        · exact Or.inr h4
        · rw [decide_eq_true h3, decide_eq_true h4] at h1
          cases h1
    exact .no hI (hT_118_1 (s_31x h2)) (by decide) (fun M' r => s_89x r h1)
  | true =>
    have h2 := h1
    simp only [Bool.and_eq_true, decide_eq_true_eq] at h2
    rcases in_cases x (n := 9) (by omega) with ⟨h3, h4 | h4⟩ | ⟨k, hk, rfl⟩
    · exact absurd (Int32.lt_trans h4 (by decide)) h2.1
    · exact absurd (show (8 : Int32) < x by rw [show (8 : Int32) = nI 8 from rfl, lt_nI (by omega)]; exact h4) h2.2
    · have hk1 : 1 ≤ k := by
        by_cases h0 : k = 0
        · subst h0; exact absurd h2.1 (by decide)
        · omega
      obtain ⟨f1, e, c, m⟩ := s_31 hk1 (show k ≤ 8 by omega) hI.1
      exact .yes hI (hS_118 e) c m ⟨hk1, by omega⟩ (fun M' r => s_89 r h1)
theorem op_deed (hI : Inv M.1 L w K) {x y : Int32} : OpI false 119 92 [.ref 0, .int x, .int y, .ref 47, .null] [.ref 35, .int x, .int y] M := by
  have hl := hI.1.le
  rcases in_cases x (n := L.length) (by omega) with ⟨h1, h2⟩ | ⟨d, hd, rfl⟩
  · exact .no hI (hT_119_0 (s_32x hI.1 h2)) (by decide) (fun M' r => s_92x r (by rw [h1]; rfl))
  · rcases inB_cases y (n := 6) (by omega) with ⟨h1, h2⟩ | ⟨j, hj, rfl⟩
    · exact .no hI (hT_119_0 (s_32y hd hI.1 h2)) (by decide) (fun M' r => s_92x r (by rw [show (6 : Int32) = nI 6 from rfl, h1, Bool.and_false]))
    · exact .yes hI (hS_119 (f1 := M.1) (s_32 hd hj hI.1)) hI.1 frm.rf hI.2.2 (fun M' r => s_92 r hd hj)
theorem op_lives (hI : Inv M.1 L w K) {x y : Int32} : OpI true 120 93 [.ref 0, .int x, .int y, .ref 47, .null] [.ref 35, .int x, .int y] M := by
  have hl := hI.1.le
  rcases potB_cases x with h1 | ⟨p, hp, rfl⟩
  · exact .no hI (hT_120_0 (s_33x hI.1 (Or.inl h1))) (by decide) (fun M' r => s_93x r (by rw [h1]; rfl))
  · rcases in_cases y (n := L.length) (by omega) with ⟨h1, h2⟩ | ⟨d, hd, rfl⟩
    · exact .no hI (hT_120_0 (s_33x hI.1 (Or.inr h2))) (by decide) (fun M' r => s_93x r (by rw [h1, Bool.and_false]))
    · exact .yes hI (hS_120 (f1 := M.1) (s_33 hd hp hI.1)) hI.1 frm.rf hI.2.2 (fun M' r => s_93 r hp hd) (fun _ => b01_01 _)
theorem op_clash (hI : Inv M.1 L w K) {x y : Int32} : OpI true 121 94 [.ref 0, .int x, .int y, .ref 47, .null] [.ref 35, .int x, .int y] M := by
  rcases potB_cases x with h1 | ⟨p, hp, rfl⟩
  · exact .no hI (hT_121_0 (s_34x (Or.inl h1))) (by decide) (fun M' r => s_94x r (by rw [h1]; rfl))
  · rcases potB_cases y with h1 | ⟨q, hq, rfl⟩
    · exact .no hI (hT_121_0 (s_34x (Or.inr h1))) (by decide) (fun M' r => s_94x r (by rw [h1, Bool.and_false]))
    · exact .yes hI (hS_121 (f1 := M.1) (s_34 hp hq hI.1)) hI.1 frm.rf hI.2.2 (fun M' r => s_94 r hp hq) (fun _ => b01_01 _)
theorem op_pot (hI : Inv M.1 L w K) {x y : Int32} : OpI false 122 96 [.ref 0, .int x, .int y, .ref 47, .null] [.ref 35, .int x, .int y] M := by
  rcases potB_cases x with h1 | ⟨p, hp, rfl⟩
  · exact .no hI (hT_122_0 (s_35x h1)) (by decide) (fun M' r => s_96x r (by rw [h1]; rfl))
  · rcases inB_cases y (n := 5) (by omega) with ⟨h1, h2⟩ | ⟨j, hj, rfl⟩
    · exact .no hI (hT_122_0 (s_35y hp h2)) (by decide) (fun M' r => s_96x r (by rw [show (5 : Int32) = nI 5 from rfl, h1, Bool.and_false]))
    · exact .yes hI (hS_122 (f1 := M.1) (s_35 hp hj hI.1)) hI.1 frm.rf hI.2.2 (fun M' r => s_96 r hI.2.2.1 hI.k16 hp hj)
theorem op_count (hI : Inv M.1 L w K) {y : Int32} : OpI false 123 103 [.ref 0, .int y, .ref 47, .null] [.ref 35, .int y] M := by
  rcases inB_cases y (n := 9) (by omega) with ⟨h1, h2⟩ | ⟨j, hj, rfl⟩
  · exact .no hI (hT_123_0 (s_36x h2)) (by decide) (fun M' r => s_103x r h1)
  · exact .yes hI (hS_123 (f1 := M.1) (s_36 hj hI.1)) hI.1 frm.rf hI.2.2 (fun M' r => s_103 r hI.2.2.1 hI.k16 hj)
theorem op_hangs (hI : Inv M.1 L w K) {y : Int32} : OpI false 124 104 [.ref 0, .int y, .ref 47, .null] [.ref 35, .int y] M := by
  have hk := hI.k16
  rcases in_cases y (n := K) (by omega) with ⟨h1, h2⟩ | ⟨d, hd, rfl⟩
  · exact .no hI (hT_124_0 (s_37x hI.1 h2)) (by decide) (fun M' r => s_104x r hk h1)
  · exact .yes hI (hS_124 (f1 := M.1) (s_37 hd hk hI.1)) hI.1 frm.rf hI.2.2 (fun M' r => s_104 r hd hk)
theorem op_would (hI : Inv M.1 L w K) {x : Int32} : OpI false 125 106 [.ref 0, .int x, .ref 47, .null] [.ref 35, .int x] M := by
  cases h1 : (decide (¬ x < 1) && decide (¬ 16 < x)) with
  | false =>
    have h2 : x < 1 ∨ 16 < x := by
      by_cases h3 : x < 1
      · exact Or.inl h3
      · by_cases h4 : 16 < x
        · exact Or.inr h4
        · rw [decide_eq_true h3, decide_eq_true h4] at h1
          cases h1
    exact .no hI (hT_125_1 (s_39x h2)) (by decide) (fun M' r => s_106x r h1)
  | true =>
    have h2 := h1
    simp only [Bool.and_eq_true, decide_eq_true_eq] at h2
    rcases in_cases x (n := 17) (by omega) with ⟨h3, h4 | h4⟩ | ⟨k, hk, rfl⟩
    · exact absurd (Int32.lt_trans h4 (by decide)) h2.1
    · exact absurd (show (16 : Int32) < x by rw [show (16 : Int32) = nI 16 from rfl, lt_nI (by omega)]; exact h4) h2.2
    · have hk1 : 1 ≤ k := by
        by_cases h0 : k = 0
        · subst h0; exact absurd h2.1 (by decide)
        · omega
      obtain ⟨f1, e, c, m⟩ := s_39 hk1 (show k ≤ 16 by omega) hI.1
      exact .yes hI (hS_125 e) c (m.up (by omega) (by omega)) hI.2.2 (fun M' r => s_106 r hk1 (by omega))
end
