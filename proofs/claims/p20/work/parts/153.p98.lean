/-! the reference: isFree, isPoured, hookFor -/
def frR (rv : Int32) (hk : Nat → Int32) (x : Int32) : Nat → Bool
  | 0 => true
  | n + 1 => if bt rv (15 - n) = true ∧ hk (15 - n) = x then false else frR rv hk x n
theorem frR_iff {rv : Int32} {hk : Nat → Int32} {x : Int32} : ∀ (n : Nat), n ≤ 16 → (frR rv hk x n = true ↔ ∀ j, 16 - n ≤ j → j < 16 → ¬ (bt rv j = true ∧ hk j = x))
  | 0, _ => ⟨fun _ j h1 h2 => absurd h2 (by omega), fun _ => rfl⟩
  | n + 1, hn => by
    rw [frR]
    split
    · rename_i hc
      exact ⟨fun h => absurd h (by decide), fun h => absurd hc (h (15 - n) (by omega) (by omega))⟩
    · rename_i hc
      rw [frR_iff n (by omega)]
      refine ⟨fun h j h1 h2 => ?_, fun h j h1 h2 => h j (by omega) h2⟩
      by_cases hj : j = 15 - n
      · rw [hj]; exact hc
      · exact h j (by omega) h2
def pouD (x y : Int32) (d : Dd) : Bool := decide (d.2.2.2.2 = 1) && (decide (d.1 = x) && decide (d.2.1 = y) || decide (d.1 = y) && decide (d.2.1 = x))
def pouB (x y : Int32) : List Dd → Bool
  | [] => false
  | d :: L => if pouD x y d = true then true else pouB x y L
theorem bt_adP {g : Nat → Int32} {p u a b : Nat} (hp : p < 16) (hu : u < 16) : bt (adP g (nI p) (nI u) a) b = (bt (g a) b || (decide (p = a) && decide (u = b) || decide (p = b) && decide (u = a))) := by
  unfold adP
  rw [if_neg (by rw [p_lo (by omega)]; exact id), if_neg (by rw [p_hi hp]; exact id), if_neg (by rw [p_lo (by omega)]; exact id), if_neg (by rw [p_hi hu]; exact id), nI_clamp (by omega), nI_clamp (by omega)]
  by_cases h1 : a = u
  · subst h1
    rw [upd_at, b_or, bt_bI hp]
    by_cases h2 : a = p
    · subst h2
      rw [upd_at, b_or, bt_bI hu]
      by_cases h3 : b = a
      · subst h3; simp
      · simp [h3, Ne.symm h3]
    · rw [upd_ne h2]
      by_cases h3 : b = p
      · subst h3; simp
      · simp [h3, Ne.symm h3, Ne.symm h2]
  · rw [upd_ne h1]
    by_cases h2 : a = p
    · subst h2
      rw [upd_at, b_or, bt_bI hu]
      by_cases h3 : b = u
      · subst h3; simp
      · simp [h3, Ne.symm h3, Ne.symm h1]
    · rw [upd_ne h2]
      simp [Ne.symm h1, Ne.symm h2]
theorem nI_dec {a b : Nat} (ha : a < 16) (hb : b < 16) : decide (nI a = nI b) = decide (a = b) := decide_eq_decide.mpr (nI_eq (by omega) (by omega))
theorem bt_poF {a b : Nat} (ha : a < 16) (hb : b < 16) : ∀ (L : List Dd) (po : Nat → Int32), okL L → bt (poF L po a) b = (bt (po a) b || pouB (nI a) (nI b) L)
  | [], po, _ => by simp [poF, pouB]
  | d :: L, po, h => by
    have hd := h d List.mem_cons_self
    have ih := bt_poF ha hb L (if d.2.2.2.2 = 0 then po else adP po d.1 d.2.1) (fun x hx => h x (List.mem_cons_of_mem _ hx))
    rw [poF, ih, pouB]
    rcases hd.2.2.2.2 with hz | ⟨hz, hq, _⟩
    · rw [if_pos hz, if_neg (by simp [pouD, hz])]
    · obtain ⟨p, hp, ep⟩ := hd.1
      obtain ⟨u, hu, eu⟩ := hq
      rw [if_neg (by rw [hz]; decide), ep, eu, bt_adP hp hu, Bool.or_assoc]
      congr 1
      unfold pouD
      rw [hz, ep, eu, nI_dec hp ha, nI_dec hu hb, nI_dec hp hb, nI_dec hu ha]
      cases (decide (p = a) && decide (u = b) || decide (p = b) && decide (u = a)) <;> simp
/-- which pots hang on which hook, told both ways -/
def PAi (hk pa : Nat → Int32) : Prop := (∀ h, h < 16 → ∀ i, i < 32 → bt (pa h) i = (decide (i < 16) && decide (hk i = nI h))) ∧ ∀ i, i < 16 → hk i = -1 ∨ ∃ h, h < 16 ∧ hk i = nI h
theorem frB_frR {hk pa : Nat → Int32} (hP : PAi hk pa) {h : Nat} (hh : h < 16) {rv : Int32} : frB pa (nI h) rv = frR rv hk (nI h) 16 := by
  unfold frB
  rw [if_neg (by rw [p_lo (by omega)]; exact id), if_neg (by rw [p_hi hh]; exact id), nI_clamp (by omega)]
  have hiff := frR_iff (rv := rv) (hk := hk) (x := nI h) 16 (Nat.le_refl _)
  cases hf : frR rv hk (nI h) 16 with
  | true =>
    rw [hf] at hiff
    have hall := hiff.mp rfl
    apply decide_eq_true
    apply b_ext
    intro i hi
    rw [b_and, hP.1 h hh i hi, b_0]
    by_cases h16 : i < 16
    · have := hall i (by omega) h16
      cases hb : bt rv i with
      | false => simp
      | true =>
        have h2 : ¬ hk i = nI h := fun e => this ⟨hb, e⟩
        simp [h2]
    · simp [h16]
  | false =>
    rw [hf] at hiff
    apply decide_eq_false
    intro e
    have : false = true := hiff.mpr (fun j _ hj hc => by
      have h1 := congrArg (fun x => bt x j) e
      rw [b_and, hP.1 h hh j (by omega), b_0] at h1
      simp [hj, hc.1, hc.2] at h1)
    cases this
theorem frB_m1 {pa : Nat → Int32} {rv : Int32} : frB pa (-1) rv = false := by
  unfold frB
  rw [if_pos (by decide)]
