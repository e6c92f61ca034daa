/-! the reference: next; which pot is put aside next, by both -/
def oI : Option Nat → Int32
  | none => -1
  | some p => nI p
def nx1 (cl : Nat → Int32) (left k : Int32) : Nat → Int32 → Int32
  | 0, b => b
  | n + 1, b => nx1 cl left k n (if bt left n = true ∧ bc (cl n &&& left) < k then nI n else b)
theorem nx1_feR {cl : Nat → Int32} {left k : Int32} : ∀ (n : Nat), n ≤ 16 → nx1 cl left k n (feR cl left k (16 - n)) = feR cl left k 16
  | 0, _ => rfl
  | n + 1, h => by
    have ih := nx1_feR (cl := cl) (left := left) (k := k) n (by omega)
    rw [nx1, ← ih]
    congr 1
    rw [show 16 - n = (16 - (n + 1)) + 1 by omega, feR, show 15 - (16 - (n + 1)) = n by omega]
def st2 (co R : Nat → Int32) (n : Nat) : Option Nat → Option Nat
  | none => some n
  | some p => if co p * R n < co n * R p then some p else some n
def st3 (co R : Nat → Int32) (j : Nat) : Option Nat → Option Nat
  | none => some j
  | some p => if co j * R p < co p * R j then some j else some p
def nx2 (co R : Nat → Int32) (left : Int32) : Nat → Option Nat → Option Nat
  | 0, b => b
  | n + 1, b => nx2 co R left n (if bt left n = true then st2 co R n b else b)
def ch2 (co R : Nat → Int32) (left : Int32) : Nat → Option Nat → Option Nat
  | 0, b => b
  | n + 1, b => ch2 co R left n (if bt left (15 - n) = true then st3 co R (15 - n) b else b)
def cOf (co : Nat → Int32) : Option Nat → Int32
  | none => 0
  | some p => co p
theorem nI_m1 {p : Nat} (h : p < 16) : ¬ nI p = -1 := fun e => by have := p_lo (show p < 2147483648 by omega); rw [e] at this; exact absurd this (by decide)
theorem chR_ch2 {cl co : Nat → Int32} {left : Int32} : ∀ (n : Nat) (b : Option Nat), (∀ p, b = some p → p < 16) → chR cl co left n (oI b) (cOf co b) (cOf (fun q => bc (cl q &&& left)) b) = oI (ch2 co (fun q => bc (cl q &&& left)) left n b)
  | 0, b, _ => rfl
  | n + 1, b, h => by
    rw [chR, ch2]
    cases hb : bt left (15 - n) with
    | false =>
      rw [if_neg (by simp), if_neg (by simp)]
      exact chR_ch2 n b h
    | true =>
      rw [if_pos (show true = true from rfl)]
      cases b with
      | none =>
        rw [if_pos ⟨rfl, Or.inl rfl⟩]
        exact chR_ch2 n (some (15 - n)) (fun p hp => by cases hp; omega)
      | some p =>
        by_cases hc : co (15 - n) * bc (cl p &&& left) < co p * bc (cl (15 - n) &&& left)
        · rw [if_pos ⟨rfl, Or.inr hc⟩]
          dsimp only [st2, st3]
          rw [if_pos hc]
          exact chR_ch2 n (some (15 - n)) (fun p hp => by cases hp; omega)
        · rw [if_neg (fun hh => hh.2.elim (nI_m1 (h p rfl)) hc)]
          dsimp only [st2, st3]
          rw [if_neg hc]
          exact chR_ch2 n (some p) h
section
variable {co R : Nat → Int32} {c r : Nat → Nat} {left : Int32}
/-- the numbers behind the costs and the counts of rivals of the pots that are left -/
def Num (co R : Nat → Int32) (left : Int32) (c r : Nat → Nat) : Prop := ∀ p, p < 16 → bt left p = true → co p = nI (c p) ∧ R p = nI (r p) ∧ c p ≤ 10000 ∧ 1 ≤ r p ∧ r p ≤ 64
def leN (c r : Nat → Nat) (p q : Nat) : Prop := c p * r q ≤ c q * r p
theorem mul_b {a b : Nat} (ha : a ≤ 10000) (hb : b ≤ 64) : a * b < 2 ^ 31 := Nat.lt_of_le_of_lt (Nat.mul_le_mul ha hb) (by decide)
theorem nI_mul (a b : Nat) : nI a * nI b = nI (a * b) := (Int32.ofNat_mul a b).symm
theorem Num.lt (h : Num co R left c r) {p q : Nat} (hp : p < 16) (hq : q < 16) (bp : bt left p = true) (bq : bt left q = true) : (co p * R q < co q * R p) = ¬ leN c r q p := by
  obtain ⟨p1, p2, p3, p4, p5⟩ := h p hp bp
  obtain ⟨q1, q2, q3, q4, q5⟩ := h q hq bq
  rw [p1, p2, q1, q2, nI_mul, nI_mul]
  unfold leN
  apply propext
  rw [Int32.lt_iff_toInt_lt, nI_toInt (mul_b p3 q5), nI_toInt (mul_b q3 p5)]
  omega
theorem leN_tr (h : Num co R left c r) {p q s : Nat} (hq : q < 16) (bq : bt left q = true) (h1 : leN c r p q) (h2 : leN c r q s) : leN c r p s := by
  obtain ⟨_, _, _, q4, _⟩ := h q hq bq
  unfold leN at *
  have a1 : c p * r q * r s ≤ c q * r p * r s := Nat.mul_le_mul_right _ h1
  have a2 : c q * r s * r p ≤ c s * r q * r p := Nat.mul_le_mul_right _ h2
  have a3 : r q * (c p * r s) ≤ r q * (c s * r p) := by
    calc r q * (c p * r s) = c p * r q * r s := by rw [← Nat.mul_assoc, Nat.mul_comm (r q) (c p)]
      _ ≤ c q * r p * r s := a1
      _ = c q * r s * r p := by rw [Nat.mul_right_comm]
      _ ≤ c s * r q * r p := a2
      _ = r q * (c s * r p) := by rw [Nat.mul_comm (c s) (r q), Nat.mul_assoc]
  exact Nat.le_of_mul_le_mul_left a3 (by omega)
theorem leN_tot (p q : Nat) : leN c r p q ∨ leN c r q p := Nat.le_total _ _
/-- the least, and of equals the lowest, of the pots from lo to below hi -/
def Best (c r : Nat → Nat) (left : Int32) (lo hi : Nat) : Option Nat → Prop
  | none => ∀ i, lo ≤ i → i < hi → bt left i = false
  | some b => lo ≤ b ∧ b < hi ∧ bt left b = true ∧ ∀ i, lo ≤ i → i < hi → bt left i = true → leN c r b i ∧ (i < b → ¬ leN c r i b)
theorem Best.uniq {lo hi : Nat} {x y : Option Nat} (hx : Best c r left lo hi x) (hy : Best c r left lo hi y) : x = y := by
  cases x with
  | none =>
    cases y with
    | none => rfl
    | some b => exact absurd (hx b hy.1 hy.2.1) (by rw [hy.2.2.1]; decide)
  | some a =>
    cases y with
    | none => exact absurd (hy a hx.1 hx.2.1) (by rw [hx.2.2.1]; decide)
    | some b =>
      have h1 := hx.2.2.2 b hy.1 hy.2.1 hy.2.2.1
      have h2 := hy.2.2.2 a hx.1 hx.2.1 hx.2.2.1
      rcases Nat.lt_trichotomy a b with h | h | h
      · exact absurd h1.1 (h2.2 h)
      · rw [h]
      · exact absurd h2.1 (h1.2 h)
theorem nx2_best (h : Num co R left c r) : ∀ (n : Nat), n ≤ 16 → ∀ b, Best c r left n 16 b → Best c r left 0 16 (nx2 co R left n b)
  | 0, _, b, hb => hb
  | n + 1, hn, b, hb => by
    rw [nx2]
    refine nx2_best h n (by omega) _ ?_
    cases hbt : bt left n with
    | false =>
      rw [if_neg (by simp)]
      cases b with
      | none =>
        intro i h1 h2
        by_cases hi : i = n
        · rw [hi]; exact hbt
        · exact hb i (by omega) h2
      | some b =>
        refine ⟨by have := hb.1; omega, hb.2.1, hb.2.2.1, fun i h1 h2 h3 => ?_⟩
        by_cases hi : i = n
        · rw [hi, hbt] at h3; cases h3
        · exact hb.2.2.2 i (by omega) h2 h3
    | true =>
      rw [if_pos (show true = true from rfl)]
      cases b with
      | none =>
        refine ⟨Nat.le_refl _, by omega, hbt, fun i h1 h2 h3 => ?_⟩
        by_cases hi : i = n
        · rw [hi]; exact ⟨Nat.le_refl _, fun h => absurd h (by omega)⟩
        · exact absurd (hb i (by omega) h2) (by rw [h3]; decide)
      | some b =>
        have hb' := hb
        obtain ⟨b1, b2, b3, b4⟩ := hb'
        dsimp only [st2, st3]
        have hlt := h.lt b2 (show n < 16 by omega) b3 hbt
        by_cases hl : leN c r n b
        · rw [if_neg (by rw [hlt]; exact fun h => h hl)]
          refine ⟨Nat.le_refl _, by omega, hbt, fun i h1 h2 h3 => ⟨?_, fun h => absurd h (by omega)⟩⟩
          by_cases hi : i = n
          · rw [hi]; exact Nat.le_refl _
          · exact leN_tr h b2 b3 hl (b4 i (by omega) h2 h3).1
        · rw [if_pos (by rw [hlt]; exact hl)]
          refine ⟨by omega, b2, b3, fun i h1 h2 h3 => ?_⟩
          by_cases hi : i = n
          · rw [hi]; exact ⟨(leN_tot b n).resolve_right hl, fun _ => hl⟩
          · exact b4 i (by omega) h2 h3
theorem ch2_best (h : Num co R left c r) : ∀ (n : Nat), n ≤ 16 → ∀ b, Best c r left 0 (16 - n) b → Best c r left 0 16 (ch2 co R left n b)
  | 0, _, b, hb => hb
  | n + 1, hn, b, hb => by
    rw [ch2]
    refine ch2_best h n (by omega) _ ?_
    obtain ⟨j, hj⟩ : ∃ j, j = 15 - n := ⟨_, rfl⟩
    rw [← hj]
    rw [show 16 - (n + 1) = j by omega] at hb
    rw [show 16 - n = j + 1 by omega]
    have hj16 : j < 16 := by omega
    cases hbt : bt left j with
    | false =>
      rw [if_neg (by simp)]
      cases b with
      | none =>
        intro i h1 h2
        by_cases hi : i = j
        · rw [hi]; exact hbt
        · exact hb i h1 (by omega)
      | some b =>
        refine ⟨hb.1, by have := hb.2.1; omega, hb.2.2.1, fun i h1 h2 h3 => ?_⟩
        by_cases hi : i = j
        · rw [hi, hbt] at h3; cases h3
        · exact hb.2.2.2 i h1 (by omega) h3
    | true =>
      rw [if_pos (show true = true from rfl)]
      cases b with
      | none =>
        refine ⟨Nat.zero_le _, by omega, hbt, fun i h1 h2 h3 => ?_⟩
        by_cases hi : i = j
        · rw [hi]; exact ⟨Nat.le_refl _, fun h => absurd h (by omega)⟩
        · exact absurd (hb i h1 (by omega)) (by rw [h3]; decide)
      | some b =>
        have hb' := hb
        obtain ⟨b1, b2, b3, b4⟩ := hb'
        dsimp only [st2, st3]
        have hlt := h.lt hj16 (show b < 16 by omega) hbt b3
        by_cases hl : leN c r b j
        · rw [if_neg (by rw [hlt]; exact fun h => h hl)]
          refine ⟨b1, by omega, b3, fun i h1 h2 h3 => ?_⟩
          by_cases hi : i = j
          · rw [hi]; exact ⟨hl, fun h => absurd h (by omega)⟩
          · exact b4 i h1 (by omega) h3
        · rw [if_pos (by rw [hlt]; exact hl)]
          have hjb : leN c r j b := (leN_tot j b).resolve_right hl
          refine ⟨Nat.zero_le _, by omega, hbt, fun i h1 h2 h3 => ?_⟩
          by_cases hi : i = j
          · rw [hi]; exact ⟨Nat.le_refl _, fun h => absurd h (by omega)⟩
          · have hbi := (b4 i h1 (by omega) h3).1
            exact ⟨leN_tr h (by omega) b3 hjb hbi, fun _ hij => hl (leN_tr h (by omega) h3 hbi hij)⟩
theorem nx2_ch2 (h : Num co R left c r) : nx2 co R left 16 none = ch2 co R left 16 none :=
  Best.uniq (nx2_best h 16 (Nat.le_refl _) none (fun i h1 h2 => absurd h2 (by omega))) (ch2_best h 16 (Nat.le_refl _) none (fun i h1 h2 => absurd h2 (by omega)))
end
theorem feR_all {cl : Nat → Int32} {left k : Int32} : ∀ (n : Nat), n ≤ 16 → feR cl left k n = -1 → ∀ i, 16 - n ≤ i → i < 16 → bt left i = true → ¬ bc (cl i &&& left) < k
  | 0, _, _, i, h1, h2 => absurd h2 (by omega)
  | n + 1, hn, h, i, h1, h2 => fun h3 => by
    rw [feR] at h
    split at h
    · exact absurd h (nI_m1 (by omega))
    · rename_i hc
      by_cases hi : i = 15 - n
      · rw [hi] at h3 ⊢
        exact fun h4 => hc ⟨h3, h4⟩
      · exact feR_all n (by omega) h i (by omega) h2 h3
theorem feR_in {cl : Nat → Int32} {left k : Int32} : ∀ (n : Nat), feR cl left k n = -1 ∨ ∃ p, p < 16 ∧ bt left p = true ∧ feR cl left k n = nI p
  | 0 => Or.inl rfl
  | n + 1 => by
    rw [feR]
    split
    · rename_i hc
      exact Or.inr ⟨15 - n, by omega, hc.1, rfl⟩
    · exact feR_in n
/-- costs are small -/
def cSm (B : Nat) (co : Nat → Int32) : Prop := ∀ p, p < 16 → ∃ c : Nat, c ≤ B ∧ co p = nI c
theorem cSm_ad {B : Nat} {co : Nat → Int32} (h : cSm B co) {x : Int32} {t : Nat} (ht : t ≤ 9) : cSm (B + 9) (adC co x (nI t)) := fun p hp => by
  obtain ⟨c, hc, e⟩ := h p hp
  unfold adC
  split
  · exact ⟨c, by omega, e⟩
  · split
    · exact ⟨c, by omega, e⟩
    · by_cases hpx : p = x.toNatClampNeg
      · rw [← hpx, upd_at, e, nI_add]
        exact ⟨c + t, by omega, rfl⟩
      · rw [upd_ne hpx]
        exact ⟨c, by omega, e⟩
theorem cSm_coF : ∀ (L : List Dd) (B : Nat) (co : Nat → Int32), okL L → cSm B co → cSm (B + 27 * L.length) (coF L co)
  | [], B, co, _, h => h
  | d :: L, B, co, hO, h => by
    obtain ⟨t, h1, h9, e⟩ := (hO d List.mem_cons_self).2.2.2.1
    have ih := cSm_coF L (B + 9 + 9 + 9) _ (fun x hx => hO x (List.mem_cons_of_mem _ hx)) (cSm_ad (cSm_ad (cSm_ad h (x := d.1) h9) (x := d.2.1) h9) (x := d.2.2.1) h9)
    rw [← e] at ih
    rw [coF, List.length_cons, show B + 27 * (L.length + 1) = B + 9 + 9 + 9 + 27 * L.length by omega]
    exact ih
theorem cSm_STU {L : List Dd} {w : Int32} (hO : okL L) (hl : L.length ≤ 30) : cSm 10000 (STU L w).2.2.2 := fun p hp => by
  rw [STU_co]
  obtain ⟨c, hc, e⟩ := cSm_coF L 0 zf hO (fun p _ => ⟨0, Nat.le_refl _, rfl⟩) p hp
  exact ⟨c, by omega, e⟩
theorem nxt_eq {cl co : Nat → Int32} {left : Int32} {kk : Nat} (hk : 1 ≤ kk) (hk2 : kk ≤ 16) (hc : cSm 10000 co) : nxt cl co left (nI kk) = if feR cl left (nI kk) 16 = -1 then oI (nx2 co (fun q => bc (cl q &&& left)) left 16 none) else feR cl left (nI kk) 16 := by
  unfold nxt
  by_cases hf : feR cl left (nI kk) 16 = -1
  · rw [if_pos hf, if_pos hf]
    have hall := feR_all 16 (Nat.le_refl _) hf
    have hN : ∃ c r, Num co (fun q => bc (cl q &&& left)) left c r := by
      refine ⟨fun p => (co p).toInt.toNat, fun p => (bc (cl p &&& left)).toInt.toNat, fun p hp hb => ?_⟩
      obtain ⟨c, hcb, ec⟩ := hc p hp
      obtain ⟨r, hr, er⟩ := bc_lt (cl p &&& left)
      have h1 := hall p (by omega) hp hb
      rw [er] at h1
      have h2 : ¬ r < kk := fun h => h1 (nI_lt h (by omega))
      dsimp only
      rw [ec, er, nI_toInt (by omega), nI_toInt (by omega)]
      exact ⟨rfl, rfl, by simpa using hcb, by simp; omega, by simp; omega⟩
    obtain ⟨c, r, hN⟩ := hN
    rw [nx2_ch2 hN]
    exact chR_ch2 16 none (fun p hp => by cases hp)
  · rw [if_neg hf, if_neg hf]
