/-! bits of sets of pots; the simplest methods -/
/-! ===== Int32 by its bits: bt x i ===== -/
def bt (x : Int32) (i : Nat) : Bool := x.toBitVec.getLsbD i
theorem b_ext {x y : Int32} (h : ∀ i, i < 32 → bt x i = bt y i) : x = y := Int32.toBitVec_inj.mp (BitVec.eq_of_getLsbD_eq (fun i hi => h i hi))
theorem b_or (x y : Int32) (i : Nat) : bt (x ||| y) i = (bt x i || bt y i) := by unfold bt; rw [Int32.toBitVec_or, BitVec.getLsbD_or]
theorem b_and (x y : Int32) (i : Nat) : bt (x &&& y) i = (bt x i && bt y i) := by unfold bt; rw [Int32.toBitVec_and, BitVec.getLsbD_and]
theorem b_xor (x y : Int32) (i : Nat) : bt (x ^^^ y) i = (bt x i ^^ bt y i) := by unfold bt; rw [Int32.toBitVec_xor, BitVec.getLsbD_xor]
theorem b_big {x : Int32} {i : Nat} (h : 32 ≤ i) : bt x i = false := BitVec.getLsbD_of_ge _ _ h
theorem b_255 (i : Nat) : bt 255 i = decide (i < 8) := by
  rcases Nat.lt_or_ge i 32 with h | h
  · exact (by decide +kernel : ∀ i, i < 32 → bt 255 i = decide (i < 8)) i h
  · rw [b_big h, decide_eq_false (by omega)]
theorem b_65535 (i : Nat) : bt 65535 i = decide (i < 16) := by
  rcases Nat.lt_or_ge i 32 with h | h
  · exact (by decide +kernel : ∀ i, i < 32 → bt 65535 i = decide (i < 16)) i h
  · rw [b_big h, decide_eq_false (by omega)]
theorem b_m1 : ∀ i, i < 32 → bt (-1) i = true := by decide +kernel
theorem b_0 (i : Nat) : bt 0 i = false := BitVec.getLsbD_zero
theorem s_l : ∀ n, n < 32 → ((nI n &&& 31).toBitVec.smod 32).toNat = n := by decide +kernel
theorem s_u : ∀ n, n < 32 → (((nI n).toUInt32 &&& Int32.toUInt32 31).toBitVec % 32).toNat = n := by decide +kernel
theorem b_shl (n : Nat) (hn : n < 32) (x : Int32) {i : Nat} (hi : i < 32) : bt (x <<< (nI n &&& 31)) i = (decide (n ≤ i) && bt x (i - n)) := by
  unfold bt
  rw [Int32.toBitVec_shiftLeft]
  show (x.toBitVec <<< ((nI n &&& 31).toBitVec.smod 32).toNat).getLsbD i = _
  rw [s_l n hn, BitVec.getLsbD_shiftLeft]
  rcases Nat.lt_or_ge i n with h | h
  · simp [h, Nat.not_le.mpr h]
  · simp [hi, h, Nat.not_lt.mpr h]
theorem b_ushr (n : Nat) (hn : n < 32) (x : Int32) (i : Nat) : bt ((x.toUInt32 >>> ((nI n).toUInt32 &&& Int32.toUInt32 31)).toInt32) i = bt x (n + i) := by
  show (x.toUInt32 >>> ((nI n).toUInt32 &&& Int32.toUInt32 31)).toBitVec.getLsbD i = x.toUInt32.toBitVec.getLsbD (n + i)
  rw [UInt32.toBitVec_shiftRight]
  show (x.toUInt32.toBitVec >>> (((nI n).toUInt32 &&& Int32.toUInt32 31).toBitVec % 32).toNat).getLsbD i = _
  rw [s_u n hn, BitVec.getLsbD_ushiftRight]
theorem b_sshr (n : Nat) (hn : n < 32) (x : Int32) {i : Nat} (hi : i < 32) : bt (x >>> (nI n &&& 31)) i = if n + i < 32 then bt x (n + i) else bt x 31 := by
  unfold bt
  rw [Int32.toBitVec_shiftRight]
  show (x.toBitVec.sshiftRight ((nI n &&& 31).toBitVec.smod 32).toNat).getLsbD i = _
  rw [s_l n hn, BitVec.getLsbD_sshiftRight, BitVec.msb_eq_getLsbD_last]
  simp [hi]
theorem b_shl8 (x : Int32) {i : Nat} (hi : i < 32) : bt (x <<< ((8 : Int32) &&& 31)) i = (decide (8 ≤ i) && bt x (i - 8)) := b_shl 8 (by omega) x hi
theorem b_shl16 (x : Int32) {i : Nat} (hi : i < 32) : bt (x <<< ((16 : Int32) &&& 31)) i = (decide (16 ≤ i) && bt x (i - 16)) := b_shl 16 (by omega) x hi
theorem b_shl24 (x : Int32) {i : Nat} (hi : i < 32) : bt (x <<< ((24 : Int32) &&& 31)) i = (decide (24 ≤ i) && bt x (i - 24)) := b_shl 24 (by omega) x hi
theorem b_sshr8 (x : Int32) {i : Nat} (hi : i < 32) : bt (x >>> ((8 : Int32) &&& 31)) i = if 8 + i < 32 then bt x (8 + i) else bt x 31 := b_sshr 8 (by omega) x hi
theorem uC_self (f : Nat → Nat → Int32) (k : Nat) (g : Nat → Int32) : uC f k g k = g := by simp [uC]
theorem uC_ne {f : Nat → Nat → Int32} {k a : Nat} {g : Nat → Int32} (h : a ≠ k) : uC f k g a = f a := by simp [uC, h]
theorem uC_uC (f : Nat → Nat → Int32) (k : Nat) (g g' : Nat → Int32) : uC (uC f k g) k g' = uC f k g' := by
  funext a
  by_cases h : a = k <;> simp [uC, h]
theorem uC_comm {f : Nat → Nat → Int32} {k a : Nat} {g g' : Nat → Int32} (h : a ≠ k) : uC (uC f k g) a g' = uC (uC f a g') k g := by
  funext x
  by_cases h1 : x = a
  · subst h1
    simp [uC, h]
  · by_cases h2 : x = k
    · subst h2
      simp [uC, h1]
    · simp [uC, h1, h2]
theorem uC_id (f : Nat → Nat → Int32) (k : Nat) : uC f k (f k) = f := by
  funext x
  by_cases h : x = k
  · subst h; simp [uC]
  · simp [uC, h]
theorem sm_0 : mmSm [] = 0 := id rfl
theorem sm_c (v : Value) (st : List Value) : mmSm (v :: st) = v.category + mmSm st := by simp [mmSm]
theorem ct_i (x : Int32) : (Value.int x).category = 1 := id rfl
theorem ct_r (x : Nat) : (Value.ref x).category = 1 := id rfl
theorem ct_n : (Value.null).category = 1 := id rfl
theorem ct_l (x : Int64) : (Value.long x).category = 2 := id rfl
theorem ct_d (x : UInt64) : (Value.double x).category = 2 := id rfl
theorem tl_s (v : Value) (st : List Value) : (some v).toList ++ st = v :: st := rfl
theorem tl_n (st : List Value) : (none : Option Value).toList ++ st = st := rfl
theorem mmX_nI {j m : Nat} (h : j < m) (hm : m < 2147483648) : mmX (nI j) m = some j := by
  unfold mmX
  rw [if_neg (nI_in h (by omega)), nI_clamp (by omega)]
theorem p_lo {p : Nat} (h : p < 2147483648) : (nI p < 0) = False := eq_false (nI_pos (by omega))
theorem nI_16 : nI 16 = 16 := rfl
theorem p_hi {p : Nat} (h : p < 16) : (16 ≤ nI p) = False := eq_false (by rw [← nI_16]; exact nI_ge h (by omega))
/-- a pot's bit; of no pot none -/
def bI (x : Int32) : Int32 := if x < 0 then 0 else if 16 ≤ x then 0 else 1 <<< (x &&& 31)
theorem bI_p {p : Nat} (h : p < 16) : bI (nI p) = 1 <<< (nI p &&& 31) := by simp [bI, p_lo (show p < 2147483648 by omega), p_hi h]
theorem bI_m1 : bI (-1) = 0 := by decide +kernel
theorem bt_bI {p i : Nat} (h : p < 16) : bt (bI (nI p)) i = decide (i = p) := by
  rw [bI_p h]
  rcases Nat.lt_or_ge i 32 with hi | hi
  · have h0 : ∀ p, p < 16 → ∀ i, i < 32 → bt (1 <<< (nI p &&& 31)) i = decide (i = p) := by decide +kernel
    exact h0 p h i hi
  · rw [b_big hi]
    simp; omega
theorem bt_not (x : Int32) {i : Nat} (hi : i < 32) : bt (x ^^^ (-1)) i = !bt x i := by rw [b_xor, b_m1 i hi]; simp
theorem has_0 (x : Int32) {p : Nat} (h : p < 16) : ((x >>> (nI p &&& 31)) &&& 1 = 0) = (bt x p = false) := by
  apply propext
  have h1 : ∀ i, bt ((x >>> (nI p &&& 31)) &&& 1) i = (decide (i = 0) && bt x p) := by
    intro i
    rw [b_and]
    rcases Nat.lt_or_ge i 32 with hi | hi
    · have h0 : ∀ i, i < 32 → bt 1 i = decide (i = 0) := by decide +kernel
      rw [h0 i hi]
      by_cases h2 : i = 0
      · subst h2
        rw [b_sshr p (by omega) x (by omega), if_pos (by omega)]
        simp
      · simp [h2]
    · rw [b_big hi]
      simp; omega
  constructor
  · intro he
    have := h1 0
    rw [he, b_0] at this
    simpa using this.symm
  · intro he
    apply b_ext
    intro i hi
    rw [h1, he, b_0]
    simp
theorem has_1 (x : Int32) {p : Nat} (h : p < 16) : ((x >>> (nI p &&& 31)) &&& 1 = 1) = (bt x p = true) := by
  apply propext
  have h0 := has_0 x h
  constructor
  · intro he
    cases hb : bt x p with
    | true => rfl
    | false =>
      rw [← h0] at hb
      rw [hb] at he
      exact absurd he (by decide)
  · intro hb
    apply b_ext
    intro i hi
    rw [b_and]
    have h2 : ∀ i, i < 32 → bt 1 i = decide (i = 0) := by decide +kernel
    rw [h2 i hi]
    by_cases h3 : i = 0
    · subst h3
      rw [b_sshr p (by omega) x (by omega), if_pos (by omega)]
      simp [hb]
    · simp [h3]
/-- set, or not, as 1 or 0 -/
def b01 (b : Bool) : Int32 := if b = true then 1 else 0
theorem s_56 {x : Int32} {M : mmM} : rn none 56 0 [.int x] [] M = some (.inl (some (.int (if x < 0 then 0 else if 16 ≤ x then 0 else 1))), M) := by
  simp only [r_56_0, r_56_1, r_56_4, r_56_5, r_56_7, r_56_10, r_56_11, r_56_14]
  by_cases h1 : x < 0
  · simp only [h1, if_true, r_56_15, true_or]
  · by_cases h2 : 16 ≤ x
    · simp only [h1, h2, if_true, if_false, r_56_15, true_or]
    · simp only [h1, h2, if_false, r_56_15, or_true]
theorem s_56p {p : Nat} (h : p < 16) {M : mmM} : rn none 56 0 [.int (nI p)] [] M = some (.inl (some (.int 1)), M) := by
  rw [s_56]
  simp [p_lo (show p < 2147483648 by omega), p_hi h]
theorem s_57 {x : Int32} {M : mmM} : rn none 57 0 [.int x] [] M = some (.inl (some (.int (bI x))), M) := by
  have h8 : mmSm [] ≤ 8 := by simp [sm_0]
  simp only [r_57_0, r_57_1 h8, s_56, cB_l, tl_s, r_57_4]
  unfold bI
  by_cases h1 : x < 0
  · simp only [h1, if_true, r_57_13, r_57_14]
  · by_cases h2 : 16 ≤ x
    · simp only [h1, h2, if_true, if_false, r_57_13, r_57_14]
    · simp only [h1, h2, if_false, show ¬ ((1 : Int32) = 0) by decide, r_57_7, r_57_8, r_57_9, r_57_10, r_57_14]
theorem s_58 {x : Int32} {p : Nat} (h : p < 16) {M : mmM} : rn none 58 0 [.int x, .int (nI p)] [] M = some (.inl (some (.int (b01 (bt x p)))), M) := by
  have h8 : mmSm [] ≤ 8 := by simp [sm_0]
  simp only [r_58_0, r_58_1 h8, s_56p h, cB_l, tl_s, r_58_4, show ¬ ((1 : Int32) = 0) by decide, if_false, r_58_7, r_58_8, r_58_9, r_58_10, r_58_11, r_58_12, has_0 x h]
  cases hb : bt x p with
  | true => simp [b01, r_58_15, r_58_16, r_58_20]
  | false => simp [b01, r_58_19, r_58_20]
