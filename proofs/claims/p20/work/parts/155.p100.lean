/-! bitCount by bits; counting pots -/
def pN (n : Nat) : Nat → Nat
  | 0 => 0
  | k + 1 => pN n k + (n >>> k) % 2
def bN1 (n : Nat) : Nat := n - ((n >>> 1) &&& 1431655765)
def bN2 (n : Nat) : Nat := (n &&& 858993459) + ((n >>> 2) &&& 858993459)
def bN3 (n : Nat) : Nat := (n + n >>> 4) &&& 252645135
def bN4 (n : Nat) : Nat := n + n >>> 8
def bN5 (n : Nat) : Nat := n + n >>> 16
def bN (n : Nat) : Nat := bN5 (bN4 (bN3 (bN2 (bN1 n)))) &&& 63
theorem bN_add : ∀ a, a < 256 → ∀ b, b < 256 → bN (a * 256 + b) = bN a + bN b := by decide +kernel
theorem bN_8 : ∀ a, a < 256 → bN a = pN a 8 := by decide +kernel
theorem pN_lo {a b : Nat} : ∀ k, k ≤ 8 → pN (a * 256 + b) k = pN b k
  | 0, _ => rfl
  | k + 1, h => by
    rw [pN, pN, pN_lo k (by omega), Nat.shiftRight_eq_div_pow, Nat.shiftRight_eq_div_pow]
    congr 1
    rcases (show k = 0 ∨ k = 1 ∨ k = 2 ∨ k = 3 ∨ k = 4 ∨ k = 5 ∨ k = 6 ∨ k = 7 by omega) with rfl | rfl | rfl | rfl | rfl | rfl | rfl | rfl <;> simp only [Nat.reducePow] <;> omega
theorem pN_hi {a b : Nat} (hb : b < 256) : ∀ k, pN (a * 256 + b) (8 + k) = pN b 8 + pN a k
  | 0 => by rw [Nat.add_zero, pN_lo 8 (by omega)]; rfl
  | k + 1 => by
    have e : (a * 256 + b) >>> (8 + k) = a >>> k := by
      rw [Nat.shiftRight_add, show (a * 256 + b) >>> 8 = a by rw [Nat.shiftRight_eq_div_pow]; simp only [Nat.reducePow]; omega]
    show pN (a * 256 + b) (8 + k) + ((a * 256 + b) >>> (8 + k)) % 2 = pN b 8 + (pN a k + (a >>> k) % 2)
    rw [pN_hi hb k, e]
    omega
theorem bN_16 {n : Nat} (h : n < 65536) : bN n = pN n 16 := by
  have e : n = n / 256 * 256 + n % 256 := by omega
  rw [e, bN_add _ (by omega) _ (by omega), show (16 : Nat) = 8 + 8 from rfl, pN_hi (by omega), bN_8 _ (by omega), bN_8 _ (by omega)]
  omega
theorem bt_nI (a : Nat) {i : Nat} (hi : i < 32) : bt (nI a) i = a.testBit i := by
  show (BitVec.ofNat 32 a).getLsbD i = _
  rw [BitVec.getLsbD_ofNat]
  simp [hi]
theorem nI_and (a b : Nat) : nI a &&& nI b = nI (a &&& b) := b_ext fun i hi => by
  rw [b_and, bt_nI a hi, bt_nI b hi, bt_nI _ hi, Nat.testBit_and]
theorem nI_sub {a b : Nat} (h : b ≤ a) : nI a - nI b = nI (a - b) := by
  have e : nI a = nI (a - b) + nI b := by rw [nI_add]; congr 1; omega
  rw [e, Int32.add_sub_cancel]
theorem nI_bs {a k : Nat} (ha : a < 4294967296) (hk : k < 32) : bs (nI a) (nI k) = nI (a >>> k) := b_ext fun i hi => by
  unfold bs
  rw [b_ushr k hk, bt_nI _ hi, Nat.testBit_shiftRight]
  by_cases h : k + i < 32
  · exact bt_nI a h
  · rw [b_big (by omega)]
    exact (Nat.testBit_lt_two_pow (Nat.lt_of_lt_of_le ha (Nat.pow_le_pow_right (n := 2) (by omega) (show 32 ≤ k + i by omega)))).symm
theorem shr_le (n k : Nat) : n >>> k ≤ n := by
  rw [Nat.shiftRight_eq_div_pow]
  exact Nat.div_le_self _ _
theorem bc_nI {n : Nat} (h : n < 65536) : bc (nI n) = nI (bN n) := by
  have h1 : bc1 (nI n) = nI (bN1 n) := by
    unfold bc1 bN1
    rw [show (1 : Int32) = nI 1 from rfl, show (1431655765 : Int32) = nI 1431655765 from rfl, nI_bs (by omega) (by omega), nI_and, nI_sub (Nat.le_trans Nat.and_le_left (shr_le n 1))]
  have b1 : bN1 n ≤ 65535 := by unfold bN1; omega
  have h2 : bc2 (nI (bN1 n)) = nI (bN2 (bN1 n)) := by
    unfold bc2 bN2
    rw [show (2 : Int32) = nI 2 from rfl, show (858993459 : Int32) = nI 858993459 from rfl, nI_bs (by omega) (by omega), nI_and, nI_and, nI_add]
  have b2 : bN2 (bN1 n) ≤ 131070 := by
    unfold bN2
    have a1 := Nat.and_le_left (n := bN1 n) (m := 858993459)
    have a2 := Nat.le_trans (Nat.and_le_left (n := bN1 n >>> 2) (m := 858993459)) (shr_le (bN1 n) 2)
    omega
  have h3 : bc3 (nI (bN2 (bN1 n))) = nI (bN3 (bN2 (bN1 n))) := by
    unfold bc3 bN3
    rw [show (4 : Int32) = nI 4 from rfl, show (252645135 : Int32) = nI 252645135 from rfl, nI_bs (by omega) (by omega), nI_add, nI_and]
  have b3 : bN3 (bN2 (bN1 n)) ≤ 262140 := by
    unfold bN3
    have a1 := Nat.and_le_left (n := bN2 (bN1 n) + bN2 (bN1 n) >>> 4) (m := 252645135)
    have a2 := shr_le (bN2 (bN1 n)) 4
    omega
  have h4 : bc4 (nI (bN3 (bN2 (bN1 n)))) = nI (bN4 (bN3 (bN2 (bN1 n)))) := by
    unfold bc4 bN4
    rw [show (8 : Int32) = nI 8 from rfl, nI_bs (by omega) (by omega), nI_add]
  have b4 : bN4 (bN3 (bN2 (bN1 n))) ≤ 524280 := by
    unfold bN4
    have a2 := shr_le (bN3 (bN2 (bN1 n))) 8
    omega
  have h5 : bc5 (nI (bN4 (bN3 (bN2 (bN1 n))))) = nI (bN5 (bN4 (bN3 (bN2 (bN1 n))))) := by
    unfold bc5 bN5
    rw [show (16 : Int32) = nI 16 from rfl, nI_bs (by omega) (by omega), nI_add]
  unfold bc bN
  rw [h1, h2, h3, h4, h5, show (63 : Int32) = nI 63 from rfl, nI_and]
theorem s16_nI {x : Int32} (h : s16 x) : ∃ n, n < 65536 ∧ x = nI n := by
  have e : x = nI x.toBitVec.toNat := by
    apply Int32.toBitVec_inj.mp
    show _ = BitVec.ofNat 32 _
    rw [BitVec.ofNat_toNat]
    simp
  refine ⟨x.toBitVec.toNat, ?_, e⟩
  show _ < 2 ^ 16
  exact Nat.lt_pow_two_of_testBit _ (fun i hi => h i hi)
theorem pcn_pN {n : Nat} : ∀ k, k ≤ 16 → pcn (nI n) k = pN n k
  | 0, _ => rfl
  | k + 1, h => by
    rw [pcn, pN, pcn_pN k (by omega), bt_nI n (by omega)]
    congr 1
    rw [Nat.testBit_eq_decide_div_mod_eq, Nat.shiftRight_eq_div_pow]
    have := Nat.mod_two_eq_zero_or_one (n / 2 ^ k)
    rcases this with h0 | h0 <;> rw [h0] <;> rfl
/-- bitCount counts the bits of a set of pots -/
theorem bc_pcn {x : Int32} (h : s16 x) : bc x = nI (pcn x 16) := by
  obtain ⟨n, hn, rfl⟩ := s16_nI h
  rw [bc_nI hn, bN_16 hn, pcn_pN 16 (Nat.le_refl _)]
def fcR (P : Nat → Bool) : Nat → Int32 → Int32
  | 0, c => c
  | n + 1, c => fcR P n (c + b01 (P (15 - n)))
theorem fcR_pcn {P : Nat → Bool} {x : Int32} (hP : ∀ q, q < 16 → P q = bt x q) : ∀ n, n ≤ 16 → fcR P n (nI (pcn x (16 - n))) = nI (pcn x 16)
  | 0, _ => rfl
  | n + 1, h => by
    rw [fcR, ← fcR_pcn hP n (by omega)]
    congr 1
    rw [show 16 - n = (15 - n) + 1 by omega, show 16 - (n + 1) = 15 - n by omega, pcn, hP (15 - n) (by omega), ← nI_add]
    cases bt x (15 - n) <;> rfl
theorem fcR_bc {P : Nat → Bool} {x : Int32} (hs : s16 x) (hP : ∀ q, q < 16 → P q = bt x q) : fcR P 16 0 = bc x := by
  rw [bc_pcn hs]
  exact fcR_pcn hP 16 (Nat.le_refl _)
theorem pcn_0 {x : Int32} (h : x = 0) : ∀ n, pcn x n = 0
  | 0 => rfl
  | n + 1 => by rw [pcn, pcn_0 h n, h, b_0]; rfl
theorem bc_0 {x : Int32} (hs : s16 x) : (bc x = 0) = (x = 0) := by
  apply propext
  rw [bc_pcn hs]
  constructor
  · intro h
    apply Classical.byContradiction
    intro hx
    obtain ⟨i, hi, hb⟩ := bit_ex hs hx
    have h1 := pcn_pos 16 i hi hb
    have h2 := pcn_le x 16
    exact nI_ne0 h1 (by omega) h
  · intro h
    rw [pcn_0 h]
    rfl
theorem bc_pos {x : Int32} (hs : s16 x) : (0 < bc x) = ¬ x = 0 := by
  apply propext
  rw [bc_pcn hs]
  have h2 := pcn_le x 16
  constructor
  · intro h hx
    rw [pcn_0 hx] at h
    exact absurd h (by decide)
  · intro hx
    obtain ⟨i, hi, hb⟩ := bit_ex hs hx
    have h1 := pcn_pos 16 i hi hb
    exact nI_lt (a := 0) h1 (by omega)
/-- all hooks are below kk -/
def KR (hk : Nat → Int32) (kk : Nat) : Prop := ∀ i, i < 16 → hk i = -1 ∨ ∃ h, h < kk ∧ hk i = nI h
theorem hpR_k {hk pa : Nat → Int32} {pr rv : Int32} {kk : Nat} (hP : KR hk kk) : ∀ (n : Nat), hpR hk pa pr rv n = -1 ∨ ∃ h, h < kk ∧ hpR hk pa pr rv n = nI h
  | 0 => Or.inl rfl
  | n + 1 => by
    rw [hpR]
    split
    · exact hP _ (by omega)
    · exact hpR_k hP n
theorem ffR_k {pa : Nat → Int32} {rv : Int32} {kk : Nat} : ∀ (n : Nat), n ≤ kk → ffR pa rv kk n = -1 ∨ ∃ h, h < kk ∧ ffR pa rv kk n = nI h
  | 0, _ => Or.inl rfl
  | n + 1, h => by
    rw [ffR]
    split
    · exact Or.inr ⟨kk - (n + 1), by omega, rfl⟩
    · exact ffR_k n (by omega)
theorem KR_hgR {cl po : Nat → Int32} {kk : Nat} {as : Nat → Int32} (hk : kk ≤ 16) : ∀ (n : Nat), (∀ j, j < n → isP (as j)) → ∀ (s : huT), KR s.1 kk → KR (hgR cl po kk as n s).1 kk
  | 0, _, s, h => h
  | n + 1, hA, s, h => by
    obtain ⟨p, hp, e⟩ := hA n (by omega)
    rw [hgR, e]
    refine KR_hgR hk n (fun j hj => hA j (by omega)) _ ?_
    have hc : chs cl po kk p s = -1 ∨ ∃ h, h < kk ∧ chs cl po kk p s = nI h := by
      unfold chs
      split
      · exact ffR_k kk (Nat.le_refl _)
      · exact hpR_k h 16
    rcases hc with hc | ⟨x, hx, hc⟩
    · rw [huS_m1 hp hc]; exact h
    · rw [huS_h hp (by omega) hc]
      intro i hi
      dsimp only
      by_cases hip : i = p
      · subst hip
        rw [upd_at]
        exact Or.inr ⟨x, hx, rfl⟩
      · rw [upd_ne hip]
        exact h i hi
theorem HG_KR {L : List Dd} {w : Int32} {kk : Nat} (hO : okL L) (hl : L.length ≤ 30) (hw : s16 w) (hk : 1 ≤ kk) (hk2 : kk ≤ 16) : KR (HG L w kk).1 kk := by
  obtain ⟨hA, hC⟩ := PLA_inv hO hl hw hk hk2
  refine KR_hgR hk2 _ (fun j hj => ?_) _ (fun i hi => Or.inl ?_)
  · obtain ⟨p, hp, e, _⟩ := hA.1 j hj
    exact ⟨p, hp, e⟩
  · show n16 i = -1
    unfold n16
    rw [if_pos hi]
theorem PAi.s16 {hk pa : Nat → Int32} (h : PAi hk pa) {x : Nat} (hx : x < 16) : s16 (pa x) := fun i hi => by
  by_cases h32 : i < 32
  · rw [h.1 x hx i h32]
    simp; omega
  · exact b_big (by omega)
/-- how many pots hang on hook x -/
theorem hang_bc {hk pa : Nat → Int32} (h : PAi hk pa) {x : Nat} (hx : x < 16) : fcR (fun q => decide (hk q = nI x)) 16 0 = bc (pa x) :=
  fcR_bc (h.s16 hx) (fun q hq => by rw [h.1 x hx q (by omega)]; simp [hq])
theorem pa_hi {hk pa : Nat → Int32} {kk : Nat} (h : PAi hk pa) (hK : KR hk kk) {x : Nat} (hx : x < 16) (hk2 : kk ≤ x) : pa x = 0 := b_ext fun i hi => by
  rw [h.1 x hx i hi, b_0]
  by_cases h16 : i < 16
  · have : ¬ hk i = nI x := by
      rcases hK i h16 with e | ⟨y, hy, e⟩
      · rw [e]; exact fun e2 => nI_m1 hx e2.symm
      · rw [e]
        intro e2
        have := (nI_eq (show y < 2 ^ 31 by omega) (show x < 2 ^ 31 by omega)).mp e2
        omega
    simp [this]
  · simp [h16]
/-- the hooks below kk that have pots -/
def uhR (pa : Nat → Int32) (kk : Nat) : Nat → Int32 → Int32
  | 0, c => c
  | n + 1, c => uhR pa kk n (c + b01 (decide (0 < bc (pa (kk - (n + 1))))))
theorem huR_0 {pa : Nat → Int32} : ∀ n, n ≤ 16 → (∀ x, x < 16 → 16 - n ≤ x → pa x = 0) → ∀ c, huR pa n c = c
  | 0, _, _, c => rfl
  | n + 1, hn, h, c => by
    rw [huR, h (15 - n) (by omega) (by omega), if_pos rfl]
    exact huR_0 n (by omega) (fun x h1 h2 => h x h1 (by omega)) c
theorem uhR_huR {hk pa : Nat → Int32} {kk : Nat} (h : PAi hk pa) (hK : KR hk kk) (hk2 : kk ≤ 16) : ∀ n, n ≤ kk → ∀ c, uhR pa kk n c = huR pa (n + (16 - kk)) c
  | 0, _, c => by
    rw [uhR, huR_0 _ (by omega) (fun x hx h1 => pa_hi h hK hx (by omega))]
  | n + 1, hn, c => by
    rw [uhR, uhR_huR h hK hk2 n (by omega), show n + 1 + (16 - kk) = (n + (16 - kk)) + 1 by omega, huR, show 15 - (n + (16 - kk)) = kk - (n + 1) by omega]
    congr 1
    have hs := h.s16 (show kk - (n + 1) < 16 by omega)
    by_cases h0 : pa (kk - (n + 1)) = 0
    · rw [if_pos h0, show decide (0 < bc (pa (kk - (n + 1)))) = false from decide_eq_false (by rw [bc_pos hs]; exact fun hh => hh h0)]
      exact Int32.add_zero c
    · rw [if_neg h0, show decide (0 < bc (pa (kk - (n + 1)))) = true from decide_eq_true (by rw [bc_pos hs]; exact h0)]
      rfl
