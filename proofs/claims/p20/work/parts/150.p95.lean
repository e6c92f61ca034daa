/-! the reference: its small methods, and live -/
theorem lt_nI {x : Int32} {n : Nat} (h : n < 2147483647) : (nI n < x) = (nI (n + 1) ≤ x) := by
  apply propext
  rw [Int32.lt_iff_toInt_lt, Int32.le_iff_toInt_le, nI_toInt (by omega), nI_toInt (by omega)]
  omega
def s16 (x : Int32) : Prop := ∀ i, 16 ≤ i → bt x i = false
section
variable {f : Nat → Nat → Int32} {L : List Dd} {w o : Int32} {kk : Nat}
end
theorem dn_lt {x : Int32} {n : Nat} (h : n < 2147483648) : (dn n < x) = (nI n ≤ x) := by
  cases n with
  | zero =>
    apply propext
    rw [show nI 0 = 0 from rfl, dn_0, Int32.lt_iff_toInt_lt, Int32.le_iff_toInt_le, show (0 : Int32).toInt = 0 from rfl, show (-1 : Int32).toInt = -1 from rfl]
    omega
  | succ n => exact lt_nI (by omega)
