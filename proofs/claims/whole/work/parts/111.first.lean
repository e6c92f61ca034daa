/-! the first settle, in the constructor, where the reference isn't yet made -/
def f0 : Nat → Nat → Int32 := fun a i => if a = 0 then (if i = 7 then 3 else 0) else 0
def m0 : mmM := (f0, (fun _ => 0, 0))
theorem settle_35 : (mmGo 1000 none 35 45 0 [.ref 0] [] m0).isSome = true := by decide +kernel
theorem first_35 : ∃ f' : Nat → Nat → Int32, mmGo 1000 none 35 45 0 [.ref 0] [] m0 = some (.inl none, (f', m0.2)) ∧ Cls f' [] 0 3 ∧ frm 7 17 f0 f' := by
  have z0 : ∀ a, a ≠ 0 → f0 a = zf := fun a ha => by
    funext i
    simp [f0, ha, zf]
  have hz : ∀ a, a ≠ 0 → zb (f0 a) := fun a ha => by rw [z0 a ha]; exact zb_zf
  obtain ⟨f', e, c, m⟩ := s_45 (L := []) (w := 0) (kk := 3) (M := m0) (by omega) (fun x hx => by cases hx) ⟨by show f0 1 5 = nI 0; rw [z0 1 (by omega)]; rfl, by simp, fun d hd => by simp at hd⟩ rfl rfl ⟨hz 10 (by omega), hz 11 (by omega), hz 12 (by omega)⟩ ⟨hz 14 (by omega), hz 15 (by omega), hz 16 (by omega)⟩ ⟨hz 27 (by omega), hz 28 (by omega), hz 29 (by omega)⟩ ⟨hz 31 (by omega), hz 32 (by omega), hz 33 (by omega)⟩
  refine ⟨f', ?_, c, m⟩
  obtain ⟨x, hx⟩ := Option.isSome_iff_exists.mp settle_35
  have h48 : mmG 1000 none 45 0 [.ref 0] [] m0 = some x := mmGo_up (by omega) _ _ _ _ _ _ _ _ hx
  have hrn := rn_iff.mpr ⟨1000, h48⟩
  rw [e] at hrn
  rw [hx]
  exact hrn.symm
/-- the reference as it is made -/
def fR (f : Nat → Nat → Int32) : Nat → Nat → Int32 := uC f 35 (fun i => if i = 1 then 3 else if i = 9 then -1 else 0)
theorem Inv_first {f' : Nat → Nat → Int32} (c : Cls f' [] 0 3) (m : frm 7 17 f0 f') : Inv (fR f') [] 0 3 := by
  have z0 : ∀ a, 17 < a → f' a = zf := fun a ha => by
    rw [m a (by omega)]
    funext i
    simp [f0, show a ≠ 0 by omega, zf]
  have hz : ∀ a, 35 < a → zb (fR f' a) := fun a ha => by
    unfold fR
    rw [uC_ne (by omega), z0 a (by omega)]
    exact zb_zf
  refine ⟨c.ref (fun a ha => uC_ne (by omega)), ⟨?_, ?_, ?_, ?_, fun d hd => absurd hd (by simp), hz 42 (by omega), hz 43 (by omega), hz 44 (by omega), hz 46 (by omega), (fun x hx => by cases hx), by simp, s16_0⟩, by omega, by omega⟩
  · unfold fR; rw [uC_self]; rfl
  · unfold fR; rw [uC_self]; rfl
  · unfold fR; rw [uC_self]; rfl
  · unfold fR; rw [uC_self]; rfl
/-- the law's loop from its first round, with fuel -/
theorem loop_first {N : Nat} {g : Nat → Int32} (hN : N ≤ 2560) {f' : Nat → Nat → Int32} (c : Cls f' [] 0 3) (m : frm 7 17 f0 f') : ∃ fuel M', mmGo fuel (some (N, g)) 48 126 23 [.ref 99, .ref 0, .ref 35, .ref 47, .int 0, .null, .null, .null, .null] [] (fR f', m0.2) = some (.inl (some (.int 1)), M') ∧ M'.2.2 ≤ 512 := by
  obtain ⟨M', e, h⟩ := l_126 (g := g) hN N 0 (by omega) (by omega) .null .null .null .null (fR f', m0.2) [] 0 3 (Inv_first c m)
  rw [nI_0] at e
  obtain ⟨fuel, hf⟩ := rn_iff.mp e
  refine ⟨fuel, M', hf, ?_⟩
  have : (fR f', m0.2).2.2 = 0 := rfl
  omega
