/-! the first settle, in the constructor -/
def f0 : Nat → Nat → Int32 := fun a i => if a = 0 then (if i = 7 then 3 else 0) else 0
def m0 : mmM := (f0, (fun _ => 0, 0))
theorem settle_35 : (mmGo 1000 none 35 45 0 [.ref 0] [] m0).isSome = true := by decide +kernel
/-- a kitchen as it is made -/
def kH0 : Nat → Nat → Int32 := match mmGo 1000 none 35 45 0 [.ref 0] [] m0 with
  | some (_, M) => M.1
  | none => fun _ _ => 0
theorem first_35 : mmGo 1000 none 35 45 0 [.ref 0] [] m0 = some (.inl none, (kH0, m0.2)) ∧ Cls kH0 [] 0 3 := by
  have z0 : ∀ a, a ≠ 0 → f0 a = zf := fun a ha => by
    funext i
    simp [f0, ha, zf]
  have hz : ∀ a, a ≠ 0 → zb (f0 a) := fun a ha => by rw [z0 a ha]; exact zb_zf
  obtain ⟨f', e, c, m⟩ := s_45 (L := []) (w := 0) (kk := 3) (M := m0) (by omega) (fun x hx => by cases hx) ⟨by show f0 1 5 = nI 0; rw [z0 1 (by omega)]; rfl, by simp, fun d hd => by simp at hd⟩ rfl rfl ⟨hz 10 (by omega), hz 11 (by omega), hz 12 (by omega)⟩ ⟨hz 14 (by omega), hz 15 (by omega), hz 16 (by omega)⟩ ⟨hz 27 (by omega), hz 28 (by omega), hz 29 (by omega)⟩ ⟨hz 31 (by omega), hz 32 (by omega), hz 33 (by omega)⟩
  obtain ⟨x, hx⟩ := Option.isSome_iff_exists.mp settle_35
  have hrn := rn_iff.mpr ⟨1000, (show mmG 1000 none 45 0 [.ref 0] [] m0 = some x from hx)⟩
  rw [e] at hrn
  have hx2 : mmGo 1000 none 35 45 0 [.ref 0] [] m0 = some (.inl none, (f', m0.2)) := hx.trans hrn.symm
  have hk : kH0 = f' := by unfold kH0; rw [hx2]
  rw [hk]
  exact ⟨hx2, c⟩
