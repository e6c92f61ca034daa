/-! RUNS WITHOUT FUEL: rn is the small machine's answer, where it has one; its step equations. All at 35 cells. -/
def mmF (rec : mmScr → Nat → Nat → List Value → List Value → mmM → Option mmOut) (S : mmScr) (y pc : Nat) (ls st : List Value) (M : mmM) : Option mmOut := match mmP[y]? with
    | none => none
    | some r => match decode (mmCd r) pc with
      | .error _ => none
      | .ok (ins, len) => if mmLn ins len = true then match mmS S 35 (mmOw r) (decide (1 ≤ mmFr r ∧ 21 ≤ mmLo r)) pc ins len ls st M with
        | some (pc', ls', st', M') => rec S y pc' ls' st' M'
        | none => match mmE (mmRt r) ins st with
          | some v => some (.inl v, M)
          | none => match mmCl 35 (mmOw r) ins st with
            | some (z, args, rest) => (match mmP[z]? with
              | none => none
              | some rz => if mmFr rz + 1 ≤ mmFr r ∧ 8 + (mmMl rz + 11) + mmLo rz ≤ mmLo r ∧ (mmEl args).length ≤ mmMl rz then (match rec none z 0 (mmEn (mmMl rz) args) [] M with
                | none => none
                | some (.inl v, M1) => rec S y (pc + 3) ls (v.toList ++ rest) M1
                | some (.inr e, M1) => (match mmHh r with
                  | [] => some (.inr e, M1)
                  | _ :: _ => (match mmHf (mmOw r) pc e (mmHh r) with
                    | none => none
                    | some hp => (match decode (mmCd r) hp with
                      | .ok (.astore k, 2) => (match mmSt1 ls k .null with | some l => rec S y (hp + 2) l [] M1 | none => none)
                      | .ok (.astore_n k, 1) => (match mmSt1 ls k .null with | some l => rec S y (hp + 1) l [] M1 | none => none)
                      | _ => none)))) else none)
            | none => (match ins with
              | .new _ => (match mmF3 mmTH y pc with
                | some e => if st = [] ∧ mmHh r = [] then some (.inr e, mmT M) else none
                | none => none)
              | _ => none)
      else none
def mmG (f : Nat) : mmScr → Nat → Nat → List Value → List Value → mmM → Option mmOut := fun S y pc ls st M => mmGo f S 35 y pc ls st M
theorem mmG_succ (f : Nat) (S : mmScr) (y pc : Nat) (ls st : List Value) (M : mmM) : mmG (f + 1) S y pc ls st M = mmF (mmG f) S y pc ls st M := rfl
abbrev mmRec : Type := mmScr → Nat → Nat → List Value → List Value → mmM → Option mmOut
theorem mmF_mono {a b : mmRec} (h : ∀ S y pc ls st M x, a S y pc ls st M = some x → b S y pc ls st M = some x) {S : mmScr} {y pc : Nat} {ls st : List Value} {M : mmM} {x : mmOut} (hx : mmF a S y pc ls st M = some x) : mmF b S y pc ls st M = some x := by
  unfold mmF at hx ⊢
  split at hx
  · cases hx
  · rename_i r hr
    try simp only [hr]
    split at hx
    · cases hx
    · rename_i ins len hd
      try simp only [hd]
      split at hx
      · rename_i hln
        try simp only [hln, if_true]
        split at hx
        · rename_i hs
          try simp only [hs]
          exact h _ _ _ _ _ _ _ hx
        · rename_i hs
          try simp only [hs]
          split at hx
          · rename_i hE
            try simp only [hE]
            exact hx
          · rename_i hE
            try simp only [hE]
            split at hx
            · rename_i z args rest hcl
              try simp only [hcl]
              split at hx
              · cases hx
              · rename_i rz hz
                try simp only [hz]
                split at hx
                · rename_i hfit
                  rw [if_pos hfit]
                  split at hx
                  · cases hx
                  · rename_i v M1 hg
                    rw [h _ _ _ _ _ _ _ hg]
                    exact h _ _ _ _ _ _ _ hx
                  · rename_i e M1 hg
                    rw [h _ _ _ _ _ _ _ hg]
                    simp only
                    split at hx
                    · rename_i hh
                      try simp only [hh]
                      exact hx
                    · rename_i x9 t9 hh
                      split at hx
                      · cases hx
                      · rename_i hp hhp
                        rw [hh] at hhp
                        try simp only [hh, hhp]
                        split at hx
                        · rename_i k hd9
                          try simp only [hd9]
                          split at hx
                          · rename_i hl
                            try simp only [hl]
                            exact h _ _ _ _ _ _ _ hx
                          · cases hx
                        · rename_i k hd9
                          try simp only [hd9]
                          split at hx
                          · rename_i hl
                            try simp only [hl]
                            exact h _ _ _ _ _ _ _ hx
                          · cases hx
                        · cases hx
                · cases hx
            · rename_i hcl
              try simp only [hcl]
              exact hx
      · cases hx
theorem mmG_mono1 : ∀ (f : Nat) (S : mmScr) (y pc : Nat) (ls st : List Value) (M : mmM) (x : mmOut), mmG f S y pc ls st M = some x → mmG (f + 1) S y pc ls st M = some x
  | 0, S, y, pc, ls, st, M, x, h => by simp [mmG, mmGo] at h
  | f + 1, S, y, pc, ls, st, M, x, h => by
    rw [mmG_succ] at h ⊢
    exact mmF_mono (mmG_mono1 f) h
theorem mmG_mono {f g : Nat} (hfg : f ≤ g) {S : mmScr} {y pc : Nat} {ls st : List Value} {M : mmM} {x : mmOut} (h : mmG f S y pc ls st M = some x) : mmG g S y pc ls st M = some x := by
  induction hfg with
  | refl => exact h
  | step _ ih => exact mmG_mono1 _ _ _ _ _ _ _ _ ih
noncomputable def rn (S : mmScr) (y pc : Nat) (ls st : List Value) (M : mmM) : Option mmOut := by
  classical
  exact if h : ∃ x f, mmG f S y pc ls st M = some x then some h.choose else none
theorem rn_iff {S : mmScr} {y pc : Nat} {ls st : List Value} {M : mmM} {x : mmOut} : rn S y pc ls st M = some x ↔ ∃ f, mmG f S y pc ls st M = some x := by
  unfold rn
  constructor
  · intro h
    split at h
    · rename_i hx
      cases h
      exact hx.choose_spec
    · cases h
  · rintro ⟨f, hf⟩
    have hx : ∃ x f, mmG f S y pc ls st M = some x := ⟨x, f, hf⟩
    rw [dif_pos hx]
    obtain ⟨g, hg⟩ := hx.choose_spec
    have h1 := mmG_mono (Nat.le_max_left f g) hf
    have h2 := mmG_mono (Nat.le_max_right f g) hg
    exact h2.symm.trans h1
theorem rn_up {S : mmScr} {y pc : Nat} {ls st : List Value} {M : mmM} {x : mmOut} (h : mmF rn S y pc ls st M = some x) : ∃ f, mmF (mmG f) S y pc ls st M = some x := by
  unfold mmF at h ⊢
  split at h
  · cases h
  · rename_i r hr
    try simp only [hr]
    split at h
    · cases h
    · rename_i ins len hd
      try simp only [hd]
      split at h
      · rename_i hln
        try simp only [hln, if_true]
        split at h
        · rename_i hs
          obtain ⟨f, hf⟩ := rn_iff.mp h
          refine ⟨f, ?_⟩
          try simp only [hs]
          exact hf
        · rename_i hs
          try simp only [hs]
          split at h
          · rename_i hE
            refine ⟨0, ?_⟩
            try simp only [hE]
            exact h
          · rename_i hE
            try simp only [hE]
            split at h
            · rename_i z args rest hcl
              try simp only [hcl]
              split at h
              · cases h
              · rename_i rz hz
                try simp only [hz]
                split at h
                · rename_i hfit
                  simp only [if_pos hfit]
                  split at h
                  · cases h
                  · rename_i v M1 hg
                    obtain ⟨f1, h1⟩ := rn_iff.mp hg
                    obtain ⟨f2, h2⟩ := rn_iff.mp h
                    refine ⟨max f1 f2, ?_⟩
                    rw [mmG_mono (Nat.le_max_left f1 f2) h1]
                    exact mmG_mono (Nat.le_max_right f1 f2) h2
                  · rename_i e M1 hg
                    obtain ⟨f1, h1⟩ := rn_iff.mp hg
                    split at h
                    · rename_i hh
                      refine ⟨f1, ?_⟩
                      rw [h1]
                      try simp only [hh]
                      exact h
                    · rename_i x9 t9 hh
                      split at h
                      · cases h
                      · rename_i hp hhp
                        rw [hh] at hhp
                        split at h
                        · rename_i k hd9
                          split at h
                          · rename_i hl
                            obtain ⟨f2, h2⟩ := rn_iff.mp h
                            refine ⟨max f1 f2, ?_⟩
                            rw [mmG_mono (Nat.le_max_left f1 f2) h1]
                            try simp only [hh, hhp, hd9, hl]
                            exact mmG_mono (Nat.le_max_right f1 f2) h2
                          · cases h
                        · rename_i k hd9
                          split at h
                          · rename_i hl
                            obtain ⟨f2, h2⟩ := rn_iff.mp h
                            refine ⟨max f1 f2, ?_⟩
                            rw [mmG_mono (Nat.le_max_left f1 f2) h1]
                            try simp only [hh, hhp, hd9, hl]
                            exact mmG_mono (Nat.le_max_right f1 f2) h2
                          · cases h
                        · cases h
                · cases h
            · rename_i hcl
              try simp only [hcl]
              exact ⟨0, h⟩
      · cases h
theorem rn_eq (S : mmScr) (y pc : Nat) (ls st : List Value) (M : mmM) : rn S y pc ls st M = mmF rn S y pc ls st M := by
  apply Option.ext
  intro x
  constructor
  · intro h
    obtain ⟨f, hf⟩ := rn_iff.mp h
    cases f with
    | zero => simp [mmG, mmGo] at hf
    | succ f =>
      rw [mmG_succ] at hf
      exact mmF_mono (fun _ _ _ _ _ _ _ h => rn_iff.mpr ⟨f, h⟩) hf
  · intro h
    obtain ⟨f, hf⟩ := rn_up h
    exact rn_iff.mpr ⟨f + 1, hf⟩
