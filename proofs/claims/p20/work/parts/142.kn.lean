/-! RUNS WITHOUT FUEL of the kitchen machine -/
theorem kF_mono {a b : kRec} {ra rb : kRk} (h : ∀ y pc ls st M x, a y pc ls st M = some x → b y pc ls st M = some x) (hr : ∀ z ls m x, ra z ls m = some x → rb z ls m = some x) {y pc : Nat} {ls st : List Value} {M : kM} {x : kOut} (hx : kF a ra y pc ls st M = some x) : kF b rb y pc ls st M = some x := by
  unfold kF at hx ⊢
  split at hx
  · cases hx
  · rename_i r hrr
    try simp only [hrr]
    split at hx
    · cases hx
    · rename_i ins len hd
      try simp only [hd]
      split at hx
      · rename_i hln
        try simp only [hln, if_true]
        split at hx
        · rename_i hs
          try simp only [hs]
          exact h _ _ _ _ _ _ hx
        · rename_i hs
          try simp only [hs]
          split at hx
          · rename_i hE
            try simp only [hE]
            exact hx
          · rename_i hE
            try simp only [hE]
            split at hx
            · rename_i z args rest hcl
              try simp only [hcl]
              split at hx
              · cases hx
              · rename_i rz hz
                try simp only [hz]
                split at hx
                · rename_i hfit
                  rw [if_pos hfit]
                  split at hx
                  · cases hx
                  · rename_i v M1 hg
                    rw [h _ _ _ _ _ _ hg]
                    exact h _ _ _ _ _ _ hx
                · cases hx
            · rename_i hcl
              try simp only [hcl]
              split at hx
              · rename_i z b9 args rest hck
                try simp only [hck]
                split at hx
                · cases hx
                · rename_i rz hz
                  try simp only [hz]
                  split at hx
                  · rename_i hfit
                    rw [if_pos hfit]
                    split at hx
                    · cases hx
                    · rename_i v m1 hg
                      rw [hr _ _ _ _ hg]
                      dsimp only
                      split at hx
                      · rename_i hnr
                        rw [if_pos hnr]
                        exact h _ _ _ _ _ _ hx
                      · cases hx
                    · rename_i e m1 hg
                      rw [hr _ _ _ _ hg]
                      dsimp only
                      split at hx
                      · cases hx
                      · rename_i hp hhp
                        try simp only [hhp]
                        split at hx
                        · rename_i k hd9
                          try simp only [hd9]
                          split at hx
                          · rename_i l9 hl
                            try simp only [hl]
                            exact h _ _ _ _ _ _ hx
                          · cases hx
                        · cases hx
                  · cases hx
              · rename_i hck
                try simp only [hck]
                split at hx
                · split at hx
                  · rename_i hF
                    try simp only [hF]
                    split at hx
                    · rename_i hfit
                      rw [if_pos hfit]
                      exact h _ _ _ _ _ _ hx
                    · cases hx
                  · rename_i hF
                    try simp only [hF]
                    split at hx
                    · rename_i hfit
                      rw [if_pos hfit]
                      exact h _ _ _ _ _ _ hx
                    · cases hx
                  · cases hx
                · cases hx
      · cases hx
theorem kRkf_mono {f g : Nat} (hfg : f ≤ g) : ∀ z ls m x, kRkf f z ls m = some x → kRkf g z ls m = some x := fun z ls m x h => mmG_mono hfg (S := none) (y := z) (pc := 0) (ls := ls) (st := []) (M := m) h
theorem kGo_mono1 : ∀ (f y pc : Nat) (ls st : List Value) (M : kM) (x : kOut), kGo f y pc ls st M = some x → kGo (f + 1) y pc ls st M = some x
  | 0, y, pc, ls, st, M, x, h => by simp [kGo] at h
  | f + 1, y, pc, ls, st, M, x, h => kF_mono (kGo_mono1 f) (kRkf_mono (Nat.le_succ f)) h
theorem kGo_le {f g : Nat} (hfg : f ≤ g) {y pc : Nat} {ls st : List Value} {M : kM} {x : kOut} (h : kGo f y pc ls st M = some x) : kGo g y pc ls st M = some x := by
  induction hfg with
  | refl => exact h
  | step _ ih => exact kGo_mono1 _ _ _ _ _ _ _ ih
noncomputable def kn (y pc : Nat) (ls st : List Value) (M : kM) : Option kOut := by
  classical
  exact if h : ∃ x f, kGo f y pc ls st M = some x then some h.choose else none
theorem kn_iff {y pc : Nat} {ls st : List Value} {M : kM} {x : kOut} : kn y pc ls st M = some x ↔ ∃ f, kGo f y pc ls st M = some x := by
  unfold kn
  constructor
  · intro h
    split at h
    · rename_i hx
      cases h
      exact hx.choose_spec
    · cases h
  · rintro ⟨f, hf⟩
    have hx : ∃ x f, kGo f y pc ls st M = some x := ⟨x, f, hf⟩
    rw [dif_pos hx]
    obtain ⟨g, hg⟩ := hx.choose_spec
    have h1 := kGo_le (Nat.le_max_left f g) hf
    have h2 := kGo_le (Nat.le_max_right f g) hg
    exact h2.symm.trans h1
noncomputable def knR : kRk := fun z ls m => rn none z 0 ls [] m
theorem knR_iff {z : Nat} {ls : List Value} {m : mmM} {x : mmOut} : knR z ls m = some x ↔ ∃ f, kRkf f z ls m = some x := rn_iff
theorem kn_up {y pc : Nat} {ls st : List Value} {M : kM} {x : kOut} (h : kF kn knR y pc ls st M = some x) : ∃ f, kF (kGo f) (kRkf f) y pc ls st M = some x := by
  unfold kF at h ⊢
  split at h
  · cases h
  · rename_i r hr
    try simp only [hr]
    split at h
    · cases h
    · rename_i ins len hd
      try simp only [hd]
      split at h
      · rename_i hln
        try simp only [hln, if_true]
        split at h
        · rename_i hs
          obtain ⟨f, hf⟩ := kn_iff.mp h
          refine ⟨f, ?_⟩
          try simp only [hs]
          exact hf
        · rename_i hs
          try simp only [hs]
          split at h
          · rename_i hE
            refine ⟨0, ?_⟩
            try simp only [hE]
            exact h
          · rename_i hE
            try simp only [hE]
            split at h
            · rename_i z args rest hcl
              try simp only [hcl]
              split at h
              · cases h
              · rename_i rz hz
                try simp only [hz]
                split at h
                · rename_i hfit
                  simp only [if_pos hfit]
                  split at h
                  · cases h
                  · rename_i v M1 hg
                    obtain ⟨f1, h1⟩ := kn_iff.mp hg
                    obtain ⟨f2, h2⟩ := kn_iff.mp h
                    refine ⟨max f1 f2, ?_⟩
                    rw [kGo_le (Nat.le_max_left f1 f2) h1]
                    exact kGo_le (Nat.le_max_right f1 f2) h2
                · cases h
            · rename_i hcl
              try simp only [hcl]
              split at h
              · rename_i z b9 args rest hck
                try simp only [hck]
                split at h
                · cases h
                · rename_i rz hz
                  try simp only [hz]
                  split at h
                  · rename_i hfit
                    simp only [if_pos hfit]
                    split at h
                    · cases h
                    · rename_i v m1 hg
                      obtain ⟨f1, h1⟩ := knR_iff.mp hg
                      split at h
                      · rename_i hnr
                        obtain ⟨f2, h2⟩ := kn_iff.mp h
                        refine ⟨max f1 f2, ?_⟩
                        rw [kRkf_mono (Nat.le_max_left f1 f2) _ _ _ _ h1]
                        dsimp only
                        rw [if_pos hnr]
                        exact kGo_le (Nat.le_max_right f1 f2) h2
                      · cases h
                    · rename_i e m1 hg
                      obtain ⟨f1, h1⟩ := knR_iff.mp hg
                      split at h
                      · cases h
                      · rename_i hp hhp
                        split at h
                        · rename_i k hd9
                          split at h
                          · rename_i l9 hl
                            obtain ⟨f2, h2⟩ := kn_iff.mp h
                            refine ⟨max f1 f2, ?_⟩
                            rw [kRkf_mono (Nat.le_max_left f1 f2) _ _ _ _ h1]
                            try simp only [hhp, hd9, hl]
                            exact kGo_le (Nat.le_max_right f1 f2) h2
                          · cases h
                        · cases h
                  · cases h
              · rename_i hck
                try simp only [hck]
                split at h
                · split at h
                  · rename_i hF
                    try simp only [hF]
                    split at h
                    · rename_i hfit
                      simp only [if_pos hfit]
                      exact kn_iff.mp h
                    · cases h
                  · rename_i hF
                    try simp only [hF]
                    split at h
                    · rename_i hfit
                      simp only [if_pos hfit]
                      exact kn_iff.mp h
                    · cases h
                  · cases h
                · cases h
      · cases h
theorem kn_eq (y pc : Nat) (ls st : List Value) (M : kM) : kn y pc ls st M = kF kn knR y pc ls st M := by
  apply Option.ext
  intro x
  constructor
  · intro h
    obtain ⟨f, hf⟩ := kn_iff.mp h
    cases f with
    | zero => simp [kGo] at hf
    | succ f => exact kF_mono (fun _ _ _ _ _ _ h => kn_iff.mpr ⟨f, h⟩) (fun _ _ _ _ h => knR_iff.mpr ⟨f, h⟩) hf
  · intro h
    obtain ⟨f, hf⟩ := kn_up h
    exact kn_iff.mpr ⟨f + 1, hf⟩
