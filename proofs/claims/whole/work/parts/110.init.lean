/-! a run with fewer cells is a run with more -/
theorem mmArr_up {n n' k : Nat} {a : Nat × Nat} (hn : n ≤ n') (h : mmArr n k = some a) : mmArr n' k = some a := by
  unfold mmArr at h ⊢
  split at h
  · rw [if_pos (by omega)]; exact h
  · cases h
theorem mmFd_up {n n' c f k : Nat} {a : Option Nat} (hn : n ≤ n') (h : mmFd n c f k = some a) : mmFd n' c f k = some a := by
  unfold mmFd at h ⊢
  split at h
  · rw [if_pos (by omega)]; exact h
  · cases h
theorem mmS_eq {S : mmScr} {n n' o pc len : Nat} {w : Bool} {ins : Instr} {ls st : List Value} {M : mmM} : (mmS S n o w pc ins len ls st M = mmS S n' o w pc ins len ls st M) ∨ (∃ i, ins = .getfield i) ∨ (∃ i, ins = .putfield i) ∨ ins = .iaload ∨ ins = .iastore ∨ ins = .baload ∨ ins = .bastore ∨ ins = .laload ∨ ins = .lastore ∨ ins = .arraylength := by
  cases ins <;> first
    | exact Or.inl rfl
    | simp
set_option maxHeartbeats 4000000 in
theorem mmS_up {S : mmScr} {n n' o pc len : Nat} {w : Bool} {ins : Instr} {ls st : List Value} {M : mmM} {x : Nat × List Value × List Value × mmM} (hn : n ≤ n') (h : mmS S n o w pc ins len ls st M = some x) : mmS S n' o w pc ins len ls st M = some x := by
  have ka : ∀ k, (mmArr n k).isSome = true → mmArr n' k = mmArr n k := fun k h => by
    obtain ⟨a, ha⟩ := Option.isSome_iff_exists.mp h
    rw [ha, mmArr_up hn ha]
  have kf : ∀ c f k, (mmFd n c f k).isSome = true → mmFd n' c f k = mmFd n c f k := fun c f k h => by
    obtain ⟨a, ha⟩ := Option.isSome_iff_exists.mp h
    rw [ha, mmFd_up hn ha]
  rcases mmS_eq (S := S) (n := n) (n' := n') (o := o) (pc := pc) (len := len) (w := w) (ins := ins) (ls := ls) (st := st) (M := M) with he | ⟨i, rfl⟩ | ⟨i, rfl⟩ | rfl | rfl | rfl | rfl | rfl | rfl | rfl
  · rw [← he]; exact h
  all_goals
    simp only [mmS] at h ⊢
    (repeat' split at h) <;> first
      | (cases h; done)
      | (simp_all; done)
theorem mmCl_up {n n' o : Nat} {ins : Instr} {st : List Value} {x : Nat × List Value × List Value} (hn : n ≤ n') (h : mmCl n o ins st = some x) : mmCl n' o ins st = some x := by
  have kf : ∀ c f k, (mmFd n c f k).isSome = true → mmFd n' c f k = mmFd n c f k := fun c f k h => by
    obtain ⟨a, ha⟩ := Option.isSome_iff_exists.mp h
    rw [ha, mmFd_up hn ha]
  cases ins <;> first
    | exact h
    | (simp only [mmCl] at h ⊢
       (repeat' split at h) <;> first
        | (cases h; done)
        | (simp_all; done))
set_option maxHeartbeats 4000000 in
theorem mmGo_up {n n' : Nat} (hn : n ≤ n') : ∀ (f : Nat) (S : mmScr) (y pc : Nat) (ls st : List Value) (M : mmM) (x : mmOut), mmGo f S n y pc ls st M = some x → mmGo f S n' y pc ls st M = some x
  | 0, S, y, pc, ls, st, M, x, h => by simp [mmGo] at h
  | f + 1, S, y, pc, ls, st, M, x, hx => by
    have ih := mmGo_up hn f
    simp only [mmGo] at hx ⊢
    split at hx
    · cases hx
    · rename_i r hr
      try simp only [hr]
      split at hx
      · cases hx
      · rename_i ins len hd
        try simp only [hd]
        split at hx
        · rename_i hln
          try simp only [hln, if_true]
          split at hx
          · rename_i hs
            rw [mmS_up hn hs]
            exact ih _ _ _ _ _ _ _ hx
          · rename_i hs
            have hs' : mmS S n' (mmOw r) (decide (1 ≤ mmFr r ∧ 21 ≤ mmLo r)) pc ins len ls st M = none := by
              rcases mmS_eq (S := S) (n := n) (n' := n') (o := mmOw r) (pc := pc) (len := len) (w := decide (1 ≤ mmFr r ∧ 21 ≤ mmLo r)) (ins := ins) (ls := ls) (st := st) (M := M) with he | ⟨i, rfl⟩ | ⟨i, rfl⟩ | rfl | rfl | rfl | rfl | rfl | rfl | rfl
              · rw [← he]; exact hs
              all_goals (simp only [mmE, mmCl] at hx; cases hx)
            rw [hs']
            dsimp only
            split at hx
            · rename_i hE
              try simp only [hE]
              exact hx
            · rename_i hE
              try simp only [hE]
              split at hx
              · rename_i z args rest hcl
                rw [mmCl_up hn hcl]
                dsimp only
                split at hx
                · cases hx
                · rename_i rz hz
                  try simp only [hz]
                  split at hx
                  · rename_i hfit
                    rw [if_pos hfit]
                    split at hx
                    · cases hx
                    · rename_i v M1 hg
                      rw [ih _ _ _ _ _ _ _ hg]
                      exact ih _ _ _ _ _ _ _ hx
                    · rename_i e M1 hg
                      rw [ih _ _ _ _ _ _ _ hg]
                      dsimp only
                      split at hx
                      · rename_i hh
                        try simp only [hh]
                        exact hx
                      · rename_i x9 t9 hh
                        split at hx
                        · cases hx
                        · rename_i hp hhp
                          rw [hh] at hhp
                          try simp only [hh, hhp]
                          split at hx
                          · rename_i k hd9
                            try simp only [hd9]
                            split at hx
                            · rename_i hl
                              try simp only [hl]
                              exact ih _ _ _ _ _ _ _ hx
                            · cases hx
                          · rename_i k hd9
                            try simp only [hd9]
                            split at hx
                            · rename_i hl
                              try simp only [hl]
                              exact ih _ _ _ _ _ _ _ hx
                            · cases hx
                          · cases hx
                  · cases hx
              · rename_i hcl
                split at hx
                · split at hx
                  · rename_i e he
                    have hcl' : ∀ i, mmCl n' (mmOw r) (.new i) st = none := fun i => rfl
                    rw [hcl']
                    dsimp only
                    try simp only [he]
                    exact hx
                  · cases hx
                · cases hx
        · cases hx
