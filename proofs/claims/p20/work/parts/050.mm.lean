/-! THE SMALL MACHINE: the claim's own methods, run over 35 cells of a fixed shape; what its runs say of the real machine stands in part 060. -/
/-- the small memory: whole numbers by cell and place; the longs of the one long array; how many exceptions were made -/
abbrev mmM : Type := (Nat → Nat → Int32) × ((Nat → Int64) × Nat)
def uC (f : Nat → Nat → Int32) (k : Nat) (g : Nat → Int32) : Nat → Nat → Int32 := fun a => if a = k then g else f a
def mmI (M : mmM) (k : Nat) (i : Nat) (v : Int32) : mmM := (uC M.1 k (upd (M.1 k) i v), M.2)
def mmJ (M : mmM) (i : Nat) (v : Int64) : mmM := (M.1, (vp_updL M.2.1 i v, M.2.2))
def mmT (M : mmM) : mmM := (M.1, (M.2.1, M.2.2 + 1))
/-- the shape of the cells: an array (0 int, 1 boolean, 2 long; its length), or an object (its class; a field holds a cell, or a whole number) -/
abbrev mmLy : Type := (Nat × Nat) ⊕ (Nat × List (Option Nat))
def mmLay : List mmLy := [
  .inr (3, [some 1, some 7, some 13, some 18, some 24, some 30, none, none]),
  .inr (1, [some 2, some 3, some 4, some 5, some 6, none]),
  .inl (0, 30),
  .inl (0, 30),
  .inl (0, 30),
  .inl (0, 30),
  .inl (1, 30),
  .inr (2, [some 8, some 9, some 10, some 11, some 12, none, none]),
  .inl (0, 30),
  .inl (0, 30),
  .inl (0, 16),
  .inl (0, 16),
  .inl (0, 16),
  .inr (0, [some 14, some 15, some 16, some 17, none]),
  .inl (0, 16),
  .inl (0, 16),
  .inl (0, 16),
  .inl (0, 16),
  .inr (1, [some 19, some 20, some 21, some 22, some 23, none]),
  .inl (0, 30),
  .inl (0, 30),
  .inl (0, 30),
  .inl (0, 30),
  .inl (1, 30),
  .inr (2, [some 25, some 26, some 27, some 28, some 29, none, none]),
  .inl (0, 30),
  .inl (0, 30),
  .inl (0, 16),
  .inl (0, 16),
  .inl (0, 16),
  .inr (0, [some 31, some 32, some 33, some 34, none]),
  .inl (0, 16),
  .inl (0, 16),
  .inl (0, 16),
  .inl (0, 16)]
/-- a method: its name, code, locals, answer; its class's number, how many parameters, static, frames and locals below it, its table -/
abbrev mmRow : Type := MethodName × (ByteArray × (Nat × (Option FieldType × (Nat × (Nat × (Bool × (Nat × (Nat × List (Nat × Nat × Nat × Nat)))))))))
abbrev mmNm (r : mmRow) : MethodName := r.1
abbrev mmCd (r : mmRow) : ByteArray := r.2.1
abbrev mmMl (r : mmRow) : Nat := r.2.2.1
abbrev mmRt (r : mmRow) : Option FieldType := r.2.2.2.1
abbrev mmOw (r : mmRow) : Nat := r.2.2.2.2.1
abbrev mmNa (r : mmRow) : Nat := r.2.2.2.2.2.1
abbrev mmSt (r : mmRow) : Bool := r.2.2.2.2.2.2.1
abbrev mmFr (r : mmRow) : Nat := r.2.2.2.2.2.2.2.1
abbrev mmLo (r : mmRow) : Nat := r.2.2.2.2.2.2.2.2.1
abbrev mmHh (r : mmRow) : List (Nat × Nat × Nat × Nat) := r.2.2.2.2.2.2.2.2.2
def mmOwn : List String := [RX0, RX1, RX2, RX3, RX4, RJ6, RJ9, RJ7, RL]

def mr0 : mmRow := (yX0_init, cX0_init, 1, none, 0, 0, false, 1000, 0, [])
def mr1 : mmRow := (yX0_make, cX0_make, 5, none, 0, 2, false, 4, 92, [])
def mr2 : mmRow := (yX0_hooksInUse, cX0_hooksInUse, 3, some .int, 0, 0, false, 0, 0, [])
def mr3 : mmRow := (yX0_share, cX0_share, 3, some .boolean, 0, 2, false, 1, 20, [])
def mr4 : mmRow := (yX0_putAside, cX0_putAside, 6, some .int, 0, 2, false, 3, 67, [])
def mr5 : mmRow := (yX0_firstEasy, cX0_firstEasy, 4, some .int, 0, 3, true, 2, 41, [])
def mr6 : mmRow := (yX0_cheapest, cX0_cheapest, 7, some .int, 0, 2, true, 2, 41, [])
def mr7 : mmRow := (yX0_hangUp, cX0_hangUp, 5, none, 0, 3, false, 3, 64, [])
def mr8 : mmRow := (yX0_hookOfPartner, cX0_hookOfPartner, 4, some .int, 0, 2, false, 2, 41, [])
def mr9 : mmRow := (yX0_firstFree, cX0_firstFree, 4, some .int, 0, 2, false, 1, 22, [])
def mr10 : mmRow := (yX0_isFree, cX0_isFree, 3, some .boolean, 0, 2, false, 0, 0, [])
def mr11 : mmRow := (yX1_init, cX1_init, 1, none, 1, 0, false, 1000, 0, [])
def mr12 : mmRow := (yX1_add, cX1_add, 7, some .int, 1, 5, false, 6, 90, [])
def mr13 : mmRow := (yX1_remove, cX1_remove, 3, none, 1, 1, false, 6, 90, [])
def mr14 : mmRow := (yX1_copy, cX1_copy, 3, none, 1, 1, false, 1, 23, [])
def mr15 : mmRow := (yX1_used, cX1_used, 2, some .int, 1, 1, false, 2, 40, [])
def mr16 : mmRow := (yX1_takeOver, cX1_takeOver, 4, none, 1, 3, false, 0, 0, [])
def mr17 : mmRow := (yX2_init, cX2_init, 1, none, 2, 0, false, 1000, 0, [])
def mr18 : mmRow := (yX2_make, cX2_make, 4, none, 2, 2, false, 4, 88, [])
def mr19 : mmRow := (yX2_pairsOfClashes, cX2_pairsOfClashes, 3, some .int, 2, 0, false, 1, 20, [])
def mr20 : mmRow := (yX2_costOf, cX2_costOf, 4, some .int, 2, 1, false, 2, 41, [])
def mr21 : mmRow := (yX2_findLives, cX2_findLives, 5, none, 2, 2, false, 3, 61, [])
def mr22 : mmRow := (yX2_takeIn, cX2_takeIn, 4, none, 2, 2, false, 3, 65, [])
def mr23 : mmRow := (yX2_addCost, cX2_addCost, 3, none, 2, 2, false, 1, 20, [])
def mr24 : mmRow := (yX2_addPoured, cX2_addPoured, 3, none, 2, 2, false, 2, 40, [])
def mr25 : mmRow := (yX2_addClashes, cX2_addClashes, 5, none, 2, 2, false, 2, 41, [])
def mr26 : mmRow := (yX3_init, cX3_init, 1, none, 3, 0, false, 1000, 136, [])
def mr27 : mmRow := (yX3_cook, cX3_cook, 6, some .int, 3, 4, false, 7, 136, [])
def mr28 : mmRow := (yX3_pour, cX3_pour, 5, some .int, 3, 3, false, 7, 136, [])
def mr29 : mmRow := (yX3_drop, cX3_drop, 2, some .int, 3, 1, false, 7, 136, [])
def mr30 : mmRow := (yX3_want, cX3_want, 4, some .boolean, 3, 2, false, 7, 136, [])
def mr31 : mmRow := (yX3_setHooks, cX3_setHooks, 3, some .int, 3, 1, false, 6, 136, [])
def mr32 : mmRow := (yX3_deed, cX3_deed, 3, some .int, 3, 2, false, 7, 111, [])
def mr33 : mmRow := (yX3_lives, cX3_lives, 3, some .boolean, 3, 2, false, 7, 111, [])
def mr34 : mmRow := (yX3_clash, cX3_clash, 3, some .boolean, 3, 2, false, 7, 110, [])
def mr35 : mmRow := (yX3_pot, cX3_pot, 3, some .int, 3, 2, false, 7, 110, [])
def mr36 : mmRow := (yX3_count, cX3_count, 2, some .int, 3, 1, false, 6, 90, [])
def mr37 : mmRow := (yX3_hangs, cX3_hangs, 2, some .int, 3, 1, false, 6, 90, [])
def mr38 : mmRow := (yX3_crowd, cX3_crowd, 3, some .int, 3, 0, false, 1, 21, [])
def mr39 : mmRow := (yX3_would, cX3_would, 2, some .int, 3, 1, false, 6, 137, [])
def mr40 : mmRow := (yX3_fewest, cX3_fewest, 2, some .int, 3, 0, false, 6, 137, [])
def mr41 : mmRow := (yX3_advise, cX3_advise, 5, some .int, 3, 0, false, 8, 137, [])
def mr42 : mmRow := (yX3_mean, cX3_mean, 3, some .double, 3, 0, false, 1, 20, [])
def mr43 : mmRow := (yX3_digest, cX3_digest, 5, some .long, 3, 0, false, 8, 133, [])
def mr44 : mmRow := (yX3_digested, cX3_digested, 4, some .long, 3, 2, true, 0, 0, [])
def mr45 : mmRow := (yX3_settle, cX3_settle, 1, none, 3, 0, false, 5, 116, [])
def mr46 : mmRow := (yX3_floorWith, cX3_floorWith, 2, some .int, 3, 1, false, 5, 116, [])
def mr47 : mmRow := (yX3_floorCostWithout, cX3_floorCostWithout, 2, some .int, 3, 1, false, 7, 116, [])
def mr48 : mmRow := (yX3_pourings, cX3_pourings, 3, some .int, 3, 0, false, 0, 0, [])
def mr49 : mmRow := (yX3_pouringsSpared, cX3_pouringsSpared, 3, some .int, 3, 0, false, 3, 63, [])
def mr50 : mmRow := (yX3_weightsNotSpared, cX3_weightsNotSpared, 3, some .int, 3, 0, false, 3, 63, [])
def mr51 : mmRow := (yX3_isSpared, cX3_isSpared, 2, some .boolean, 3, 1, false, 2, 42, [])
def mr52 : mmRow := (yX3_requireDeed, cX3_requireDeed, 2, none, 3, 1, false, 6, 90, [])
def mr53 : mmRow := (yX3_requirePot, cX3_requirePot, 1, none, 3, 1, true, 6, 90, [])
def mr54 : mmRow := (yX3_requirePotOrNone, cX3_requirePotOrNone, 1, none, 3, 1, true, 6, 90, [])
def mr55 : mmRow := (yX3_requireWeight, cX3_requireWeight, 1, none, 3, 1, true, 6, 90, [])
def mr56 : mmRow := (yX3_isPot, cX3_isPot, 1, some .boolean, 3, 1, true, 0, 0, [])
def mr57 : mmRow := (yX3_bit, cX3_bit, 1, some .int, 3, 1, true, 1, 20, [])
def mr58 : mmRow := (yX3_has, cX3_has, 2, some .boolean, 3, 2, true, 1, 20, [])
def mr59 : mmRow := (yX4_init, cX4_init, 1, none, 4, 0, false, 1000, 0, [])
def mr60 : mmRow := (yX4_uses, cX4_uses, 3, some .boolean, 4, 2, false, 0, 0, [])
def mr61 : mmRow := (yX4_lives, cX4_lives, 4, some .boolean, 4, 2, false, 1, 22, [])
def mr62 : mmRow := (yX4_alive, cX4_alive, 4, some .int, 4, 1, false, 2, 45, [])
def mr63 : mmRow := (yX4_isThere, cX4_isThere, 4, some .boolean, 4, 1, false, 1, 22, [])
def mr64 : mmRow := (yX4_cost, cX4_cost, 8, some .int, 4, 1, false, 0, 0, [])
def mr65 : mmRow := (yX4_clashes, cX4_clashes, 7, some (.array (.array .boolean)), 4, 0, false, 2, 45, [])
def mr66 : mmRow := (yX4_among, cX4_among, 4, some .int, 4, 2, true, 0, 0, [])
def mr67 : mmRow := (yX4_isTaken, cX4_isTaken, 4, some .boolean, 4, 2, false, 0, 0, [])
def mr68 : mmRow := (yX4_hookFor, cX4_hookFor, 10, some .int, 4, 3, false, 1, 23, [])
def mr69 : mmRow := (yX4_hang, cX4_hang, 9, some .int, 4, 1, false, 3, 71, [])
def mr70 : mmRow := (yX4_floorCost, cX4_floorCost, 3, some .int, 4, 0, false, 1, 27, [])
def mr71 : mmRow := (yX4_isSame, cX4_isSame, 17, some .boolean, 4, 1, false, 8, 133, [])
def mr72 : mmRow := (yX4_without, cX4_without, 4, some (.array (.array .int)), 4, 2, true, 0, 0, [])
def mr73 : mmRow := (yJ6_bitCount_0f7a4, cJ6_bitCount_0f7a4, 1, some .int, 5, 1, true, 0, 0, [])
def mr74 : mmRow := (yJ9_max_7cf53, cJ9_max_7cf53, 2, some .int, 6, 2, true, 1000, 0, [])
def mr75 : mmRow := (yJ9_min_7cf53, cJ9_min_7cf53, 2, some .int, 6, 2, true, 1000, 0, [])
def mr76 : mmRow := (yJ7_fill_53178, cJ7_fill_53178, 4, none, 7, 2, true, 0, 0, [])
def mr77 : mmRow := (yL_below, cL_below, 2, some .int, 8, 2, true, 0, 0, [])
def mr78 : mmRow := (yL_cell, cL_cell, 2, some .int, 8, 2, true, 0, 0, [])
def mr79 : mmRow := (yL_act, cL_act, 11, some .boolean, 8, 3, true, 8, 161, [(181, 212, 213, 31), (274, 303, 304, 31)])
def mr80 : mmRow := (yL_add, cL_add, 4, none, 8, 2, true, 0, 0, [])
def mr81 : mmRow := (yL_build, cL_build, 5, some (.object "HookColoursLaw$Sim"), 8, 2, true, 9, 191, [])
def mr82 : mmRow := (yL_law, cL_law, 26, some .boolean, 8, 1, true, 12, 460, [])
def mr83 : mmRow := (yL_without, cL_without, 5, some .int, 8, 2, true, 8, 161, [])
def mmP : List mmRow := [mr0, mr1, mr2, mr3, mr4, mr5, mr6, mr7, mr8, mr9, mr10, mr11, mr12, mr13, mr14, mr15, mr16, mr17, mr18, mr19, mr20, mr21, mr22, mr23, mr24, mr25, mr26, mr27, mr28, mr29, mr30, mr31, mr32, mr33, mr34, mr35, mr36, mr37, mr38, mr39, mr40, mr41, mr42, mr43, mr44, mr45, mr46, mr47, mr48, mr49, mr50, mr51, mr52, mr53, mr54, mr55, mr56, mr57, mr58, mr59, mr60, mr61, mr62, mr63, mr64, mr65, mr66, mr67, mr68, mr69, mr70, mr71, mr72, mr73, mr74, mr75, mr76, mr77, mr78, mr79, mr80, mr81, mr82, mr83]
/-- links of fields: class, entry, the class that has it, its place -/
def mmFL : List (Nat × Nat × Nat × Nat) := [(1, 9, 1, 0), (2, 69, 1, 0), (3, 87, 1, 0), (1, 15, 1, 1), (2, 81, 1, 1), (3, 91, 1, 1), (1, 18, 1, 2), (2, 84, 1, 2), (3, 94, 1, 2), (1, 21, 1, 3), (2, 75, 1, 3), (3, 97, 1, 3), (1, 24, 1, 4), (2, 87, 1, 4), (3, 100, 1, 4), (1, 28, 1, 5), (2, 52, 1, 5), (3, 66, 1, 5), (2, 9, 2, 0), (3, 104, 2, 0), (2, 15, 2, 1), (3, 112, 2, 1), (2, 18, 2, 2), (0, 66, 2, 2), (3, 120, 2, 2), (2, 21, 2, 3), (0, 77, 2, 3), (2, 24, 2, 4), (0, 74, 2, 4), (3, 126, 2, 4), (2, 27, 2, 5), (3, 166, 2, 5), (2, 31, 2, 6), (0, 46, 2, 6), (3, 123, 2, 6), (0, 9, 0, 0), (3, 132, 0, 0), (0, 15, 0, 1), (3, 129, 0, 1), (0, 18, 0, 2), (3, 163, 0, 2), (0, 21, 0, 3), (0, 24, 0, 4), (3, 135, 0, 4), (3, 10, 3, 0), (3, 19, 3, 1), (3, 26, 3, 2), (3, 30, 3, 3), (3, 33, 3, 4), (3, 36, 3, 5), (3, 39, 3, 6), (3, 43, 3, 7), (4, 9, 4, 0), (8, 9, 4, 0), (4, 15, 4, 1), (8, 45, 4, 1), (4, 19, 4, 2), (8, 53, 4, 2), (4, 23, 4, 3), (4, 26, 4, 4)]
/-- links of methods: class, entry, the method -/
def mmML : List (Nat × Nat × Nat) := [(3, 46, 45), (3, 200, 18), (2, 34, 76), (2, 40, 21), (2, 66, 15), (3, 220, 56), (2, 48, 25), (2, 57, 22), (2, 78, 23), (2, 91, 24), (3, 204, 1), (0, 28, 4), (0, 32, 76), (0, 51, 5), (0, 69, 73), (0, 55, 6), (0, 38, 7), (0, 80, 8), (0, 87, 10), (0, 84, 9), (8, 84, 32), (3, 84, 52), (3, 107, 73), (8, 87, 33), (3, 49, 53), (3, 69, 58), (8, 91, 34), (8, 98, 35), (8, 77, 36), (3, 140, 19), (2, 60, 73), (3, 144, 2), (3, 147, 48), (3, 150, 49), (3, 211, 51), (3, 215, 3), (3, 153, 20), (3, 156, 50), (8, 105, 37), (8, 94, 38), (8, 108, 39), (3, 177, 46), (8, 111, 40), (8, 114, 41), (3, 180, 47), (3, 207, 14), (1, 44, 16), (3, 63, 13), (8, 101, 42), (8, 80, 43), (3, 185, 36), (3, 188, 44), (3, 192, 32), (3, 195, 35), (8, 120, 71), (4, 48, 65), (4, 33, 61), (4, 29, 60), (4, 68, 69), (4, 52, 63), (4, 56, 66), (4, 60, 64), (4, 64, 68), (4, 38, 67), (4, 71, 62), (4, 74, 32), (4, 79, 33), (4, 83, 34), (4, 86, 35), (4, 89, 37), (4, 92, 70), (4, 96, 36), (4, 99, 38), (4, 102, 42), (8, 15, 77), (8, 63, 78), (8, 68, 79), (8, 21, 80), (8, 25, 27), (3, 53, 54), (3, 56, 55), (3, 59, 12), (8, 33, 28), (8, 37, 72), (8, 41, 29), (8, 49, 30), (3, 73, 57), (8, 57, 31), (8, 73, 81), (8, 117, 83)]
/-- links of a nest mate's private methods -/
def mmNL : List (Nat × Nat × Nat) := [(1, 48, 57), (2, 72, 57), (2, 44, 58), (2, 94, 56), (0, 62, 58), (0, 42, 56), (0, 58, 57)]
/-- throws: method, place, which exception -/
def mmTH : List (Nat × Nat × Nat) := [(12, 9, 2), (13, 12, 0), (31, 11, 1), (32, 132, 0), (35, 127, 0), (36, 137, 0), (37, 12, 0), (39, 11, 1), (52, 15, 0), (53, 7, 0), (54, 12, 0), (55, 11, 1)]
/-- caught classes: class, entry, which exception -/
def mmCK : List (Nat × Nat × Nat) := [(8, 31, 2)]
/-- constants: class, entry, value -/
def mmKI : List (Nat × Nat × Int32) := [(5, 265, 1431655765), (5, 266, 858993459), (5, 267, 252645135)]
def mmKJ : List (Nat × Nat × Int64) := [(3, 183, 1609), (3, 198, 31)]
def mmF3 {α : Type} (l : List (Nat × Nat × α)) (a b : Nat) : Option α := match l with
  | [] => none
  | r :: t => if r.1 = a ∧ r.2.1 = b then some r.2.2 else mmF3 t a b
theorem mmF3_mem {α : Type} {l : List (Nat × Nat × α)} {a b : Nat} {v : α} (h : mmF3 l a b = some v) : (a, b, v) ∈ l := by
  induction l with
  | nil => simp [mmF3] at h
  | cons r t ih =>
    simp only [mmF3] at h
    split at h
    · rename_i hc
      obtain ⟨r1, r2, r3⟩ := r
      simp only at hc
      obtain ⟨h1, h2⟩ := hc
      simp only [Option.some.injEq] at h
      subst h1; subst h2; subst h
      exact List.mem_cons_self
    · exact List.mem_cons_of_mem _ (ih h)
/-- an index within -/
def mmX (i : Int32) (n : Nat) : Option Nat := if i < 0 ∨ n ≤ i.toNatClampNeg then none else some i.toNatClampNeg
def mmArr (n k : Nat) : Option (Nat × Nat) := if k < n then (match mmLay[k]? with | some (.inl a) => some a | _ => none) else none
/-- a field's contents: a cell or a whole number -/
def mmFd (n c f k : Nat) : Option (Option Nat) := if k < n then (match mmLay[k]? with | some (.inr o) => if o.1 = c then o.2[f]? else none | _ => none) else none
def mmTg (pc : Nat) (off : Int) : Option Nat := if 0 ≤ (pc : Int) + off then some ((pc : Int) + off).toNat else none
def mmCt (v : Value) : Nat := v.category
def mmSm (st : List Value) : Nat := (st.map fun v => v.category).sum
/-- storing in the locals; the place ahead holds no long or double -/
def mmSt1 (ls : List Value) (i : Nat) (v : Value) : Option (List Value) := if i < ls.length ∧ v.category = 1 ∧ (i = 0 ∨ (ls.getD (i - 1) .null).category = 1) then some (ls.set i v) else none
def mmSt2 (ls : List Value) (i : Nat) (v : Value) : Option (List Value) := if i + 1 < ls.length ∧ v.category = 2 ∧ (i = 0 ∨ (ls.getD (i - 1) .null).category = 1) then some ((ls.set i v).set (i + 1) .null) else none
abbrev mmScr : Type := Option (Nat × (Nat → Int32))
abbrev mmRes : Type := Option (Nat × List Value × List Value × mmM)
def mmIf (b : Prop) [Decidable b] (pc len : Nat) (off : Int) (ls st : List Value) (M : mmM) : mmRes := match mmTg pc off with
  | none => none
  | some t => if b then some (t, ls, st, M) else some (pc + len, ls, st, M)
def mmCnd (op : ClassFile.Cond) (x y : Int32) : Bool := match op with
  | .eq => decide (x = y)
  | .ne => decide (¬ x = y)
  | .lt => decide (x < y)
  | .ge => decide (y ≤ x)
  | .gt => decide (y < x)
  | .le => decide (x ≤ y)
def mmLd (ls : List Value) (i : Nat) (pc len : Nat) (st : List Value) (M : mmM) (ok : Value → Bool) : mmRes := match ls[i]? with
  | some v => if ok v = true then some (pc + len, ls, v :: st, M) else none
  | none => none
def mmIsI (v : Value) : Bool := match v with | .int _ => true | _ => false
def mmIsJ (v : Value) : Bool := match v with | .long _ => true | _ => false
def mmIsD (v : Value) : Bool := match v with | .double _ => true | _ => false
def mmIsR (v : Value) : Bool := match v with | .ref _ => true | _ => false
/-- an instruction that neither calls nor ends -/
def mmMX : List (Nat × Nat × Unit) := [(3, 169, ())]
def mmS (S : mmScr) (n o : Nat) (w : Bool) (pc : Nat) (ins : Instr) (len : Nat) (ls st : List Value) (M : mmM) : mmRes := match ins with
  | .iconst k => some (pc + 1, ls, .int (Int32.ofInt k) :: st, M)
  | .bipush k => some (pc + 2, ls, .int (Int8.ofInt k).toInt32 :: st, M)
  | .lconst k => some (pc + 1, ls, .long (Int64.ofNat (k : Nat)) :: st, M)
  | .dconst k => if k = 0 then some (pc + 1, ls, .double FP.dconst0 :: st, M) else none
  | .iload_n k => mmLd ls k pc 1 st M mmIsI
  | .iload k => mmLd ls k pc 2 st M mmIsI
  | .lload_n k => mmLd ls k pc 1 st M mmIsJ
  | .dload k => mmLd ls k pc 2 st M mmIsD
  | .aload_n k => mmLd ls k pc 1 st M mmIsR
  | .aload k => mmLd ls k pc 2 st M mmIsR
  | .istore_n k => (match st with | .int v :: r => (mmSt1 ls k (.int v)).map (fun l => (pc + 1, l, r, M)) | _ => none)
  | .istore k => (match st with | .int v :: r => (mmSt1 ls k (.int v)).map (fun l => (pc + 2, l, r, M)) | _ => none)
  | .lstore_n k => (match st with | .long v :: r => (mmSt2 ls k (.long v)).map (fun l => (pc + 1, l, r, M)) | _ => none)
  | .dstore k => (match st with | .double v :: r => (mmSt2 ls k (.double v)).map (fun l => (pc + 2, l, r, M)) | _ => none)
  | .iinc k c => if len = 3 then (match ls[k]? with | some (.int v) => (mmSt1 ls k (.int (v + Int32.ofInt c))).map (fun l => (pc + 3, l, st, M)) | _ => none) else none
  | .iadd => (match st with | .int y :: .int x :: r => some (pc + 1, ls, .int (x + y) :: r, M) | _ => none)
  | .isub => (match st with | .int y :: .int x :: r => some (pc + 1, ls, .int (x - y) :: r, M) | _ => none)
  | .imul => (match st with | .int y :: .int x :: r => some (pc + 1, ls, .int (x * y) :: r, M) | _ => none)
  | .idiv => (match st with | .int y :: .int x :: r => if y = 0 then none else some (pc + 1, ls, .int (x / y) :: r, M) | _ => none)
  | .iand => (match st with | .int y :: .int x :: r => some (pc + 1, ls, .int (x &&& y) :: r, M) | _ => none)
  | .ior => (match st with | .int y :: .int x :: r => some (pc + 1, ls, .int (x ||| y) :: r, M) | _ => none)
  | .ixor => (match st with | .int y :: .int x :: r => some (pc + 1, ls, .int (x ^^^ y) :: r, M) | _ => none)
  | .ishl => (match st with | .int y :: .int x :: r => some (pc + 1, ls, .int (x <<< (y &&& 31)) :: r, M) | _ => none)
  | .ishr => (match st with | .int y :: .int x :: r => some (pc + 1, ls, .int (x >>> (y &&& 31)) :: r, M) | _ => none)
  | .iushr => (match st with | .int y :: .int x :: r => some (pc + 1, ls, .int (x.toUInt32 >>> (y.toUInt32 &&& Int32.toUInt32 31)).toInt32 :: r, M) | _ => none)
  | .ladd => (match st with | .long y :: .long x :: r => some (pc + 1, ls, .long (x + y) :: r, M) | _ => none)
  | .lmul => (match st with | .long y :: .long x :: r => some (pc + 1, ls, .long (x * y) :: r, M) | _ => none)
  | .lcmp => (match st with | .long y :: .long x :: r => some (pc + 1, ls, .int (lg_cmp x y) :: r, M) | _ => none)
  | .i2l => (match st with | .int x :: r => some (pc + 1, ls, .long x.toInt64 :: r, M) | _ => none)
  | .i2d => (match st with | .int x :: r => some (pc + 1, ls, .double (FP.i2d x) :: r, M) | _ => none)
  | .ddiv => (match st with | .double y :: .double x :: r => if FP.ddiv x y &&& 0x7fffffffffffffff ≤ 0x7ff0000000000000 then some (pc + 1, ls, .double (FP.ddiv x y) :: r, M) else none | _ => none)
  | .dcmp op => (match st with | .double y :: .double x :: r => some (pc + 1, ls, .int (Op.cmpValue (FP.dcmp x y) op) :: r, M) | _ => none)
  | .dup => (match st with | v :: r => if v.category = 1 then some (pc + 1, ls, v :: v :: r, M) else none | _ => none)
  | .dup2 => (match st with | v :: w :: r => if v.category = 1 ∧ w.category = 1 then some (pc + 1, ls, v :: w :: v :: w :: r, M) else none | _ => none)
  | .ifCond op off => (match st with | .int x :: r => mmIf (mmCnd op x 0 = true) pc 3 off ls r M | _ => none)
  | .if_icmp op off => (match st with | .int y :: .int x :: r => mmIf (mmCnd op x y = true) pc 3 off ls r M | _ => none)
  | .goto off => if len = 3 then (mmTg pc off).map (fun t => (t, ls, st, M)) else none
  | .tableswitch dflt lo hi offs => (match st with | .int x :: r => if x.toInt < lo ∨ hi < x.toInt then (mmTg pc dflt).map (fun t => (t, ls, r, M)) else (match offs[(x.toInt - lo).toNat]? with | some off => (mmTg pc off).map (fun t => (t, ls, r, M)) | none => none) | _ => none)
  | .getfield i => (match st with | .ref k :: r => (match mmF3 mmFL o i with | some cf => (match mmFd n cf.1 cf.2 k with | some (some j) => some (pc + 3, ls, .ref j :: r, M) | some none => some (pc + 3, ls, .int (M.1 k cf.2) :: r, M) | none => none) | none => none) | _ => none)
  | .putfield i => (match st with | .int v :: .ref k :: r => (match mmF3 mmFL o i with | some cf => (match mmFd n cf.1 cf.2 k with | some none => some (pc + 3, ls, r, mmI M k cf.2 v) | _ => none) | none => none) | _ => none)
  | .iaload => (match st with | .int i :: .ref k :: r => (if k = 99 then (match S with | some xs => (match mmX i xs.1 with | some j => some (pc + 1, ls, .int (xs.2 j) :: r, M) | none => none) | none => none) else (match mmArr n k with | some (0, m) => (match mmX i m with | some j => some (pc + 1, ls, .int (M.1 k j) :: r, M) | none => none) | _ => none)) | _ => none)
  | .iastore => (match st with | .int v :: .int i :: .ref k :: r => (match mmArr n k with | some (0, m) => (match mmX i m with | some j => some (pc + 1, ls, r, mmI M k j v) | none => none) | _ => none) | _ => none)
  | .baload => (match st with | .int i :: .ref k :: r => (match mmArr n k with | some (1, m) => (match mmX i m with | some j => some (pc + 1, ls, .int (M.1 k j) :: r, M) | none => none) | _ => none) | _ => none)
  | .bastore => (match st with | .int v :: .int i :: .ref k :: r => (match mmArr n k with | some (1, m) => (match mmX i m with | some j => some (pc + 1, ls, r, mmI M k j (vp_nar .boolean v)) | none => none) | _ => none) | _ => none)
  | .laload => (match st with | .int i :: .ref k :: r => (match mmArr n k with | some (2, m) => (match mmX i m with | some j => some (pc + 1, ls, .long (M.2.1 j) :: r, M) | none => none) | _ => none) | _ => none)
  | .lastore => (match st with | .long v :: .int i :: .ref k :: r => (match mmArr n k with | some (2, m) => (match mmX i m with | some j => some (pc + 1, ls, r, mmJ M j v) | none => none) | _ => none) | _ => none)
  | .arraylength => (match st with | .ref k :: r => (if k = 99 then (match S with | some xs => some (pc + 1, ls, .int (Int32.ofNat xs.1) :: r, M) | none => none) else (match mmArr n k with | some (0, m) => some (pc + 1, ls, .int (Int32.ofNat m) :: r, M) | _ => none)) | _ => none)
  | .invokestatic i => (match st with | .int y :: .int x :: r => (if w = true ∧ mmSm r ≤ 8 then (match mmF3 mmMX o i with | some _ => some (pc + 3, ls, .int (if x < y then y else x) :: r, M) | none => none) else none) | _ => none)
  | .ldc_w i => (match mmF3 mmKI o i with | some v => some (pc + 3, ls, .int v :: st, M) | none => none)
  | .ldc2_w i => (match mmF3 mmKJ o i with | some v => some (pc + 3, ls, .long v :: st, M) | none => none)
  | _ => none
abbrev mmOut : Type := (Option Value ⊕ Nat) × mmM
/-- how a method ends -/
def mmE (rt : Option FieldType) (ins : Instr) (st : List Value) : Option (Option Value) := match ins with
  | .ireturn => (match st with | [.int v] => if rt = some .int ∨ (rt = some .boolean ∧ (v = 0 ∨ v = 1)) then some (some (.int v)) else none | _ => none)
  | .lreturn => (match st with | [.long v] => if rt = some .long then some (some (.long v)) else none | _ => none)
  | .dreturn => (match st with | [.double v] => if rt = some .double then some (some (.double v)) else none | _ => none)
  | .return_ => (match st with | [] => if rt = none then some none else none | _ => none)
  | _ => none
def mmCs (z : Nat) (st : List Value) : Option (Nat × List Value × List Value) := match mmP[z]? with
  | some r => if mmSt r = true ∧ mmSm (st.drop (mmNa r)) ≤ 8 ∧ mmNa r ≤ st.length then some (z, (st.take (mmNa r)).reverse, st.drop (mmNa r)) else none
  | none => none
/-- whom an instruction calls, with what, and what stays on the stack -/
def mmCl (n o : Nat) (ins : Instr) (st : List Value) : Option (Nat × List Value × List Value) := match ins with
  | .invokevirtual i => (match mmF3 mmML o i with
    | some z => (match mmP[z]? with
      | some r => if mmSt r = false ∧ mmHh r = [] ∧ mmSm (st.drop (mmNa r + 1)) ≤ 8 ∧ mmNa r ≤ st.length then (match st.drop (mmNa r) with
        | .ref k :: rest => (match mmFd n (mmOw r) 0 k with | some _ => some (z, .ref k :: (st.take (mmNa r)).reverse, rest) | none => none)
        | _ => none) else none
      | none => none)
    | none => none)
  | .invokestatic i => (match mmF3 mmML o i with
    | some z => mmCs z st
    | none => (match mmF3 mmNL o i with
      | some z => (match mmP[z]? with
        | some r => if mmHh r = [] then mmCs z st else none
        | none => none)
      | none => none))
  | _ => none
/-- the locals with which a method begins -/
def mmEl (args : List Value) : List Value := args.flatMap (fun v => if v.category = 2 then [v, .null] else [v])
def mmEn (ml : Nat) (args : List Value) : List Value := mmEl args ++ List.replicate (ml - (mmEl args).length) .null
def mmFits (r z : mmRow) (args : List Value) : Prop := mmFr z + 1 ≤ mmFr r ∧ 8 + (mmMl z + 11) + mmLo z ≤ mmLo r ∧ (mmEl args).length ≤ mmMl z
def mmLn (ins : Instr) (len : Nat) : Bool := match ins with
  | .iload _ | .istore _ | .aload _ | .astore _ | .dload _ | .dstore _ | .bipush _ | .ldc _ | .newarray _ => decide (len = 2)
  | .iinc _ _ | .ifCond _ _ | .if_icmp _ _ | .goto _ | .getfield _ | .putfield _ | .invokevirtual _ | .invokestatic _ | .invokespecial _ | .ldc_w _ | .ldc2_w _ | .new _ => decide (len = 3)
  | .tableswitch _ _ _ _ => true
  | _ => decide (len = 1)
/-- the handler that takes it -/
def mmHf (o pc e : Nat) : List (Nat × Nat × Nat × Nat) → Option Nat
  | [] => none
  | x :: t => if x.1 ≤ pc ∧ pc < x.2.1 then (match mmF3 mmCK o x.2.2.2 with | some e' => if e' = e then some x.2.2.1 else if e' < e then mmHf o pc e t else none | none => none) else mmHf o pc e t
def mmGo : Nat → mmScr → Nat → Nat → Nat → List Value → List Value → mmM → Option mmOut
  | 0, _, _, _, _, _, _, _ => none
  | f + 1, S, n, y, pc, ls, st, M => match mmP[y]? with
    | none => none
    | some r => match decode (mmCd r) pc with
      | .error _ => none
      | .ok (ins, len) => if mmLn ins len = true then match mmS S n (mmOw r) (decide (1 ≤ mmFr r ∧ 21 ≤ mmLo r)) pc ins len ls st M with
        | some (pc', ls', st', M') => mmGo f S n y pc' ls' st' M'
        | none => match mmE (mmRt r) ins st with
          | some v => some (.inl v, M)
          | none => match mmCl n (mmOw r) ins st with
            | some (z, args, rest) => (match mmP[z]? with
              | none => none
              | some rz => if mmFr rz + 1 ≤ mmFr r ∧ 8 + (mmMl rz + 11) + mmLo rz ≤ mmLo r ∧ (mmEl args).length ≤ mmMl rz then (match mmGo f none n z 0 (mmEn (mmMl rz) args) [] M with
                | none => none
                | some (.inl v, M1) => mmGo f S n y (pc + 3) ls (v.toList ++ rest) M1
                | some (.inr e, M1) => (match mmHh r with
                  | [] => some (.inr e, M1)
                  | _ :: _ => (match mmHf (mmOw r) pc e (mmHh r) with
                    | none => none
                    | some hp => (match decode (mmCd r) hp with
                      | .ok (.astore k, 2) => (match mmSt1 ls k .null with | some l => mmGo f S n y (hp + 2) l [] M1 | none => none)
                      | .ok (.astore_n k, 1) => (match mmSt1 ls k .null with | some l => mmGo f S n y (hp + 1) l [] M1 | none => none)
                      | _ => none)))) else none)
            | none => (match ins with
              | .new _ => (match mmF3 mmTH y pc with
                | some e => if st = [] ∧ mmHh r = [] then some (.inr e, mmT M) else none
                | none => none)
              | _ => none)
      else none
