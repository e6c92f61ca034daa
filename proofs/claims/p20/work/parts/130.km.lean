/-! THE KITCHEN MACHINE: the law's own methods and the sim's, over a memory that grows; a kitchen is one thing in it (35 cells), and its methods are runs of the small machine. Cell 0 is the script. -/
/-- a cell: whole numbers (0 int, 1 boolean, 9 the script; its length), references (2 int[][], 3 boolean[][]), a sim (its fields), a part of a kitchen (where that begins, which part) -/
abbrev kC : Type := (Nat × Nat × (Nat → Int32)) ⊕ ((Nat × Nat × (Nat → Option Nat)) ⊕ ((Nat → Value) ⊕ (Nat × Nat)))
/-- the cells; the kitchens by where they begin; how many cells; cells and slots that were made so far -/
abbrev kM : Type := (Nat → kC) × ((Nat → Nat → Nat → Int32) × (Nat × (Nat × Nat)))
abbrev kN (M : kM) : Nat := M.2.2.1
abbrev kCs (M : kM) : Nat := M.2.2.2.1
abbrev kSs (M : kM) : Nat := M.2.2.2.2
def kU {α : Type} (f : Nat → α) (k : Nat) (v : α) : Nat → α := fun a => if a = k then v else f a
def kI (M : kM) (k : Nat) (v : kC) : kM := (kU M.1 k v, M.2)
/-- a new cell of so many slots -/
def kA (M : kM) (v : kC) (n : Nat) : kM := (kU M.1 (kN M + 1) v, (M.2.1, (kN M + 1, (kCs M + 1, kSs M + n))))
/-- a kitchen's new contents, and exceptions that were made -/
def kV (M : kM) (b : Nat) (f : Nat → Nat → Int32) (x : Nat) : kM := (M.1, (kU M.2.1 b f, (kN M, (kCs M + x, kSs M + 6 * x))))
/-- a new kitchen -/
def kP (H : Nat → kC) (b : Nat) : Nat → kC := fun a => if b ≤ a ∧ a < b + 35 then .inr (.inr (.inr (b, a - b))) else H a
def kK (M : kM) : kM := (kP M.1 (kN M + 1), (kU M.2.1 (kN M + 1) kH0, (kN M + 35, (kCs M + 35, kSs M + 688))))
/-- a new sim: itself, its deeds, guests, places, hung -/
def kSim (b : Nat) : Nat → Value := fun f => if f = 0 then .ref (b + 1) else if f = 1 then .ref (b + 2) else if f = 2 then .int 3 else if f = 3 then .ref (b + 3) else .ref (b + 4)
def kG0 : Nat → Int32 := fun _ => 0
def kR0 : Nat → Option Nat := fun _ => none
def kB (M : kM) : kM := (kU (kU (kU (kU (kU M.1 (kN M + 1) (.inr (.inr (.inl (kSim (kN M + 1)))))) (kN M + 2) (.inr (.inl (2, 0, kR0)))) (kN M + 3) (.inl (1, 16, kG0))) (kN M + 4) (.inl (0, 16, kG0))) (kN M + 5) (.inl (0, 16, kG0)), (M.2.1, (kN M + 5, (kCs M + 5, kSs M + 53))))
/-- sixteen rows of sixteen: the outer one, then the rows -/
def kQ (H : Nat → kC) (b : Nat) : Nat → kC := fun a => if a = b then .inr (.inl (3, 16, fun i => if i < 16 then some (b + 1 + i) else none)) else if b < a ∧ a < b + 17 then .inl (1, 16, kG0) else H a
def kL (M : kM) : kM := (kQ M.1 (kN M + 1), (M.2.1, (kN M + 17, (kCs M + 17, kSs M + 272))))
/-- Math.max (true), Math.min (false); constants; classes of rows of rows -/
def kMX : List (Nat × Nat × Bool) := [(4, 80, true), (4, 42, false)]
def kKI : List (Nat × Nat × Int32) := [(8, 7, 2147483647), (8, 8, 790386105), (8, 67, 100000)]
def kAL : List (Nat × Nat × Unit) := [(8, 60, ()), (4, 7, ())]
/-- what is made there, by method and place: 0 a sim, 1 a kitchen -/
def kNT : List (Nat × Nat × Nat) := [(81, 0, 0), (82, 0, 1), (83, 0, 1)]
abbrev kRes : Type := Option (Nat × List Value × List Value × kM)
def kIf (b : Prop) [Decidable b] (pc len : Nat) (off : Int) (ls st : List Value) (M : kM) : kRes := match mmTg pc off with
  | none => none
  | some t => if b then some (t, ls, st, M) else some (pc + len, ls, st, M)
def kLd (ls : List Value) (i : Nat) (pc len : Nat) (st : List Value) (M : kM) (ok : Value → Bool) : kRes := match ls[i]? with
  | some v => if ok v = true then some (pc + len, ls, v :: st, M) else none
  | none => none
/-- an instruction that neither calls nor ends -/
def kS (o : Nat) (w : Bool) (pc : Nat) (ins : Instr) (len : Nat) (ls st : List Value) (M : kM) : kRes := match ins with
  | .iconst k => some (pc + 1, ls, .int (Int32.ofInt k) :: st, M)
  | .bipush k => some (pc + 2, ls, .int (Int8.ofInt k).toInt32 :: st, M)
  | .sipush k => some (pc + 3, ls, .int (Int16.ofInt k).toInt32 :: st, M)
  | .dconst k => if k = 0 then some (pc + 1, ls, .double FP.dconst0 :: st, M) else none
  | .ldc i => (match mmF3 kKI o i with | some v => some (pc + 2, ls, .int v :: st, M) | none => none)
  | .iload_n k => kLd ls k pc 1 st M mmIsI
  | .iload k => kLd ls k pc 2 st M mmIsI
  | .lload k => kLd ls k pc 2 st M mmIsJ
  | .aload_n k => kLd ls k pc 1 st M mmIsR
  | .aload k => kLd ls k pc 2 st M mmIsR
  | .istore_n k => (match st with | .int v :: r => (mmSt1 ls k (.int v)).map (fun l => (pc + 1, l, r, M)) | _ => none)
  | .istore k => (match st with | .int v :: r => (mmSt1 ls k (.int v)).map (fun l => (pc + 2, l, r, M)) | _ => none)
  | .astore_n k => (match st with | .ref v :: r => (mmSt1 ls k (.ref v)).map (fun l => (pc + 1, l, r, M)) | _ => none)
  | .astore k => (match st with | .ref v :: r => (mmSt1 ls k (.ref v)).map (fun l => (pc + 2, l, r, M)) | _ => none)
  | .lstore k => (match st with | .long v :: r => (mmSt2 ls k (.long v)).map (fun l => (pc + 2, l, r, M)) | _ => none)
  | .iinc k c => if len = 3 then (match ls[k]? with | some (.int v) => (mmSt1 ls k (.int (v + Int32.ofInt c))).map (fun l => (pc + 3, l, st, M)) | _ => none) else none
  | .iadd => (match st with | .int y :: .int x :: r => some (pc + 1, ls, .int (x + y) :: r, M) | _ => none)
  | .isub => (match st with | .int y :: .int x :: r => some (pc + 1, ls, .int (x - y) :: r, M) | _ => none)
  | .imul => (match st with | .int y :: .int x :: r => some (pc + 1, ls, .int (x * y) :: r, M) | _ => none)
  | .idiv => (match st with | .int y :: .int x :: r => if y = 0 then none else some (pc + 1, ls, .int (x / y) :: r, M) | _ => none)
  | .irem => (match st with | .int y :: .int x :: r => if y = 0 then none else some (pc + 1, ls, .int (x - x / y * y) :: r, M) | _ => none)
  | .iand => (match st with | .int y :: .int x :: r => some (pc + 1, ls, .int (x &&& y) :: r, M) | _ => none)
  | .ior => (match st with | .int y :: .int x :: r => some (pc + 1, ls, .int (x ||| y) :: r, M) | _ => none)
  | .ishl => (match st with | .int y :: .int x :: r => some (pc + 1, ls, .int (x <<< (y &&& 31)) :: r, M) | _ => none)
  | .ishr => (match st with | .int y :: .int x :: r => some (pc + 1, ls, .int (x >>> (y &&& 31)) :: r, M) | _ => none)
  | .lcmp => (match st with | .long y :: .long x :: r => some (pc + 1, ls, .int (lg_cmp x y) :: r, M) | _ => none)
  | .i2d => (match st with | .int x :: r => some (pc + 1, ls, .double (FP.i2d x) :: r, M) | _ => none)
  | .ddiv => (match st with | .double y :: .double x :: r => if FP.ddiv x y &&& 0x7fffffffffffffff ≤ 0x7ff0000000000000 then some (pc + 1, ls, .double (FP.ddiv x y) :: r, M) else none | _ => none)
  | .dcmp op => (match st with | .double y :: .double x :: r => some (pc + 1, ls, .int (Op.cmpValue (FP.dcmp x y) op) :: r, M) | _ => none)
  | .dup => (match st with | v :: r => if v.category = 1 then some (pc + 1, ls, v :: v :: r, M) else none | _ => none)
  | .dup2 => (match st with | v :: w :: r => if v.category = 1 ∧ w.category = 1 then some (pc + 1, ls, v :: w :: v :: w :: r, M) else none | _ => none)
  | .pop => (match st with | v :: r => if v.category = 1 then some (pc + 1, ls, r, M) else none | _ => none)
  | .ifCond op off => (match st with | .int x :: r => kIf (mmCnd op x 0 = true) pc 3 off ls r M | _ => none)
  | .if_icmp op off => (match st with | .int y :: .int x :: r => kIf (mmCnd op x y = true) pc 3 off ls r M | _ => none)
  | .ifnonnull off => (match st with | .ref _ :: r => (mmTg pc off).map (fun t => (t, ls, r, M)) | _ => none)
  | .goto off => if len = 3 then (mmTg pc off).map (fun t => (t, ls, st, M)) else none
  | .tableswitch dflt lo hi offs => (match st with | .int x :: r => if x.toInt < lo ∨ hi < x.toInt then (mmTg pc dflt).map (fun t => (t, ls, r, M)) else (match offs[(x.toInt - lo).toNat]? with | some off => (mmTg pc off).map (fun t => (t, ls, r, M)) | none => none) | _ => none)
  | .getfield i => (match st with | .ref k :: r => (match mmF3 mmFL o i with | some cf => if cf.1 = 4 then (match M.1 k with | .inr (.inr (.inl fs)) => some (pc + 3, ls, fs cf.2 :: r, M) | _ => none) else none | none => none) | _ => none)
  | .putfield i => (match st with
    | .int v :: .ref k :: r => (match mmF3 mmFL o i with | some cf => if cf.1 = 4 ∧ cf.2 = 2 then (match M.1 k with | .inr (.inr (.inl fs)) => some (pc + 3, ls, r, kI M k (.inr (.inr (.inl (kU fs 2 (.int v)))))) | _ => none) else none | none => none)
    | .ref v :: .ref k :: r => (match mmF3 mmFL o i with | some cf => if cf.1 = 4 ∧ cf.2 = 0 then (match M.1 k with | .inr (.inr (.inl fs)) => some (pc + 3, ls, r, kI M k (.inr (.inr (.inl (kU fs 0 (.ref v)))))) | _ => none) else none | none => none)
    | _ => none)
  | .iaload => (match st with | .int i :: .ref k :: r => (match M.1 k with | .inl (t, m, g) => if t = 0 ∨ t = 9 then (match mmX i m with | some j => some (pc + 1, ls, .int (g j) :: r, M) | none => none) else none | _ => none) | _ => none)
  | .iastore => (match st with | .int v :: .int i :: .ref k :: r => (match M.1 k with | .inl (t, m, g) => if t = 0 then (match mmX i m with | some j => some (pc + 1, ls, r, kI M k (.inl (0, m, upd g j v))) | none => none) else none | _ => none) | _ => none)
  | .baload => (match st with | .int i :: .ref k :: r => (match M.1 k with | .inl (t, m, g) => if t = 1 then (match mmX i m with | some j => some (pc + 1, ls, .int (g j) :: r, M) | none => none) else none | _ => none) | _ => none)
  | .bastore => (match st with | .int v :: .int i :: .ref k :: r => (match M.1 k with | .inl (t, m, g) => if t = 1 then (match mmX i m with | some j => some (pc + 1, ls, r, kI M k (.inl (1, m, upd g j (vp_nar .boolean v)))) | none => none) else none | _ => none) | _ => none)
  | .aaload => (match st with | .int i :: .ref k :: r => (match M.1 k with | .inr (.inl (_, m, g)) => (match mmX i m with | some j => (match g j with | some q => some (pc + 1, ls, .ref q :: r, M) | none => none) | none => none) | _ => none) | _ => none)
  | .aastore => (match st with | .ref v :: .int i :: .ref k :: r => (match M.1 k with | .inr (.inl (t, m, g)) => if t = 2 then (match M.1 v with | .inl (t2, _, _) => if t2 = 0 then (match mmX i m with | some j => some (pc + 1, ls, r, kI M k (.inr (.inl (2, m, kU g j (some v))))) | none => none) else none | _ => none) else none | _ => none) | _ => none)
  | .arraylength => (match st with | .ref k :: r => (match M.1 k with | .inl (_, m, _) => some (pc + 1, ls, .int (Int32.ofNat m) :: r, M) | .inr (.inl (_, m, _)) => some (pc + 1, ls, .int (Int32.ofNat m) :: r, M) | _ => none) | _ => none)
  | .newarray t => (match st with | .int x :: r => if x < 0 ∨ 1000 < x.toNatClampNeg then none else (match t with | .int => some (pc + 2, ls, .ref (kN M + 1) :: r, kA M (.inl (0, x.toNatClampNeg, kG0)) x.toNatClampNeg) | .boolean => some (pc + 2, ls, .ref (kN M + 1) :: r, kA M (.inl (1, x.toNatClampNeg, kG0)) x.toNatClampNeg) | _ => none) | _ => none)
  | .anewarray i => (match st with | .int x :: r => if x < 0 ∨ 1000 < x.toNatClampNeg then none else (match mmF3 kAL o i with | some _ => some (pc + 3, ls, .ref (kN M + 1) :: r, kA M (.inr (.inl (2, x.toNatClampNeg, kR0))) x.toNatClampNeg) | none => none) | _ => none)
  | .multianewarray i d => (match st with | .int y :: .int x :: r => if x = 16 ∧ y = 16 ∧ o = 4 ∧ i = 36 ∧ d = 2 then some (pc + 4, ls, .ref (kN M + 1) :: r, kL M) else none | _ => none)
  | .invokestatic i => (match st with | .int y :: .int x :: r => (if w = true ∧ mmSm r ≤ 8 then (match mmF3 kMX o i with | some b => some (pc + 3, ls, .int (if b = true then (if x < y then y else x) else (if y < x then y else x)) :: r, M) | none => none) else none) | _ => none)
  | _ => none
def kIsRef (rt : Option FieldType) : Bool := match rt with
  | some (.object _) => true
  | some (.array _) => true
  | _ => false
/-- how a method ends -/
def kE (rt : Option FieldType) (ins : Instr) (st : List Value) : Option (Option Value) := match ins with
  | .ireturn => (match st with | [.int v] => if rt = some .int ∨ (rt = some .boolean ∧ (v = 0 ∨ v = 1)) then some (some (.int v)) else none | _ => none)
  | .areturn => (match st with | [.ref v] => if kIsRef rt = true then some (some (.ref v)) else none | _ => none)
  | .return_ => (match st with | [] => if rt = none then some none else none | _ => none)
  | _ => none
def kLn (ins : Instr) (len : Nat) : Bool := match ins with
  | .iload _ | .istore _ | .aload _ | .astore _ | .lload _ | .lstore _ | .bipush _ | .ldc _ | .newarray _ => decide (len = 2)
  | .iinc _ _ | .ifCond _ _ | .if_icmp _ _ | .ifnonnull _ | .goto _ | .getfield _ | .putfield _ | .invokevirtual _ | .invokestatic _ | .sipush _ | .new _ | .anewarray _ => decide (len = 3)
  | .multianewarray _ _ => decide (len = 4)
  | .tableswitch _ _ _ _ => true
  | _ => decide (len = 1)
def kIsSim (c : kC) : Bool := match c with
  | .inr (.inr (.inl _)) => true
  | _ => false
/-- whom an instruction calls (own: the law's and the sim's), with what, and what stays on the stack -/
def kCl (o : Nat) (ins : Instr) (st : List Value) (M : kM) : Option (Nat × List Value × List Value) := match ins with
  | .invokevirtual i => (match mmF3 mmML o i with
    | some z => (match mmP[z]? with
      | some r => if mmSt r = false ∧ mmHh r = [] ∧ mmOw r = 4 ∧ mmSm (st.drop (mmNa r + 1)) ≤ 8 ∧ mmNa r ≤ st.length then (match st.drop (mmNa r) with
        | .ref k :: rest => if kIsSim (M.1 k) = true then some (z, .ref k :: (st.take (mmNa r)).reverse, rest) else none
        | _ => none) else none
      | none => none)
    | none => none)
  | .invokestatic i => (match mmF3 mmML o i with
    | some z => mmCs z st
    | none => none)
  | _ => none
def kHd (c : kC) (k : Nat) : Bool := match c with
  | .inr (.inr (.inr (b, j))) => b == k && j == 0
  | _ => false
def kInts (st : List Value) : Bool := st.all mmIsI
/-- a call of a kitchen's method: the method, the kitchen, the numbers -/
def kCk (o : Nat) (ins : Instr) (st : List Value) (M : kM) : Option (Nat × Nat × List Value × List Value) := match ins with
  | .invokevirtual i => (match mmF3 mmML o i with
    | some z => (match mmP[z]? with
      | some r => if mmSt r = false ∧ mmHh r = [] ∧ mmOw r = 3 ∧ mmSm (st.drop (mmNa r + 1)) ≤ 8 ∧ mmNa r ≤ st.length ∧ kInts (st.take (mmNa r)) = true then (match st.drop (mmNa r) with
        | .ref k :: rest => if kHd (M.1 k) k = true then some (z, k, (st.take (mmNa r)).reverse, rest) else none
        | _ => none) else none
      | none => none)
    | none => none)
  | _ => none
def kNr (v : Option Value) : Bool := match v with
  | some (.ref _) => false
  | some .null => false
  | _ => true
abbrev kOut : Type := Option Value × kM
abbrev kRec : Type := Nat → Nat → List Value → List Value → kM → Option kOut
abbrev kRk : Type := Nat → List Value → mmM → Option mmOut
/-- one round: rec goes on, rk runs a kitchen's method -/
def kF (rec : kRec) (rk : kRk) (y pc : Nat) (ls st : List Value) (M : kM) : Option kOut := match mmP[y]? with
    | none => none
    | some r => match decode (mmCd r) pc with
      | .error _ => none
      | .ok (ins, len) => if kLn ins len = true then match kS (mmOw r) (decide (1 ≤ mmFr r ∧ 21 ≤ mmLo r)) pc ins len ls st M with
        | some (pc', ls', st', M') => rec y pc' ls' st' M'
        | none => match kE (mmRt r) ins st with
          | some v => some (v, M)
          | none => match kCl (mmOw r) ins st M with
            | some (z, args, rest) => (match mmP[z]? with
              | none => none
              | some rz => if (mmOw rz = 8 ∨ mmOw rz = 4) ∧ mmFr rz + 1 ≤ mmFr r ∧ 8 + (mmMl rz + 11) + mmLo rz ≤ mmLo r ∧ (mmEl args).length ≤ mmMl rz then (match rec z 0 (mmEn (mmMl rz) args) [] M with
                | none => none
                | some (v, M1) => rec y (pc + 3) ls (v.toList ++ rest) M1) else none)
            | none => match kCk (mmOw r) ins st M with
              | some (z, b, args, rest) => (match mmP[z]? with
                | none => none
                | some rz => if mmFr rz ≤ 10 ∧ mmFr rz + 1 ≤ mmFr r ∧ 8 + (mmMl rz + 11) + mmLo rz ≤ mmLo r ∧ (mmEl (.ref 0 :: args)).length ≤ mmMl rz then (match rk z (mmEn (mmMl rz) (.ref 0 :: args)) (M.2.1 b, ((fun _ => 0), 0)) with
                  | none => none
                  | some (.inl v, m1) => if kNr v = true then rec y (pc + 3) ls (v.toList ++ rest) (kV M b m1.1 m1.2.2) else none
                  | some (.inr e, m1) => (match mmHf (mmOw r) pc e (mmHh r) with
                    | none => none
                    | some hp => (match decode (mmCd r) hp with
                      | .ok (.astore k, 2) => (match mmSt1 ls k .null with | some l => rec y (hp + 2) l [] (kV M b m1.1 m1.2.2) | none => none)
                      | _ => none))) else none)
              | none => (match ins with
                | .new _ => (match mmF3 kNT y pc with
                  | some 0 => if 1 + 1 ≤ mmFr r ∧ 20 + 12 ≤ mmLo r ∧ mmSm st ≤ 7 then rec y (pc + 7) ls (.ref (kN M + 1) :: st) (kB M) else none
                  | some 1 => if 6 + 1 ≤ mmFr r ∧ 20 + 136 ≤ mmLo r ∧ mmSm st ≤ 7 then rec y (pc + 7) ls (.ref (kN M + 1) :: st) (kK M) else none
                  | _ => none)
                | _ => none)
      else none
def kRkf (f : Nat) : kRk := fun z ls m => mmGo f none 35 z 0 ls [] m
def kGo : Nat → kRec
  | 0 => fun _ _ _ _ _ => none
  | f + 1 => kF (kGo f) (kRkf f)
