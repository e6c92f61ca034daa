/-! step equations of the kitchen machine, an instruction kind each -/
abbrev zL : (Nat → Int64) × Nat := ((fun _ => 0), 0)
def oK {α : Type} (x : Option α) (k : α → Option kOut) : Option kOut := match x with
  | some a => k a
  | none => none
theorem oK_s {α : Type} (a : α) (k : α → Option kOut) : oK (some a) k = k a := rfl
def cS (c : kC) (k : (Nat → Value) → Option kOut) : Option kOut := match c with
  | .inr (.inr (.inl fs)) => k fs
  | _ => none
theorem cS_s (fs : Nat → Value) (k : (Nat → Value) → Option kOut) : cS (.inr (.inr (.inl fs))) k = k fs := rfl
def cI (c : kC) (i : Int32) (k : Int32 → Option kOut) : Option kOut := match c with
  | .inl (t, m, g) => if t = 0 ∨ t = 9 then oK (mmX i m) (fun j => k (g j)) else none
  | _ => none
theorem cI_0 (m : Nat) (g : Nat → Int32) (i : Int32) (k : Int32 → Option kOut) : cI (.inl (0, m, g)) i k = oK (mmX i m) (fun j => k (g j)) := by simp [cI]
theorem cI_9 (m : Nat) (g : Nat → Int32) (i : Int32) (k : Int32 → Option kOut) : cI (.inl (9, m, g)) i k = oK (mmX i m) (fun j => k (g j)) := by simp [cI]
def cA (t : Nat) (c : kC) (i : Int32) (k : Nat → (Nat → Int32) → Nat → Option kOut) : Option kOut := match c with
  | .inl (u, m, g) => if u = t then oK (mmX i m) (fun j => k m g j) else none
  | _ => none
theorem cA_s (t m : Nat) (g : Nat → Int32) (i : Int32) (k : Nat → (Nat → Int32) → Nat → Option kOut) : cA t (.inl (t, m, g)) i k = oK (mmX i m) (fun j => k m g j) := by simp [cA]
def cR (c : kC) (i : Int32) (k : Nat → Option kOut) : Option kOut := match c with
  | .inr (.inl (_, m, g)) => oK (mmX i m) (fun j => oK (g j) k)
  | _ => none
theorem cR_s (t m : Nat) (g : Nat → Option Nat) (i : Int32) (k : Nat → Option kOut) : cR (.inr (.inl (t, m, g))) i k = oK (mmX i m) (fun j => oK (g j) k) := rfl
def cQ (c c2 : kC) (i : Int32) (k : Nat → (Nat → Option Nat) → Nat → Option kOut) : Option kOut := match c with
  | .inr (.inl (t, m, g)) => if t = 2 then (match c2 with | .inl (t2, _, _) => if t2 = 0 then oK (mmX i m) (fun j => k m g j) else none | _ => none) else none
  | _ => none
theorem cQ_s (m n : Nat) (g : Nat → Option Nat) (g2 : Nat → Int32) (i : Int32) (k : Nat → (Nat → Option Nat) → Nat → Option kOut) : cQ (.inr (.inl (2, m, g))) (.inl (0, n, g2)) i k = oK (mmX i m) (fun j => k m g j) := by simp [cQ]
def cN (c : kC) (k : Int32 → Option kOut) : Option kOut := match c with
  | .inl (_, m, _) => k (nI m)
  | .inr (.inl (_, m, _)) => k (nI m)
  | _ => none
theorem cN_i (t m : Nat) (g : Nat → Int32) (k : Int32 → Option kOut) : cN (.inl (t, m, g)) k = k (nI m) := rfl
theorem cN_r (t m : Nat) (g : Nat → Option Nat) (k : Int32 → Option kOut) : cN (.inr (.inl (t, m, g))) k = k (nI m) := rfl
def nA (x : Int32) (k : Nat → Option kOut) : Option kOut := if x < 0 ∨ 1000 < x.toNatClampNeg then none else k x.toNatClampNeg
def cO (x : Option kOut) (k : Option Value → kM → Option kOut) : Option kOut := match x with
  | some (v, M) => k v M
  | none => none
theorem cO_s (v : Option Value) (M : kM) (k : Option Value → kM → Option kOut) : cO (some (v, M)) k = k v M := rfl
def rS (c : kC) (x : Option kOut) : Option kOut := if kIsSim c = true then x else none
theorem rS_s (fs : Nat → Value) (x : Option kOut) : rS (.inr (.inr (.inl fs))) x = x := rfl
def rK (c : kC) (k : Nat) (x : Option kOut) : Option kOut := if kHd c k = true then x else none
theorem rK_s (k : Nat) (x : Option kOut) : rK (.inr (.inr (.inr (k, 0)))) k x = x := by simp [rK, kHd]
def cK (x : Option mmOut) (k : Option Value → mmM → Option kOut) (kx : Nat → mmM → Option kOut) : Option kOut := match x with
  | some (.inl v, m1) => if kNr v = true then k v m1 else none
  | some (.inr e, m1) => kx e m1
  | none => none
theorem cK_i (v : Int32) (m1 : mmM) (k : Option Value → mmM → Option kOut) (kx : Nat → mmM → Option kOut) : cK (some (.inl (some (.int v)), m1)) k kx = k (some (.int v)) m1 := rfl
theorem cK_j (v : Int64) (m1 : mmM) (k : Option Value → mmM → Option kOut) (kx : Nat → mmM → Option kOut) : cK (some (.inl (some (.long v)), m1)) k kx = k (some (.long v)) m1 := rfl
theorem cK_d (v : UInt64) (m1 : mmM) (k : Option Value → mmM → Option kOut) (kx : Nat → mmM → Option kOut) : cK (some (.inl (some (.double v)), m1)) k kx = k (some (.double v)) m1 := rfl
theorem cK_x (e : Nat) (m1 : mmM) (k : Option Value → mmM → Option kOut) (kx : Nat → mmM → Option kOut) : cK (some (.inr e, m1)) k kx = kx e m1 := rfl
noncomputable def hK (r : mmRow) (y pc : Nat) (ls : List Value) (e : Nat) (M1 : kM) : Option kOut := match mmHf (mmOw r) pc e (mmHh r) with
  | none => none
  | some hp => (match decode (mmCd r) hp with
    | .ok (.astore k, 2) => (match mmSt1 ls k .null with | some l => kn y (hp + 2) l [] M1 | none => none)
    | _ => none)
theorem kV_id (M : kM) (b : Nat) : kV M b (M.2.1 b) 0 = M := by
  have h : kU M.2.1 b (M.2.1 b) = M.2.1 := by
    funext a
    by_cases h : a = b
    · subst h; simp [kU]
    · simp [kU, h]
  unfold kV
  rw [h]
  rfl
section KEQ
variable {y pc len : Nat} {r : mmRow} {ins : Instr} {ls st : List Value} {M : kM}
noncomputable def rKn (y : Nat) (x : kRes) : Option kOut := match x with
  | some (pc', ls', st', M') => kn y pc' ls' st' M'
  | none => none
theorem kn_s {pc' : Nat} {ls' st' : List Value} {M' : kM} (hr : mmP[y]? = some r) (hd : decode (mmCd r) pc = .ok (ins, len)) (hl : kLn ins len = true) (hs : kS (mmOw r) (decide (1 ≤ mmFr r ∧ 21 ≤ mmLo r)) pc ins len ls st M = some (pc', ls', st', M')) : kn y pc ls st M = kn y pc' ls' st' M' := by
  rw [kn_eq]
  unfold kF
  simp only [hr, hd, hl, if_true, hs]
theorem kn_g (hr : mmP[y]? = some r) (hd : decode (mmCd r) pc = .ok (ins, len)) (hl : kLn ins len = true) (hE : kE (mmRt r) ins st = none) (hC : kCl (mmOw r) ins st M = none) (hC2 : kCk (mmOw r) ins st M = none) (hN : ∀ i, ins ≠ .new i) :
    kn y pc ls st M = rKn y (kS (mmOw r) (decide (1 ≤ mmFr r ∧ 21 ≤ mmLo r)) pc ins len ls st M) := by
  rw [kn_eq]
  unfold kF
  simp only [hr, hd, hl, if_true]
  cases hs : kS (mmOw r) (decide (1 ≤ mmFr r ∧ 21 ≤ mmLo r)) pc ins len ls st M with
  | some x => rfl
  | none =>
    simp only [hE, hC, hC2, rKn]
    all_goals (cases ins <;> first | rfl | exact absurd rfl (hN _))
theorem kn_gf {k i f : Nat} (hr : mmP[y]? = some r) (hd : decode (mmCd r) pc = .ok (.getfield i, 3)) (hF : mmF3 mmFL (mmOw r) i = some (4, f)) : kn y pc ls (.ref k :: st) M = cS (M.1 k) (fun fs => kn y (pc + 3) ls (fs f :: st) M) := by
  rw [kn_g hr hd rfl rfl rfl rfl (fun i h => by cases h)]
  simp only [kS, hF, if_true]
  rcases M.1 k with a | a | a | a <;> rfl
theorem kn_pfi {k i : Nat} {v : Int32} (hr : mmP[y]? = some r) (hd : decode (mmCd r) pc = .ok (.putfield i, 3)) (hF : mmF3 mmFL (mmOw r) i = some (4, 2)) : kn y pc ls (.int v :: .ref k :: st) M = cS (M.1 k) (fun fs => kn y (pc + 3) ls st (kI M k (.inr (.inr (.inl (kU fs 2 (.int v))))))) := by
  rw [kn_g hr hd rfl rfl rfl rfl (fun i h => by cases h)]
  simp only [kS, hF, and_self, if_true]
  rcases M.1 k with a | a | a | a <;> rfl
theorem kn_pfr {k i v : Nat} (hr : mmP[y]? = some r) (hd : decode (mmCd r) pc = .ok (.putfield i, 3)) (hF : mmF3 mmFL (mmOw r) i = some (4, 0)) : kn y pc ls (.ref v :: .ref k :: st) M = cS (M.1 k) (fun fs => kn y (pc + 3) ls st (kI M k (.inr (.inr (.inl (kU fs 0 (.ref v))))))) := by
  rw [kn_g hr hd rfl rfl rfl rfl (fun i h => by cases h)]
  simp only [kS, hF, and_self, if_true]
  rcases M.1 k with a | a | a | a <;> rfl
theorem kn_iald {k : Nat} {i : Int32} (hr : mmP[y]? = some r) (hd : decode (mmCd r) pc = .ok (.iaload, 1)) : kn y pc ls (.int i :: .ref k :: st) M = cI (M.1 k) i (fun v => kn y (pc + 1) ls (.int v :: st) M) := by
  rw [kn_g hr hd rfl rfl rfl rfl (fun i h => by cases h)]
  simp only [kS]
  rcases M.1 k with ⟨t, m, g⟩ | a | a | a
  · by_cases ht : t = 0 ∨ t = 9
    · simp only [ht, if_true, cI]
      cases mmX i m <;> rfl
    · simp only [ht, if_false, cI]
      rfl
  · rfl
  · rfl
  · rfl
theorem kn_iast {k : Nat} {i v : Int32} (hr : mmP[y]? = some r) (hd : decode (mmCd r) pc = .ok (.iastore, 1)) : kn y pc ls (.int v :: .int i :: .ref k :: st) M = cA 0 (M.1 k) i (fun m g j => kn y (pc + 1) ls st (kI M k (.inl (0, m, upd g j v)))) := by
  rw [kn_g hr hd rfl rfl rfl rfl (fun i h => by cases h)]
  simp only [kS]
  rcases M.1 k with ⟨t, m, g⟩ | a | a | a
  · by_cases ht : t = 0
    · simp only [ht, if_true, cA]
      cases mmX i m <;> rfl
    · simp only [ht, if_false, cA]
      rfl
  · rfl
  · rfl
  · rfl
theorem kn_bald {k : Nat} {i : Int32} (hr : mmP[y]? = some r) (hd : decode (mmCd r) pc = .ok (.baload, 1)) : kn y pc ls (.int i :: .ref k :: st) M = cA 1 (M.1 k) i (fun _ g j => kn y (pc + 1) ls (.int (g j) :: st) M) := by
  rw [kn_g hr hd rfl rfl rfl rfl (fun i h => by cases h)]
  simp only [kS]
  rcases M.1 k with ⟨t, m, g⟩ | a | a | a
  · by_cases ht : t = 1
    · simp only [ht, if_true, cA]
      cases mmX i m <;> rfl
    · simp only [ht, if_false, cA]
      rfl
  · rfl
  · rfl
  · rfl
theorem kn_bast {k : Nat} {i v : Int32} (hr : mmP[y]? = some r) (hd : decode (mmCd r) pc = .ok (.bastore, 1)) : kn y pc ls (.int v :: .int i :: .ref k :: st) M = cA 1 (M.1 k) i (fun m g j => kn y (pc + 1) ls st (kI M k (.inl (1, m, upd g j (vp_nar .boolean v))))) := by
  rw [kn_g hr hd rfl rfl rfl rfl (fun i h => by cases h)]
  simp only [kS]
  rcases M.1 k with ⟨t, m, g⟩ | a | a | a
  · by_cases ht : t = 1
    · simp only [ht, if_true, cA]
      cases mmX i m <;> rfl
    · simp only [ht, if_false, cA]
      rfl
  · rfl
  · rfl
  · rfl
theorem kn_aald {k : Nat} {i : Int32} (hr : mmP[y]? = some r) (hd : decode (mmCd r) pc = .ok (.aaload, 1)) : kn y pc ls (.int i :: .ref k :: st) M = cR (M.1 k) i (fun q => kn y (pc + 1) ls (.ref q :: st) M) := by
  rw [kn_g hr hd rfl rfl rfl rfl (fun i h => by cases h)]
  simp only [kS]
  rcases M.1 k with a | ⟨t, m, g⟩ | a | a
  · rfl
  · simp only [cR]
    cases mmX i m with
    | none => rfl
    | some j =>
      simp only [oK]
      cases g j <;> rfl
  · rfl
  · rfl
theorem kn_aast {k v : Nat} {i : Int32} (hr : mmP[y]? = some r) (hd : decode (mmCd r) pc = .ok (.aastore, 1)) : kn y pc ls (.ref v :: .int i :: .ref k :: st) M = cQ (M.1 k) (M.1 v) i (fun m g j => kn y (pc + 1) ls st (kI M k (.inr (.inl (2, m, kU g j (some v)))))) := by
  rw [kn_g hr hd rfl rfl rfl rfl (fun i h => by cases h)]
  simp only [kS]
  rcases M.1 k with a | ⟨t, m, g⟩ | a | a
  · rfl
  · by_cases ht : t = 2
    · simp only [ht, if_true, cQ]
      rcases M.1 v with ⟨t2, m2, g2⟩ | a | a | a
      · by_cases ht2 : t2 = 0
        · simp only [ht2, if_true]
          cases mmX i m <;> rfl
        · simp only [ht2, if_false]
          rfl
      · rfl
      · rfl
      · rfl
    · simp only [ht, if_false, cQ]
      rfl
  · rfl
  · rfl
theorem kn_alen {k : Nat} (hr : mmP[y]? = some r) (hd : decode (mmCd r) pc = .ok (.arraylength, 1)) : kn y pc ls (.ref k :: st) M = cN (M.1 k) (fun v => kn y (pc + 1) ls (.int v :: st) M) := by
  rw [kn_g hr hd rfl rfl rfl rfl (fun i h => by cases h)]
  simp only [kS]
  rcases M.1 k with ⟨t, m, g⟩ | ⟨t, m, g⟩ | a | a <;> rfl
theorem kn_newI {x : Int32} (hr : mmP[y]? = some r) (hd : decode (mmCd r) pc = .ok (.newarray .int, 2)) : kn y pc ls (.int x :: st) M = nA x (fun n => kn y (pc + 2) ls (.ref (kN M + 1) :: st) (kA M (.inl (0, n, kG0)) n)) := by
  rw [kn_g hr hd rfl rfl rfl rfl (fun i h => by cases h)]
  simp only [kS, nA]
  by_cases h : x < 0 ∨ 1000 < x.toNatClampNeg
  · rw [if_pos h, if_pos h]; rfl
  · rw [if_neg h, if_neg h]; rfl
theorem kn_newZ {x : Int32} (hr : mmP[y]? = some r) (hd : decode (mmCd r) pc = .ok (.newarray .boolean, 2)) : kn y pc ls (.int x :: st) M = nA x (fun n => kn y (pc + 2) ls (.ref (kN M + 1) :: st) (kA M (.inl (1, n, kG0)) n)) := by
  rw [kn_g hr hd rfl rfl rfl rfl (fun i h => by cases h)]
  simp only [kS, nA]
  by_cases h : x < 0 ∨ 1000 < x.toNatClampNeg
  · rw [if_pos h, if_pos h]; rfl
  · rw [if_neg h, if_neg h]; rfl
theorem kn_newR {x : Int32} {i : Nat} (hr : mmP[y]? = some r) (hd : decode (mmCd r) pc = .ok (.anewarray i, 3)) (hF : mmF3 kAL (mmOw r) i = some ()) : kn y pc ls (.int x :: st) M = nA x (fun n => kn y (pc + 3) ls (.ref (kN M + 1) :: st) (kA M (.inr (.inl (2, n, kR0))) n)) := by
  rw [kn_g hr hd rfl rfl rfl rfl (fun i h => by cases h)]
  simp only [kS, nA, hF]
  by_cases h : x < 0 ∨ 1000 < x.toNatClampNeg
  · rw [if_pos h, if_pos h]; rfl
  · rw [if_neg h, if_neg h]; rfl
theorem kn_multi (hr : mmP[y]? = some r) (hd : decode (mmCd r) pc = .ok (.multianewarray 36 2, 4)) (ho : mmOw r = 4) : kn y pc ls (.int 16 :: .int 16 :: st) M = kn y (pc + 4) ls (.ref (kN M + 1) :: st) (kL M) := by
  refine kn_s hr hd rfl ?_
  simp only [kS, ho, and_self, if_true]
theorem kn_if {b : Prop} [Decidable b] {t : Nat} {off : Int} (hr : mmP[y]? = some r) (hd : decode (mmCd r) pc = .ok (ins, len)) (hl : kLn ins len = true) {st' : List Value} (hs : kS (mmOw r) (decide (1 ≤ mmFr r ∧ 21 ≤ mmLo r)) pc ins len ls st M = kIf b pc 3 off ls st' M) (ht : mmTg pc off = some t) :
    kn y pc ls st M = if b then kn y t ls st' M else kn y (pc + 3) ls st' M := by
  by_cases hb : b
  · rw [if_pos hb]
    exact kn_s hr hd hl (hs.trans (by simp [kIf, ht, hb]))
  · rw [if_neg hb]
    exact kn_s hr hd hl (hs.trans (by simp [kIf, ht, hb]))
theorem kIf_c {a b : Prop} [Decidable a] [Decidable b] (h : a ↔ b) {pc len : Nat} {off : Int} : kIf a pc len off ls st M = kIf b pc len off ls st M := by
  unfold kIf
  cases mmTg pc off with
  | none => rfl
  | some t =>
    by_cases hb : b
    · simp [hb, h.mpr hb]
    · have ha : ¬ a := fun ha => hb (h.mp ha)
      simp [hb, ha]
theorem kn_ts {x : Int32} {dflt lo hi : Int} {offs : Array Int} (hr : mmP[y]? = some r) (hd : decode (mmCd r) pc = .ok (.tableswitch dflt lo hi offs, len)) {tg : Option Nat}
    (ht : (if x.toInt < lo ∨ hi < x.toInt then mmTg pc dflt else (match offs[(x.toInt - lo).toNat]? with | some off => mmTg pc off | none => none)) = tg) :
    kn y pc ls (.int x :: st) M = oK tg (fun t => kn y t ls st M) := by
  rw [kn_g hr hd rfl rfl rfl rfl (fun i h => by cases h)]
  subst ht
  simp only [kS]
  by_cases h : x.toInt < lo ∨ hi < x.toInt
  · simp only [h, if_true]
    cases mmTg pc dflt <;> rfl
  · simp only [h, if_false]
    cases offs[(x.toInt - lo).toNat]? with
    | none => rfl
    | some off =>
      simp only
      cases mmTg pc off <;> rfl
theorem kn_ret {v : Option Value} (hr : mmP[y]? = some r) (hd : decode (mmCd r) pc = .ok (ins, len)) (hl : kLn ins len = true) (hs : kS (mmOw r) (decide (1 ≤ mmFr r ∧ 21 ≤ mmLo r)) pc ins len ls st M = none) (hE : kE (mmRt r) ins st = some v) : kn y pc ls st M = some (v, M) := by
  rw [kn_eq]
  unfold kF
  simp only [hr, hd, hl, if_true, hs, hE]
theorem kn_zret {v : Int32} (hr : mmP[y]? = some r) (hd : decode (mmCd r) pc = .ok (.ireturn, 1)) (ht : mmRt r = some .boolean) (h : v = 0 ∨ v = 1) : kn y pc ls [.int v] M = some (some (.int v), M) :=
  kn_ret hr hd rfl rfl (by simp [kE, ht, h])
theorem kn_iret {v : Int32} (hr : mmP[y]? = some r) (hd : decode (mmCd r) pc = .ok (.ireturn, 1)) (ht : mmRt r = some .int) : kn y pc ls [.int v] M = some (some (.int v), M) := kn_ret hr hd rfl rfl (by simp [kE, ht])
theorem kn_aret {v : Nat} (hr : mmP[y]? = some r) (hd : decode (mmCd r) pc = .ok (.areturn, 1)) (ht : kIsRef (mmRt r) = true) : kn y pc ls [.ref v] M = some (some (.ref v), M) := kn_ret hr hd rfl rfl (by simp [kE, ht])
theorem kn_vret (hr : mmP[y]? = some r) (hd : decode (mmCd r) pc = .ok (.return_, 1)) (ht : mmRt r = none) : kn y pc ls [] M = some (none, M) := kn_ret hr hd rfl rfl (by simp [kE, ht])
theorem kn_call {z : Nat} {rz : mmRow} {As rest : List Value} (hr : mmP[y]? = some r) (hd : decode (mmCd r) pc = .ok (ins, len)) (hl : kLn ins len = true) (hs : kS (mmOw r) (decide (1 ≤ mmFr r ∧ 21 ≤ mmLo r)) pc ins len ls st M = none) (hE : kE (mmRt r) ins st = none)
    (hC : kCl (mmOw r) ins st M = some (z, As, rest)) (hz : mmP[z]? = some rz) (hfit : (mmOw rz = 8 ∨ mmOw rz = 4) ∧ mmFr rz + 1 ≤ mmFr r ∧ 8 + (mmMl rz + 11) + mmLo rz ≤ mmLo r ∧ (mmEl As).length ≤ mmMl rz) :
    kn y pc ls st M = cO (kn z 0 (mmEn (mmMl rz) As) [] M) (fun v M1 => kn y (pc + 3) ls (v.toList ++ rest) M1) := by
  rw [kn_eq]
  unfold kF
  simp only [hr, hd, hl, if_true, hs, hE, hC, hz, if_pos hfit]
  cases kn z 0 (mmEn (mmMl rz) As) [] M with
  | none => rfl
  | some x => rfl
theorem kn_iv {k i z : Nat} {rz : mmRow} {As : List Value} (hr : mmP[y]? = some r) (hd : decode (mmCd r) pc = .ok (.invokevirtual i, 3)) (hF : mmF3 mmML (mmOw r) i = some z) (hz : mmP[z]? = some rz) (hst : mmSt rz = false) (hh : mmHh rz = []) (ho : mmOw rz = 4) (hna : mmNa rz = As.length)
    (hfit : mmFr rz + 1 ≤ mmFr r ∧ 8 + (mmMl rz + 11) + mmLo rz ≤ mmLo r ∧ (mmEl (.ref k :: As)).length ≤ mmMl rz) (h8 : mmSm st ≤ 8) :
    kn y pc ls (As.reverse ++ .ref k :: st) M = rS (M.1 k) (cO (kn z 0 (mmEn (mmMl rz) (.ref k :: As)) [] M) (fun v M1 => kn y (pc + 3) ls (v.toList ++ st) M1)) := by
  have e1 : (As.reverse ++ .ref k :: st).drop As.length = .ref k :: st := by
    rw [← List.length_reverse, List.drop_left]
  have e2 : (As.reverse ++ .ref k :: st).take As.length = As.reverse := by
    rw [← List.length_reverse, List.take_left]
  have e3 : (As.reverse ++ .ref k :: st).drop (As.length + 1) = st := by
    rw [← List.drop_drop, e1]; rfl
  unfold rS
  cases hfd : kIsSim (M.1 k) with
  | false =>
    have hC : kCl (mmOw r) (.invokevirtual i) (As.reverse ++ .ref k :: st) M = none := by
      simp only [kCl, hF, hz, hst, hh, hna, e1, hfd]
      split <;> rfl
    have hC2 : kCk (mmOw r) (.invokevirtual i) (As.reverse ++ .ref k :: st) M = none := by
      simp only [kCk, hF, hz, ho]
      rw [if_neg (by omega)]
    rw [kn_g hr hd rfl rfl hC hC2 (fun i h => by cases h)]
    rfl
  | true =>
    rw [if_pos rfl]
    refine kn_call hr hd rfl rfl rfl ?_ hz ⟨Or.inr ho, hfit⟩
    simp only [kCl, hF, hz, hst, hh, ho, hna, e1, e2, e3, hfd, List.reverse_reverse]
    rw [if_pos ⟨trivial, trivial, trivial, h8, by simp⟩]
    rfl
theorem kn_is {i z : Nat} {rz : mmRow} {As : List Value} (hr : mmP[y]? = some r) (hd : decode (mmCd r) pc = .ok (.invokestatic i, 3)) (hF : mmF3 mmML (mmOw r) i = some z) (hX0 : mmF3 kMX (mmOw r) i = none) (hz : mmP[z]? = some rz) (hst : mmSt rz = true) (ho : mmOw rz = 8 ∨ mmOw rz = 4) (hna : mmNa rz = As.length)
    (hfit : mmFr rz + 1 ≤ mmFr r ∧ 8 + (mmMl rz + 11) + mmLo rz ≤ mmLo r ∧ (mmEl As).length ≤ mmMl rz) (h8 : mmSm st ≤ 8) :
    kn y pc ls (As.reverse ++ st) M = cO (kn z 0 (mmEn (mmMl rz) As) [] M) (fun v M1 => kn y (pc + 3) ls (v.toList ++ st) M1) := by
  refine kn_call hr hd rfl ?_ rfl ?_ hz ⟨ho, hfit⟩
  · simp only [kS, hX0]
    split
    · split <;> rfl
    · rfl
  · simp only [kCl, hF]
    exact mmCs_ok hz hst hna h8
theorem kn_kv {k i z : Nat} {rz : mmRow} {As : List Value} (hr : mmP[y]? = some r) (hd : decode (mmCd r) pc = .ok (.invokevirtual i, 3)) (hF : mmF3 mmML (mmOw r) i = some z) (hz : mmP[z]? = some rz) (hst : mmSt rz = false) (hh : mmHh rz = []) (ho : mmOw rz = 3) (hna : mmNa rz = As.length) (hi : kInts As = true)
    (hfit : mmFr rz ≤ 10 ∧ mmFr rz + 1 ≤ mmFr r ∧ 8 + (mmMl rz + 11) + mmLo rz ≤ mmLo r ∧ (mmEl (.ref 0 :: As)).length ≤ mmMl rz) (h8 : mmSm st ≤ 8) :
    kn y pc ls (As.reverse ++ .ref k :: st) M = rK (M.1 k) k (cK (rn none z 0 (mmEn (mmMl rz) (.ref 0 :: As)) [] (M.2.1 k, zL)) (fun v m1 => kn y (pc + 3) ls (v.toList ++ st) (kV M k m1.1 m1.2.2)) (fun e m1 => hK r y pc ls e (kV M k m1.1 m1.2.2))) := by
  have e1 : (As.reverse ++ .ref k :: st).drop As.length = .ref k :: st := by
    rw [← List.length_reverse, List.drop_left]
  have e2 : (As.reverse ++ .ref k :: st).take As.length = As.reverse := by
    rw [← List.length_reverse, List.take_left]
  have e3 : (As.reverse ++ .ref k :: st).drop (As.length + 1) = st := by
    rw [← List.drop_drop, e1]; rfl
  have hi2 : kInts As.reverse = true := by unfold kInts at hi ⊢; rw [List.all_reverse]; exact hi
  have hC : kCl (mmOw r) (.invokevirtual i) (As.reverse ++ .ref k :: st) M = none := by
    simp only [kCl, hF, hz, ho]
    rw [if_neg (by omega)]
  unfold rK
  cases hfd : kHd (M.1 k) k with
  | false =>
    have hC2 : kCk (mmOw r) (.invokevirtual i) (As.reverse ++ .ref k :: st) M = none := by
      simp only [kCk, hF, hz, hst, hh, hna, e1, hfd]
      split <;> rfl
    rw [kn_g hr hd rfl rfl hC hC2 (fun i h => by cases h)]
    rfl
  | true =>
    rw [if_pos rfl]
    have hC2 : kCk (mmOw r) (.invokevirtual i) (As.reverse ++ .ref k :: st) M = some (z, k, As, st) := by
      simp only [kCk, hF, hz, hst, hh, ho, hna, e1, e2, e3, hfd, List.reverse_reverse]
      rw [if_pos ⟨trivial, trivial, trivial, h8, by simp, hi2⟩]
      rfl
    rw [kn_eq]
    unfold kF
    simp only [hr, hd, kLn, decide_true, if_true, kS, kE, hC, hC2, hz, if_pos hfit, knR]
    cases rn none z 0 (mmEn (mmMl rz) (.ref 0 :: As)) [] (M.2.1 k, zL) with
    | none => rfl
    | some x =>
      obtain ⟨v, m1⟩ := x
      cases v with
      | inl v => rfl
      | inr e => rfl
theorem kn_nB {i : Nat} (hr : mmP[y]? = some r) (hd : decode (mmCd r) pc = .ok (.new i, 3)) (hF : mmF3 kNT y pc = some 0) (hfit : 1 + 1 ≤ mmFr r ∧ 20 + 12 ≤ mmLo r) (h7 : mmSm st ≤ 7) : kn y pc ls st M = kn y (pc + 7) ls (.ref (kN M + 1) :: st) (kB M) := by
  rw [kn_eq]
  unfold kF
  simp only [hr, hd, kLn, decide_true, if_true, kS, kE, kCl, kCk, hF]
  rw [if_pos ⟨hfit.1, hfit.2, h7⟩]
theorem kn_nK {i : Nat} (hr : mmP[y]? = some r) (hd : decode (mmCd r) pc = .ok (.new i, 3)) (hF : mmF3 kNT y pc = some 1) (hfit : 6 + 1 ≤ mmFr r ∧ 20 + 136 ≤ mmLo r) (h7 : mmSm st ≤ 7) : kn y pc ls st M = kn y (pc + 7) ls (.ref (kN M + 1) :: st) (kK M) := by
  rw [kn_eq]
  unfold kF
  simp only [hr, hd, kLn, decide_true, if_true, kS, kE, kCl, kCk, hF]
  rw [if_pos ⟨hfit.1, hfit.2, h7⟩]
theorem kq_iconst {n : Int} {v : Int32} (hr : mmP[y]? = some r) (hd : decode (mmCd r) pc = .ok (.iconst n, 1)) (hv : Int32.ofInt n = v) : kn y pc ls st M = kn y (pc + 1) ls (.int v :: st) M := kn_s hr hd rfl (by rw [← hv]; rfl)
theorem kq_bipush {n : Int} {v : Int32} (hr : mmP[y]? = some r) (hd : decode (mmCd r) pc = .ok (.bipush n, 2)) (hv : (Int8.ofInt n).toInt32 = v) : kn y pc ls st M = kn y (pc + 2) ls (.int v :: st) M := kn_s hr hd rfl (by rw [← hv]; rfl)
theorem kq_sipush {n : Int} {v : Int32} (hr : mmP[y]? = some r) (hd : decode (mmCd r) pc = .ok (.sipush n, 3)) (hv : (Int16.ofInt n).toInt32 = v) : kn y pc ls st M = kn y (pc + 3) ls (.int v :: st) M := kn_s hr hd rfl (by rw [← hv]; rfl)
theorem kq_istore_n {i : Fin 4} {v : Int32} {l2 : List Value} (hr : mmP[y]? = some r) (hd : decode (mmCd r) pc = .ok (.istore_n i, 1)) (h : mmSt1 ls i (.int v) = some l2) : kn y pc ls (.int v :: st) M = kn y (pc + 1) l2 st M := kn_s hr hd rfl (by simp [kS, h])
theorem kq_istore {i : Nat} {v : Int32} {l2 : List Value} (hr : mmP[y]? = some r) (hd : decode (mmCd r) pc = .ok (.istore i, 2)) (h : mmSt1 ls i (.int v) = some l2) : kn y pc ls (.int v :: st) M = kn y (pc + 2) l2 st M := kn_s hr hd rfl (by simp [kS, h])
theorem kq_astore_n {i : Fin 4} {v : Nat} {l2 : List Value} (hr : mmP[y]? = some r) (hd : decode (mmCd r) pc = .ok (.astore_n i, 1)) (h : mmSt1 ls i (.ref v) = some l2) : kn y pc ls (.ref v :: st) M = kn y (pc + 1) l2 st M := kn_s hr hd rfl (by simp [kS, h])
theorem kq_astore {i v : Nat} {l2 : List Value} (hr : mmP[y]? = some r) (hd : decode (mmCd r) pc = .ok (.astore i, 2)) (h : mmSt1 ls i (.ref v) = some l2) : kn y pc ls (.ref v :: st) M = kn y (pc + 2) l2 st M := kn_s hr hd rfl (by simp [kS, h])
theorem kq_lstore {i : Nat} {v : Int64} {l2 : List Value} (hr : mmP[y]? = some r) (hd : decode (mmCd r) pc = .ok (.lstore i, 2)) (h : mmSt2 ls i (.long v) = some l2) : kn y pc ls (.long v :: st) M = kn y (pc + 2) l2 st M := kn_s hr hd rfl (by simp [kS, h])
theorem kq_iinc {i : Nat} {n : Int} {v w : Int32} {l2 : List Value} (hr : mmP[y]? = some r) (hd : decode (mmCd r) pc = .ok (.iinc i n, 3)) (hg : ls[i]? = some (.int v)) (h : mmSt1 ls i (.int (v + w)) = some l2) (hw : Int32.ofInt n = w) : kn y pc ls st M = kn y (pc + 3) l2 st M := kn_s hr hd rfl (by subst hw; simp [kS, hg, h])
theorem kq_idiv {a b : Int32} (hr : mmP[y]? = some r) (hd : decode (mmCd r) pc = .ok (.idiv, 1)) (hb : ¬ b = 0) : kn y pc ls (.int b :: .int a :: st) M = kn y (pc + 1) ls (.int (a / b) :: st) M := kn_s hr hd rfl (by simp [kS, hb])
theorem kq_irem {a b : Int32} (hr : mmP[y]? = some r) (hd : decode (mmCd r) pc = .ok (.irem, 1)) (hb : ¬ b = 0) : kn y pc ls (.int b :: .int a :: st) M = kn y (pc + 1) ls (.int (a - a / b * b) :: st) M := kn_s hr hd rfl (by simp [kS, hb])
theorem kq_ddiv {a b : UInt64} (hr : mmP[y]? = some r) (hd : decode (mmCd r) pc = .ok (.ddiv, 1)) (hb : FP.ddiv a b &&& 0x7fffffffffffffff ≤ 0x7ff0000000000000) : kn y pc ls (.double b :: .double a :: st) M = kn y (pc + 1) ls (.double (FP.ddiv a b) :: st) M := kn_s hr hd rfl (by simp only [kS]; rw [if_pos hb])
theorem kq_dup {v : Value} (hr : mmP[y]? = some r) (hd : decode (mmCd r) pc = .ok (.dup, 1)) (hv : v.category = 1) : kn y pc ls (v :: st) M = kn y (pc + 1) ls (v :: v :: st) M := kn_s hr hd rfl (by simp [kS, hv])
theorem kq_dup2 {v w : Value} (hr : mmP[y]? = some r) (hd : decode (mmCd r) pc = .ok (.dup2, 1)) (hv : v.category = 1) (hw : w.category = 1) : kn y pc ls (v :: w :: st) M = kn y (pc + 1) ls (v :: w :: v :: w :: st) M := kn_s hr hd rfl (by simp [kS, hv, hw])
theorem kq_pop {v : Value} (hr : mmP[y]? = some r) (hd : decode (mmCd r) pc = .ok (.pop, 1)) (hv : v.category = 1) : kn y pc ls (v :: st) M = kn y (pc + 1) ls st M := kn_s hr hd rfl (by simp [kS, hv])
theorem kq_goto {off : Int} {t : Nat} (hr : mmP[y]? = some r) (hd : decode (mmCd r) pc = .ok (.goto off, 3)) (ht : mmTg pc off = some t) : kn y pc ls st M = kn y t ls st M := kn_s hr hd rfl (by simp [kS, ht])
theorem kq_nonnull {v : Nat} {off : Int} {t : Nat} (hr : mmP[y]? = some r) (hd : decode (mmCd r) pc = .ok (.ifnonnull off, 3)) (ht : mmTg pc off = some t) : kn y pc ls (.ref v :: st) M = kn y t ls st M := kn_s hr hd rfl (by simp [kS, ht])
theorem kq_max {i : Nat} {a b : Int32} (hr : mmP[y]? = some r) (hd : decode (mmCd r) pc = .ok (.invokestatic i, 3)) (hX : mmF3 kMX (mmOw r) i = some true) (hw : decide (1 ≤ mmFr r ∧ 21 ≤ mmLo r) = true) (h8 : mmSm st ≤ 8) : kn y pc ls (.int b :: .int a :: st) M = kn y (pc + 3) ls (.int (if a < b then b else a) :: st) M := kn_s hr hd rfl (by simp only [kS, hw, hX]; rw [if_pos ⟨trivial, h8⟩, if_pos trivial])
theorem kq_min {i : Nat} {a b : Int32} (hr : mmP[y]? = some r) (hd : decode (mmCd r) pc = .ok (.invokestatic i, 3)) (hX : mmF3 kMX (mmOw r) i = some false) (hw : decide (1 ≤ mmFr r ∧ 21 ≤ mmLo r) = true) (h8 : mmSm st ≤ 8) : kn y pc ls (.int b :: .int a :: st) M = kn y (pc + 3) ls (.int (if b < a then b else a) :: st) M := kn_s hr hd rfl (by simp only [kS, hw, hX]; rw [if_pos ⟨trivial, h8⟩, if_neg (by decide)])
theorem kq_if_eq {a : Int32} {off : Int} {t : Nat} (hr : mmP[y]? = some r) (hd : decode (mmCd r) pc = .ok (.ifCond .eq off, 3)) (ht : mmTg pc off = some t) : kn y pc ls (.int a :: st) M = if a = 0 then kn y t ls st M else kn y (pc + 3) ls st M := kn_if hr hd rfl (show kIf _ _ _ _ _ _ _ = _ from kIf_c (by simp [mmCnd])) ht
theorem kq_ic_eq {a b : Int32} {off : Int} {t : Nat} (hr : mmP[y]? = some r) (hd : decode (mmCd r) pc = .ok (.if_icmp .eq off, 3)) (ht : mmTg pc off = some t) : kn y pc ls (.int b :: .int a :: st) M = if a = b then kn y t ls st M else kn y (pc + 3) ls st M := kn_if hr hd rfl (show kIf _ _ _ _ _ _ _ = _ from kIf_c (by simp [mmCnd])) ht
theorem kq_if_ne {a : Int32} {off : Int} {t : Nat} (hr : mmP[y]? = some r) (hd : decode (mmCd r) pc = .ok (.ifCond .ne off, 3)) (ht : mmTg pc off = some t) : kn y pc ls (.int a :: st) M = if ¬ a = 0 then kn y t ls st M else kn y (pc + 3) ls st M := kn_if hr hd rfl (show kIf _ _ _ _ _ _ _ = _ from kIf_c (by simp [mmCnd])) ht
theorem kq_ic_ne {a b : Int32} {off : Int} {t : Nat} (hr : mmP[y]? = some r) (hd : decode (mmCd r) pc = .ok (.if_icmp .ne off, 3)) (ht : mmTg pc off = some t) : kn y pc ls (.int b :: .int a :: st) M = if ¬ a = b then kn y t ls st M else kn y (pc + 3) ls st M := kn_if hr hd rfl (show kIf _ _ _ _ _ _ _ = _ from kIf_c (by simp [mmCnd])) ht
theorem kq_if_lt {a : Int32} {off : Int} {t : Nat} (hr : mmP[y]? = some r) (hd : decode (mmCd r) pc = .ok (.ifCond .lt off, 3)) (ht : mmTg pc off = some t) : kn y pc ls (.int a :: st) M = if a < 0 then kn y t ls st M else kn y (pc + 3) ls st M := kn_if hr hd rfl (show kIf _ _ _ _ _ _ _ = _ from kIf_c (by simp [mmCnd])) ht
theorem kq_ic_lt {a b : Int32} {off : Int} {t : Nat} (hr : mmP[y]? = some r) (hd : decode (mmCd r) pc = .ok (.if_icmp .lt off, 3)) (ht : mmTg pc off = some t) : kn y pc ls (.int b :: .int a :: st) M = if a < b then kn y t ls st M else kn y (pc + 3) ls st M := kn_if hr hd rfl (show kIf _ _ _ _ _ _ _ = _ from kIf_c (by simp [mmCnd])) ht
theorem kq_if_ge {a : Int32} {off : Int} {t : Nat} (hr : mmP[y]? = some r) (hd : decode (mmCd r) pc = .ok (.ifCond .ge off, 3)) (ht : mmTg pc off = some t) : kn y pc ls (.int a :: st) M = if 0 ≤ a then kn y t ls st M else kn y (pc + 3) ls st M := kn_if hr hd rfl (show kIf _ _ _ _ _ _ _ = _ from kIf_c (by simp [mmCnd])) ht
theorem kq_ic_ge {a b : Int32} {off : Int} {t : Nat} (hr : mmP[y]? = some r) (hd : decode (mmCd r) pc = .ok (.if_icmp .ge off, 3)) (ht : mmTg pc off = some t) : kn y pc ls (.int b :: .int a :: st) M = if b ≤ a then kn y t ls st M else kn y (pc + 3) ls st M := kn_if hr hd rfl (show kIf _ _ _ _ _ _ _ = _ from kIf_c (by simp [mmCnd])) ht
theorem kq_if_gt {a : Int32} {off : Int} {t : Nat} (hr : mmP[y]? = some r) (hd : decode (mmCd r) pc = .ok (.ifCond .gt off, 3)) (ht : mmTg pc off = some t) : kn y pc ls (.int a :: st) M = if 0 < a then kn y t ls st M else kn y (pc + 3) ls st M := kn_if hr hd rfl (show kIf _ _ _ _ _ _ _ = _ from kIf_c (by simp [mmCnd])) ht
theorem kq_ic_gt {a b : Int32} {off : Int} {t : Nat} (hr : mmP[y]? = some r) (hd : decode (mmCd r) pc = .ok (.if_icmp .gt off, 3)) (ht : mmTg pc off = some t) : kn y pc ls (.int b :: .int a :: st) M = if b < a then kn y t ls st M else kn y (pc + 3) ls st M := kn_if hr hd rfl (show kIf _ _ _ _ _ _ _ = _ from kIf_c (by simp [mmCnd])) ht
theorem kq_if_le {a : Int32} {off : Int} {t : Nat} (hr : mmP[y]? = some r) (hd : decode (mmCd r) pc = .ok (.ifCond .le off, 3)) (ht : mmTg pc off = some t) : kn y pc ls (.int a :: st) M = if a ≤ 0 then kn y t ls st M else kn y (pc + 3) ls st M := kn_if hr hd rfl (show kIf _ _ _ _ _ _ _ = _ from kIf_c (by simp [mmCnd])) ht
theorem kq_ic_le {a b : Int32} {off : Int} {t : Nat} (hr : mmP[y]? = some r) (hd : decode (mmCd r) pc = .ok (.if_icmp .le off, 3)) (ht : mmTg pc off = some t) : kn y pc ls (.int b :: .int a :: st) M = if a ≤ b then kn y t ls st M else kn y (pc + 3) ls st M := kn_if hr hd rfl (show kIf _ _ _ _ _ _ _ = _ from kIf_c (by simp [mmCnd])) ht
end KEQ
