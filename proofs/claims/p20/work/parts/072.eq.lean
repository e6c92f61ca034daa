/-! step equations, an instruction kind each -/
def oB {α : Type} (x : Option α) (k : α → Option mmOut) : Option mmOut := match x with
  | some a => k a
  | none => none
theorem oB_some {α : Type} (a : α) (k : α → Option mmOut) : oB (some a) k = k a := rfl
def fG (x : Option (Option Nat)) (v : Int32) (k : Value → Option mmOut) : Option mmOut := match x with
  | some (some j) => k (.ref j)
  | some none => k (.int v)
  | none => none
theorem fG_r (j : Nat) (v : Int32) (k : Value → Option mmOut) : fG (some (some j)) v k = k (.ref j) := rfl
theorem fG_i (v : Int32) (k : Value → Option mmOut) : fG (some none) v k = k (.int v) := rfl
def fP (x : Option (Option Nat)) (k : Option mmOut) : Option mmOut := match x with
  | some none => k
  | _ => none
theorem fP_i (k : Option mmOut) : fP (some none) k = k := rfl
def aL (x : Option (Nat × Nat)) (t : Nat) (i : Int32) (k : Nat → Option mmOut) : Option mmOut := match x with
  | some (u, m) => if u = t then oB (mmX i m) k else none
  | none => none
theorem aL_ok {t m : Nat} {i : Int32} {k : Nat → Option mmOut} : aL (some (t, m)) t i k = oB (mmX i m) k := by simp [aL]
def aI (S : mmScr) (M : mmM) (c : Nat) (i : Int32) (k : Int32 → Option mmOut) : Option mmOut := if c = 99 then (match S with
  | some xs => oB (mmX i xs.1) (fun j => k (xs.2 j))
  | none => none) else aL (mmArr 35 c) 0 i (fun j => k (M.1 c j))
def aN (S : mmScr) (c : Nat) (k : Int32 → Option mmOut) : Option mmOut := if c = 99 then (match S with
  | some xs => k (Int32.ofNat xs.1)
  | none => none) else (match mmArr 35 c with
  | some (0, m) => k (Int32.ofNat m)
  | _ => none)
def cB (x : Option mmOut) (k : Option Value → mmM → Option mmOut) (kx : Nat → mmM → Option mmOut) : Option mmOut := match x with
  | some (.inl v, M) => k v M
  | some (.inr e, M) => kx e M
  | none => none
theorem cB_l (v : Option Value) (M : mmM) (k : Option Value → mmM → Option mmOut) (kx : Nat → mmM → Option mmOut) : cB (some (.inl v, M)) k kx = k v M := rfl
theorem cB_r (e : Nat) (M : mmM) (k : Option Value → mmM → Option mmOut) (kx : Nat → mmM → Option mmOut) : cB (some (.inr e, M)) k kx = kx e M := rfl
def rV (x : Option (Option Nat)) (k : Option mmOut) : Option mmOut := match x with
  | some _ => k
  | none => none
theorem rV_some (x : Option Nat) (k : Option mmOut) : rV (some x) k = k := rfl
noncomputable def hX (r : mmRow) (S : mmScr) (y pc : Nat) (ls : List Value) (e : Nat) (M1 : mmM) : Option mmOut := match mmHh r with
  | [] => some (.inr e, M1)
  | _ :: _ => (match mmHf (mmOw r) pc e (mmHh r) with
    | none => none
    | some hp => (match decode (mmCd r) hp with
      | .ok (.astore k, 2) => (match mmSt1 ls k .null with | some l => rn S y (hp + 2) l [] M1 | none => none)
      | .ok (.astore_n k, 1) => (match mmSt1 ls k .null with | some l => rn S y (hp + 1) l [] M1 | none => none)
      | _ => none))
noncomputable def rR (S : mmScr) (y : Nat) (x : mmRes) : Option mmOut := match x with
  | some (pc', ls', st', M') => rn S y pc' ls' st' M'
  | none => none
section EQ
variable {S : mmScr} {y pc len : Nat} {r : mmRow} {ins : Instr} {ls st : List Value} {M : mmM}
theorem rn_s {pc' : Nat} {ls' st' : List Value} {M' : mmM} (hr : mmP[y]? = some r) (hd : decode (mmCd r) pc = .ok (ins, len)) (hl : mmLn ins len = true) (hs : mmS S 35 (mmOw r) (decide (1 ≤ mmFr r ∧ 21 ≤ mmLo r)) pc ins len ls st M = some (pc', ls', st', M')) : rn S y pc ls st M = rn S y pc' ls' st' M' := by
  rw [rn_eq]
  unfold mmF
  simp only [hr, hd, hl, if_true, hs]
theorem rn_g (hr : mmP[y]? = some r) (hd : decode (mmCd r) pc = .ok (ins, len)) (hl : mmLn ins len = true) (hE : mmE (mmRt r) ins st = none) (hC : mmCl 35 (mmOw r) ins st = none) (hN : ∀ i, ins ≠ .new i) :
    rn S y pc ls st M = rR S y (mmS S 35 (mmOw r) (decide (1 ≤ mmFr r ∧ 21 ≤ mmLo r)) pc ins len ls st M) := by
  rw [rn_eq]
  unfold mmF
  simp only [hr, hd, hl, if_true]
  cases hs : mmS S 35 (mmOw r) (decide (1 ≤ mmFr r ∧ 21 ≤ mmLo r)) pc ins len ls st M with
  | some x => rfl
  | none =>
    simp only [hE, hC, rR]
    all_goals (cases ins <;> first | rfl | exact absurd rfl (hN _))
theorem rn_gf {k i c f : Nat} (hr : mmP[y]? = some r) (hd : decode (mmCd r) pc = .ok (.getfield i, 3)) (hF : mmF3 mmFL (mmOw r) i = some (c, f)) : rn S y pc ls (.ref k :: st) M = fG (mmFd 35 c f k) (M.1 k f) (fun v => rn S y (pc + 3) ls (v :: st) M) := by
  rw [rn_g hr hd rfl rfl rfl (fun i h => by cases h)]
  simp only [mmS, hF]
  cases mmFd 35 c f k with
  | none => rfl
  | some x => cases x <;> rfl
theorem rn_pf {k i c f : Nat} {v : Int32} (hr : mmP[y]? = some r) (hd : decode (mmCd r) pc = .ok (.putfield i, 3)) (hF : mmF3 mmFL (mmOw r) i = some (c, f)) : rn S y pc ls (.int v :: .ref k :: st) M = fP (mmFd 35 c f k) (rn S y (pc + 3) ls st (mmI M k f v)) := by
  rw [rn_g hr hd rfl rfl rfl (fun i h => by cases h)]
  simp only [mmS, hF]
  cases mmFd 35 c f k with
  | none => rfl
  | some x => cases x <;> rfl
theorem rn_iald {k : Nat} {i : Int32} (hr : mmP[y]? = some r) (hd : decode (mmCd r) pc = .ok (.iaload, 1)) : rn S y pc ls (.int i :: .ref k :: st) M = aI S M k i (fun v => rn S y (pc + 1) ls (.int v :: st) M) := by
  rw [rn_g hr hd rfl rfl rfl (fun i h => by cases h)]
  simp only [mmS, aI]
  by_cases h : k = 99
  · simp only [h, if_true]
    cases S with
    | none => rfl
    | some xs =>
      simp only
      cases mmX i xs.1 <;> rfl
  · simp only [h, if_false]
    cases mmArr 35 k with
    | none => rfl
    | some x =>
      obtain ⟨u, m⟩ := x
      cases u with
      | zero =>
        simp only [aL, if_true]
        cases mmX i m <;> rfl
      | succ u => simp [aL, rR]
theorem rn_iast {k : Nat} {i v : Int32} (hr : mmP[y]? = some r) (hd : decode (mmCd r) pc = .ok (.iastore, 1)) : rn S y pc ls (.int v :: .int i :: .ref k :: st) M = aL (mmArr 35 k) 0 i (fun j => rn S y (pc + 1) ls st (mmI M k j v)) := by
  rw [rn_g hr hd rfl rfl rfl (fun i h => by cases h)]
  simp only [mmS]
  cases mmArr 35 k with
  | none => rfl
  | some x =>
    obtain ⟨u, m⟩ := x
    cases u with
    | zero =>
      simp only [aL, if_true]
      cases mmX i m <;> rfl
    | succ u => simp [aL, rR]
theorem rn_bald {k : Nat} {i : Int32} (hr : mmP[y]? = some r) (hd : decode (mmCd r) pc = .ok (.baload, 1)) : rn S y pc ls (.int i :: .ref k :: st) M = aL (mmArr 35 k) 1 i (fun j => rn S y (pc + 1) ls (.int (M.1 k j) :: st) M) := by
  rw [rn_g hr hd rfl rfl rfl (fun i h => by cases h)]
  simp only [mmS]
  cases mmArr 35 k with
  | none => rfl
  | some x =>
    obtain ⟨u, m⟩ := x
    match u with
    | 0 => simp [aL, rR]
    | 1 =>
      simp only [aL, if_true]
      cases mmX i m <;> rfl
    | u + 2 => simp [aL, rR]
theorem rn_bast {k : Nat} {i v : Int32} (hr : mmP[y]? = some r) (hd : decode (mmCd r) pc = .ok (.bastore, 1)) : rn S y pc ls (.int v :: .int i :: .ref k :: st) M = aL (mmArr 35 k) 1 i (fun j => rn S y (pc + 1) ls st (mmI M k j (vp_nar .boolean v))) := by
  rw [rn_g hr hd rfl rfl rfl (fun i h => by cases h)]
  simp only [mmS]
  cases mmArr 35 k with
  | none => rfl
  | some x =>
    obtain ⟨u, m⟩ := x
    match u with
    | 0 => simp [aL, rR]
    | 1 =>
      simp only [aL, if_true]
      cases mmX i m <;> rfl
    | u + 2 => simp [aL, rR]
theorem rn_lald {k : Nat} {i : Int32} (hr : mmP[y]? = some r) (hd : decode (mmCd r) pc = .ok (.laload, 1)) : rn S y pc ls (.int i :: .ref k :: st) M = aL (mmArr 35 k) 2 i (fun j => rn S y (pc + 1) ls (.long (M.2.1 j) :: st) M) := by
  rw [rn_g hr hd rfl rfl rfl (fun i h => by cases h)]
  simp only [mmS]
  cases mmArr 35 k with
  | none => rfl
  | some x =>
    obtain ⟨u, m⟩ := x
    match u with
    | 0 => simp [aL, rR]
    | 1 => simp [aL, rR]
    | 2 =>
      simp only [aL, if_true]
      cases mmX i m <;> rfl
    | u + 3 => simp [aL, rR]
theorem rn_last {k : Nat} {i : Int32} {v : Int64} (hr : mmP[y]? = some r) (hd : decode (mmCd r) pc = .ok (.lastore, 1)) : rn S y pc ls (.long v :: .int i :: .ref k :: st) M = aL (mmArr 35 k) 2 i (fun j => rn S y (pc + 1) ls st (mmJ M j v)) := by
  rw [rn_g hr hd rfl rfl rfl (fun i h => by cases h)]
  simp only [mmS]
  cases mmArr 35 k with
  | none => rfl
  | some x =>
    obtain ⟨u, m⟩ := x
    match u with
    | 0 => simp [aL, rR]
    | 1 => simp [aL, rR]
    | 2 =>
      simp only [aL, if_true]
      cases mmX i m <;> rfl
    | u + 3 => simp [aL, rR]
theorem rn_alen {k : Nat} (hr : mmP[y]? = some r) (hd : decode (mmCd r) pc = .ok (.arraylength, 1)) : rn S y pc ls (.ref k :: st) M = aN S k (fun v => rn S y (pc + 1) ls (.int v :: st) M) := by
  rw [rn_g hr hd rfl rfl rfl (fun i h => by cases h)]
  simp only [mmS, aN]
  by_cases h : k = 99
  · simp only [h, if_true]
    cases S <;> rfl
  · simp only [h, if_false]
    cases mmArr 35 k with
    | none => rfl
    | some x =>
      obtain ⟨u, m⟩ := x
      cases u <;> rfl
theorem rn_if {b : Prop} [Decidable b] {t : Nat} {off : Int} (hr : mmP[y]? = some r) (hd : decode (mmCd r) pc = .ok (ins, len)) (hl : mmLn ins len = true) {st' : List Value} (hs : mmS S 35 (mmOw r) (decide (1 ≤ mmFr r ∧ 21 ≤ mmLo r)) pc ins len ls st M = mmIf b pc 3 off ls st' M) (ht : mmTg pc off = some t) :
    rn S y pc ls st M = if b then rn S y t ls st' M else rn S y (pc + 3) ls st' M := by
  by_cases hb : b
  · rw [if_pos hb]
    exact rn_s hr hd hl (hs.trans (by simp [mmIf, ht, hb]))
  · rw [if_neg hb]
    exact rn_s hr hd hl (hs.trans (by simp [mmIf, ht, hb]))
theorem mmIf_c {a b : Prop} [Decidable a] [Decidable b] (h : a ↔ b) {pc len : Nat} {off : Int} : mmIf a pc len off ls st M = mmIf b pc len off ls st M := by
  unfold mmIf
  cases mmTg pc off with
  | none => rfl
  | some t =>
    by_cases hb : b
    · simp [hb, h.mpr hb]
    · have ha : ¬ a := fun ha => hb (h.mp ha)
      simp [hb, ha]
theorem rn_ts {x : Int32} {dflt lo hi : Int} {offs : Array Int} (hr : mmP[y]? = some r) (hd : decode (mmCd r) pc = .ok (.tableswitch dflt lo hi offs, len)) {tg : Option Nat}
    (ht : (if x.toInt < lo ∨ hi < x.toInt then mmTg pc dflt else (match offs[(x.toInt - lo).toNat]? with | some off => mmTg pc off | none => none)) = tg) :
    rn S y pc ls (.int x :: st) M = oB tg (fun t => rn S y t ls st M) := by
  rw [rn_g hr hd rfl rfl rfl (fun i h => by cases h)]
  subst ht
  simp only [mmS]
  by_cases h : x.toInt < lo ∨ hi < x.toInt
  · simp only [h, if_true]
    cases mmTg pc dflt <;> rfl
  · simp only [h, if_false]
    cases offs[(x.toInt - lo).toNat]? with
    | none => rfl
    | some off =>
      simp only
      cases mmTg pc off <;> rfl
theorem rn_ret {v : Option Value} (hr : mmP[y]? = some r) (hd : decode (mmCd r) pc = .ok (ins, len)) (hl : mmLn ins len = true) (hs : mmS S 35 (mmOw r) (decide (1 ≤ mmFr r ∧ 21 ≤ mmLo r)) pc ins len ls st M = none) (hE : mmE (mmRt r) ins st = some v) : rn S y pc ls st M = some (.inl v, M) := by
  rw [rn_eq]
  unfold mmF
  simp only [hr, hd, hl, if_true, hs, hE]
theorem rn_zret {v : Int32} (hr : mmP[y]? = some r) (hd : decode (mmCd r) pc = .ok (.ireturn, 1)) (ht : mmRt r = some .boolean) (h : v = 0 ∨ v = 1) : rn S y pc ls [.int v] M = some (.inl (some (.int v)), M) :=
  rn_ret hr hd rfl rfl (by simp [mmE, ht, h])
theorem rn_th {i e : Nat} (hr : mmP[y]? = some r) (hd : decode (mmCd r) pc = .ok (.new i, 3)) (hF : mmF3 mmTH y pc = some e) (hh : mmHh r = []) : rn S y pc ls [] M = some (.inr e, mmT M) := by
  rw [rn_eq]
  unfold mmF
  simp only [hr, hd, mmLn, decide_true, if_true, mmS, mmE, mmCl, hF, hh, and_self]
theorem rn_call {z : Nat} {rz : mmRow} {As rest : List Value} (hr : mmP[y]? = some r) (hd : decode (mmCd r) pc = .ok (ins, len)) (hl : mmLn ins len = true) (hs : mmS S 35 (mmOw r) (decide (1 ≤ mmFr r ∧ 21 ≤ mmLo r)) pc ins len ls st M = none) (hE : mmE (mmRt r) ins st = none)
    (hC : mmCl 35 (mmOw r) ins st = some (z, As, rest)) (hz : mmP[z]? = some rz) (hfit : mmFr rz + 1 ≤ mmFr r ∧ 8 + (mmMl rz + 11) + mmLo rz ≤ mmLo r ∧ (mmEl As).length ≤ mmMl rz) :
    rn S y pc ls st M = cB (rn none z 0 (mmEn (mmMl rz) As) [] M) (fun v M1 => rn S y (pc + 3) ls (v.toList ++ rest) M1) (fun e M1 => hX r S y pc ls e M1) := by
  rw [rn_eq]
  unfold mmF
  simp only [hr, hd, hl, if_true, hs, hE, hC, hz, if_pos hfit]
  cases rn none z 0 (mmEn (mmMl rz) As) [] M with
  | none => rfl
  | some x =>
    obtain ⟨v, M1⟩ := x
    cases v <;> rfl
theorem hX_0 {e : Nat} {M1 : mmM} (h : mmHh r = []) : hX r S y pc ls e M1 = some (.inr e, M1) := by
  unfold hX
  rw [h]
theorem rn_iv {k i z : Nat} {rz : mmRow} {As : List Value} (hr : mmP[y]? = some r) (hd : decode (mmCd r) pc = .ok (.invokevirtual i, 3)) (hF : mmF3 mmML (mmOw r) i = some z) (hz : mmP[z]? = some rz) (hst : mmSt rz = false) (hh : mmHh rz = []) (hna : mmNa rz = As.length)
    (hfit : mmFr rz + 1 ≤ mmFr r ∧ 8 + (mmMl rz + 11) + mmLo rz ≤ mmLo r ∧ (mmEl (.ref k :: As)).length ≤ mmMl rz) (h8 : mmSm st ≤ 8) :
    rn S y pc ls (As.reverse ++ .ref k :: st) M = rV (mmFd 35 (mmOw rz) 0 k) (cB (rn none z 0 (mmEn (mmMl rz) (.ref k :: As)) [] M) (fun v M1 => rn S y (pc + 3) ls (v.toList ++ st) M1) (fun e M1 => hX r S y pc ls e M1)) := by
  cases hfd : mmFd 35 (mmOw rz) 0 k with
  | none =>
    have e1 : (As.reverse ++ .ref k :: st).drop As.length = .ref k :: st := by
      rw [← List.length_reverse, List.drop_left]
    have hC : mmCl 35 (mmOw r) (.invokevirtual i) (As.reverse ++ .ref k :: st) = none := by
      simp only [mmCl, hF, hz, hst, hh, hna, e1, hfd]
      split <;> rfl
    rw [rn_g hr hd rfl rfl hC (fun i h => by cases h)]
    rfl
  | some x =>
    have e1 : (As.reverse ++ .ref k :: st).drop As.length = .ref k :: st := by
      rw [← List.length_reverse, List.drop_left]
    have e2 : (As.reverse ++ .ref k :: st).take As.length = As.reverse := by
      rw [← List.length_reverse, List.take_left]
    have e3 : (As.reverse ++ .ref k :: st).drop (As.length + 1) = st := by
      rw [← List.drop_drop, e1]; rfl
    refine rn_call hr hd rfl rfl rfl ?_ hz hfit
    simp only [mmCl, hF, hz, hst, hh, hna, e1, e2, e3, hfd, List.reverse_reverse]
    rw [if_pos ⟨trivial, trivial, h8, by simp⟩]
theorem mmCs_ok {z : Nat} {rz : mmRow} {As : List Value} (hz : mmP[z]? = some rz) (hst : mmSt rz = true) (hna : mmNa rz = As.length) (h8 : mmSm st ≤ 8) : mmCs z (As.reverse ++ st) = some (z, As, st) := by
  have e1 : (As.reverse ++ st).drop As.length = st := by
    rw [← List.length_reverse, List.drop_left]
  have e2 : (As.reverse ++ st).take As.length = As.reverse := by
    rw [← List.length_reverse, List.take_left]
  simp only [mmCs, hz, hst, hna, e1, e2, List.reverse_reverse]
  rw [if_pos ⟨trivial, h8, by simp⟩]
theorem rn_is {i z : Nat} {rz : mmRow} {As : List Value} (hr : mmP[y]? = some r) (hd : decode (mmCd r) pc = .ok (.invokestatic i, 3)) (hF : mmF3 mmML (mmOw r) i = some z) (hX0 : mmF3 mmMX (mmOw r) i = none) (hz : mmP[z]? = some rz) (hst : mmSt rz = true) (hna : mmNa rz = As.length)
    (hfit : mmFr rz + 1 ≤ mmFr r ∧ 8 + (mmMl rz + 11) + mmLo rz ≤ mmLo r ∧ (mmEl As).length ≤ mmMl rz) (h8 : mmSm st ≤ 8) :
    rn S y pc ls (As.reverse ++ st) M = cB (rn none z 0 (mmEn (mmMl rz) As) [] M) (fun v M1 => rn S y (pc + 3) ls (v.toList ++ st) M1) (fun e M1 => hX r S y pc ls e M1) := by
  refine rn_call hr hd rfl ?_ rfl ?_ hz hfit
  · simp only [mmS, hX0]
    split
    · split <;> rfl
    · rfl
  · simp only [mmCl, hF]
    exact mmCs_ok hz hst hna h8
theorem rn_in {i z : Nat} {rz : mmRow} {As : List Value} (hr : mmP[y]? = some r) (hd : decode (mmCd r) pc = .ok (.invokestatic i, 3)) (hF0 : mmF3 mmML (mmOw r) i = none) (hF : mmF3 mmNL (mmOw r) i = some z) (hX0 : mmF3 mmMX (mmOw r) i = none) (hz : mmP[z]? = some rz) (hst : mmSt rz = true) (hh : mmHh rz = []) (hna : mmNa rz = As.length)
    (hfit : mmFr rz + 1 ≤ mmFr r ∧ 8 + (mmMl rz + 11) + mmLo rz ≤ mmLo r ∧ (mmEl As).length ≤ mmMl rz) (h8 : mmSm st ≤ 8) :
    rn S y pc ls (As.reverse ++ st) M = cB (rn none z 0 (mmEn (mmMl rz) As) [] M) (fun v M1 => rn S y (pc + 3) ls (v.toList ++ st) M1) (fun e M1 => hX r S y pc ls e M1) := by
  refine rn_call hr hd rfl ?_ rfl ?_ hz hfit
  · simp only [mmS, hX0]
    split
    · split <;> rfl
    · rfl
  · simp only [mmCl, hF0, hF, hz, hh, if_true]
    exact mmCs_ok hz hst hna h8
end EQ
