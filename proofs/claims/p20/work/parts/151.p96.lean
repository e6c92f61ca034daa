/-! the reference: clashAll, add, look -/
theorem s16_0 : s16 0 := fun i _ => b_0 i
theorem s16_or {x y : Int32} (h : s16 x) (h2 : s16 y) : s16 (x ||| y) := fun i hi => by rw [b_or, h i hi, h2 i hi]; rfl
theorem s16_and {x y : Int32} (h : s16 x) : s16 (x &&& y) := fun i hi => by rw [b_and, h i hi]; rfl
theorem s16_bI {x : Int32} (h : x = -1 ∨ isP x) : s16 (bI x) := fun i hi => by
  rcases h with rfl | ⟨p, hp, rfl⟩
  · rw [bI_m1, b_0]
  · rw [bt_bI hp]; simp; omega
theorem s16_usd {d : Dd} (h : okD d) : s16 (usd d) := s16_or (s16_bI h.2.1) (s16_bI h.2.2.1)
theorem s16_liveL {w : Int32} (hw : s16 w) : ∀ {L : List Dd}, okL L → s16 (liveL L w)
  | [], _ => hw
  | _ :: _, h => s16_or (s16_usd (h _ List.mem_cons_self)) (s16_and (s16_liveL hw (fun x hx => h x (List.mem_cons_of_mem _ hx))))
/-- p and one of s -/
def prB (p : Nat) (s : Int32) (a b : Nat) : Bool := (decide (a = p) && (decide (¬ b = p) && bt s b)) || (decide (b = p) && (decide (¬ a = p) && bt s a))
theorem bt_addC {f : Nat → Int32} {p : Nat} {s : Int32} (hp : p < 16) {a b : Nat} (ha : a < 16) (hb : b < 32) : bt (addC f p s a) b = (bt (f a) b || prB p s a b) := by
  unfold addC acl prB
  have hr : ∀ i, i < 32 → bt (s &&& (bI (nI p) ^^^ (-1))) i = (bt s i && decide (¬ i = p)) := fun i hi => by
    rw [b_and, bt_not _ hi, bt_bI hp]; simp
  rw [hr a (by omega)]
  by_cases hap : a = p
  · subst hap
    rw [if_neg (by simp), upd_at, b_or, hr b hb]
    by_cases hba : b = a <;> simp [hba, Bool.and_comm]
  · rw [upd_ne hap]
    by_cases hs : bt s a = true
    · rw [if_pos (by simp [hs, hap, ha]), b_or, bt_bI hp]
      simp [hap, hs]
    · rw [if_neg (by simp [hs])]
      simp [hap, hs]
theorem addC_ge {f : Nat → Int32} {p : Nat} {s : Int32} (hp : p < 16) {a : Nat} (ha : 16 ≤ a) : addC f p s a = f a := by
  unfold addC acl
  rw [if_neg (by omega), upd_ne (by omega)]
theorem addC_comm {f : Nat → Int32} {p q : Nat} {s t : Int32} (hp : p < 16) (hq : q < 16) : addC (addC f p s) q t = addC (addC f q t) p s := by
  funext a
  by_cases ha : a < 16
  · apply b_ext
    intro i hi
    rw [bt_addC hq ha hi, bt_addC hp ha hi, bt_addC hp ha hi, bt_addC hq ha hi, Bool.or_assoc, Bool.or_assoc, Bool.or_comm (prB p s a i)]
  · rw [addC_ge hq (by omega), addC_ge hp (by omega), addC_ge hp (by omega), addC_ge hq (by omega)]
theorem adC_p {g : Nat → Int32} {p : Nat} (hp : p < 16) {w : Int32} : adC g (nI p) w = upd g p (g p + w) := by
  unfold adC
  rw [if_neg (by rw [p_lo (by omega)]; exact id), if_neg (by rw [p_hi hp]; exact id), nI_clamp (by omega)]
theorem adC_m1 {g : Nat → Int32} {w : Int32} : adC g (-1) w = g := by
  unfold adC
  rw [if_pos (by decide)]
def clF : List Dd → Int32 → (Nat → Int32) → (Nat → Int32)
  | [], _, cl => cl
  | d :: L, w, cl => clF L w (addC cl d.1.toNatClampNeg (if d.2.2.2.2 = 0 then liveL L w else liveL L w &&& (bI d.2.1 ^^^ (-1))))
def coF : List Dd → (Nat → Int32) → (Nat → Int32)
  | [], co => co
  | d :: L, co => coF L (adC (adC (adC co d.1 d.2.2.2.1) d.2.1 d.2.2.2.1) d.2.2.1 d.2.2.2.1)
def thF : List Dd → Int32 → Int32
  | [], t => t
  | d :: L, t => thF L (t ||| (bI d.1 ||| usd d))
def poF : List Dd → (Nat → Int32) → (Nat → Int32)
  | [], po => po
  | d :: L, po => poF L (if d.2.2.2.2 = 0 then po else adP po d.1 d.2.1)
theorem stF_eq {w : Int32} : ∀ (L : List Dd) (s : stS), stF L w s = (thF L s.1, clF L w s.2.1, poF L s.2.2.1, coF L s.2.2.2)
  | [], s => rfl
  | d :: L, s => by rw [stF, stF_eq L]; rfl
theorem clF_addC {w : Int32} {p : Nat} (hp : p < 16) {s : Int32} : ∀ (L : List Dd), okL L → ∀ cl, clF L w (addC cl p s) = addC (clF L w cl) p s
  | [], _, cl => rfl
  | d :: L, h, cl => by
    have hd := h d List.mem_cons_self
    rw [clF, clF, addC_comm hp (isP_clamp hd.1), clF_addC hp L (fun x hx => h x (List.mem_cons_of_mem _ hx))]
theorem clF_l1 {w fst : Int32} {L : List Dd} (h : okL L) : ∀ (n : Nat) (cl : Nat → Int32), clF L w (l1 fst n cl) = l1 fst n (clF L w cl)
  | 0, cl => rfl
  | n + 1, cl => by
    rw [l1, l1, clF_l1 h n]
    split
    · rw [clF_addC (by omega) L h]
    · rfl
theorem bt_thF {i : Nat} : ∀ (L : List Dd) (t : Int32), bt (thF L t) i = (bt t i || L.any (fun d => bt (bI d.1) i || bt (usd d) i))
  | [], t => by simp [thF]
  | d :: L, t => by
    rw [thF, bt_thF L, b_or, b_or, List.any_cons, Bool.or_assoc]
theorem STU_cl {L : List Dd} {w : Int32} (h : okL L) : (STU L w).2.1 = l1 (liveL L w) 16 (clF L w zf) := by
  unfold STU
  rw [stF_eq]
  exact clF_l1 h 16 zf
theorem STU_co {L : List Dd} {w : Int32} : (STU L w).2.2.2 = coF L zf := by
  unfold STU
  rw [stF_eq]
theorem STU_po {L : List Dd} {w : Int32} : (STU L w).2.2.1 = poF L zf := by
  unfold STU
  rw [stF_eq]
theorem okL.drop {L : List Dd} (h : okL L) (n : Nat) : okL (L.drop n) := fun x hx => h x (List.mem_of_mem_drop hx)
