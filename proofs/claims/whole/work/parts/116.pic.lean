/-! the law from its entry: the picture with which its loop begins -/
def adL (ad : Nat → Nat) (b h q1 q2 q3 q4 q5 q6 q7 q8 q9 q10 q11 z : Nat) : Nat → Nat := fun k => if k < 35 then ad k else [h, q1, q2, q3, q4, q5, q6, q7, q8, q9, q10, q11, z].getD (k - 35) b
def gL (k : Nat) : Nat := if k < 35 then k + 12 else if k < 47 then k - 35 else 47
theorem gL_inj {i j : Nat} (hi : i < 48) (hj : j < 48) (h : gL i = gL j) : i = j := by
  unfold gL at h
  split at h <;> split at h <;> (try split at h) <;> (try split at h) <;> omega
theorem adL_lo {ad : Nat → Nat} {b h q1 q2 q3 q4 q5 q6 q7 q8 q9 q10 q11 z k : Nat} (hk : k < 35) : adL ad b h q1 q2 q3 q4 q5 q6 q7 q8 q9 q10 q11 z k = ad k := if_pos hk
set_option maxHeartbeats 4000000 in
theorem adL_ce {G : Nat → ClassId} {ad : Nat → Nat} {f' : Nat → Nat → Int32} {b h q1 q2 q3 q4 q5 q6 q7 q8 q9 q10 q11 z k : Nat} (hk : k < 35) : mmCe G (adL ad b h q1 q2 q3 q4 q5 q6 q7 q8 q9 q10 q11 z) (fR f', m0.2) k = mmCe G ad (f', m0.2) k := by
  rcases (show k = 0 ∨ k = 1 ∨ k = 2 ∨ k = 3 ∨ k = 4 ∨ k = 5 ∨ k = 6 ∨ k = 7 ∨ k = 8 ∨ k = 9 ∨ k = 10 ∨ k = 11 ∨ k = 12 ∨ k = 13 ∨ k = 14 ∨ k = 15 ∨ k = 16 ∨ k = 17 ∨ k = 18 ∨ k = 19 ∨ k = 20 ∨ k = 21 ∨ k = 22 ∨ k = 23 ∨ k = 24 ∨ k = 25 ∨ k = 26 ∨ k = 27 ∨ k = 28 ∨ k = 29 ∨ k = 30 ∨ k = 31 ∨ k = 32 ∨ k = 33 ∨ k = 34 by omega) with rfl | rfl | rfl | rfl | rfl | rfl | rfl | rfl | rfl | rfl | rfl | rfl | rfl | rfl | rfl | rfl | rfl | rfl | rfl | rfl | rfl | rfl | rfl | rfl | rfl | rfl | rfl | rfl | rfl | rfl | rfl | rfl | rfl | rfl | rfl <;> rfl
def mmZJ : vp_A := (1, .inr (.inl (fun _ => 0)))
set_option maxHeartbeats 4000000 in
theorem adL_W {G : Nat → ClassId} {ad : Nat → Nat} {f' : Nat → Nat → Int32} {b h q1 q2 q3 q4 q5 q6 q7 q8 q9 q10 q11 z : Nat} (m : frm 7 17 f0 f') (k : Nat) (q : Nat × va_E) (hk : (mmW G (adL ad b h q1 q2 q3 q4 q5 q6 q7 q8 q9 q10 q11 z) (fR f', m0.2) 48)[k]? = some q) : ((w1_X4 G h q1 q2 q3 q4 q5 q6 q7 q8 q9 q10 q11 ++ mmW G ad (f', m0.2) 35) ++ [(z, .inl (G 2, mmZJ))])[gL k]? = some q := by
  have hl : k < 48 := by
    have h1 := (List.getElem?_eq_some_iff.mp hk).1
    rw [mmW_len] at h1
    exact h1
  rw [mmW_at hl] at hk
  have hq := Option.some.inj hk
  subst hq
  have hz : ∀ a, 35 < a → fR f' a = fun _ => 0 := fun a ha => by
    unfold fR
    rw [uC_ne (by omega), m a (by omega)]
    funext i
    simp [f0, show a ≠ 0 by omega]
  have hlen : (w1_X4 G h q1 q2 q3 q4 q5 q6 q7 q8 q9 q10 q11).length = 12 := rfl
  by_cases h1 : k < 35
  · have e1 : gL k = k + 12 := if_pos h1
    rw [e1, List.getElem?_append_left (by rw [List.length_append, hlen, mmW_len]; omega), List.getElem?_append_right (by rw [hlen]; omega), hlen, Nat.add_sub_cancel, mmW_at h1, adL_lo h1, adL_ce h1]
  · by_cases h2 : k = 47
    · subst h2
      rw [show gL 47 = 47 from rfl, List.getElem?_append_right (by rw [List.length_append, hlen, mmW_len]; omega), List.length_append, hlen, mmW_len]
      rfl
    · have e1 : gL k = k - 35 := by unfold gL; rw [if_neg h1, if_pos (by omega)]
      rw [e1, List.getElem?_append_left (by rw [List.length_append, hlen, mmW_len]; omega), List.getElem?_append_left (by rw [hlen]; omega)]
      rcases (show k = 35 ∨ k = 36 ∨ k = 37 ∨ k = 38 ∨ k = 39 ∨ k = 40 ∨ k = 41 ∨ k = 42 ∨ k = 43 ∨ k = 44 ∨ k = 45 ∨ k = 46 by omega) with rfl | rfl | rfl | rfl | rfl | rfl | rfl | rfl | rfl | rfl | rfl | rfl
      · rfl
      · show some (q1, (Sum.inl (G 0, mmZ 30) : va_E)) = some (q1, Sum.inl (G 0, 30, Sum.inl (fR f' 36)))
        rw [hz 36 (by omega)]
        rfl
      · show some (q2, (Sum.inl (G 0, mmZ 30) : va_E)) = some (q2, Sum.inl (G 0, 30, Sum.inl (fR f' 37)))
        rw [hz 37 (by omega)]
        rfl
      · show some (q3, (Sum.inl (G 0, mmZ 30) : va_E)) = some (q3, Sum.inl (G 0, 30, Sum.inl (fR f' 38)))
        rw [hz 38 (by omega)]
        rfl
      · show some (q4, (Sum.inl (G 0, mmZ 30) : va_E)) = some (q4, Sum.inl (G 0, 30, Sum.inl (fR f' 39)))
        rw [hz 39 (by omega)]
        rfl
      · show some (q5, (Sum.inl (G 0, mmZ 30) : va_E)) = some (q5, Sum.inl (G 0, 30, Sum.inl (fR f' 40)))
        rw [hz 40 (by omega)]
        rfl
      · show some (q6, (Sum.inl (G 0, mmZ 30) : va_E)) = some (q6, Sum.inl (G 0, 30, Sum.inl (fR f' 41)))
        rw [hz 41 (by omega)]
        rfl
      · show some (q7, (Sum.inl (G 0, mmZ 16) : va_E)) = some (q7, Sum.inl (G 0, 16, Sum.inl (fR f' 42)))
        rw [hz 42 (by omega)]
        rfl
      · show some (q8, (Sum.inl (G 0, mmZ 16) : va_E)) = some (q8, Sum.inl (G 0, 16, Sum.inl (fR f' 43)))
        rw [hz 43 (by omega)]
        rfl
      · show some (q9, (Sum.inl (G 0, mmZ 16) : va_E)) = some (q9, Sum.inl (G 0, 16, Sum.inl (fR f' 44)))
        rw [hz 44 (by omega)]
        rfl
      · show some (q10, (Sum.inl (G 0, mmZ 16) : va_E)) = some (q10, Sum.inl (G 0, 16, Sum.inl (fR f' 45)))
        rw [hz 45 (by omega)]
        rfl
      · show some (q11, (Sum.inl (G 0, mmZ 16) : va_E)) = some (q11, Sum.inl (G 0, 16, Sum.inl (fR f' 46)))
        rw [hz 46 (by omega)]
        rfl
theorem adL_P {D : va_G} {G : Nat → ClassId} {ad : Nat → Nat} {f' : Nat → Nat → Int32} {b h q1 q2 q3 q4 q5 q6 q7 q8 q9 q10 q11 z : Nat} {H : Heap} (m : frm 7 17 f0 f') (hP : va_P D mmCls ((w1_X4 G h q1 q2 q3 q4 q5 q6 q7 q8 q9 q10 q11 ++ mmW G ad (f', m0.2) 35) ++ [(z, .inl (G 2, mmZJ))]) H) : va_P D mmCls (mmW G (adL ad b h q1 q2 q3 q4 q5 q6 q7 q8 q9 q10 q11 z) (fR f', m0.2) 48) H := hP.by gL (adL_W m)
theorem adL_D {A : Nat → Prop} {G : Nat → ClassId} {ad : Nat → Nat} {f' : Nat → Nat → Int32} {b h q1 q2 q3 q4 q5 q6 q7 q8 q9 q10 q11 z : Nat} (m : frm 7 17 f0 f') (hD : va_D A ((w1_X4 G h q1 q2 q3 q4 q5 q6 q7 q8 q9 q10 q11 ++ mmW G ad (f', m0.2) 35) ++ [(z, .inl (G 2, mmZJ))])) : va_D A (mmW G (adL ad b h q1 q2 q3 q4 q5 q6 q7 q8 q9 q10 q11 z) (fR f', m0.2) 48) := hD.by gL (adL_W m) (fun i j hi hj e => gL_inj (by rw [mmW_len] at hi; exact hi) (by rw [mmW_len] at hj; exact hj) e)
