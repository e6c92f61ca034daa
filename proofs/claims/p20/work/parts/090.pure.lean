/-! what a row of deeds makes of a study and of a hanging, without a memory -/
def zf : Nat → Int32 := fun _ => 0
def n16 : Nat → Int32 := fun i => if i < 16 then -1 else 0
def zb (g : Nat → Int32) : Prop := ∀ i, 16 ≤ i → g i = 0
theorem fil_zf {g : Nat → Int32} (h : zb g) : fil 16 0 g = zf := by
  funext i
  by_cases hi : i < 16
  · simp [fil, hi, zf]
  · simp [fil, hi, zf, h i (by omega)]
theorem fil_n16 {g : Nat → Int32} (h : zb g) : fil 16 (-1) g = n16 := by
  funext i
  by_cases hi : i < 16
  · simp [fil, hi, n16]
  · simp [fil, hi, n16, h i (by omega)]
theorem zb_zf : zb zf := fun _ _ => rfl
theorem zb_n16 : zb n16 := fun i hi => by simp [n16, show ¬ i < 16 by omega]
theorem zb_upd {g : Nat → Int32} {p : Nat} {v : Int32} (h : zb g) (hp : p < 16) : zb (upd g p v) := fun i hi => by simp [upd, show i ≠ p by omega, h i hi]
theorem clamp_p {x : Int32} (h1 : ¬ x < 0) (h2 : ¬ 16 ≤ x) : x.toNatClampNeg < 16 := by
  obtain ⟨p, hp, rfl⟩ := p_in h1 h2
  rw [nI_clamp (by omega)]
  exact hp
theorem zb_addC {g : Nat → Int32} {p : Nat} {o : Int32} (h : zb g) (hp : p < 16) : zb (addC g p o) := fun i hi => by
  unfold addC acl
  rw [if_neg (by omega)]
  exact zb_upd h hp i hi
theorem zb_adC {g : Nat → Int32} {x w : Int32} (h : zb g) : zb (adC g x w) := by
  unfold adC
  split
  · exact h
  · split
    · exact h
    · rename_i h1 h2
      exact zb_upd h (clamp_p h1 h2)
theorem zb_adP {g : Nat → Int32} {x y : Int32} (h : zb g) : zb (adP g x y) := by
  unfold adP
  split
  · exact h
  · split
    · exact h
    · split
      · exact h
      · split
        · exact h
        · rename_i h1 h2 h3 h4
          exact zb_upd (zb_upd h (clamp_p h1 h2)) (clamp_p h3 h4)
def zbS (s : stS) : Prop := zb s.2.1 ∧ zb s.2.2.1 ∧ zb s.2.2.2
theorem isP_clamp {x : Int32} (h : isP x) : x.toNatClampNeg < 16 := by
  obtain ⟨p, hp, rfl⟩ := h
  rw [nI_clamp (by omega)]
  exact hp
theorem zbS_tkS {s : stS} {beh : Int32} {d : Dd} (h : zbS s) (hd : okD d) : zbS (tkS beh d s) := by
  refine ⟨zb_addC h.1 (isP_clamp hd.1), ?_, zb_adC (zb_adC (zb_adC h.2.2))⟩
  show zb (if d.2.2.2.2 = 0 then s.2.2.1 else adP s.2.2.1 d.1 d.2.1)
  split
  · exact h.2.1
  · exact zb_adP h.2.1
theorem zbS_stF {w : Int32} : ∀ (L : List Dd) (s : stS), okL L → zbS s → zbS (stF L w s)
  | [], s, _, h => h
  | d :: L, s, hO, h => zbS_stF L _ (fun x hx => hO x (List.mem_cons_of_mem _ hx)) (zbS_tkS h (hO d List.mem_cons_self))
theorem zb_l1 {fst : Int32} : ∀ (n : Nat) (g : Nat → Int32), zb g → zb (l1 fst n g)
  | 0, g, h => h
  | n + 1, g, h => by
    refine zb_l1 n _ ?_
    split
    · exact zb_addC h (by omega)
    · exact h
/-- there, clashes, poured, cost of a row of deeds and the pots wanted -/
def STU (L : List Dd) (w : Int32) : stS := stF L w (w, l1 (liveL L w) 16 zf, zf, zf)
theorem zbS_STU {L : List Dd} {w : Int32} (hO : okL L) : zbS (STU L w) := zbS_stF L _ hO ⟨zb_l1 16 _ zb_zf, zb_zf, zb_zf⟩
def StuIs (b : Nat) (f : Nat → Nat → Int32) (L : List Dd) (w : Int32) : Prop := (∀ d, d < L.length → f (b + 1) d = liveL (L.drop (d + 1)) w ∧ f (b + 2) d = liveL (L.drop d) w) ∧ f b 5 = liveL L w ∧ gets b f = STU L w
def zbSt (b : Nat) (f : Nat → Nat → Int32) : Prop := zb (f (b + 3)) ∧ zb (f (b + 4)) ∧ zb (f (b + 5))
theorem mk_is {b : Nat} {f : Nat → Nat → Int32} {L : List Dd} {w : Int32} (hz : zbSt b f) : StuIs b (mk b L w f) L w := by
  unfold mk
  refine ⟨fun d hd => ?_, ?_, ?_⟩
  · rw [put_ne (by omega) (by omega) (by omega) (by omega), put_ne (by omega) (by omega) (by omega) (by omega), fl_1, fl_2]
    simp [bhd, ahd, hd]
  · rw [put_b, fl_b, upd_ne (by omega), upd_at]
  · rw [gets_put, fil_zf hz.1, fil_zf hz.2.1, fil_zf hz.2.2]
    rfl
theorem StuIs.zb {b : Nat} {f : Nat → Nat → Int32} {L : List Dd} {w : Int32} (h : StuIs b f L w) (hO : okL L) : zbSt b f := by
  have h2 := h.2.2
  have h3 := zbS_STU (w := w) hO
  rw [← h2] at h3
  exact h3
theorem mk_frm {b : Nat} {f : Nat → Nat → Int32} {L : List Dd} {w : Int32} : frm b (b + 5) f (mk b L w f) := fun a ha => by
  unfold mk
  rw [put_other (by omega), fl_ne (by omega) (by omega) (by omega)]
theorem paR_as (cl co : Nat → Int32) (k : Int32) : ∀ (n : Nat) (left : Int32) (c : Nat) (pl as as2 : Nat → Int32), (∀ i, i < c → as i = as2 i) →
    (paR cl co k n left c pl as).1 = (paR cl co k n left c pl as2).1 ∧ (paR cl co k n left c pl as).2.1 = (paR cl co k n left c pl as2).2.1 ∧ ∀ i, i < (paR cl co k n left c pl as).1 → (paR cl co k n left c pl as).2.2 i = (paR cl co k n left c pl as2).2.2 i
  | 0, _, c, _, _, _, h => ⟨rfl, rfl, h⟩
  | n + 1, left, c, pl, as, as2, h => by
    simp only [paR]
    split
    · exact ⟨rfl, rfl, h⟩
    · refine paR_as cl co k n _ (c + 1) _ _ _ (fun i hi => ?_)
      by_cases hic : i = c
      · subst hic; simp [upd]
      · simp [upd, hic, h i (by omega)]
theorem hgR_as {cl po : Nat → Int32} {kk : Nat} {as as2 : Nat → Int32} : ∀ (n : Nat) (s : huT), (∀ i, i < n → as i = as2 i) → hgR cl po kk as n s = hgR cl po kk as2 n s
  | 0, s, _ => rfl
  | n + 1, s, h => by
    simp only [hgR]
    rw [h n (by omega)]
    exact hgR_as n _ (fun i hi => h i (by omega))
def PLA (s : stS) (kk : Nat) : Nat × (Nat → Int32) × (Nat → Int32) := paR s.2.1 s.2.2.2 (nI kk) 16 s.1 0 n16 zf
def HGA (s : stS) (kk : Nat) : huT := hgR s.2.1 s.2.2.1 kk (PLA s kk).2.2 (PLA s kk).1 (n16, zf, 0)
def HngIs (hb : Nat) (f : Nat → Nat → Int32) (s : stS) (kk : Nat) : Prop := f (hb + 1) = (PLA s kk).2.1 ∧ getU hb f = HGA s kk
def zbHg (hb : Nat) (f : Nat → Nat → Int32) : Prop := zb (f (hb + 1)) ∧ zb (f (hb + 2)) ∧ zb (f (hb + 3))
theorem mh_is {hb b kk : Nat} {f : Nat → Nat → Int32} (hz : zbHg hb f) : HngIs hb (mh hb b kk f) (gets b f) kk := by
  have h1 := paR_as (f (b + 3)) (f (b + 5)) (nI kk) 16 (f b 6) 0 n16 (f (hb + 4)) zf (fun i hi => absurd hi (by omega))
  unfold mh paH HngIs
  rw [fil_n16 hz.1, fil_n16 hz.2.1, fil_zf hz.2.2]
  refine ⟨?_, ?_⟩
  · rw [putU_ne (by omega) (by omega) (by omega), uC_ne (by omega), uC_self]
    exact h1.2.1
  · rw [getU_putU]
    unfold HGA PLA gets
    dsimp only
    rw [hgR_as _ _ h1.2.2, h1.1]
theorem mh_frm {hb b kk : Nat} {f : Nat → Nat → Int32} : frm hb (hb + 4) f (mh hb b kk f) := fun a ha => by
  unfold mh
  rw [putU_ne (by omega) (by omega) (by omega), uC_ne (by omega), uC_ne (by omega)]
theorem zb_paR {cl co : Nat → Int32} {k : Int32} : ∀ (n : Nat) (left : Int32) (c : Nat) (pl as : Nat → Int32), zb pl → zb (paR cl co k n left c pl as).2.1
  | 0, _, _, _, _, h => h
  | n + 1, left, c, pl, as, h => by
    simp only [paR]
    split
    · exact h
    · refine zb_paR n _ _ _ _ ?_
      unfold atP
      split
      · exact h
      · split
        · exact h
        · rename_i h1 h2
          exact zb_upd h (clamp_p h1 h2)
def zbU (s : huT) : Prop := zb s.1 ∧ zb s.2.1
theorem zbU_huS {cl po : Nat → Int32} {kk : Nat} {x : Int32} {s : huT} (h : zbU s) : zbU (huS cl po kk x s) := by
  unfold huS
  split
  · exact h
  · split
    · exact h
    · split
      · exact h
      · split
        · exact h
        · rename_i h1 h2 h3 h4
          exact ⟨zb_upd h.1 (clamp_p h1 h2), zb_upd h.2 (clamp_p h3 h4)⟩
theorem zbU_hgR {cl po : Nat → Int32} {kk : Nat} {as : Nat → Int32} : ∀ (n : Nat) (s : huT), zbU s → zbU (hgR cl po kk as n s)
  | 0, s, h => h
  | n + 1, s, h => zbU_hgR n _ (zbU_huS h)
theorem HngIs.zb {hb kk : Nat} {f : Nat → Nat → Int32} {s : stS} (h : HngIs hb f s kk) : zbHg hb f := by
  have h2 : zbU (HGA s kk) := zbU_hgR _ _ ⟨zb_n16, zb_zf⟩
  rw [← h.2] at h2
  refine ⟨?_, h2.1, h2.2⟩
  rw [h.1]
  exact zb_paR _ _ _ _ _ zb_n16
/-- the kitchen: its row, its study, its hanging; and that the tried ones hold nothing behind their ends -/
def Cls (f : Nat → Nat → Int32) (L : List Dd) (w : Int32) (kk : Nat) : Prop :=
  rowIs 1 f L ∧ okL L ∧ f 0 6 = w ∧ f 0 7 = nI kk ∧ StuIs 7 f L w ∧ HngIs 13 f (STU L w) kk ∧ zbSt 24 f ∧ zbHg 30 f
theorem gets_frm {b lo hi : Nat} {f g : Nat → Nat → Int32} (h : frm lo hi f g) (hb : b + 5 < lo ∨ hi < b) : gets b g = gets b f := by
  unfold gets
  rw [h b (by omega), h (b + 3) (by omega), h (b + 4) (by omega), h (b + 5) (by omega)]
theorem StuIs.frm {b lo hi : Nat} {f g : Nat → Nat → Int32} {L : List Dd} {w : Int32} (h : StuIs b f L w) (hf : frm lo hi f g) (hb : b + 5 < lo ∨ hi < b) : StuIs b g L w := by
  refine ⟨fun d hd => ?_, ?_, (gets_frm hf hb).trans h.2.2⟩
  · rw [hf (b + 1) (by omega), hf (b + 2) (by omega)]
    exact h.1 d hd
  · rw [hf b (by omega)]
    exact h.2.1
theorem HngIs.frm {hb kk lo hi : Nat} {f g : Nat → Nat → Int32} {s : stS} (h : HngIs hb f s kk) (hf : frm lo hi f g) (hh : hb + 4 < lo ∨ hi < hb) : HngIs hb g s kk := by
  unfold HngIs getU
  rw [hf (hb + 1) (by omega), hf (hb + 2) (by omega), hf (hb + 3) (by omega), hf hb (by omega)]
  exact h
theorem zbSt.frm {b lo hi : Nat} {f g : Nat → Nat → Int32} (h : zbSt b f) (hf : frm lo hi f g) (hb : b + 5 < lo ∨ hi < b) : zbSt b g := by
  unfold zbSt
  rw [hf (b + 3) (by omega), hf (b + 4) (by omega), hf (b + 5) (by omega)]
  exact h
theorem zbHg.frm {b lo hi : Nat} {f g : Nat → Nat → Int32} (h : zbHg b f) (hf : frm lo hi f g) (hb : b + 4 < lo ∨ hi < b) : zbHg b g := by
  unfold zbHg
  rw [hf (b + 1) (by omega), hf (b + 2) (by omega), hf (b + 3) (by omega)]
  exact h
theorem rowIs.frm {b lo hi : Nat} {f g : Nat → Nat → Int32} {L : List Dd} (h : rowIs b f L) (hf : frm lo hi f g) (hb : b + 5 < lo ∨ hi < b) : rowIs b g L := h.same (fun a h1 h2 => hf a (by omega))
/-- settle -/
theorem s_45 {L : List Dd} {w : Int32} {kk : Nat} (hk : kk ≤ 16) (hO : okL L) {M : mmM} (hR : rowIs 1 M.1 L) (hw : M.1 0 6 = w) (hkk : M.1 0 7 = nI kk) (z1 : zbSt 7 M.1) (z2 : zbHg 13 M.1) (z3 : zbSt 24 M.1) (z4 : zbHg 30 M.1) :
    ∃ f', rn none 45 0 [.ref 0] [] M = some (.inl none, (f', M.2)) ∧ Cls f' L w kk ∧ frm 7 17 M.1 f' := by
  have h18 := s_18 (b := 7) (rb := 1) (by simp) (w := w) hO hR
  have hm := mk_frm (b := 7) (f := M.1) (L := L) (w := w)
  have h1 := s_1 (hb := 13) (b := 7) (by simp) hk (M := (mk 7 L w M.1, M.2))
  have hh := mh_frm (hb := 13) (b := 7) (kk := kk) (f := mk 7 L w M.1)
  have hs := mk_is (b := 7) (L := L) (w := w) z1
  have hg := mh_is (hb := 13) (b := 7) (kk := kk) (f := mk 7 L w M.1) (z2.frm hm (by omega))
  rw [hs.2.2] at hg
  have e7 : mk 7 L w M.1 0 7 = nI kk := by rw [hm 0 (by omega)]; exact hkk
  refine ⟨mh 13 7 kk (mk 7 L w M.1), ?_, ⟨(hR.frm hm (by omega)).frm hh (by omega), hO, ?_, ?_, hs.frm hh (by omega), hg, (z3.frm hm (by omega)).frm hh (by omega), (z4.frm hm (by omega)).frm hh (by omega)⟩, fun a ha => ?_⟩
  · dsimp only at h1
    simp only [r_45_0, r_45_1, r_45_4, r_45_5, r_45_8, r_45_9, r_45_12, r_45_15, r_45_16, r_45_19, r_45_20, r_45_23, r_45_24, r_45_27, r_45_30, sm_0, sm_c, ct_i, ct_r, ct_n, ct_l, ct_d, cB_l, cB_r, tl_s, tl_n, oB_some, fG_r, fG_i, fP_i, aL_ok, rV_some, aI, uC_self, mmI, if_true, if_false, true_or, or_true, Nat.reduceAdd, Nat.reduceLeDiff, Nat.zero_le, Nat.reduceEqDiff, Nat.reduceSub, eq_self, Nat.le_refl, uC_ne, ne_eq, not_false_eq_true, i1_0, i0_1, i16, mm_eta, fd_0_0, fd_0_1, fd_0_2, fd_0_3, fd_0_4, fd_0_5, fd_0_6, fd_0_7, fd_1_0, fd_1_1, fd_1_2, fd_1_3, fd_1_4, fd_1_5, arr_2, arr_3, arr_4, arr_5, arr_6, fd_7_0, fd_7_1, fd_7_2, fd_7_3, fd_7_4, fd_7_5, fd_7_6, arr_8, arr_9, arr_10, arr_11, arr_12, fd_13_0, fd_13_1, fd_13_2, fd_13_3, fd_13_4, arr_14, arr_15, arr_16, arr_17, fd_18_0, fd_18_1, fd_18_2, fd_18_3, fd_18_4, fd_18_5, arr_19, arr_20, arr_21, arr_22, arr_23, fd_24_0, fd_24_1, fd_24_2, fd_24_3, fd_24_4, fd_24_5, fd_24_6, arr_25, arr_26, arr_27, arr_28, arr_29, fd_30_0, fd_30_1, fd_30_2, fd_30_3, fd_30_4, arr_31, arr_32, arr_33, arr_34, hw, h18, e7, h1]
  · rw [hh 0 (by omega), hm 0 (by omega)]; exact hw
  · rw [hh 0 (by omega)]; exact e7
  · rw [hh a (by omega), hm a (by omega)]
