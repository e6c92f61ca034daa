/-! the generated equations' own shapes -/
section QQ
variable {S : mmScr} {y pc len : Nat} {r : mmRow} {ls st : List Value} {M : mmM}
theorem mmSt1_ok {i : Nat} {v : Value} (hi : i < ls.length) (hc : i = 0 ∨ (ls.getD (i - 1) .null).category = 1) (hv : v.category = 1) : mmSt1 ls i v = some (ls.set i v) := if_pos ⟨hi, hv, hc⟩
theorem mmSt2_ok {i : Nat} {v : Value} (hi : i + 1 < ls.length) (hc : i = 0 ∨ (ls.getD (i - 1) .null).category = 1) (hv : v.category = 2) : mmSt2 ls i v = some ((ls.set i v).set (i + 1) .null) := if_pos ⟨hi, hv, hc⟩
theorem q_iconst {n : Int} {v : Int32} (hr : mmP[y]? = some r) (hd : decode (mmCd r) pc = .ok (.iconst n, 1)) (hv : Int32.ofInt n = v) : rn S y pc ls st M = rn S y (pc + 1) ls (.int v :: st) M := rn_s hr hd rfl (by rw [← hv]; rfl)
theorem q_bipush {n : Int} {v : Int32} (hr : mmP[y]? = some r) (hd : decode (mmCd r) pc = .ok (.bipush n, 2)) (hv : (Int8.ofInt n).toInt32 = v) : rn S y pc ls st M = rn S y (pc + 2) ls (.int v :: st) M := rn_s hr hd rfl (by rw [← hv]; rfl)
theorem q_lconst {n : Fin 2} {v : Int64} (hr : mmP[y]? = some r) (hd : decode (mmCd r) pc = .ok (.lconst n, 1)) (hv : Int64.ofNat (n : Nat) = v) : rn S y pc ls st M = rn S y (pc + 1) ls (.long v :: st) M := rn_s hr hd rfl (by rw [← hv]; rfl)
theorem q_istore_n {i : Fin 4} {v : Int32} {l2 : List Value} (hr : mmP[y]? = some r) (hd : decode (mmCd r) pc = .ok (.istore_n i, 1)) (h : mmSt1 ls i (.int v) = some l2) : rn S y pc ls (.int v :: st) M = rn S y (pc + 1) l2 st M := rn_s hr hd rfl (by simp [mmS, h])
theorem q_istore {i : Nat} {v : Int32} {l2 : List Value} (hr : mmP[y]? = some r) (hd : decode (mmCd r) pc = .ok (.istore i, 2)) (h : mmSt1 ls i (.int v) = some l2) : rn S y pc ls (.int v :: st) M = rn S y (pc + 2) l2 st M := rn_s hr hd rfl (by simp [mmS, h])
theorem q_lstore_n {i : Fin 4} {v : Int64} {l2 : List Value} (hr : mmP[y]? = some r) (hd : decode (mmCd r) pc = .ok (.lstore_n i, 1)) (h : mmSt2 ls i (.long v) = some l2) : rn S y pc ls (.long v :: st) M = rn S y (pc + 1) l2 st M := rn_s hr hd rfl (by simp [mmS, h])
theorem q_dstore {i : Nat} {v : UInt64} {l2 : List Value} (hr : mmP[y]? = some r) (hd : decode (mmCd r) pc = .ok (.dstore i, 2)) (h : mmSt2 ls i (.double v) = some l2) : rn S y pc ls (.double v :: st) M = rn S y (pc + 2) l2 st M := rn_s hr hd rfl (by simp [mmS, h])
theorem q_iinc {i : Nat} {n : Int} {v w : Int32} {l2 : List Value} (hr : mmP[y]? = some r) (hd : decode (mmCd r) pc = .ok (.iinc i n, 3)) (hg : ls[i]? = some (.int v)) (h : mmSt1 ls i (.int (v + w)) = some l2) (hw : Int32.ofInt n = w) : rn S y pc ls st M = rn S y (pc + 3) l2 st M := rn_s hr hd rfl (by subst hw; simp [mmS, hg, h])
theorem q_idiv {a b : Int32} (hr : mmP[y]? = some r) (hd : decode (mmCd r) pc = .ok (.idiv, 1)) (hb : ¬ b = 0) : rn S y pc ls (.int b :: .int a :: st) M = rn S y (pc + 1) ls (.int (a / b) :: st) M := rn_s hr hd rfl (by simp [mmS, hb])
theorem q_ddiv {a b : UInt64} (hr : mmP[y]? = some r) (hd : decode (mmCd r) pc = .ok (.ddiv, 1)) (hb : FP.ddiv a b &&& 0x7fffffffffffffff ≤ 0x7ff0000000000000) : rn S y pc ls (.double b :: .double a :: st) M = rn S y (pc + 1) ls (.double (FP.ddiv a b) :: st) M := rn_s hr hd rfl (by simp only [mmS]; rw [if_pos hb])
theorem q_dup {v : Value} (hr : mmP[y]? = some r) (hd : decode (mmCd r) pc = .ok (.dup, 1)) (hv : v.category = 1) : rn S y pc ls (v :: st) M = rn S y (pc + 1) ls (v :: v :: st) M := rn_s hr hd rfl (by simp [mmS, hv])
theorem q_dup2 {v w : Value} (hr : mmP[y]? = some r) (hd : decode (mmCd r) pc = .ok (.dup2, 1)) (hv : v.category = 1) (hw : w.category = 1) : rn S y pc ls (v :: w :: st) M = rn S y (pc + 1) ls (v :: w :: v :: w :: st) M := rn_s hr hd rfl (by simp [mmS, hv, hw])
theorem q_goto {off : Int} {t : Nat} (hr : mmP[y]? = some r) (hd : decode (mmCd r) pc = .ok (.goto off, 3)) (ht : mmTg pc off = some t) : rn S y pc ls st M = rn S y t ls st M := rn_s hr hd rfl (by simp [mmS, ht])
theorem q_max {i : Nat} {a b : Int32} (hr : mmP[y]? = some r) (hd : decode (mmCd r) pc = .ok (.invokestatic i, 3)) (hX : mmF3 mmMX (mmOw r) i = some ()) (hw : decide (1 ≤ mmFr r ∧ 21 ≤ mmLo r) = true) (h8 : mmSm st ≤ 8) : rn S y pc ls (.int b :: .int a :: st) M = rn S y (pc + 3) ls (.int (if a < b then b else a) :: st) M := rn_s hr hd rfl (by simp only [mmS, hw, hX]; rw [if_pos ⟨trivial, h8⟩])
theorem q_iret {v : Int32} (hr : mmP[y]? = some r) (hd : decode (mmCd r) pc = .ok (.ireturn, 1)) (ht : mmRt r = some .int) : rn S y pc ls [.int v] M = some (.inl (some (.int v)), M) := rn_ret hr hd rfl rfl (by simp [mmE, ht])
theorem q_lret {v : Int64} (hr : mmP[y]? = some r) (hd : decode (mmCd r) pc = .ok (.lreturn, 1)) (ht : mmRt r = some .long) : rn S y pc ls [.long v] M = some (.inl (some (.long v)), M) := rn_ret hr hd rfl rfl (by simp [mmE, ht])
theorem q_dret {v : UInt64} (hr : mmP[y]? = some r) (hd : decode (mmCd r) pc = .ok (.dreturn, 1)) (ht : mmRt r = some .double) : rn S y pc ls [.double v] M = some (.inl (some (.double v)), M) := rn_ret hr hd rfl rfl (by simp [mmE, ht])
theorem q_vret (hr : mmP[y]? = some r) (hd : decode (mmCd r) pc = .ok (.return_, 1)) (ht : mmRt r = none) : rn S y pc ls [] M = some (.inl none, M) := rn_ret hr hd rfl rfl (by simp [mmE, ht])
theorem q_if_eq {a : Int32} {off : Int} {t : Nat} (hr : mmP[y]? = some r) (hd : decode (mmCd r) pc = .ok (.ifCond .eq off, 3)) (ht : mmTg pc off = some t) : rn S y pc ls (.int a :: st) M = if a = 0 then rn S y t ls st M else rn S y (pc + 3) ls st M := rn_if hr hd rfl (show mmIf _ _ _ _ _ _ _ = _ from mmIf_c (by simp [mmCnd])) ht
theorem q_ic_eq {a b : Int32} {off : Int} {t : Nat} (hr : mmP[y]? = some r) (hd : decode (mmCd r) pc = .ok (.if_icmp .eq off, 3)) (ht : mmTg pc off = some t) : rn S y pc ls (.int b :: .int a :: st) M = if a = b then rn S y t ls st M else rn S y (pc + 3) ls st M := rn_if hr hd rfl (show mmIf _ _ _ _ _ _ _ = _ from mmIf_c (by simp [mmCnd])) ht
theorem q_if_ne {a : Int32} {off : Int} {t : Nat} (hr : mmP[y]? = some r) (hd : decode (mmCd r) pc = .ok (.ifCond .ne off, 3)) (ht : mmTg pc off = some t) : rn S y pc ls (.int a :: st) M = if ¬ a = 0 then rn S y t ls st M else rn S y (pc + 3) ls st M := rn_if hr hd rfl (show mmIf _ _ _ _ _ _ _ = _ from mmIf_c (by simp [mmCnd])) ht
theorem q_ic_ne {a b : Int32} {off : Int} {t : Nat} (hr : mmP[y]? = some r) (hd : decode (mmCd r) pc = .ok (.if_icmp .ne off, 3)) (ht : mmTg pc off = some t) : rn S y pc ls (.int b :: .int a :: st) M = if ¬ a = b then rn S y t ls st M else rn S y (pc + 3) ls st M := rn_if hr hd rfl (show mmIf _ _ _ _ _ _ _ = _ from mmIf_c (by simp [mmCnd])) ht
theorem q_if_lt {a : Int32} {off : Int} {t : Nat} (hr : mmP[y]? = some r) (hd : decode (mmCd r) pc = .ok (.ifCond .lt off, 3)) (ht : mmTg pc off = some t) : rn S y pc ls (.int a :: st) M = if a < 0 then rn S y t ls st M else rn S y (pc + 3) ls st M := rn_if hr hd rfl (show mmIf _ _ _ _ _ _ _ = _ from mmIf_c (by simp [mmCnd])) ht
theorem q_ic_lt {a b : Int32} {off : Int} {t : Nat} (hr : mmP[y]? = some r) (hd : decode (mmCd r) pc = .ok (.if_icmp .lt off, 3)) (ht : mmTg pc off = some t) : rn S y pc ls (.int b :: .int a :: st) M = if a < b then rn S y t ls st M else rn S y (pc + 3) ls st M := rn_if hr hd rfl (show mmIf _ _ _ _ _ _ _ = _ from mmIf_c (by simp [mmCnd])) ht
theorem q_if_ge {a : Int32} {off : Int} {t : Nat} (hr : mmP[y]? = some r) (hd : decode (mmCd r) pc = .ok (.ifCond .ge off, 3)) (ht : mmTg pc off = some t) : rn S y pc ls (.int a :: st) M = if 0 ≤ a then rn S y t ls st M else rn S y (pc + 3) ls st M := rn_if hr hd rfl (show mmIf _ _ _ _ _ _ _ = _ from mmIf_c (by simp [mmCnd])) ht
theorem q_ic_ge {a b : Int32} {off : Int} {t : Nat} (hr : mmP[y]? = some r) (hd : decode (mmCd r) pc = .ok (.if_icmp .ge off, 3)) (ht : mmTg pc off = some t) : rn S y pc ls (.int b :: .int a :: st) M = if b ≤ a then rn S y t ls st M else rn S y (pc + 3) ls st M := rn_if hr hd rfl (show mmIf _ _ _ _ _ _ _ = _ from mmIf_c (by simp [mmCnd])) ht
theorem q_if_gt {a : Int32} {off : Int} {t : Nat} (hr : mmP[y]? = some r) (hd : decode (mmCd r) pc = .ok (.ifCond .gt off, 3)) (ht : mmTg pc off = some t) : rn S y pc ls (.int a :: st) M = if 0 < a then rn S y t ls st M else rn S y (pc + 3) ls st M := rn_if hr hd rfl (show mmIf _ _ _ _ _ _ _ = _ from mmIf_c (by simp [mmCnd])) ht
theorem q_ic_gt {a b : Int32} {off : Int} {t : Nat} (hr : mmP[y]? = some r) (hd : decode (mmCd r) pc = .ok (.if_icmp .gt off, 3)) (ht : mmTg pc off = some t) : rn S y pc ls (.int b :: .int a :: st) M = if b < a then rn S y t ls st M else rn S y (pc + 3) ls st M := rn_if hr hd rfl (show mmIf _ _ _ _ _ _ _ = _ from mmIf_c (by simp [mmCnd])) ht
theorem q_if_le {a : Int32} {off : Int} {t : Nat} (hr : mmP[y]? = some r) (hd : decode (mmCd r) pc = .ok (.ifCond .le off, 3)) (ht : mmTg pc off = some t) : rn S y pc ls (.int a :: st) M = if a ≤ 0 then rn S y t ls st M else rn S y (pc + 3) ls st M := rn_if hr hd rfl (show mmIf _ _ _ _ _ _ _ = _ from mmIf_c (by simp [mmCnd])) ht
theorem q_ic_le {a b : Int32} {off : Int} {t : Nat} (hr : mmP[y]? = some r) (hd : decode (mmCd r) pc = .ok (.if_icmp .le off, 3)) (ht : mmTg pc off = some t) : rn S y pc ls (.int b :: .int a :: st) M = if a ≤ b then rn S y t ls st M else rn S y (pc + 3) ls st M := rn_if hr hd rfl (show mmIf _ _ _ _ _ _ _ = _ from mmIf_c (by simp [mmCnd])) ht
end QQ
theorem row_0 : mmP[0]? = some mr0 := rfl
theorem row_1 : mmP[1]? = some mr1 := rfl
theorem row_2 : mmP[2]? = some mr2 := rfl
theorem row_3 : mmP[3]? = some mr3 := rfl
theorem row_4 : mmP[4]? = some mr4 := rfl
theorem row_5 : mmP[5]? = some mr5 := rfl
theorem row_6 : mmP[6]? = some mr6 := rfl
theorem row_7 : mmP[7]? = some mr7 := rfl
theorem row_8 : mmP[8]? = some mr8 := rfl
theorem row_9 : mmP[9]? = some mr9 := rfl
theorem row_10 : mmP[10]? = some mr10 := rfl
theorem row_11 : mmP[11]? = some mr11 := rfl
theorem row_12 : mmP[12]? = some mr12 := rfl
theorem row_13 : mmP[13]? = some mr13 := rfl
theorem row_14 : mmP[14]? = some mr14 := rfl
theorem row_15 : mmP[15]? = some mr15 := rfl
theorem row_16 : mmP[16]? = some mr16 := rfl
theorem row_17 : mmP[17]? = some mr17 := rfl
theorem row_18 : mmP[18]? = some mr18 := rfl
theorem row_19 : mmP[19]? = some mr19 := rfl
theorem row_20 : mmP[20]? = some mr20 := rfl
theorem row_21 : mmP[21]? = some mr21 := rfl
theorem row_22 : mmP[22]? = some mr22 := rfl
theorem row_23 : mmP[23]? = some mr23 := rfl
theorem row_24 : mmP[24]? = some mr24 := rfl
theorem row_25 : mmP[25]? = some mr25 := rfl
theorem row_26 : mmP[26]? = some mr26 := rfl
theorem row_27 : mmP[27]? = some mr27 := rfl
theorem row_28 : mmP[28]? = some mr28 := rfl
theorem row_29 : mmP[29]? = some mr29 := rfl
theorem row_30 : mmP[30]? = some mr30 := rfl
theorem row_31 : mmP[31]? = some mr31 := rfl
theorem row_32 : mmP[32]? = some mr32 := rfl
theorem row_33 : mmP[33]? = some mr33 := rfl
theorem row_34 : mmP[34]? = some mr34 := rfl
theorem row_35 : mmP[35]? = some mr35 := rfl
theorem row_36 : mmP[36]? = some mr36 := rfl
theorem row_37 : mmP[37]? = some mr37 := rfl
theorem row_38 : mmP[38]? = some mr38 := rfl
theorem row_39 : mmP[39]? = some mr39 := rfl
theorem row_40 : mmP[40]? = some mr40 := rfl
theorem row_41 : mmP[41]? = some mr41 := rfl
theorem row_42 : mmP[42]? = some mr42 := rfl
theorem row_43 : mmP[43]? = some mr43 := rfl
theorem row_44 : mmP[44]? = some mr44 := rfl
theorem row_45 : mmP[45]? = some mr45 := rfl
theorem row_46 : mmP[46]? = some mr46 := rfl
theorem row_47 : mmP[47]? = some mr47 := rfl
theorem row_48 : mmP[48]? = some mr48 := rfl
theorem row_49 : mmP[49]? = some mr49 := rfl
theorem row_50 : mmP[50]? = some mr50 := rfl
theorem row_51 : mmP[51]? = some mr51 := rfl
theorem row_52 : mmP[52]? = some mr52 := rfl
theorem row_53 : mmP[53]? = some mr53 := rfl
theorem row_54 : mmP[54]? = some mr54 := rfl
theorem row_55 : mmP[55]? = some mr55 := rfl
theorem row_56 : mmP[56]? = some mr56 := rfl
theorem row_57 : mmP[57]? = some mr57 := rfl
theorem row_58 : mmP[58]? = some mr58 := rfl
theorem row_59 : mmP[59]? = some mr59 := rfl
theorem row_60 : mmP[60]? = some mr60 := rfl
theorem row_61 : mmP[61]? = some mr61 := rfl
theorem row_62 : mmP[62]? = some mr62 := rfl
theorem row_63 : mmP[63]? = some mr63 := rfl
theorem row_64 : mmP[64]? = some mr64 := rfl
theorem row_65 : mmP[65]? = some mr65 := rfl
theorem row_66 : mmP[66]? = some mr66 := rfl
theorem row_67 : mmP[67]? = some mr67 := rfl
theorem row_68 : mmP[68]? = some mr68 := rfl
theorem row_69 : mmP[69]? = some mr69 := rfl
theorem row_70 : mmP[70]? = some mr70 := rfl
theorem row_71 : mmP[71]? = some mr71 := rfl
theorem row_72 : mmP[72]? = some mr72 := rfl
theorem row_73 : mmP[73]? = some mr73 := rfl
theorem row_74 : mmP[74]? = some mr74 := rfl
theorem row_75 : mmP[75]? = some mr75 := rfl
theorem row_76 : mmP[76]? = some mr76 := rfl
theorem row_77 : mmP[77]? = some mr77 := rfl
theorem row_78 : mmP[78]? = some mr78 := rfl
theorem row_79 : mmP[79]? = some mr79 := rfl
theorem row_80 : mmP[80]? = some mr80 := rfl
theorem row_81 : mmP[81]? = some mr81 := rfl
theorem row_82 : mmP[82]? = some mr82 := rfl
theorem row_83 : mmP[83]? = some mr83 := rfl
theorem fd_0_0 : mmFd 35 3 0 0 = some (some 1) := rfl
theorem fd_0_1 : mmFd 35 3 1 0 = some (some 7) := rfl
theorem fd_0_2 : mmFd 35 3 2 0 = some (some 13) := rfl
theorem fd_0_3 : mmFd 35 3 3 0 = some (some 18) := rfl
theorem fd_0_4 : mmFd 35 3 4 0 = some (some 24) := rfl
theorem fd_0_5 : mmFd 35 3 5 0 = some (some 30) := rfl
theorem fd_0_6 : mmFd 35 3 6 0 = some (none) := rfl
theorem fd_0_7 : mmFd 35 3 7 0 = some (none) := rfl
theorem fd_1_0 : mmFd 35 1 0 1 = some (some 2) := rfl
theorem fd_1_1 : mmFd 35 1 1 1 = some (some 3) := rfl
theorem fd_1_2 : mmFd 35 1 2 1 = some (some 4) := rfl
theorem fd_1_3 : mmFd 35 1 3 1 = some (some 5) := rfl
theorem fd_1_4 : mmFd 35 1 4 1 = some (some 6) := rfl
theorem fd_1_5 : mmFd 35 1 5 1 = some (none) := rfl
theorem arr_2 : mmArr 35 2 = some (0, 30) := rfl
theorem arr_3 : mmArr 35 3 = some (0, 30) := rfl
theorem arr_4 : mmArr 35 4 = some (0, 30) := rfl
theorem arr_5 : mmArr 35 5 = some (0, 30) := rfl
theorem arr_6 : mmArr 35 6 = some (1, 30) := rfl
theorem fd_7_0 : mmFd 35 2 0 7 = some (some 8) := rfl
theorem fd_7_1 : mmFd 35 2 1 7 = some (some 9) := rfl
theorem fd_7_2 : mmFd 35 2 2 7 = some (some 10) := rfl
theorem fd_7_3 : mmFd 35 2 3 7 = some (some 11) := rfl
theorem fd_7_4 : mmFd 35 2 4 7 = some (some 12) := rfl
theorem fd_7_5 : mmFd 35 2 5 7 = some (none) := rfl
theorem fd_7_6 : mmFd 35 2 6 7 = some (none) := rfl
theorem arr_8 : mmArr 35 8 = some (0, 30) := rfl
theorem arr_9 : mmArr 35 9 = some (0, 30) := rfl
theorem arr_10 : mmArr 35 10 = some (0, 16) := rfl
theorem arr_11 : mmArr 35 11 = some (0, 16) := rfl
theorem arr_12 : mmArr 35 12 = some (0, 16) := rfl
theorem fd_13_0 : mmFd 35 0 0 13 = some (some 14) := rfl
theorem fd_13_1 : mmFd 35 0 1 13 = some (some 15) := rfl
theorem fd_13_2 : mmFd 35 0 2 13 = some (some 16) := rfl
theorem fd_13_3 : mmFd 35 0 3 13 = some (some 17) := rfl
theorem fd_13_4 : mmFd 35 0 4 13 = some (none) := rfl
theorem arr_14 : mmArr 35 14 = some (0, 16) := rfl
theorem arr_15 : mmArr 35 15 = some (0, 16) := rfl
theorem arr_16 : mmArr 35 16 = some (0, 16) := rfl
theorem arr_17 : mmArr 35 17 = some (0, 16) := rfl
theorem fd_18_0 : mmFd 35 1 0 18 = some (some 19) := rfl
theorem fd_18_1 : mmFd 35 1 1 18 = some (some 20) := rfl
theorem fd_18_2 : mmFd 35 1 2 18 = some (some 21) := rfl
theorem fd_18_3 : mmFd 35 1 3 18 = some (some 22) := rfl
theorem fd_18_4 : mmFd 35 1 4 18 = some (some 23) := rfl
theorem fd_18_5 : mmFd 35 1 5 18 = some (none) := rfl
theorem arr_19 : mmArr 35 19 = some (0, 30) := rfl
theorem arr_20 : mmArr 35 20 = some (0, 30) := rfl
theorem arr_21 : mmArr 35 21 = some (0, 30) := rfl
theorem arr_22 : mmArr 35 22 = some (0, 30) := rfl
theorem arr_23 : mmArr 35 23 = some (1, 30) := rfl
theorem fd_24_0 : mmFd 35 2 0 24 = some (some 25) := rfl
theorem fd_24_1 : mmFd 35 2 1 24 = some (some 26) := rfl
theorem fd_24_2 : mmFd 35 2 2 24 = some (some 27) := rfl
theorem fd_24_3 : mmFd 35 2 3 24 = some (some 28) := rfl
theorem fd_24_4 : mmFd 35 2 4 24 = some (some 29) := rfl
theorem fd_24_5 : mmFd 35 2 5 24 = some (none) := rfl
theorem fd_24_6 : mmFd 35 2 6 24 = some (none) := rfl
theorem arr_25 : mmArr 35 25 = some (0, 30) := rfl
theorem arr_26 : mmArr 35 26 = some (0, 30) := rfl
theorem arr_27 : mmArr 35 27 = some (0, 16) := rfl
theorem arr_28 : mmArr 35 28 = some (0, 16) := rfl
theorem arr_29 : mmArr 35 29 = some (0, 16) := rfl
theorem fd_30_0 : mmFd 35 0 0 30 = some (some 31) := rfl
theorem fd_30_1 : mmFd 35 0 1 30 = some (some 32) := rfl
theorem fd_30_2 : mmFd 35 0 2 30 = some (some 33) := rfl
theorem fd_30_3 : mmFd 35 0 3 30 = some (some 34) := rfl
theorem fd_30_4 : mmFd 35 0 4 30 = some (none) := rfl
theorem arr_31 : mmArr 35 31 = some (0, 16) := rfl
theorem arr_32 : mmArr 35 32 = some (0, 16) := rfl
theorem arr_33 : mmArr 35 33 = some (0, 16) := rfl
theorem arr_34 : mmArr 35 34 = some (0, 16) := rfl
