/-! the tables' good words, and which of them the small machine's tables name -/
def mmBW : List Cond := lw_tbl.filter goodWord
theorem bw1 {i : Nat} {w : Cond} (h : tables_1_1[i]? = some w) (g : goodWord w = true) : w ∈ mmBW := List.mem_filter.mpr ⟨List.mem_append_right _ (List.mem_append_left _ (List.mem_of_getElem? h)), g⟩
theorem bw2 {i : Nat} {w : Cond} (h : tables_1_2[i]? = some w) (g : goodWord w = true) : w ∈ mmBW := List.mem_filter.mpr ⟨List.mem_append_right _ (List.mem_append_right _ (List.mem_append_left _ (List.mem_of_getElem? h))), g⟩
theorem bw3 {i : Nat} {w : Cond} (h : tables_1_3[i]? = some w) (g : goodWord w = true) : w ∈ mmBW := List.mem_filter.mpr ⟨List.mem_append_right _ (List.mem_append_right _ (List.mem_append_right _ (List.mem_of_getElem? h))), g⟩
theorem bwp {i : Nat} {q : MethodName × Nat} (h : lw_privs[i]? = some q) : Cond.selects q.1.cls q.1 q.1 ∈ mmBW := List.mem_filter.mpr ⟨List.mem_append_left _ (List.mem_map.mpr ⟨q, List.mem_of_getElem? h, rfl⟩), rfl⟩
theorem bw_good {w : Cond} (h : w ∈ mmBW) : (w.onTables && w.keeps) = true ∨ ∃ ty, w = .arrayClass ty := good_of_word (List.mem_filter.mp h).2
theorem bw_tbl {w : Cond} (h : w ∈ mmBW) : w ∈ lw_tbl := (List.mem_filter.mp h).1
/-- a method's own word -/
def mmHd (r : mmRow) : Cond := if mmHh r = [] then .code (mmNm r) (mmCd r) (mmMl r) (mmRt r) else .codeWith (mmNm r) (mmCd r) (mmMl r) (mmRt r) (mmHh r)
/-- what the tables say of a method that is called -/
def mmOk (r : mmRow) : Prop := mmHd r ∈ mmBW ∧ plainName (mmNm r).cls = true ∧ (mmNm r).cls ≠ "java/lang/invoke/MethodHandle" ∧ (mmNm r).cls ≠ "java/lang/invoke/VarHandle" ∧ (parseMethodDescriptor (mmNm r).desc).map (fun d => d.parameters.length) = some (mmNa r) ∧ Cond.initialized (mmNm r).cls ∈ mmBW ∧ mmOwn[mmOw r]? = some (mmNm r).cls ∧ (mmSt r = true → Cond.static (mmNm r) ∈ mmBW) ∧ (mmSt r = false → Cond.instanceMethod (mmNm r) ∈ mmBW ∧ Cond.selects (mmNm r).cls (mmNm r) (mmNm r) ∈ mmBW)

theorem bwi_RX1 : Cond.initialized RX1 ∈ mmBW := bw1 (i := 2) (by decide +kernel) rfl
theorem bwi_RJ7 : Cond.initialized RJ7 ∈ mmBW := bw1 (i := 5) (by decide +kernel) rfl
theorem bwi_RJ9 : Cond.initialized RJ9 ∈ mmBW := bw1 (i := 14) (by decide +kernel) rfl
theorem bwi_RX3 : Cond.initialized RX3 ∈ mmBW := bw1 (i := 1) (by decide +kernel) rfl
theorem bwi_RX0 : Cond.initialized RX0 ∈ mmBW := bw1 (i := 4) (by decide +kernel) rfl
theorem bwi_RL : Cond.initialized RL ∈ mmBW := bw1 (i := 0) (by decide +kernel) rfl
theorem bwi_RX2 : Cond.initialized RX2 ∈ mmBW := bw1 (i := 3) (by decide +kernel) rfl
theorem bwi_RX4 : Cond.initialized RX4 ∈ mmBW := bw1 (i := 7) (by decide +kernel) rfl
theorem bwi_RJ6 : Cond.initialized RJ6 ∈ mmBW := bw1 (i := 6) (by decide +kernel) rfl
theorem bwc_1 : mmHd mr1 ∈ mmBW := bw1 (i := 175) rfl rfl
theorem bwn_1 : Cond.instanceMethod yX0_make ∈ mmBW := bw1 (i := 173) (by decide +kernel) rfl
theorem bwl_1 : Cond.selects RX0 yX0_make yX0_make ∈ mmBW := bw1 (i := 174) (by decide +kernel) rfl
theorem mok_1 : mmOk mr1 := ⟨bwc_1, by decide +kernel, by decide +kernel, by decide +kernel, by decide +kernel, bwi_RX0, rfl, fun h => absurd h (by decide), fun _ => ⟨bwn_1, bwl_1⟩⟩
theorem bwc_2 : mmHd mr2 ∈ mmBW := bw2 (i := 105) rfl rfl
theorem bwn_2 : Cond.instanceMethod yX0_hooksInUse ∈ mmBW := bw2 (i := 103) (by decide +kernel) rfl
theorem bwl_2 : Cond.selects RX0 yX0_hooksInUse yX0_hooksInUse ∈ mmBW := bw2 (i := 104) (by decide +kernel) rfl
theorem mok_2 : mmOk mr2 := ⟨bwc_2, by decide +kernel, by decide +kernel, by decide +kernel, by decide +kernel, bwi_RX0, rfl, fun h => absurd h (by decide), fun _ => ⟨bwn_2, bwl_2⟩⟩
theorem bwc_3 : mmHd mr3 ∈ mmBW := bw2 (i := 121) rfl rfl
theorem bwn_3 : Cond.instanceMethod yX0_share ∈ mmBW := bw2 (i := 119) (by decide +kernel) rfl
theorem bwl_3 : Cond.selects RX0 yX0_share yX0_share ∈ mmBW := bw2 (i := 120) (by decide +kernel) rfl
theorem mok_3 : mmOk mr3 := ⟨bwc_3, by decide +kernel, by decide +kernel, by decide +kernel, by decide +kernel, bwi_RX0, rfl, fun h => absurd h (by decide), fun _ => ⟨bwn_3, bwl_3⟩⟩
theorem bwc_4 : mmHd mr4 ∈ mmBW := bw1 (i := 179) rfl rfl
theorem bwn_4 : Cond.instanceMethod yX0_putAside ∈ mmBW := bw1 (i := 178) (by decide +kernel) rfl
theorem bwl_4 : Cond.selects RX0 yX0_putAside yX0_putAside ∈ mmBW := bwp (i := 6) rfl
theorem mok_4 : mmOk mr4 := ⟨bwc_4, by decide +kernel, by decide +kernel, by decide +kernel, by decide +kernel, bwi_RX0, rfl, fun h => absurd h (by decide), fun _ => ⟨bwn_4, bwl_4⟩⟩
theorem bwc_5 : mmHd mr5 ∈ mmBW := bw1 (i := 183) rfl rfl
theorem bws_5 : Cond.static yX0_firstEasy ∈ mmBW := bw1 (i := 182) (by decide +kernel) rfl
theorem mok_5 : mmOk mr5 := ⟨bwc_5, by decide +kernel, by decide +kernel, by decide +kernel, by decide +kernel, bwi_RX0, rfl, fun _ => bws_5, fun h => absurd h (by decide)⟩
theorem bwc_6 : mmHd mr6 ∈ mmBW := bw1 (i := 193) rfl rfl
theorem bws_6 : Cond.static yX0_cheapest ∈ mmBW := bw1 (i := 192) (by decide +kernel) rfl
theorem mok_6 : mmOk mr6 := ⟨bwc_6, by decide +kernel, by decide +kernel, by decide +kernel, by decide +kernel, bwi_RX0, rfl, fun _ => bws_6, fun h => absurd h (by decide)⟩
theorem bwc_7 : mmHd mr7 ∈ mmBW := bw1 (i := 199) rfl rfl
theorem bwn_7 : Cond.instanceMethod yX0_hangUp ∈ mmBW := bw1 (i := 198) (by decide +kernel) rfl
theorem bwl_7 : Cond.selects RX0 yX0_hangUp yX0_hangUp ∈ mmBW := bwp (i := 7) rfl
theorem mok_7 : mmOk mr7 := ⟨bwc_7, by decide +kernel, by decide +kernel, by decide +kernel, by decide +kernel, bwi_RX0, rfl, fun h => absurd h (by decide), fun _ => ⟨bwn_7, bwl_7⟩⟩
theorem bwc_8 : mmHd mr8 ∈ mmBW := bw1 (i := 203) rfl rfl
theorem bwn_8 : Cond.instanceMethod yX0_hookOfPartner ∈ mmBW := bw1 (i := 202) (by decide +kernel) rfl
theorem bwl_8 : Cond.selects RX0 yX0_hookOfPartner yX0_hookOfPartner ∈ mmBW := bwp (i := 8) rfl
theorem mok_8 : mmOk mr8 := ⟨bwc_8, by decide +kernel, by decide +kernel, by decide +kernel, by decide +kernel, bwi_RX0, rfl, fun h => absurd h (by decide), fun _ => ⟨bwn_8, bwl_8⟩⟩
theorem bwc_9 : mmHd mr9 ∈ mmBW := bw1 (i := 211) rfl rfl
theorem bwn_9 : Cond.instanceMethod yX0_firstFree ∈ mmBW := bw1 (i := 210) (by decide +kernel) rfl
theorem bwl_9 : Cond.selects RX0 yX0_firstFree yX0_firstFree ∈ mmBW := bwp (i := 10) rfl
theorem mok_9 : mmOk mr9 := ⟨bwc_9, by decide +kernel, by decide +kernel, by decide +kernel, by decide +kernel, bwi_RX0, rfl, fun h => absurd h (by decide), fun _ => ⟨bwn_9, bwl_9⟩⟩
theorem bwc_10 : mmHd mr10 ∈ mmBW := bw1 (i := 207) rfl rfl
theorem bwn_10 : Cond.instanceMethod yX0_isFree ∈ mmBW := bw1 (i := 206) (by decide +kernel) rfl
theorem bwl_10 : Cond.selects RX0 yX0_isFree yX0_isFree ∈ mmBW := bwp (i := 9) rfl
theorem mok_10 : mmOk mr10 := ⟨bwc_10, by decide +kernel, by decide +kernel, by decide +kernel, by decide +kernel, bwi_RX0, rfl, fun h => absurd h (by decide), fun _ => ⟨bwn_10, bwl_10⟩⟩
theorem bwc_12 : mmHd mr12 ∈ mmBW := bw3 (i := 64) rfl rfl
theorem bwn_12 : Cond.instanceMethod yX1_add ∈ mmBW := bw3 (i := 62) (by decide +kernel) rfl
theorem bwl_12 : Cond.selects RX1 yX1_add yX1_add ∈ mmBW := bw3 (i := 63) (by decide +kernel) rfl
theorem mok_12 : mmOk mr12 := ⟨bwc_12, by decide +kernel, by decide +kernel, by decide +kernel, by decide +kernel, bwi_RX1, rfl, fun h => absurd h (by decide), fun _ => ⟨bwn_12, bwl_12⟩⟩
theorem bwc_13 : mmHd mr13 ∈ mmBW := bw2 (i := 190) rfl rfl
theorem bwn_13 : Cond.instanceMethod yX1_remove ∈ mmBW := bw2 (i := 188) (by decide +kernel) rfl
theorem bwl_13 : Cond.selects RX1 yX1_remove yX1_remove ∈ mmBW := bw2 (i := 189) (by decide +kernel) rfl
theorem mok_13 : mmOk mr13 := ⟨bwc_13, by decide +kernel, by decide +kernel, by decide +kernel, by decide +kernel, bwi_RX1, rfl, fun h => absurd h (by decide), fun _ => ⟨bwn_13, bwl_13⟩⟩
theorem bwc_14 : mmHd mr14 ∈ mmBW := bw2 (i := 182) rfl rfl
theorem bwn_14 : Cond.instanceMethod yX1_copy ∈ mmBW := bw2 (i := 180) (by decide +kernel) rfl
theorem bwl_14 : Cond.selects RX1 yX1_copy yX1_copy ∈ mmBW := bw2 (i := 181) (by decide +kernel) rfl
theorem mok_14 : mmOk mr14 := ⟨bwc_14, by decide +kernel, by decide +kernel, by decide +kernel, by decide +kernel, bwi_RX1, rfl, fun h => absurd h (by decide), fun _ => ⟨bwn_14, bwl_14⟩⟩
theorem bwc_15 : mmHd mr15 ∈ mmBW := bw1 (i := 144) rfl rfl
theorem bwn_15 : Cond.instanceMethod yX1_used ∈ mmBW := bw1 (i := 142) (by decide +kernel) rfl
theorem bwl_15 : Cond.selects RX1 yX1_used yX1_used ∈ mmBW := bw1 (i := 143) (by decide +kernel) rfl
theorem mok_15 : mmOk mr15 := ⟨bwc_15, by decide +kernel, by decide +kernel, by decide +kernel, by decide +kernel, bwi_RX1, rfl, fun h => absurd h (by decide), fun _ => ⟨bwn_15, bwl_15⟩⟩
theorem bwc_16 : mmHd mr16 ∈ mmBW := bw2 (i := 186) rfl rfl
theorem bwn_16 : Cond.instanceMethod yX1_takeOver ∈ mmBW := bw2 (i := 185) (by decide +kernel) rfl
theorem bwl_16 : Cond.selects RX1 yX1_takeOver yX1_takeOver ∈ mmBW := bwp (i := 19) rfl
theorem mok_16 : mmOk mr16 := ⟨bwc_16, by decide +kernel, by decide +kernel, by decide +kernel, by decide +kernel, bwi_RX1, rfl, fun h => absurd h (by decide), fun _ => ⟨bwn_16, bwl_16⟩⟩
theorem bwc_18 : mmHd mr18 ∈ mmBW := bw1 (i := 133) rfl rfl
theorem bwn_18 : Cond.instanceMethod yX2_make ∈ mmBW := bw1 (i := 131) (by decide +kernel) rfl
theorem bwl_18 : Cond.selects RX2 yX2_make yX2_make ∈ mmBW := bw1 (i := 132) (by decide +kernel) rfl
theorem mok_18 : mmOk mr18 := ⟨bwc_18, by decide +kernel, by decide +kernel, by decide +kernel, by decide +kernel, bwi_RX2, rfl, fun h => absurd h (by decide), fun _ => ⟨bwn_18, bwl_18⟩⟩
theorem bwc_19 : mmHd mr19 ∈ mmBW := bw2 (i := 100) rfl rfl
theorem bwn_19 : Cond.instanceMethod yX2_pairsOfClashes ∈ mmBW := bw2 (i := 98) (by decide +kernel) rfl
theorem bwl_19 : Cond.selects RX2 yX2_pairsOfClashes yX2_pairsOfClashes ∈ mmBW := bw2 (i := 99) (by decide +kernel) rfl
theorem mok_19 : mmOk mr19 := ⟨bwc_19, by decide +kernel, by decide +kernel, by decide +kernel, by decide +kernel, bwi_RX2, rfl, fun h => absurd h (by decide), fun _ => ⟨bwn_19, bwl_19⟩⟩
theorem bwc_20 : mmHd mr20 ∈ mmBW := bw2 (i := 125) rfl rfl
theorem bwn_20 : Cond.instanceMethod yX2_costOf ∈ mmBW := bw2 (i := 123) (by decide +kernel) rfl
theorem bwl_20 : Cond.selects RX2 yX2_costOf yX2_costOf ∈ mmBW := bw2 (i := 124) (by decide +kernel) rfl
theorem mok_20 : mmOk mr20 := ⟨bwc_20, by decide +kernel, by decide +kernel, by decide +kernel, by decide +kernel, bwi_RX2, rfl, fun h => absurd h (by decide), fun _ => ⟨bwn_20, bwl_20⟩⟩
theorem bwc_21 : mmHd mr21 ∈ mmBW := bw1 (i := 140) rfl rfl
theorem bwn_21 : Cond.instanceMethod yX2_findLives ∈ mmBW := bw1 (i := 139) (by decide +kernel) rfl
theorem bwl_21 : Cond.selects RX2 yX2_findLives yX2_findLives ∈ mmBW := bwp (i := 1) rfl
theorem mok_21 : mmOk mr21 := ⟨bwc_21, by decide +kernel, by decide +kernel, by decide +kernel, by decide +kernel, bwi_RX2, rfl, fun h => absurd h (by decide), fun _ => ⟨bwn_21, bwl_21⟩⟩
theorem bwc_22 : mmHd mr22 ∈ mmBW := bw1 (i := 163) rfl rfl
theorem bwn_22 : Cond.instanceMethod yX2_takeIn ∈ mmBW := bw1 (i := 162) (by decide +kernel) rfl
theorem bwl_22 : Cond.selects RX2 yX2_takeIn yX2_takeIn ∈ mmBW := bwp (i := 3) rfl
theorem mok_22 : mmOk mr22 := ⟨bwc_22, by decide +kernel, by decide +kernel, by decide +kernel, by decide +kernel, bwi_RX2, rfl, fun h => absurd h (by decide), fun _ => ⟨bwn_22, bwl_22⟩⟩
theorem bwc_23 : mmHd mr23 ∈ mmBW := bw1 (i := 167) rfl rfl
theorem bwn_23 : Cond.instanceMethod yX2_addCost ∈ mmBW := bw1 (i := 166) (by decide +kernel) rfl
theorem bwl_23 : Cond.selects RX2 yX2_addCost yX2_addCost ∈ mmBW := bwp (i := 4) rfl
theorem mok_23 : mmOk mr23 := ⟨bwc_23, by decide +kernel, by decide +kernel, by decide +kernel, by decide +kernel, bwi_RX2, rfl, fun h => absurd h (by decide), fun _ => ⟨bwn_23, bwl_23⟩⟩
theorem bwc_24 : mmHd mr24 ∈ mmBW := bw1 (i := 171) rfl rfl
theorem bwn_24 : Cond.instanceMethod yX2_addPoured ∈ mmBW := bw1 (i := 170) (by decide +kernel) rfl
theorem bwl_24 : Cond.selects RX2 yX2_addPoured yX2_addPoured ∈ mmBW := bwp (i := 5) rfl
theorem mok_24 : mmOk mr24 := ⟨bwc_24, by decide +kernel, by decide +kernel, by decide +kernel, by decide +kernel, bwi_RX2, rfl, fun h => absurd h (by decide), fun _ => ⟨bwn_24, bwl_24⟩⟩
theorem bwc_25 : mmHd mr25 ∈ mmBW := bw1 (i := 158) rfl rfl
theorem bwn_25 : Cond.instanceMethod yX2_addClashes ∈ mmBW := bw1 (i := 157) (by decide +kernel) rfl
theorem bwl_25 : Cond.selects RX2 yX2_addClashes yX2_addClashes ∈ mmBW := bwp (i := 2) rfl
theorem mok_25 : mmOk mr25 := ⟨bwc_25, by decide +kernel, by decide +kernel, by decide +kernel, by decide +kernel, bwi_RX2, rfl, fun h => absurd h (by decide), fun _ => ⟨bwn_25, bwl_25⟩⟩
theorem bwc_27 : mmHd mr27 ∈ mmBW := bw3 (i := 52) rfl rfl
theorem bwn_27 : Cond.instanceMethod yX3_cook ∈ mmBW := bw3 (i := 50) (by decide +kernel) rfl
theorem bwl_27 : Cond.selects RX3 yX3_cook yX3_cook ∈ mmBW := bw3 (i := 51) (by decide +kernel) rfl
theorem mok_27 : mmOk mr27 := ⟨bwc_27, by decide +kernel, by decide +kernel, by decide +kernel, by decide +kernel, bwi_RX3, rfl, fun h => absurd h (by decide), fun _ => ⟨bwn_27, bwl_27⟩⟩
theorem bwc_28 : mmHd mr28 ∈ mmBW := bw3 (i := 84) rfl rfl
theorem bwn_28 : Cond.instanceMethod yX3_pour ∈ mmBW := bw3 (i := 82) (by decide +kernel) rfl
theorem bwl_28 : Cond.selects RX3 yX3_pour yX3_pour ∈ mmBW := bw3 (i := 83) (by decide +kernel) rfl
theorem mok_28 : mmOk mr28 := ⟨bwc_28, by decide +kernel, by decide +kernel, by decide +kernel, by decide +kernel, bwi_RX3, rfl, fun h => absurd h (by decide), fun _ => ⟨bwn_28, bwl_28⟩⟩
theorem bwc_29 : mmHd mr29 ∈ mmBW := bw3 (i := 92) rfl rfl
theorem bwn_29 : Cond.instanceMethod yX3_drop ∈ mmBW := bw3 (i := 90) (by decide +kernel) rfl
theorem bwl_29 : Cond.selects RX3 yX3_drop yX3_drop ∈ mmBW := bw3 (i := 91) (by decide +kernel) rfl
theorem mok_29 : mmOk mr29 := ⟨bwc_29, by decide +kernel, by decide +kernel, by decide +kernel, by decide +kernel, bwi_RX3, rfl, fun h => absurd h (by decide), fun _ => ⟨bwn_29, bwl_29⟩⟩
theorem bwc_30 : mmHd mr30 ∈ mmBW := bw3 (i := 96) rfl rfl
theorem bwn_30 : Cond.instanceMethod yX3_want ∈ mmBW := bw3 (i := 94) (by decide +kernel) rfl
theorem bwl_30 : Cond.selects RX3 yX3_want yX3_want ∈ mmBW := bw3 (i := 95) (by decide +kernel) rfl
theorem mok_30 : mmOk mr30 := ⟨bwc_30, by decide +kernel, by decide +kernel, by decide +kernel, by decide +kernel, bwi_RX3, rfl, fun h => absurd h (by decide), fun _ => ⟨bwn_30, bwl_30⟩⟩
theorem bwc_31 : mmHd mr31 ∈ mmBW := bw3 (i := 101) rfl rfl
theorem bwn_31 : Cond.instanceMethod yX3_setHooks ∈ mmBW := bw3 (i := 99) (by decide +kernel) rfl
theorem bwl_31 : Cond.selects RX3 yX3_setHooks yX3_setHooks ∈ mmBW := bw3 (i := 100) (by decide +kernel) rfl
theorem mok_31 : mmOk mr31 := ⟨bwc_31, by decide +kernel, by decide +kernel, by decide +kernel, by decide +kernel, bwi_RX3, rfl, fun h => absurd h (by decide), fun _ => ⟨bwn_31, bwl_31⟩⟩
theorem bwc_32 : mmHd mr32 ∈ mmBW := bw2 (i := 0) rfl rfl
theorem bwn_32 : Cond.instanceMethod yX3_deed ∈ mmBW := bw1 (i := 238) (by decide +kernel) rfl
theorem bwl_32 : Cond.selects RX3 yX3_deed yX3_deed ∈ mmBW := bw1 (i := 239) (by decide +kernel) rfl
theorem mok_32 : mmOk mr32 := ⟨bwc_32, by decide +kernel, by decide +kernel, by decide +kernel, by decide +kernel, bwi_RX3, rfl, fun h => absurd h (by decide), fun _ => ⟨bwn_32, bwl_32⟩⟩
theorem bwc_33 : mmHd mr33 ∈ mmBW := bw2 (i := 78) rfl rfl
theorem bwn_33 : Cond.instanceMethod yX3_lives ∈ mmBW := bw2 (i := 76) (by decide +kernel) rfl
theorem bwl_33 : Cond.selects RX3 yX3_lives yX3_lives ∈ mmBW := bw2 (i := 77) (by decide +kernel) rfl
theorem mok_33 : mmOk mr33 := ⟨bwc_33, by decide +kernel, by decide +kernel, by decide +kernel, by decide +kernel, bwi_RX3, rfl, fun h => absurd h (by decide), fun _ => ⟨bwn_33, bwl_33⟩⟩
theorem bwc_34 : mmHd mr34 ∈ mmBW := bw2 (i := 87) rfl rfl
theorem bwn_34 : Cond.instanceMethod yX3_clash ∈ mmBW := bw2 (i := 85) (by decide +kernel) rfl
theorem bwl_34 : Cond.selects RX3 yX3_clash yX3_clash ∈ mmBW := bw2 (i := 86) (by decide +kernel) rfl
theorem mok_34 : mmOk mr34 := ⟨bwc_34, by decide +kernel, by decide +kernel, by decide +kernel, by decide +kernel, bwi_RX3, rfl, fun h => absurd h (by decide), fun _ => ⟨bwn_34, bwl_34⟩⟩
theorem bwc_35 : mmHd mr35 ∈ mmBW := bw2 (i := 91) rfl rfl
theorem bwn_35 : Cond.instanceMethod yX3_pot ∈ mmBW := bw2 (i := 89) (by decide +kernel) rfl
theorem bwl_35 : Cond.selects RX3 yX3_pot yX3_pot ∈ mmBW := bw2 (i := 90) (by decide +kernel) rfl
theorem mok_35 : mmOk mr35 := ⟨bwc_35, by decide +kernel, by decide +kernel, by decide +kernel, by decide +kernel, bwi_RX3, rfl, fun h => absurd h (by decide), fun _ => ⟨bwn_35, bwl_35⟩⟩
theorem bwc_36 : mmHd mr36 ∈ mmBW := bw2 (i := 96) rfl rfl
theorem bwn_36 : Cond.instanceMethod yX3_count ∈ mmBW := bw2 (i := 94) (by decide +kernel) rfl
theorem bwl_36 : Cond.selects RX3 yX3_count yX3_count ∈ mmBW := bw2 (i := 95) (by decide +kernel) rfl
theorem mok_36 : mmOk mr36 := ⟨bwc_36, by decide +kernel, by decide +kernel, by decide +kernel, by decide +kernel, bwi_RX3, rfl, fun h => absurd h (by decide), fun _ => ⟨bwn_36, bwl_36⟩⟩
theorem bwc_37 : mmHd mr37 ∈ mmBW := bw2 (i := 134) rfl rfl
theorem bwn_37 : Cond.instanceMethod yX3_hangs ∈ mmBW := bw2 (i := 132) (by decide +kernel) rfl
theorem bwl_37 : Cond.selects RX3 yX3_hangs yX3_hangs ∈ mmBW := bw2 (i := 133) (by decide +kernel) rfl
theorem mok_37 : mmOk mr37 := ⟨bwc_37, by decide +kernel, by decide +kernel, by decide +kernel, by decide +kernel, bwi_RX3, rfl, fun h => absurd h (by decide), fun _ => ⟨bwn_37, bwl_37⟩⟩
theorem bwc_38 : mmHd mr38 ∈ mmBW := bw2 (i := 139) rfl rfl
theorem bwn_38 : Cond.instanceMethod yX3_crowd ∈ mmBW := bw2 (i := 137) (by decide +kernel) rfl
theorem bwl_38 : Cond.selects RX3 yX3_crowd yX3_crowd ∈ mmBW := bw2 (i := 138) (by decide +kernel) rfl
theorem mok_38 : mmOk mr38 := ⟨bwc_38, by decide +kernel, by decide +kernel, by decide +kernel, by decide +kernel, bwi_RX3, rfl, fun h => absurd h (by decide), fun _ => ⟨bwn_38, bwl_38⟩⟩
theorem bwc_39 : mmHd mr39 ∈ mmBW := bw2 (i := 146) rfl rfl
theorem bwn_39 : Cond.instanceMethod yX3_would ∈ mmBW := bw2 (i := 144) (by decide +kernel) rfl
theorem bwl_39 : Cond.selects RX3 yX3_would yX3_would ∈ mmBW := bw2 (i := 145) (by decide +kernel) rfl
theorem mok_39 : mmOk mr39 := ⟨bwc_39, by decide +kernel, by decide +kernel, by decide +kernel, by decide +kernel, bwi_RX3, rfl, fun h => absurd h (by decide), fun _ => ⟨bwn_39, bwl_39⟩⟩
theorem bwc_40 : mmHd mr40 ∈ mmBW := bw2 (i := 170) rfl rfl
theorem bwn_40 : Cond.instanceMethod yX3_fewest ∈ mmBW := bw2 (i := 168) (by decide +kernel) rfl
theorem bwl_40 : Cond.selects RX3 yX3_fewest yX3_fewest ∈ mmBW := bw2 (i := 169) (by decide +kernel) rfl
theorem mok_40 : mmOk mr40 := ⟨bwc_40, by decide +kernel, by decide +kernel, by decide +kernel, by decide +kernel, bwi_RX3, rfl, fun h => absurd h (by decide), fun _ => ⟨bwn_40, bwl_40⟩⟩
theorem bwc_41 : mmHd mr41 ∈ mmBW := bw2 (i := 174) rfl rfl
theorem bwn_41 : Cond.instanceMethod yX3_advise ∈ mmBW := bw2 (i := 172) (by decide +kernel) rfl
theorem bwl_41 : Cond.selects RX3 yX3_advise yX3_advise ∈ mmBW := bw2 (i := 173) (by decide +kernel) rfl
theorem mok_41 : mmOk mr41 := ⟨bwc_41, by decide +kernel, by decide +kernel, by decide +kernel, by decide +kernel, bwi_RX3, rfl, fun h => absurd h (by decide), fun _ => ⟨bwn_41, bwl_41⟩⟩
theorem bwc_42 : mmHd mr42 ∈ mmBW := bw2 (i := 197) rfl rfl
theorem bwn_42 : Cond.instanceMethod yX3_mean ∈ mmBW := bw2 (i := 195) (by decide +kernel) rfl
theorem bwl_42 : Cond.selects RX3 yX3_mean yX3_mean ∈ mmBW := bw2 (i := 196) (by decide +kernel) rfl
theorem mok_42 : mmOk mr42 := ⟨bwc_42, by decide +kernel, by decide +kernel, by decide +kernel, by decide +kernel, bwi_RX3, rfl, fun h => absurd h (by decide), fun _ => ⟨bwn_42, bwl_42⟩⟩
theorem bwc_43 : mmHd mr43 ∈ mmBW := bw2 (i := 201) rfl rfl
theorem bwn_43 : Cond.instanceMethod yX3_digest ∈ mmBW := bw2 (i := 199) (by decide +kernel) rfl
theorem bwl_43 : Cond.selects RX3 yX3_digest yX3_digest ∈ mmBW := bw2 (i := 200) (by decide +kernel) rfl
theorem mok_43 : mmOk mr43 := ⟨bwc_43, by decide +kernel, by decide +kernel, by decide +kernel, by decide +kernel, bwi_RX3, rfl, fun h => absurd h (by decide), fun _ => ⟨bwn_43, bwl_43⟩⟩
theorem bwc_44 : mmHd mr44 ∈ mmBW := bw2 (i := 206) rfl rfl
theorem bws_44 : Cond.static yX3_digested ∈ mmBW := bw2 (i := 205) (by decide +kernel) rfl
theorem mok_44 : mmOk mr44 := ⟨bwc_44, by decide +kernel, by decide +kernel, by decide +kernel, by decide +kernel, bwi_RX3, rfl, fun _ => bws_44, fun h => absurd h (by decide)⟩
theorem bwc_45 : mmHd mr45 ∈ mmBW := bw1 (i := 129) rfl rfl
theorem bwn_45 : Cond.instanceMethod yX3_settle ∈ mmBW := bw1 (i := 128) (by decide +kernel) rfl
theorem bwl_45 : Cond.selects RX3 yX3_settle yX3_settle ∈ mmBW := bwp (i := 0) rfl
theorem mok_45 : mmOk mr45 := ⟨bwc_45, by decide +kernel, by decide +kernel, by decide +kernel, by decide +kernel, bwi_RX3, rfl, fun h => absurd h (by decide), fun _ => ⟨bwn_45, bwl_45⟩⟩
theorem bwc_46 : mmHd mr46 ∈ mmBW := bw2 (i := 166) rfl rfl
theorem bwn_46 : Cond.instanceMethod yX3_floorWith ∈ mmBW := bw2 (i := 165) (by decide +kernel) rfl
theorem bwl_46 : Cond.selects RX3 yX3_floorWith yX3_floorWith ∈ mmBW := bwp (i := 17) rfl
theorem mok_46 : mmOk mr46 := ⟨bwc_46, by decide +kernel, by decide +kernel, by decide +kernel, by decide +kernel, bwi_RX3, rfl, fun h => absurd h (by decide), fun _ => ⟨bwn_46, bwl_46⟩⟩
theorem bwc_47 : mmHd mr47 ∈ mmBW := bw2 (i := 178) rfl rfl
theorem bwn_47 : Cond.instanceMethod yX3_floorCostWithout ∈ mmBW := bw2 (i := 177) (by decide +kernel) rfl
theorem bwl_47 : Cond.selects RX3 yX3_floorCostWithout yX3_floorCostWithout ∈ mmBW := bwp (i := 18) rfl
theorem mok_47 : mmOk mr47 := ⟨bwc_47, by decide +kernel, by decide +kernel, by decide +kernel, by decide +kernel, bwi_RX3, rfl, fun h => absurd h (by decide), fun _ => ⟨bwn_47, bwl_47⟩⟩
theorem bwc_48 : mmHd mr48 ∈ mmBW := bw2 (i := 109) rfl rfl
theorem bwn_48 : Cond.instanceMethod yX3_pourings ∈ mmBW := bw2 (i := 108) (by decide +kernel) rfl
theorem bwl_48 : Cond.selects RX3 yX3_pourings yX3_pourings ∈ mmBW := bwp (i := 13) rfl
theorem mok_48 : mmOk mr48 := ⟨bwc_48, by decide +kernel, by decide +kernel, by decide +kernel, by decide +kernel, bwi_RX3, rfl, fun h => absurd h (by decide), fun _ => ⟨bwn_48, bwl_48⟩⟩
theorem bwc_49 : mmHd mr49 ∈ mmBW := bw2 (i := 113) rfl rfl
theorem bwn_49 : Cond.instanceMethod yX3_pouringsSpared ∈ mmBW := bw2 (i := 112) (by decide +kernel) rfl
theorem bwl_49 : Cond.selects RX3 yX3_pouringsSpared yX3_pouringsSpared ∈ mmBW := bwp (i := 14) rfl
theorem mok_49 : mmOk mr49 := ⟨bwc_49, by decide +kernel, by decide +kernel, by decide +kernel, by decide +kernel, bwi_RX3, rfl, fun h => absurd h (by decide), fun _ => ⟨bwn_49, bwl_49⟩⟩
theorem bwc_50 : mmHd mr50 ∈ mmBW := bw2 (i := 129) rfl rfl
theorem bwn_50 : Cond.instanceMethod yX3_weightsNotSpared ∈ mmBW := bw2 (i := 128) (by decide +kernel) rfl
theorem bwl_50 : Cond.selects RX3 yX3_weightsNotSpared yX3_weightsNotSpared ∈ mmBW := bwp (i := 16) rfl
theorem mok_50 : mmOk mr50 := ⟨bwc_50, by decide +kernel, by decide +kernel, by decide +kernel, by decide +kernel, bwi_RX3, rfl, fun h => absurd h (by decide), fun _ => ⟨bwn_50, bwl_50⟩⟩
theorem bwc_51 : mmHd mr51 ∈ mmBW := bw2 (i := 117) rfl rfl
theorem bwn_51 : Cond.instanceMethod yX3_isSpared ∈ mmBW := bw2 (i := 116) (by decide +kernel) rfl
theorem bwl_51 : Cond.selects RX3 yX3_isSpared yX3_isSpared ∈ mmBW := bwp (i := 15) rfl
theorem mok_51 : mmOk mr51 := ⟨bwc_51, by decide +kernel, by decide +kernel, by decide +kernel, by decide +kernel, bwi_RX3, rfl, fun h => absurd h (by decide), fun _ => ⟨bwn_51, bwl_51⟩⟩
theorem bwc_52 : mmHd mr52 ∈ mmBW := bw2 (i := 4) rfl rfl
theorem bwn_52 : Cond.instanceMethod yX3_requireDeed ∈ mmBW := bw2 (i := 3) (by decide +kernel) rfl
theorem bwl_52 : Cond.selects RX3 yX3_requireDeed yX3_requireDeed ∈ mmBW := bwp (i := 11) rfl
theorem mok_52 : mmOk mr52 := ⟨bwc_52, by decide +kernel, by decide +kernel, by decide +kernel, by decide +kernel, bwi_RX3, rfl, fun h => absurd h (by decide), fun _ => ⟨bwn_52, bwl_52⟩⟩
theorem bwc_53 : mmHd mr53 ∈ mmBW := bw2 (i := 81) rfl rfl
theorem bws_53 : Cond.static yX3_requirePot ∈ mmBW := bw2 (i := 80) (by decide +kernel) rfl
theorem mok_53 : mmOk mr53 := ⟨bwc_53, by decide +kernel, by decide +kernel, by decide +kernel, by decide +kernel, bwi_RX3, rfl, fun _ => bws_53, fun h => absurd h (by decide)⟩
theorem bwc_54 : mmHd mr54 ∈ mmBW := bw3 (i := 55) rfl rfl
theorem bws_54 : Cond.static yX3_requirePotOrNone ∈ mmBW := bw3 (i := 54) (by decide +kernel) rfl
theorem mok_54 : mmOk mr54 := ⟨bwc_54, by decide +kernel, by decide +kernel, by decide +kernel, by decide +kernel, bwi_RX3, rfl, fun _ => bws_54, fun h => absurd h (by decide)⟩
theorem bwc_55 : mmHd mr55 ∈ mmBW := bw3 (i := 59) rfl rfl
theorem bws_55 : Cond.static yX3_requireWeight ∈ mmBW := bw3 (i := 58) (by decide +kernel) rfl
theorem mok_55 : mmOk mr55 := ⟨bwc_55, by decide +kernel, by decide +kernel, by decide +kernel, by decide +kernel, bwi_RX3, rfl, fun _ => bws_55, fun h => absurd h (by decide)⟩
theorem bwc_56 : mmHd mr56 ∈ mmBW := bw1 (i := 150) rfl rfl
theorem bws_56 : Cond.static yX3_isPot ∈ mmBW := bw1 (i := 149) (by decide +kernel) rfl
theorem mok_56 : mmOk mr56 := ⟨bwc_56, by decide +kernel, by decide +kernel, by decide +kernel, by decide +kernel, bwi_RX3, rfl, fun _ => bws_56, fun h => absurd h (by decide)⟩
theorem bwc_57 : mmHd mr57 ∈ mmBW := bw1 (i := 147) rfl rfl
theorem bws_57 : Cond.static yX3_bit ∈ mmBW := bw1 (i := 146) (by decide +kernel) rfl
theorem mok_57 : mmOk mr57 := ⟨bwc_57, by decide +kernel, by decide +kernel, by decide +kernel, by decide +kernel, bwi_RX3, rfl, fun _ => bws_57, fun h => absurd h (by decide)⟩
theorem bwc_58 : mmHd mr58 ∈ mmBW := bw1 (i := 154) rfl rfl
theorem bws_58 : Cond.static yX3_has ∈ mmBW := bw1 (i := 153) (by decide +kernel) rfl
theorem mok_58 : mmOk mr58 := ⟨bwc_58, by decide +kernel, by decide +kernel, by decide +kernel, by decide +kernel, bwi_RX3, rfl, fun _ => bws_58, fun h => absurd h (by decide)⟩
theorem bwc_60 : mmHd mr60 ∈ mmBW := bw2 (i := 227) rfl rfl
theorem bwn_60 : Cond.instanceMethod yX4_uses ∈ mmBW := bw2 (i := 225) (by decide +kernel) rfl
theorem bwl_60 : Cond.selects RX4 yX4_uses yX4_uses ∈ mmBW := bw2 (i := 226) (by decide +kernel) rfl
theorem mok_60 : mmOk mr60 := ⟨bwc_60, by decide +kernel, by decide +kernel, by decide +kernel, by decide +kernel, bwi_RX4, rfl, fun h => absurd h (by decide), fun _ => ⟨bwn_60, bwl_60⟩⟩
theorem bwc_61 : mmHd mr61 ∈ mmBW := bw2 (i := 223) rfl rfl
theorem bwn_61 : Cond.instanceMethod yX4_lives ∈ mmBW := bw2 (i := 221) (by decide +kernel) rfl
theorem bwl_61 : Cond.selects RX4 yX4_lives yX4_lives ∈ mmBW := bw2 (i := 222) (by decide +kernel) rfl
theorem mok_61 : mmOk mr61 := ⟨bwc_61, by decide +kernel, by decide +kernel, by decide +kernel, by decide +kernel, bwi_RX4, rfl, fun h => absurd h (by decide), fun _ => ⟨bwn_61, bwl_61⟩⟩
theorem bwc_62 : mmHd mr62 ∈ mmBW := bw3 (i := 18) rfl rfl
theorem bwn_62 : Cond.instanceMethod yX4_alive ∈ mmBW := bw3 (i := 16) (by decide +kernel) rfl
theorem bwl_62 : Cond.selects RX4 yX4_alive yX4_alive ∈ mmBW := bw3 (i := 17) (by decide +kernel) rfl
theorem mok_62 : mmOk mr62 := ⟨bwc_62, by decide +kernel, by decide +kernel, by decide +kernel, by decide +kernel, bwi_RX4, rfl, fun h => absurd h (by decide), fun _ => ⟨bwn_62, bwl_62⟩⟩
theorem bwc_63 : mmHd mr63 ∈ mmBW := bw2 (i := 235) rfl rfl
theorem bwn_63 : Cond.instanceMethod yX4_isThere ∈ mmBW := bw2 (i := 233) (by decide +kernel) rfl
theorem bwl_63 : Cond.selects RX4 yX4_isThere yX4_isThere ∈ mmBW := bw2 (i := 234) (by decide +kernel) rfl
theorem mok_63 : mmOk mr63 := ⟨bwc_63, by decide +kernel, by decide +kernel, by decide +kernel, by decide +kernel, bwi_RX4, rfl, fun h => absurd h (by decide), fun _ => ⟨bwn_63, bwl_63⟩⟩
theorem bwc_64 : mmHd mr64 ∈ mmBW := bw3 (i := 2) rfl rfl
theorem bwn_64 : Cond.instanceMethod yX4_cost ∈ mmBW := bw3 (i := 0) (by decide +kernel) rfl
theorem bwl_64 : Cond.selects RX4 yX4_cost yX4_cost ∈ mmBW := bw3 (i := 1) (by decide +kernel) rfl
theorem mok_64 : mmOk mr64 := ⟨bwc_64, by decide +kernel, by decide +kernel, by decide +kernel, by decide +kernel, bwi_RX4, rfl, fun h => absurd h (by decide), fun _ => ⟨bwn_64, bwl_64⟩⟩
theorem bwc_65 : mmHd mr65 ∈ mmBW := bw2 (i := 217) rfl rfl
theorem bwn_65 : Cond.instanceMethod yX4_clashes ∈ mmBW := bw2 (i := 215) (by decide +kernel) rfl
theorem bwl_65 : Cond.selects RX4 yX4_clashes yX4_clashes ∈ mmBW := bw2 (i := 216) (by decide +kernel) rfl
theorem mok_65 : mmOk mr65 := ⟨bwc_65, by decide +kernel, by decide +kernel, by decide +kernel, by decide +kernel, bwi_RX4, rfl, fun h => absurd h (by decide), fun _ => ⟨bwn_65, bwl_65⟩⟩
theorem bwc_66 : mmHd mr66 ∈ mmBW := bw2 (i := 238) rfl rfl
theorem bws_66 : Cond.static yX4_among ∈ mmBW := bw2 (i := 237) (by decide +kernel) rfl
theorem mok_66 : mmOk mr66 := ⟨bwc_66, by decide +kernel, by decide +kernel, by decide +kernel, by decide +kernel, bwi_RX4, rfl, fun _ => bws_66, fun h => absurd h (by decide)⟩
theorem bwc_67 : mmHd mr67 ∈ mmBW := bw3 (i := 11) rfl rfl
theorem bwn_67 : Cond.instanceMethod yX4_isTaken ∈ mmBW := bw3 (i := 10) (by decide +kernel) rfl
theorem bwl_67 : Cond.selects RX4 yX4_isTaken yX4_isTaken ∈ mmBW := bwp (i := 21) rfl
theorem mok_67 : mmOk mr67 := ⟨bwc_67, by decide +kernel, by decide +kernel, by decide +kernel, by decide +kernel, bwi_RX4, rfl, fun h => absurd h (by decide), fun _ => ⟨bwn_67, bwl_67⟩⟩
theorem bwc_68 : mmHd mr68 ∈ mmBW := bw3 (i := 7) rfl rfl
theorem bwn_68 : Cond.instanceMethod yX4_hookFor ∈ mmBW := bw3 (i := 5) (by decide +kernel) rfl
theorem bwl_68 : Cond.selects RX4 yX4_hookFor yX4_hookFor ∈ mmBW := bwp (i := 20) rfl
theorem mok_68 : mmOk mr68 := ⟨bwc_68, by decide +kernel, by decide +kernel, by decide +kernel, by decide +kernel, bwi_RX4, rfl, fun h => absurd h (by decide), fun _ => ⟨bwn_68, bwl_68⟩⟩
theorem bwc_69 : mmHd mr69 ∈ mmBW := bw2 (i := 231) rfl rfl
theorem bwn_69 : Cond.instanceMethod yX4_hang ∈ mmBW := bw2 (i := 229) (by decide +kernel) rfl
theorem bwl_69 : Cond.selects RX4 yX4_hang yX4_hang ∈ mmBW := bw2 (i := 230) (by decide +kernel) rfl
theorem mok_69 : mmOk mr69 := ⟨bwc_69, by decide +kernel, by decide +kernel, by decide +kernel, by decide +kernel, bwi_RX4, rfl, fun h => absurd h (by decide), fun _ => ⟨bwn_69, bwl_69⟩⟩
theorem bwc_70 : mmHd mr70 ∈ mmBW := bw3 (i := 28) rfl rfl
theorem bwn_70 : Cond.instanceMethod yX4_floorCost ∈ mmBW := bw3 (i := 26) (by decide +kernel) rfl
theorem bwl_70 : Cond.selects RX4 yX4_floorCost yX4_floorCost ∈ mmBW := bw3 (i := 27) (by decide +kernel) rfl
theorem mok_70 : mmOk mr70 := ⟨bwc_70, by decide +kernel, by decide +kernel, by decide +kernel, by decide +kernel, bwi_RX4, rfl, fun h => absurd h (by decide), fun _ => ⟨bwn_70, bwl_70⟩⟩
theorem bwc_71 : mmHd mr71 ∈ mmBW := bw2 (i := 213) rfl rfl
theorem bwn_71 : Cond.instanceMethod yX4_isSame ∈ mmBW := bw2 (i := 211) (by decide +kernel) rfl
theorem bwl_71 : Cond.selects RX4 yX4_isSame yX4_isSame ∈ mmBW := bw2 (i := 212) (by decide +kernel) rfl
theorem mok_71 : mmOk mr71 := ⟨bwc_71, by decide +kernel, by decide +kernel, by decide +kernel, by decide +kernel, bwi_RX4, rfl, fun h => absurd h (by decide), fun _ => ⟨bwn_71, bwl_71⟩⟩
theorem bwc_72 : mmHd mr72 ∈ mmBW := bw3 (i := 87) rfl rfl
theorem bws_72 : Cond.static yX4_without ∈ mmBW := bw3 (i := 86) (by decide +kernel) rfl
theorem mok_72 : mmOk mr72 := ⟨bwc_72, by decide +kernel, by decide +kernel, by decide +kernel, by decide +kernel, bwi_RX4, rfl, fun _ => bws_72, fun h => absurd h (by decide)⟩
theorem bwc_73 : mmHd mr73 ∈ mmBW := bw1 (i := 187) rfl rfl
theorem bws_73 : Cond.static yJ6_bitCount_0f7a4 ∈ mmBW := bw1 (i := 186) (by decide +kernel) rfl
theorem mok_73 : mmOk mr73 := ⟨bwc_73, by decide +kernel, by decide +kernel, by decide +kernel, by decide +kernel, bwi_RJ6, rfl, fun _ => bws_73, fun h => absurd h (by decide)⟩
theorem bwc_76 : mmHd mr76 ∈ mmBW := bw1 (i := 136) rfl rfl
theorem bws_76 : Cond.static yJ7_fill_53178 ∈ mmBW := bw1 (i := 135) (by decide +kernel) rfl
theorem mok_76 : mmOk mr76 := ⟨bwc_76, by decide +kernel, by decide +kernel, by decide +kernel, by decide +kernel, bwi_RJ7, rfl, fun _ => bws_76, fun h => absurd h (by decide)⟩
theorem bwc_77 : mmHd mr77 ∈ mmBW := bw3 (i := 34) rfl rfl
theorem bws_77 : Cond.static yL_below ∈ mmBW := bw3 (i := 33) (by decide +kernel) rfl
theorem mok_77 : mmOk mr77 := ⟨bwc_77, by decide +kernel, by decide +kernel, by decide +kernel, by decide +kernel, bwi_RL, rfl, fun _ => bws_77, fun h => absurd h (by decide)⟩
theorem bwc_78 : mmHd mr78 ∈ mmBW := bw3 (i := 38) rfl rfl
theorem bws_78 : Cond.static yL_cell ∈ mmBW := bw3 (i := 37) (by decide +kernel) rfl
theorem mok_78 : mmOk mr78 := ⟨bwc_78, by decide +kernel, by decide +kernel, by decide +kernel, by decide +kernel, bwi_RL, rfl, fun _ => bws_78, fun h => absurd h (by decide)⟩
theorem bwc_79 : mmHd mr79 ∈ mmBW := bw3 (i := 42) rfl rfl
theorem bws_79 : Cond.static yL_act ∈ mmBW := bw3 (i := 41) (by decide +kernel) rfl
theorem mok_79 : mmOk mr79 := ⟨bwc_79, by decide +kernel, by decide +kernel, by decide +kernel, by decide +kernel, bwi_RL, rfl, fun _ => bws_79, fun h => absurd h (by decide)⟩
theorem bwc_80 : mmHd mr80 ∈ mmBW := bw3 (i := 46) rfl rfl
theorem bws_80 : Cond.static yL_add ∈ mmBW := bw3 (i := 45) (by decide +kernel) rfl
theorem mok_80 : mmOk mr80 := ⟨bwc_80, by decide +kernel, by decide +kernel, by decide +kernel, by decide +kernel, bwi_RL, rfl, fun _ => bws_80, fun h => absurd h (by decide)⟩
theorem bwc_81 : mmHd mr81 ∈ mmBW := bw3 (i := 105) rfl rfl
theorem bws_81 : Cond.static yL_build ∈ mmBW := bw3 (i := 104) (by decide +kernel) rfl
theorem mok_81 : mmOk mr81 := ⟨bwc_81, by decide +kernel, by decide +kernel, by decide +kernel, by decide +kernel, bwi_RL, rfl, fun _ => bws_81, fun h => absurd h (by decide)⟩
theorem bwc_83 : mmHd mr83 ∈ mmBW := bw3 (i := 133) rfl rfl
theorem bws_83 : Cond.static yL_without ∈ mmBW := bw3 (i := 132) (by decide +kernel) rfl
theorem mok_83 : mmOk mr83 := ⟨bwc_83, by decide +kernel, by decide +kernel, by decide +kernel, by decide +kernel, bwi_RL, rfl, fun _ => bws_83, fun h => absurd h (by decide)⟩
theorem mmOk_all : ∀ r ∈ mmP, mmFr r ≤ 10 → mmOk r := by
  intro r hr
  simp only [mmP, List.mem_cons, List.not_mem_nil, or_false] at hr
  rcases hr with rfl | rfl | rfl | rfl | rfl | rfl | rfl | rfl | rfl | rfl | rfl | rfl | rfl | rfl | rfl | rfl | rfl | rfl | rfl | rfl | rfl | rfl | rfl | rfl | rfl | rfl | rfl | rfl | rfl | rfl | rfl | rfl | rfl | rfl | rfl | rfl | rfl | rfl | rfl | rfl | rfl | rfl | rfl | rfl | rfl | rfl | rfl | rfl | rfl | rfl | rfl | rfl | rfl | rfl | rfl | rfl | rfl | rfl | rfl | rfl | rfl | rfl | rfl | rfl | rfl | rfl | rfl | rfl | rfl | rfl | rfl | rfl | rfl | rfl | rfl | rfl | rfl | rfl | rfl | rfl | rfl | rfl | rfl | rfl
  · exact fun h => absurd h (by decide)
  · exact fun _ => mok_1
  · exact fun _ => mok_2
  · exact fun _ => mok_3
  · exact fun _ => mok_4
  · exact fun _ => mok_5
  · exact fun _ => mok_6
  · exact fun _ => mok_7
  · exact fun _ => mok_8
  · exact fun _ => mok_9
  · exact fun _ => mok_10
  · exact fun h => absurd h (by decide)
  · exact fun _ => mok_12
  · exact fun _ => mok_13
  · exact fun _ => mok_14
  · exact fun _ => mok_15
  · exact fun _ => mok_16
  · exact fun h => absurd h (by decide)
  · exact fun _ => mok_18
  · exact fun _ => mok_19
  · exact fun _ => mok_20
  · exact fun _ => mok_21
  · exact fun _ => mok_22
  · exact fun _ => mok_23
  · exact fun _ => mok_24
  · exact fun _ => mok_25
  · exact fun h => absurd h (by decide)
  · exact fun _ => mok_27
  · exact fun _ => mok_28
  · exact fun _ => mok_29
  · exact fun _ => mok_30
  · exact fun _ => mok_31
  · exact fun _ => mok_32
  · exact fun _ => mok_33
  · exact fun _ => mok_34
  · exact fun _ => mok_35
  · exact fun _ => mok_36
  · exact fun _ => mok_37
  · exact fun _ => mok_38
  · exact fun _ => mok_39
  · exact fun _ => mok_40
  · exact fun _ => mok_41
  · exact fun _ => mok_42
  · exact fun _ => mok_43
  · exact fun _ => mok_44
  · exact fun _ => mok_45
  · exact fun _ => mok_46
  · exact fun _ => mok_47
  · exact fun _ => mok_48
  · exact fun _ => mok_49
  · exact fun _ => mok_50
  · exact fun _ => mok_51
  · exact fun _ => mok_52
  · exact fun _ => mok_53
  · exact fun _ => mok_54
  · exact fun _ => mok_55
  · exact fun _ => mok_56
  · exact fun _ => mok_57
  · exact fun _ => mok_58
  · exact fun h => absurd h (by decide)
  · exact fun _ => mok_60
  · exact fun _ => mok_61
  · exact fun _ => mok_62
  · exact fun _ => mok_63
  · exact fun _ => mok_64
  · exact fun _ => mok_65
  · exact fun _ => mok_66
  · exact fun _ => mok_67
  · exact fun _ => mok_68
  · exact fun _ => mok_69
  · exact fun _ => mok_70
  · exact fun _ => mok_71
  · exact fun _ => mok_72
  · exact fun _ => mok_73
  · exact fun h => absurd h (by decide)
  · exact fun h => absurd h (by decide)
  · exact fun _ => mok_76
  · exact fun _ => mok_77
  · exact fun _ => mok_78
  · exact fun _ => mok_79
  · exact fun _ => mok_80
  · exact fun _ => mok_81
  · exact fun h => absurd h (by decide)
  · exact fun _ => mok_83
theorem bwm_0 : Cond.methodLink RX3 46 yX3_settle ∈ mmBW := bw1 (i := 126) (by decide +kernel) rfl
theorem bwm_1 : Cond.methodLink RX3 200 yX2_make ∈ mmBW := bw1 (i := 130) (by decide +kernel) rfl
theorem bwm_2 : Cond.methodLink RX2 34 yJ7_fill_53178 ∈ mmBW := bw1 (i := 134) (by decide +kernel) rfl
theorem bwm_3 : Cond.methodLink RX2 40 yX2_findLives ∈ mmBW := bw1 (i := 137) (by decide +kernel) rfl
theorem bwm_4 : Cond.methodLink RX2 66 yX1_used ∈ mmBW := bw1 (i := 141) (by decide +kernel) rfl
theorem bwm_5 : Cond.methodLink RX3 220 yX3_isPot ∈ mmBW := bw1 (i := 148) (by decide +kernel) rfl
theorem bwm_6 : Cond.methodLink RX2 48 yX2_addClashes ∈ mmBW := bw1 (i := 155) (by decide +kernel) rfl
theorem bwm_7 : Cond.methodLink RX2 57 yX2_takeIn ∈ mmBW := bw1 (i := 160) (by decide +kernel) rfl
theorem bwm_8 : Cond.methodLink RX2 78 yX2_addCost ∈ mmBW := bw1 (i := 164) (by decide +kernel) rfl
theorem bwm_9 : Cond.methodLink RX2 91 yX2_addPoured ∈ mmBW := bw1 (i := 168) (by decide +kernel) rfl
theorem bwm_10 : Cond.methodLink RX3 204 yX0_make ∈ mmBW := bw1 (i := 172) (by decide +kernel) rfl
theorem bwm_11 : Cond.methodLink RX0 28 yX0_putAside ∈ mmBW := bw1 (i := 176) (by decide +kernel) rfl
theorem bwm_12 : Cond.methodLink RX0 32 yJ7_fill_53178 ∈ mmBW := bw1 (i := 180) (by decide +kernel) rfl
theorem bwm_13 : Cond.methodLink RX0 51 yX0_firstEasy ∈ mmBW := bw1 (i := 181) (by decide +kernel) rfl
theorem bwm_14 : Cond.methodLink RX0 69 yJ6_bitCount_0f7a4 ∈ mmBW := bw1 (i := 185) (by decide +kernel) rfl
theorem bwm_15 : Cond.methodLink RX0 55 yX0_cheapest ∈ mmBW := bw1 (i := 191) (by decide +kernel) rfl
theorem bwm_16 : Cond.methodLink RX0 38 yX0_hangUp ∈ mmBW := bw1 (i := 196) (by decide +kernel) rfl
theorem bwm_17 : Cond.methodLink RX0 80 yX0_hookOfPartner ∈ mmBW := bw1 (i := 200) (by decide +kernel) rfl
theorem bwm_18 : Cond.methodLink RX0 87 yX0_isFree ∈ mmBW := bw1 (i := 204) (by decide +kernel) rfl
theorem bwm_19 : Cond.methodLink RX0 84 yX0_firstFree ∈ mmBW := bw1 (i := 208) (by decide +kernel) rfl
theorem bwm_20 : Cond.methodLink RL 84 yX3_deed ∈ mmBW := bw1 (i := 237) (by decide +kernel) rfl
theorem bwm_21 : Cond.methodLink RX3 84 yX3_requireDeed ∈ mmBW := bw2 (i := 1) (by decide +kernel) rfl
theorem bwm_22 : Cond.methodLink RX3 107 yJ6_bitCount_0f7a4 ∈ mmBW := bw2 (i := 73) (by decide +kernel) rfl
theorem bwm_23 : Cond.methodLink RL 87 yX3_lives ∈ mmBW := bw2 (i := 75) (by decide +kernel) rfl
theorem bwm_24 : Cond.methodLink RX3 49 yX3_requirePot ∈ mmBW := bw2 (i := 79) (by decide +kernel) rfl
theorem bwm_25 : Cond.methodLink RX3 69 yX3_has ∈ mmBW := bw2 (i := 83) (by decide +kernel) rfl
theorem bwm_26 : Cond.methodLink RL 91 yX3_clash ∈ mmBW := bw2 (i := 84) (by decide +kernel) rfl
theorem bwm_27 : Cond.methodLink RL 98 yX3_pot ∈ mmBW := bw2 (i := 88) (by decide +kernel) rfl
theorem bwm_28 : Cond.methodLink RL 77 yX3_count ∈ mmBW := bw2 (i := 93) (by decide +kernel) rfl
theorem bwm_29 : Cond.methodLink RX3 140 yX2_pairsOfClashes ∈ mmBW := bw2 (i := 97) (by decide +kernel) rfl
theorem bwm_30 : Cond.methodLink RX2 60 yJ6_bitCount_0f7a4 ∈ mmBW := bw2 (i := 101) (by decide +kernel) rfl
theorem bwm_31 : Cond.methodLink RX3 144 yX0_hooksInUse ∈ mmBW := bw2 (i := 102) (by decide +kernel) rfl
theorem bwm_32 : Cond.methodLink RX3 147 yX3_pourings ∈ mmBW := bw2 (i := 106) (by decide +kernel) rfl
theorem bwm_33 : Cond.methodLink RX3 150 yX3_pouringsSpared ∈ mmBW := bw2 (i := 110) (by decide +kernel) rfl
theorem bwm_34 : Cond.methodLink RX3 211 yX3_isSpared ∈ mmBW := bw2 (i := 114) (by decide +kernel) rfl
theorem bwm_35 : Cond.methodLink RX3 215 yX0_share ∈ mmBW := bw2 (i := 118) (by decide +kernel) rfl
theorem bwm_36 : Cond.methodLink RX3 153 yX2_costOf ∈ mmBW := bw2 (i := 122) (by decide +kernel) rfl
theorem bwm_37 : Cond.methodLink RX3 156 yX3_weightsNotSpared ∈ mmBW := bw2 (i := 126) (by decide +kernel) rfl
theorem bwm_38 : Cond.methodLink RL 105 yX3_hangs ∈ mmBW := bw2 (i := 131) (by decide +kernel) rfl
theorem bwm_39 : Cond.methodLink RL 94 yX3_crowd ∈ mmBW := bw2 (i := 136) (by decide +kernel) rfl
theorem bwm_40 : Cond.methodLink RL 108 yX3_would ∈ mmBW := bw2 (i := 143) (by decide +kernel) rfl
theorem bwm_41 : Cond.methodLink RX3 177 yX3_floorWith ∈ mmBW := bw2 (i := 163) (by decide +kernel) rfl
theorem bwm_42 : Cond.methodLink RL 111 yX3_fewest ∈ mmBW := bw2 (i := 167) (by decide +kernel) rfl
theorem bwm_43 : Cond.methodLink RL 114 yX3_advise ∈ mmBW := bw2 (i := 171) (by decide +kernel) rfl
theorem bwm_44 : Cond.methodLink RX3 180 yX3_floorCostWithout ∈ mmBW := bw2 (i := 175) (by decide +kernel) rfl
theorem bwm_45 : Cond.methodLink RX3 207 yX1_copy ∈ mmBW := bw2 (i := 179) (by decide +kernel) rfl
theorem bwm_46 : Cond.methodLink RX1 44 yX1_takeOver ∈ mmBW := bw2 (i := 183) (by decide +kernel) rfl
theorem bwm_47 : Cond.methodLink RX3 63 yX1_remove ∈ mmBW := bw2 (i := 187) (by decide +kernel) rfl
theorem bwm_48 : Cond.methodLink RL 101 yX3_mean ∈ mmBW := bw2 (i := 194) (by decide +kernel) rfl
theorem bwm_49 : Cond.methodLink RL 80 yX3_digest ∈ mmBW := bw2 (i := 198) (by decide +kernel) rfl
theorem bwm_50 : Cond.methodLink RX3 185 yX3_count ∈ mmBW := bw2 (i := 203) (by decide +kernel) rfl
theorem bwm_51 : Cond.methodLink RX3 188 yX3_digested ∈ mmBW := bw2 (i := 204) (by decide +kernel) rfl
theorem bwm_52 : Cond.methodLink RX3 192 yX3_deed ∈ mmBW := bw2 (i := 208) (by decide +kernel) rfl
theorem bwm_53 : Cond.methodLink RX3 195 yX3_pot ∈ mmBW := bw2 (i := 209) (by decide +kernel) rfl
theorem bwm_54 : Cond.methodLink RL 120 yX4_isSame ∈ mmBW := bw2 (i := 210) (by decide +kernel) rfl
theorem bwm_55 : Cond.methodLink RX4 48 yX4_clashes ∈ mmBW := bw2 (i := 214) (by decide +kernel) rfl
theorem bwm_56 : Cond.methodLink RX4 33 yX4_lives ∈ mmBW := bw2 (i := 220) (by decide +kernel) rfl
theorem bwm_57 : Cond.methodLink RX4 29 yX4_uses ∈ mmBW := bw2 (i := 224) (by decide +kernel) rfl
theorem bwm_58 : Cond.methodLink RX4 68 yX4_hang ∈ mmBW := bw2 (i := 228) (by decide +kernel) rfl
theorem bwm_59 : Cond.methodLink RX4 52 yX4_isThere ∈ mmBW := bw2 (i := 232) (by decide +kernel) rfl
theorem bwm_60 : Cond.methodLink RX4 56 yX4_among ∈ mmBW := bw2 (i := 236) (by decide +kernel) rfl
theorem bwm_61 : Cond.methodLink RX4 60 yX4_cost ∈ mmBW := bw2 (i := 239) (by decide +kernel) rfl
theorem bwm_62 : Cond.methodLink RX4 64 yX4_hookFor ∈ mmBW := bw3 (i := 3) (by decide +kernel) rfl
theorem bwm_63 : Cond.methodLink RX4 38 yX4_isTaken ∈ mmBW := bw3 (i := 8) (by decide +kernel) rfl
theorem bwm_64 : Cond.methodLink RX4 71 yX4_alive ∈ mmBW := bw3 (i := 15) (by decide +kernel) rfl
theorem bwm_65 : Cond.methodLink RX4 74 yX3_deed ∈ mmBW := bw3 (i := 19) (by decide +kernel) rfl
theorem bwm_66 : Cond.methodLink RX4 79 yX3_lives ∈ mmBW := bw3 (i := 20) (by decide +kernel) rfl
theorem bwm_67 : Cond.methodLink RX4 83 yX3_clash ∈ mmBW := bw3 (i := 22) (by decide +kernel) rfl
theorem bwm_68 : Cond.methodLink RX4 86 yX3_pot ∈ mmBW := bw3 (i := 23) (by decide +kernel) rfl
theorem bwm_69 : Cond.methodLink RX4 89 yX3_hangs ∈ mmBW := bw3 (i := 24) (by decide +kernel) rfl
theorem bwm_70 : Cond.methodLink RX4 92 yX4_floorCost ∈ mmBW := bw3 (i := 25) (by decide +kernel) rfl
theorem bwm_71 : Cond.methodLink RX4 96 yX3_count ∈ mmBW := bw3 (i := 29) (by decide +kernel) rfl
theorem bwm_72 : Cond.methodLink RX4 99 yX3_crowd ∈ mmBW := bw3 (i := 30) (by decide +kernel) rfl
theorem bwm_73 : Cond.methodLink RX4 102 yX3_mean ∈ mmBW := bw3 (i := 31) (by decide +kernel) rfl
theorem bwm_74 : Cond.methodLink RL 15 yL_below ∈ mmBW := bw3 (i := 32) (by decide +kernel) rfl
theorem bwm_75 : Cond.methodLink RL 63 yL_cell ∈ mmBW := bw3 (i := 36) (by decide +kernel) rfl
theorem bwm_76 : Cond.methodLink RL 68 yL_act ∈ mmBW := bw3 (i := 40) (by decide +kernel) rfl
theorem bwm_77 : Cond.methodLink RL 21 yL_add ∈ mmBW := bw3 (i := 44) (by decide +kernel) rfl
theorem bwm_78 : Cond.methodLink RL 25 yX3_cook ∈ mmBW := bw3 (i := 49) (by decide +kernel) rfl
theorem bwm_79 : Cond.methodLink RX3 53 yX3_requirePotOrNone ∈ mmBW := bw3 (i := 53) (by decide +kernel) rfl
theorem bwm_80 : Cond.methodLink RX3 56 yX3_requireWeight ∈ mmBW := bw3 (i := 57) (by decide +kernel) rfl
theorem bwm_81 : Cond.methodLink RX3 59 yX1_add ∈ mmBW := bw3 (i := 61) (by decide +kernel) rfl
theorem bwm_82 : Cond.methodLink RL 33 yX3_pour ∈ mmBW := bw3 (i := 81) (by decide +kernel) rfl
theorem bwm_83 : Cond.methodLink RL 37 yX4_without ∈ mmBW := bw3 (i := 85) (by decide +kernel) rfl
theorem bwm_84 : Cond.methodLink RL 41 yX3_drop ∈ mmBW := bw3 (i := 89) (by decide +kernel) rfl
theorem bwm_85 : Cond.methodLink RL 49 yX3_want ∈ mmBW := bw3 (i := 93) (by decide +kernel) rfl
theorem bwm_86 : Cond.methodLink RX3 73 yX3_bit ∈ mmBW := bw3 (i := 97) (by decide +kernel) rfl
theorem bwm_87 : Cond.methodLink RL 57 yX3_setHooks ∈ mmBW := bw3 (i := 98) (by decide +kernel) rfl
theorem bwm_88 : Cond.methodLink RL 73 yL_build ∈ mmBW := bw3 (i := 103) (by decide +kernel) rfl
theorem bwm_89 : Cond.methodLink RL 117 yL_without ∈ mmBW := bw3 (i := 131) (by decide +kernel) rfl
def mmLk (q : Nat × Nat × Nat) : Prop := ∃ (own : String) (r : mmRow), mmOwn[q.1]? = some own ∧ mmP[q.2.2]? = some r ∧ Cond.methodLink own q.2.1 (mmNm r) ∈ mmBW
theorem mmLk_all : ∀ q ∈ mmML, mmLk q := by
  intro q hq
  simp only [mmML, List.mem_cons, List.not_mem_nil, or_false] at hq
  rcases hq with rfl | rfl | rfl | rfl | rfl | rfl | rfl | rfl | rfl | rfl | rfl | rfl | rfl | rfl | rfl | rfl | rfl | rfl | rfl | rfl | rfl | rfl | rfl | rfl | rfl | rfl | rfl | rfl | rfl | rfl | rfl | rfl | rfl | rfl | rfl | rfl | rfl | rfl | rfl | rfl | rfl | rfl | rfl | rfl | rfl | rfl | rfl | rfl | rfl | rfl | rfl | rfl | rfl | rfl | rfl | rfl | rfl | rfl | rfl | rfl | rfl | rfl | rfl | rfl | rfl | rfl | rfl | rfl | rfl | rfl | rfl | rfl | rfl | rfl | rfl | rfl | rfl | rfl | rfl | rfl | rfl | rfl | rfl | rfl | rfl | rfl | rfl | rfl | rfl | rfl
  · exact ⟨_, _, rfl, rfl, bwm_0⟩
  · exact ⟨_, _, rfl, rfl, bwm_1⟩
  · exact ⟨_, _, rfl, rfl, bwm_2⟩
  · exact ⟨_, _, rfl, rfl, bwm_3⟩
  · exact ⟨_, _, rfl, rfl, bwm_4⟩
  · exact ⟨_, _, rfl, rfl, bwm_5⟩
  · exact ⟨_, _, rfl, rfl, bwm_6⟩
  · exact ⟨_, _, rfl, rfl, bwm_7⟩
  · exact ⟨_, _, rfl, rfl, bwm_8⟩
  · exact ⟨_, _, rfl, rfl, bwm_9⟩
  · exact ⟨_, _, rfl, rfl, bwm_10⟩
  · exact ⟨_, _, rfl, rfl, bwm_11⟩
  · exact ⟨_, _, rfl, rfl, bwm_12⟩
  · exact ⟨_, _, rfl, rfl, bwm_13⟩
  · exact ⟨_, _, rfl, rfl, bwm_14⟩
  · exact ⟨_, _, rfl, rfl, bwm_15⟩
  · exact ⟨_, _, rfl, rfl, bwm_16⟩
  · exact ⟨_, _, rfl, rfl, bwm_17⟩
  · exact ⟨_, _, rfl, rfl, bwm_18⟩
  · exact ⟨_, _, rfl, rfl, bwm_19⟩
  · exact ⟨_, _, rfl, rfl, bwm_20⟩
  · exact ⟨_, _, rfl, rfl, bwm_21⟩
  · exact ⟨_, _, rfl, rfl, bwm_22⟩
  · exact ⟨_, _, rfl, rfl, bwm_23⟩
  · exact ⟨_, _, rfl, rfl, bwm_24⟩
  · exact ⟨_, _, rfl, rfl, bwm_25⟩
  · exact ⟨_, _, rfl, rfl, bwm_26⟩
  · exact ⟨_, _, rfl, rfl, bwm_27⟩
  · exact ⟨_, _, rfl, rfl, bwm_28⟩
  · exact ⟨_, _, rfl, rfl, bwm_29⟩
  · exact ⟨_, _, rfl, rfl, bwm_30⟩
  · exact ⟨_, _, rfl, rfl, bwm_31⟩
  · exact ⟨_, _, rfl, rfl, bwm_32⟩
  · exact ⟨_, _, rfl, rfl, bwm_33⟩
  · exact ⟨_, _, rfl, rfl, bwm_34⟩
  · exact ⟨_, _, rfl, rfl, bwm_35⟩
  · exact ⟨_, _, rfl, rfl, bwm_36⟩
  · exact ⟨_, _, rfl, rfl, bwm_37⟩
  · exact ⟨_, _, rfl, rfl, bwm_38⟩
  · exact ⟨_, _, rfl, rfl, bwm_39⟩
  · exact ⟨_, _, rfl, rfl, bwm_40⟩
  · exact ⟨_, _, rfl, rfl, bwm_41⟩
  · exact ⟨_, _, rfl, rfl, bwm_42⟩
  · exact ⟨_, _, rfl, rfl, bwm_43⟩
  · exact ⟨_, _, rfl, rfl, bwm_44⟩
  · exact ⟨_, _, rfl, rfl, bwm_45⟩
  · exact ⟨_, _, rfl, rfl, bwm_46⟩
  · exact ⟨_, _, rfl, rfl, bwm_47⟩
  · exact ⟨_, _, rfl, rfl, bwm_48⟩
  · exact ⟨_, _, rfl, rfl, bwm_49⟩
  · exact ⟨_, _, rfl, rfl, bwm_50⟩
  · exact ⟨_, _, rfl, rfl, bwm_51⟩
  · exact ⟨_, _, rfl, rfl, bwm_52⟩
  · exact ⟨_, _, rfl, rfl, bwm_53⟩
  · exact ⟨_, _, rfl, rfl, bwm_54⟩
  · exact ⟨_, _, rfl, rfl, bwm_55⟩
  · exact ⟨_, _, rfl, rfl, bwm_56⟩
  · exact ⟨_, _, rfl, rfl, bwm_57⟩
  · exact ⟨_, _, rfl, rfl, bwm_58⟩
  · exact ⟨_, _, rfl, rfl, bwm_59⟩
  · exact ⟨_, _, rfl, rfl, bwm_60⟩
  · exact ⟨_, _, rfl, rfl, bwm_61⟩
  · exact ⟨_, _, rfl, rfl, bwm_62⟩
  · exact ⟨_, _, rfl, rfl, bwm_63⟩
  · exact ⟨_, _, rfl, rfl, bwm_64⟩
  · exact ⟨_, _, rfl, rfl, bwm_65⟩
  · exact ⟨_, _, rfl, rfl, bwm_66⟩
  · exact ⟨_, _, rfl, rfl, bwm_67⟩
  · exact ⟨_, _, rfl, rfl, bwm_68⟩
  · exact ⟨_, _, rfl, rfl, bwm_69⟩
  · exact ⟨_, _, rfl, rfl, bwm_70⟩
  · exact ⟨_, _, rfl, rfl, bwm_71⟩
  · exact ⟨_, _, rfl, rfl, bwm_72⟩
  · exact ⟨_, _, rfl, rfl, bwm_73⟩
  · exact ⟨_, _, rfl, rfl, bwm_74⟩
  · exact ⟨_, _, rfl, rfl, bwm_75⟩
  · exact ⟨_, _, rfl, rfl, bwm_76⟩
  · exact ⟨_, _, rfl, rfl, bwm_77⟩
  · exact ⟨_, _, rfl, rfl, bwm_78⟩
  · exact ⟨_, _, rfl, rfl, bwm_79⟩
  · exact ⟨_, _, rfl, rfl, bwm_80⟩
  · exact ⟨_, _, rfl, rfl, bwm_81⟩
  · exact ⟨_, _, rfl, rfl, bwm_82⟩
  · exact ⟨_, _, rfl, rfl, bwm_83⟩
  · exact ⟨_, _, rfl, rfl, bwm_84⟩
  · exact ⟨_, _, rfl, rfl, bwm_85⟩
  · exact ⟨_, _, rfl, rfl, bwm_86⟩
  · exact ⟨_, _, rfl, rfl, bwm_87⟩
  · exact ⟨_, _, rfl, rfl, bwm_88⟩
  · exact ⟨_, _, rfl, rfl, bwm_89⟩
/-- the words of nest mates' private methods: they are no good words, and ride in the contracts -/
def mmNst : List (String × Nat × MethodName × String) := [(RX1, 48, yX3_bit, RX3), (RX2, 72, yX3_bit, RX3), (RX2, 44, yX3_has, RX3), (RX2, 94, yX3_isPot, RX3), (RX0, 62, yX3_has, RX3), (RX0, 42, yX3_isPot, RX3), (RX0, 58, yX3_bit, RX3)]
def mmLn2 (q : Nat × Nat × Nat) : Prop := ∃ (own host : String) (r : mmRow), mmOwn[q.1]? = some own ∧ mmP[q.2.2]? = some r ∧ (own, q.2.1, mmNm r, host) ∈ mmNst
theorem mmLn2_all : ∀ q ∈ mmNL, mmLn2 q := by
  intro q hq
  simp only [mmNL, List.mem_cons, List.not_mem_nil, or_false] at hq
  rcases hq with rfl | rfl | rfl | rfl | rfl | rfl | rfl
  · exact ⟨_, _, _, rfl, rfl, List.mem_of_getElem? (i := 0) rfl⟩
  · exact ⟨_, _, _, rfl, rfl, List.mem_of_getElem? (i := 1) rfl⟩
  · exact ⟨_, _, _, rfl, rfl, List.mem_of_getElem? (i := 2) rfl⟩
  · exact ⟨_, _, _, rfl, rfl, List.mem_of_getElem? (i := 3) rfl⟩
  · exact ⟨_, _, _, rfl, rfl, List.mem_of_getElem? (i := 4) rfl⟩
  · exact ⟨_, _, _, rfl, rfl, List.mem_of_getElem? (i := 5) rfl⟩
  · exact ⟨_, _, _, rfl, rfl, List.mem_of_getElem? (i := 6) rfl⟩
theorem tt1 {i : Nat} {w : Cond} (h0 : tables_1_1[i]? = some w) : w ∈ lw_tbl := List.mem_append_right _ (have h := List.mem_of_getElem? h0; List.mem_append_left _ h)
theorem tt2 {i : Nat} {w : Cond} (h0 : tables_1_2[i]? = some w) : w ∈ lw_tbl := List.mem_append_right _ (have h := List.mem_of_getElem? h0; List.mem_append_right _ (List.mem_append_left _ h))
theorem tt3 {i : Nat} {w : Cond} (h0 : tables_1_3[i]? = some w) : w ∈ lw_tbl := List.mem_append_right _ (have h := List.mem_of_getElem? h0; List.mem_append_right _ (List.mem_append_right _ h))
theorem mmNst_tbl : ∀ q ∈ mmNst, Cond.methodLinkNest q.1 q.2.1 q.2.2.1 q.2.2.2 ∈ lw_tbl := by
  intro q hq
  simp only [mmNst, List.mem_cons, List.not_mem_nil, or_false] at hq
  rcases hq with rfl | rfl | rfl | rfl | rfl | rfl | rfl
  · exact tt1 (i := 145) (by decide +kernel)
  · exact tt1 (i := 151) (by decide +kernel)
  · exact tt1 (i := 152) (by decide +kernel)
  · exact tt1 (i := 159) (by decide +kernel)
  · exact tt1 (i := 184) (by decide +kernel)
  · exact tt1 (i := 194) (by decide +kernel)
  · exact tt1 (i := 195) (by decide +kernel)
abbrev mmCls : List vw_C := [(RX0, TX0, 5), (RX1, TX1, 6), (RX2, TX2, 7), (RX3, TX3, 8), (RX4, TX4, 5)]
theorem bwf_0 : Cond.fieldLink RX1 9 (TX1 0).1 (TX1 0).2.1 (TX1 0).2.2.1 ∈ mmBW := bw1 (i := 29) (by decide +kernel) rfl
theorem bwf_1 : Cond.fieldLink RX2 69 (TX1 0).1 (TX1 0).2.1 (TX1 0).2.2.1 ∈ mmBW := bw1 (i := 30) (by decide +kernel) rfl
theorem bwf_2 : Cond.fieldLink RX3 87 (TX1 0).1 (TX1 0).2.1 (TX1 0).2.2.1 ∈ mmBW := bw1 (i := 31) (by decide +kernel) rfl
theorem bwf_3 : Cond.fieldLink RX1 15 (TX1 1).1 (TX1 1).2.1 (TX1 1).2.2.1 ∈ mmBW := bw1 (i := 32) (by decide +kernel) rfl
theorem bwf_4 : Cond.fieldLink RX2 81 (TX1 1).1 (TX1 1).2.1 (TX1 1).2.2.1 ∈ mmBW := bw1 (i := 33) (by decide +kernel) rfl
theorem bwf_5 : Cond.fieldLink RX3 91 (TX1 1).1 (TX1 1).2.1 (TX1 1).2.2.1 ∈ mmBW := bw1 (i := 34) (by decide +kernel) rfl
theorem bwf_6 : Cond.fieldLink RX1 18 (TX1 2).1 (TX1 2).2.1 (TX1 2).2.2.1 ∈ mmBW := bw1 (i := 35) (by decide +kernel) rfl
theorem bwf_7 : Cond.fieldLink RX2 84 (TX1 2).1 (TX1 2).2.1 (TX1 2).2.2.1 ∈ mmBW := bw1 (i := 36) (by decide +kernel) rfl
theorem bwf_8 : Cond.fieldLink RX3 94 (TX1 2).1 (TX1 2).2.1 (TX1 2).2.2.1 ∈ mmBW := bw1 (i := 37) (by decide +kernel) rfl
theorem bwf_9 : Cond.fieldLink RX1 21 (TX1 3).1 (TX1 3).2.1 (TX1 3).2.2.1 ∈ mmBW := bw1 (i := 38) (by decide +kernel) rfl
theorem bwf_10 : Cond.fieldLink RX2 75 (TX1 3).1 (TX1 3).2.1 (TX1 3).2.2.1 ∈ mmBW := bw1 (i := 39) (by decide +kernel) rfl
theorem bwf_11 : Cond.fieldLink RX3 97 (TX1 3).1 (TX1 3).2.1 (TX1 3).2.2.1 ∈ mmBW := bw1 (i := 40) (by decide +kernel) rfl
theorem bwf_12 : Cond.fieldLink RX1 24 (TX1 4).1 (TX1 4).2.1 (TX1 4).2.2.1 ∈ mmBW := bw1 (i := 41) (by decide +kernel) rfl
theorem bwf_13 : Cond.fieldLink RX2 87 (TX1 4).1 (TX1 4).2.1 (TX1 4).2.2.1 ∈ mmBW := bw1 (i := 42) (by decide +kernel) rfl
theorem bwf_14 : Cond.fieldLink RX3 100 (TX1 4).1 (TX1 4).2.1 (TX1 4).2.2.1 ∈ mmBW := bw1 (i := 43) (by decide +kernel) rfl
theorem bwf_15 : Cond.fieldLink RX1 28 (TX1 5).1 (TX1 5).2.1 (TX1 5).2.2.1 ∈ mmBW := bw1 (i := 44) (by decide +kernel) rfl
theorem bwf_16 : Cond.fieldLink RX2 52 (TX1 5).1 (TX1 5).2.1 (TX1 5).2.2.1 ∈ mmBW := bw1 (i := 45) (by decide +kernel) rfl
theorem bwf_17 : Cond.fieldLink RX3 66 (TX1 5).1 (TX1 5).2.1 (TX1 5).2.2.1 ∈ mmBW := bw1 (i := 46) (by decide +kernel) rfl
theorem bwf_18 : Cond.fieldLink RX2 9 (TX2 0).1 (TX2 0).2.1 (TX2 0).2.2.1 ∈ mmBW := bw1 (i := 68) (by decide +kernel) rfl
theorem bwf_19 : Cond.fieldLink RX3 104 (TX2 0).1 (TX2 0).2.1 (TX2 0).2.2.1 ∈ mmBW := bw1 (i := 69) (by decide +kernel) rfl
theorem bwf_20 : Cond.fieldLink RX2 15 (TX2 1).1 (TX2 1).2.1 (TX2 1).2.2.1 ∈ mmBW := bw1 (i := 70) (by decide +kernel) rfl
theorem bwf_21 : Cond.fieldLink RX3 112 (TX2 1).1 (TX2 1).2.1 (TX2 1).2.2.1 ∈ mmBW := bw1 (i := 71) (by decide +kernel) rfl
theorem bwf_22 : Cond.fieldLink RX2 18 (TX2 2).1 (TX2 2).2.1 (TX2 2).2.2.1 ∈ mmBW := bw1 (i := 72) (by decide +kernel) rfl
theorem bwf_23 : Cond.fieldLink RX0 66 (TX2 2).1 (TX2 2).2.1 (TX2 2).2.2.1 ∈ mmBW := bw1 (i := 73) (by decide +kernel) rfl
theorem bwf_24 : Cond.fieldLink RX3 120 (TX2 2).1 (TX2 2).2.1 (TX2 2).2.2.1 ∈ mmBW := bw1 (i := 74) (by decide +kernel) rfl
theorem bwf_25 : Cond.fieldLink RX2 21 (TX2 3).1 (TX2 3).2.1 (TX2 3).2.2.1 ∈ mmBW := bw1 (i := 75) (by decide +kernel) rfl
theorem bwf_26 : Cond.fieldLink RX0 77 (TX2 3).1 (TX2 3).2.1 (TX2 3).2.2.1 ∈ mmBW := bw1 (i := 76) (by decide +kernel) rfl
theorem bwf_27 : Cond.fieldLink RX2 24 (TX2 4).1 (TX2 4).2.1 (TX2 4).2.2.1 ∈ mmBW := bw1 (i := 77) (by decide +kernel) rfl
theorem bwf_28 : Cond.fieldLink RX0 74 (TX2 4).1 (TX2 4).2.1 (TX2 4).2.2.1 ∈ mmBW := bw1 (i := 78) (by decide +kernel) rfl
theorem bwf_29 : Cond.fieldLink RX3 126 (TX2 4).1 (TX2 4).2.1 (TX2 4).2.2.1 ∈ mmBW := bw1 (i := 79) (by decide +kernel) rfl
theorem bwf_30 : Cond.fieldLink RX2 27 (TX2 5).1 (TX2 5).2.1 (TX2 5).2.2.1 ∈ mmBW := bw1 (i := 80) (by decide +kernel) rfl
theorem bwf_31 : Cond.fieldLink RX3 166 (TX2 5).1 (TX2 5).2.1 (TX2 5).2.2.1 ∈ mmBW := bw1 (i := 81) (by decide +kernel) rfl
theorem bwf_32 : Cond.fieldLink RX2 31 (TX2 6).1 (TX2 6).2.1 (TX2 6).2.2.1 ∈ mmBW := bw1 (i := 82) (by decide +kernel) rfl
theorem bwf_33 : Cond.fieldLink RX0 46 (TX2 6).1 (TX2 6).2.1 (TX2 6).2.2.1 ∈ mmBW := bw1 (i := 83) (by decide +kernel) rfl
theorem bwf_34 : Cond.fieldLink RX3 123 (TX2 6).1 (TX2 6).2.1 (TX2 6).2.2.1 ∈ mmBW := bw1 (i := 84) (by decide +kernel) rfl
theorem bwf_35 : Cond.fieldLink RX0 9 (TX0 0).1 (TX0 0).2.1 (TX0 0).2.2.1 ∈ mmBW := bw1 (i := 106) (by decide +kernel) rfl
theorem bwf_36 : Cond.fieldLink RX3 132 (TX0 0).1 (TX0 0).2.1 (TX0 0).2.2.1 ∈ mmBW := bw1 (i := 107) (by decide +kernel) rfl
theorem bwf_37 : Cond.fieldLink RX0 15 (TX0 1).1 (TX0 1).2.1 (TX0 1).2.2.1 ∈ mmBW := bw1 (i := 108) (by decide +kernel) rfl
theorem bwf_38 : Cond.fieldLink RX3 129 (TX0 1).1 (TX0 1).2.1 (TX0 1).2.2.1 ∈ mmBW := bw1 (i := 109) (by decide +kernel) rfl
theorem bwf_39 : Cond.fieldLink RX0 18 (TX0 2).1 (TX0 2).2.1 (TX0 2).2.2.1 ∈ mmBW := bw1 (i := 110) (by decide +kernel) rfl
theorem bwf_40 : Cond.fieldLink RX3 163 (TX0 2).1 (TX0 2).2.1 (TX0 2).2.2.1 ∈ mmBW := bw1 (i := 111) (by decide +kernel) rfl
theorem bwf_41 : Cond.fieldLink RX0 21 (TX0 3).1 (TX0 3).2.1 (TX0 3).2.2.1 ∈ mmBW := bw1 (i := 112) (by decide +kernel) rfl
theorem bwf_42 : Cond.fieldLink RX0 24 (TX0 4).1 (TX0 4).2.1 (TX0 4).2.2.1 ∈ mmBW := bw1 (i := 113) (by decide +kernel) rfl
theorem bwf_43 : Cond.fieldLink RX3 135 (TX0 4).1 (TX0 4).2.1 (TX0 4).2.2.1 ∈ mmBW := bw1 (i := 114) (by decide +kernel) rfl
theorem bwf_44 : Cond.fieldLink RX3 10 (TX3 0).1 (TX3 0).2.1 (TX3 0).2.2.1 ∈ mmBW := bw1 (i := 212) (by decide +kernel) rfl
theorem bwf_45 : Cond.fieldLink RX3 19 (TX3 1).1 (TX3 1).2.1 (TX3 1).2.2.1 ∈ mmBW := bw1 (i := 213) (by decide +kernel) rfl
theorem bwf_46 : Cond.fieldLink RX3 26 (TX3 2).1 (TX3 2).2.1 (TX3 2).2.2.1 ∈ mmBW := bw1 (i := 214) (by decide +kernel) rfl
theorem bwf_47 : Cond.fieldLink RX3 30 (TX3 3).1 (TX3 3).2.1 (TX3 3).2.2.1 ∈ mmBW := bw1 (i := 215) (by decide +kernel) rfl
theorem bwf_48 : Cond.fieldLink RX3 33 (TX3 4).1 (TX3 4).2.1 (TX3 4).2.2.1 ∈ mmBW := bw1 (i := 216) (by decide +kernel) rfl
theorem bwf_49 : Cond.fieldLink RX3 36 (TX3 5).1 (TX3 5).2.1 (TX3 5).2.2.1 ∈ mmBW := bw1 (i := 217) (by decide +kernel) rfl
theorem bwf_50 : Cond.fieldLink RX3 39 (TX3 6).1 (TX3 6).2.1 (TX3 6).2.2.1 ∈ mmBW := bw1 (i := 218) (by decide +kernel) rfl
theorem bwf_51 : Cond.fieldLink RX3 43 (TX3 7).1 (TX3 7).2.1 (TX3 7).2.2.1 ∈ mmBW := bw1 (i := 219) (by decide +kernel) rfl
theorem bwf_52 : Cond.fieldLink RX4 9 (TX4 0).1 (TX4 0).2.1 (TX4 0).2.2.1 ∈ mmBW := bw3 (i := 111) (by decide +kernel) rfl
theorem bwf_53 : Cond.fieldLink RL 9 (TX4 0).1 (TX4 0).2.1 (TX4 0).2.2.1 ∈ mmBW := bw3 (i := 112) (by decide +kernel) rfl
theorem bwf_54 : Cond.fieldLink RX4 15 (TX4 1).1 (TX4 1).2.1 (TX4 1).2.2.1 ∈ mmBW := bw3 (i := 113) (by decide +kernel) rfl
theorem bwf_55 : Cond.fieldLink RL 45 (TX4 1).1 (TX4 1).2.1 (TX4 1).2.2.1 ∈ mmBW := bw3 (i := 114) (by decide +kernel) rfl
theorem bwf_56 : Cond.fieldLink RX4 19 (TX4 2).1 (TX4 2).2.1 (TX4 2).2.2.1 ∈ mmBW := bw3 (i := 115) (by decide +kernel) rfl
theorem bwf_57 : Cond.fieldLink RL 53 (TX4 2).1 (TX4 2).2.1 (TX4 2).2.2.1 ∈ mmBW := bw3 (i := 116) (by decide +kernel) rfl
theorem bwf_58 : Cond.fieldLink RX4 23 (TX4 3).1 (TX4 3).2.1 (TX4 3).2.2.1 ∈ mmBW := bw3 (i := 117) (by decide +kernel) rfl
theorem bwf_59 : Cond.fieldLink RX4 26 (TX4 4).1 (TX4 4).2.1 (TX4 4).2.2.1 ∈ mmBW := bw3 (i := 118) (by decide +kernel) rfl
def mmFk (q : Nat × Nat × Nat × Nat) : Prop := ∃ (own C : String) (T : u_T) (N : Nat), mmOwn[q.1]? = some own ∧ mmCls[q.2.2.1]? = some (C, T, N) ∧ q.2.2.2 < N ∧ Cond.fieldLink own q.2.1 (T q.2.2.2).1 (T q.2.2.2).2.1 (T q.2.2.2).2.2.1 ∈ mmBW
theorem mmFk_all : ∀ q ∈ mmFL, mmFk q := by
  intro q hq
  simp only [mmFL, List.mem_cons, List.not_mem_nil, or_false] at hq
  rcases hq with rfl | rfl | rfl | rfl | rfl | rfl | rfl | rfl | rfl | rfl | rfl | rfl | rfl | rfl | rfl | rfl | rfl | rfl | rfl | rfl | rfl | rfl | rfl | rfl | rfl | rfl | rfl | rfl | rfl | rfl | rfl | rfl | rfl | rfl | rfl | rfl | rfl | rfl | rfl | rfl | rfl | rfl | rfl | rfl | rfl | rfl | rfl | rfl | rfl | rfl | rfl | rfl | rfl | rfl | rfl | rfl | rfl | rfl | rfl | rfl
  · exact ⟨_, _, _, _, rfl, rfl, by decide, bwf_0⟩
  · exact ⟨_, _, _, _, rfl, rfl, by decide, bwf_1⟩
  · exact ⟨_, _, _, _, rfl, rfl, by decide, bwf_2⟩
  · exact ⟨_, _, _, _, rfl, rfl, by decide, bwf_3⟩
  · exact ⟨_, _, _, _, rfl, rfl, by decide, bwf_4⟩
  · exact ⟨_, _, _, _, rfl, rfl, by decide, bwf_5⟩
  · exact ⟨_, _, _, _, rfl, rfl, by decide, bwf_6⟩
  · exact ⟨_, _, _, _, rfl, rfl, by decide, bwf_7⟩
  · exact ⟨_, _, _, _, rfl, rfl, by decide, bwf_8⟩
  · exact ⟨_, _, _, _, rfl, rfl, by decide, bwf_9⟩
  · exact ⟨_, _, _, _, rfl, rfl, by decide, bwf_10⟩
  · exact ⟨_, _, _, _, rfl, rfl, by decide, bwf_11⟩
  · exact ⟨_, _, _, _, rfl, rfl, by decide, bwf_12⟩
  · exact ⟨_, _, _, _, rfl, rfl, by decide, bwf_13⟩
  · exact ⟨_, _, _, _, rfl, rfl, by decide, bwf_14⟩
  · exact ⟨_, _, _, _, rfl, rfl, by decide, bwf_15⟩
  · exact ⟨_, _, _, _, rfl, rfl, by decide, bwf_16⟩
  · exact ⟨_, _, _, _, rfl, rfl, by decide, bwf_17⟩
  · exact ⟨_, _, _, _, rfl, rfl, by decide, bwf_18⟩
  · exact ⟨_, _, _, _, rfl, rfl, by decide, bwf_19⟩
  · exact ⟨_, _, _, _, rfl, rfl, by decide, bwf_20⟩
  · exact ⟨_, _, _, _, rfl, rfl, by decide, bwf_21⟩
  · exact ⟨_, _, _, _, rfl, rfl, by decide, bwf_22⟩
  · exact ⟨_, _, _, _, rfl, rfl, by decide, bwf_23⟩
  · exact ⟨_, _, _, _, rfl, rfl, by decide, bwf_24⟩
  · exact ⟨_, _, _, _, rfl, rfl, by decide, bwf_25⟩
  · exact ⟨_, _, _, _, rfl, rfl, by decide, bwf_26⟩
  · exact ⟨_, _, _, _, rfl, rfl, by decide, bwf_27⟩
  · exact ⟨_, _, _, _, rfl, rfl, by decide, bwf_28⟩
  · exact ⟨_, _, _, _, rfl, rfl, by decide, bwf_29⟩
  · exact ⟨_, _, _, _, rfl, rfl, by decide, bwf_30⟩
  · exact ⟨_, _, _, _, rfl, rfl, by decide, bwf_31⟩
  · exact ⟨_, _, _, _, rfl, rfl, by decide, bwf_32⟩
  · exact ⟨_, _, _, _, rfl, rfl, by decide, bwf_33⟩
  · exact ⟨_, _, _, _, rfl, rfl, by decide, bwf_34⟩
  · exact ⟨_, _, _, _, rfl, rfl, by decide, bwf_35⟩
  · exact ⟨_, _, _, _, rfl, rfl, by decide, bwf_36⟩
  · exact ⟨_, _, _, _, rfl, rfl, by decide, bwf_37⟩
  · exact ⟨_, _, _, _, rfl, rfl, by decide, bwf_38⟩
  · exact ⟨_, _, _, _, rfl, rfl, by decide, bwf_39⟩
  · exact ⟨_, _, _, _, rfl, rfl, by decide, bwf_40⟩
  · exact ⟨_, _, _, _, rfl, rfl, by decide, bwf_41⟩
  · exact ⟨_, _, _, _, rfl, rfl, by decide, bwf_42⟩
  · exact ⟨_, _, _, _, rfl, rfl, by decide, bwf_43⟩
  · exact ⟨_, _, _, _, rfl, rfl, by decide, bwf_44⟩
  · exact ⟨_, _, _, _, rfl, rfl, by decide, bwf_45⟩
  · exact ⟨_, _, _, _, rfl, rfl, by decide, bwf_46⟩
  · exact ⟨_, _, _, _, rfl, rfl, by decide, bwf_47⟩
  · exact ⟨_, _, _, _, rfl, rfl, by decide, bwf_48⟩
  · exact ⟨_, _, _, _, rfl, rfl, by decide, bwf_49⟩
  · exact ⟨_, _, _, _, rfl, rfl, by decide, bwf_50⟩
  · exact ⟨_, _, _, _, rfl, rfl, by decide, bwf_51⟩
  · exact ⟨_, _, _, _, rfl, rfl, by decide, bwf_52⟩
  · exact ⟨_, _, _, _, rfl, rfl, by decide, bwf_53⟩
  · exact ⟨_, _, _, _, rfl, rfl, by decide, bwf_54⟩
  · exact ⟨_, _, _, _, rfl, rfl, by decide, bwf_55⟩
  · exact ⟨_, _, _, _, rfl, rfl, by decide, bwf_56⟩
  · exact ⟨_, _, _, _, rfl, rfl, by decide, bwf_57⟩
  · exact ⟨_, _, _, _, rfl, rfl, by decide, bwf_58⟩
  · exact ⟨_, _, _, _, rfl, rfl, by decide, bwf_59⟩
theorem bwy_0_0 : u_lay RX0 TX0 0 ∈ mmBW := bw1 (i := 115) (by decide +kernel) rfl
theorem bwy_0_1 : u_lay RX0 TX0 1 ∈ mmBW := bw1 (i := 117) (by decide +kernel) rfl
theorem bwy_0_2 : u_lay RX0 TX0 2 ∈ mmBW := bw1 (i := 119) (by decide +kernel) rfl
theorem bwy_0_3 : u_lay RX0 TX0 3 ∈ mmBW := bw1 (i := 121) (by decide +kernel) rfl
theorem bwy_0_4 : u_lay RX0 TX0 4 ∈ mmBW := bw1 (i := 123) (by decide +kernel) rfl
theorem mmIn0 : ∀ w ∈ u_ws RX0 TX0 5, w ∈ mmBW := by
  intro w hw
  obtain ⟨k, hk, rfl⟩ := List.mem_map.mp hw
  have hk := List.mem_range.mp hk
  match k, hk with
  | 0, _ => exact bwy_0_0
  | 1, _ => exact bwy_0_1
  | 2, _ => exact bwy_0_2
  | 3, _ => exact bwy_0_3
  | 4, _ => exact bwy_0_4
  | k + 5, h => exact absurd h (by omega)
theorem bwy_1_0 : u_lay RX1 TX1 0 ∈ mmBW := bw1 (i := 47) (by decide +kernel) rfl
theorem bwy_1_1 : u_lay RX1 TX1 1 ∈ mmBW := bw1 (i := 49) (by decide +kernel) rfl
theorem bwy_1_2 : u_lay RX1 TX1 2 ∈ mmBW := bw1 (i := 51) (by decide +kernel) rfl
theorem bwy_1_3 : u_lay RX1 TX1 3 ∈ mmBW := bw1 (i := 53) (by decide +kernel) rfl
theorem bwy_1_4 : u_lay RX1 TX1 4 ∈ mmBW := bw1 (i := 55) (by decide +kernel) rfl
theorem bwy_1_5 : u_lay RX1 TX1 5 ∈ mmBW := bw1 (i := 57) (by decide +kernel) rfl
theorem mmIn1 : ∀ w ∈ u_ws RX1 TX1 6, w ∈ mmBW := by
  intro w hw
  obtain ⟨k, hk, rfl⟩ := List.mem_map.mp hw
  have hk := List.mem_range.mp hk
  match k, hk with
  | 0, _ => exact bwy_1_0
  | 1, _ => exact bwy_1_1
  | 2, _ => exact bwy_1_2
  | 3, _ => exact bwy_1_3
  | 4, _ => exact bwy_1_4
  | 5, _ => exact bwy_1_5
  | k + 6, h => exact absurd h (by omega)
theorem bwy_2_0 : u_lay RX2 TX2 0 ∈ mmBW := bw1 (i := 85) (by decide +kernel) rfl
theorem bwy_2_1 : u_lay RX2 TX2 1 ∈ mmBW := bw1 (i := 87) (by decide +kernel) rfl
theorem bwy_2_2 : u_lay RX2 TX2 2 ∈ mmBW := bw1 (i := 89) (by decide +kernel) rfl
theorem bwy_2_3 : u_lay RX2 TX2 3 ∈ mmBW := bw1 (i := 91) (by decide +kernel) rfl
theorem bwy_2_4 : u_lay RX2 TX2 4 ∈ mmBW := bw1 (i := 93) (by decide +kernel) rfl
theorem bwy_2_5 : u_lay RX2 TX2 5 ∈ mmBW := bw1 (i := 95) (by decide +kernel) rfl
theorem bwy_2_6 : u_lay RX2 TX2 6 ∈ mmBW := bw1 (i := 97) (by decide +kernel) rfl
theorem mmIn2 : ∀ w ∈ u_ws RX2 TX2 7, w ∈ mmBW := by
  intro w hw
  obtain ⟨k, hk, rfl⟩ := List.mem_map.mp hw
  have hk := List.mem_range.mp hk
  match k, hk with
  | 0, _ => exact bwy_2_0
  | 1, _ => exact bwy_2_1
  | 2, _ => exact bwy_2_2
  | 3, _ => exact bwy_2_3
  | 4, _ => exact bwy_2_4
  | 5, _ => exact bwy_2_5
  | 6, _ => exact bwy_2_6
  | k + 7, h => exact absurd h (by omega)
theorem bwy_3_0 : u_lay RX3 TX3 0 ∈ mmBW := bw1 (i := 220) (by decide +kernel) rfl
theorem bwy_3_1 : u_lay RX3 TX3 1 ∈ mmBW := bw1 (i := 222) (by decide +kernel) rfl
theorem bwy_3_2 : u_lay RX3 TX3 2 ∈ mmBW := bw1 (i := 224) (by decide +kernel) rfl
theorem bwy_3_3 : u_lay RX3 TX3 3 ∈ mmBW := bw1 (i := 226) (by decide +kernel) rfl
theorem bwy_3_4 : u_lay RX3 TX3 4 ∈ mmBW := bw1 (i := 228) (by decide +kernel) rfl
theorem bwy_3_5 : u_lay RX3 TX3 5 ∈ mmBW := bw1 (i := 230) (by decide +kernel) rfl
theorem bwy_3_6 : u_lay RX3 TX3 6 ∈ mmBW := bw1 (i := 232) (by decide +kernel) rfl
theorem bwy_3_7 : u_lay RX3 TX3 7 ∈ mmBW := bw1 (i := 234) (by decide +kernel) rfl
theorem mmIn3 : ∀ w ∈ u_ws RX3 TX3 8, w ∈ mmBW := by
  intro w hw
  obtain ⟨k, hk, rfl⟩ := List.mem_map.mp hw
  have hk := List.mem_range.mp hk
  match k, hk with
  | 0, _ => exact bwy_3_0
  | 1, _ => exact bwy_3_1
  | 2, _ => exact bwy_3_2
  | 3, _ => exact bwy_3_3
  | 4, _ => exact bwy_3_4
  | 5, _ => exact bwy_3_5
  | 6, _ => exact bwy_3_6
  | 7, _ => exact bwy_3_7
  | k + 8, h => exact absurd h (by omega)
theorem bwy_4_0 : u_lay RX4 TX4 0 ∈ mmBW := bw3 (i := 119) (by decide +kernel) rfl
theorem bwy_4_1 : u_lay RX4 TX4 1 ∈ mmBW := bw3 (i := 121) (by decide +kernel) rfl
theorem bwy_4_2 : u_lay RX4 TX4 2 ∈ mmBW := bw3 (i := 123) (by decide +kernel) rfl
theorem bwy_4_3 : u_lay RX4 TX4 3 ∈ mmBW := bw3 (i := 125) (by decide +kernel) rfl
theorem bwy_4_4 : u_lay RX4 TX4 4 ∈ mmBW := bw3 (i := 127) (by decide +kernel) rfl
theorem mmIn4 : ∀ w ∈ u_ws RX4 TX4 5, w ∈ mmBW := by
  intro w hw
  obtain ⟨k, hk, rfl⟩ := List.mem_map.mp hw
  have hk := List.mem_range.mp hk
  match k, hk with
  | 0, _ => exact bwy_4_0
  | 1, _ => exact bwy_4_1
  | 2, _ => exact bwy_4_2
  | 3, _ => exact bwy_4_3
  | 4, _ => exact bwy_4_4
  | k + 5, h => exact absurd h (by omega)
/-- all that is said of a class of objects -/
def mmCk (C : String) (T : u_T) (N : Nat) : Prop := (∀ w ∈ u_ws C T N, w ∈ mmBW) ∧ ∃ ty : Nat → FieldType, (∀ k, k < N → parseFieldDescriptor (T k).2.2.1 = some (ty k)) ∧ ∀ a, a < N → ∀ b, b < N → a ≠ b → (T a).2.1 ≠ (T b).2.1
theorem mmCk_all : ∀ (c : Nat) (C : String) (T : u_T) (N : Nat), mmCls[c]? = some (C, T, N) → mmCk C T N := by
  intro c C T N h
  match c, h with
  | 0, h => cases h; exact ⟨mmIn0, tyX0, tyX0_ok, nmX0⟩
  | 1, h => cases h; exact ⟨mmIn1, tyX1, tyX1_ok, nmX1⟩
  | 2, h => cases h; exact ⟨mmIn2, tyX2, tyX2_ok, nmX2⟩
  | 3, h => cases h; exact ⟨mmIn3, tyX3, tyX3_ok, nmX3⟩
  | 4, h => cases h; exact ⟨mmIn4, tyX4, tyX4_ok, nmX4⟩
  | c + 5, h => simp [mmCls] at h
theorem bwx_s : Cond.static Lib.Math.max.name ∈ mmBW := bw2 (i := 141) (by decide +kernel) rfl
theorem bwx_c : Cond.code Lib.Math.max.name Lib.Math.max.code 2 (some .int) ∈ mmBW := bw2 (i := 142) (by decide +kernel) rfl
theorem bwx_RX3 : Cond.methodLink RX3 169 Lib.Math.max.name ∈ mmBW := bw2 (i := 140) (by decide +kernel) rfl
theorem mmMX_all : ∀ q ∈ mmMX, ∃ own, mmOwn[q.1]? = some own ∧ Cond.methodLink own q.2.1 Lib.Math.max.name ∈ mmBW := by
  intro q hq
  simp only [mmMX, List.mem_cons, List.not_mem_nil, or_false] at hq
  rcases hq with rfl
  exact ⟨_, rfl, bwx_RX3⟩
theorem bwk_0 : Cond.constant RJ6 265 1431655765 ∈ mmBW := bw1 (i := 188) (by decide +kernel) rfl
theorem bwk_1 : Cond.constant RJ6 266 858993459 ∈ mmBW := bw1 (i := 189) (by decide +kernel) rfl
theorem bwk_2 : Cond.constant RJ6 267 252645135 ∈ mmBW := bw1 (i := 190) (by decide +kernel) rfl
theorem bwj_0 : Cond.constantLong RX3 183 1609 ∈ mmBW := bw2 (i := 202) (by decide +kernel) rfl
theorem bwj_1 : Cond.constantLong RX3 198 31 ∈ mmBW := bw2 (i := 207) (by decide +kernel) rfl
theorem mmKI_all : ∀ q ∈ mmKI, ∃ own, mmOwn[q.1]? = some own ∧ Cond.constant own q.2.1 q.2.2 ∈ mmBW := by
  intro q hq
  simp only [mmKI, List.mem_cons, List.not_mem_nil, or_false] at hq
  rcases hq with rfl | rfl | rfl
  · exact ⟨_, rfl, bwk_0⟩
  · exact ⟨_, rfl, bwk_1⟩
  · exact ⟨_, rfl, bwk_2⟩
theorem mmKJ_all : ∀ q ∈ mmKJ, ∃ own, mmOwn[q.1]? = some own ∧ Cond.constantLong own q.2.1 q.2.2 ∈ mmBW := by
  intro q hq
  simp only [mmKJ, List.mem_cons, List.not_mem_nil, or_false] at hq
  rcases hq with rfl | rfl
  · exact ⟨_, rfl, bwj_0⟩
  · exact ⟨_, rfl, bwj_1⟩
