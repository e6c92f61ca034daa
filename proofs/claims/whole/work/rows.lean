section
-- ===== PART A: goes FIRST, ahead of the names: the tables' words, and 'selects' of the private methods out of them =====
/-- a private method of a class that the tables say can be made, by its rows of tables_1 -/
def lw_okq (q : MethodName × Nat) : Prop := (q.1.cls ≠ "java/lang/invoke/MethodHandle" ∧ q.1.cls ≠ "java/lang/invoke/VarHandle") ∧ Cond.instantiable q.1.cls q.2 ∈ tables_1 ∧ Cond.privateMethod q.1 ∈ tables_1 ∧ Cond.instanceMethod q.1 ∈ tables_1
theorem lw_p0 : lw_okq (⟨"HookColours", "settle", "()V"⟩, 8) := ⟨⟨by decide +kernel, by decide +kernel⟩, List.mem_of_getElem? (i := 16) (by decide +kernel), List.mem_of_getElem? (i := 127) (by decide +kernel), List.mem_of_getElem? (i := 128) (by decide +kernel)⟩
theorem lw_p1 : lw_okq (⟨"HookColours$Study", "findLives", "(LHookColours$Row;I)V"⟩, 7) := ⟨⟨by decide +kernel, by decide +kernel⟩, List.mem_of_getElem? (i := 63) (by decide +kernel), List.mem_of_getElem? (i := 138) (by decide +kernel), List.mem_of_getElem? (i := 139) (by decide +kernel)⟩
theorem lw_p2 : lw_okq (⟨"HookColours$Study", "addClashes", "(II)V"⟩, 7) := ⟨⟨by decide +kernel, by decide +kernel⟩, List.mem_of_getElem? (i := 63) (by decide +kernel), List.mem_of_getElem? (i := 156) (by decide +kernel), List.mem_of_getElem? (i := 157) (by decide +kernel)⟩
theorem lw_p3 : lw_okq (⟨"HookColours$Study", "takeIn", "(LHookColours$Row;I)V"⟩, 7) := ⟨⟨by decide +kernel, by decide +kernel⟩, List.mem_of_getElem? (i := 63) (by decide +kernel), List.mem_of_getElem? (i := 161) (by decide +kernel), List.mem_of_getElem? (i := 162) (by decide +kernel)⟩
theorem lw_p4 : lw_okq (⟨"HookColours$Study", "addCost", "(II)V"⟩, 7) := ⟨⟨by decide +kernel, by decide +kernel⟩, List.mem_of_getElem? (i := 63) (by decide +kernel), List.mem_of_getElem? (i := 165) (by decide +kernel), List.mem_of_getElem? (i := 166) (by decide +kernel)⟩
theorem lw_p5 : lw_okq (⟨"HookColours$Study", "addPoured", "(II)V"⟩, 7) := ⟨⟨by decide +kernel, by decide +kernel⟩, List.mem_of_getElem? (i := 63) (by decide +kernel), List.mem_of_getElem? (i := 169) (by decide +kernel), List.mem_of_getElem? (i := 170) (by decide +kernel)⟩
theorem lw_p6 : lw_okq (⟨"HookColours$Hanging", "putAside", "(LHookColours$Study;I)I"⟩, 5) := ⟨⟨by decide +kernel, by decide +kernel⟩, List.mem_of_getElem? (i := 101) (by decide +kernel), List.mem_of_getElem? (i := 177) (by decide +kernel), List.mem_of_getElem? (i := 178) (by decide +kernel)⟩
theorem lw_p7 : lw_okq (⟨"HookColours$Hanging", "hangUp", "(LHookColours$Study;II)V"⟩, 5) := ⟨⟨by decide +kernel, by decide +kernel⟩, List.mem_of_getElem? (i := 101) (by decide +kernel), List.mem_of_getElem? (i := 197) (by decide +kernel), List.mem_of_getElem? (i := 198) (by decide +kernel)⟩
theorem lw_p8 : lw_okq (⟨"HookColours$Hanging", "hookOfPartner", "(II)I"⟩, 5) := ⟨⟨by decide +kernel, by decide +kernel⟩, List.mem_of_getElem? (i := 101) (by decide +kernel), List.mem_of_getElem? (i := 201) (by decide +kernel), List.mem_of_getElem? (i := 202) (by decide +kernel)⟩
theorem lw_p9 : lw_okq (⟨"HookColours$Hanging", "isFree", "(II)Z"⟩, 5) := ⟨⟨by decide +kernel, by decide +kernel⟩, List.mem_of_getElem? (i := 101) (by decide +kernel), List.mem_of_getElem? (i := 205) (by decide +kernel), List.mem_of_getElem? (i := 206) (by decide +kernel)⟩
theorem lw_p10 : lw_okq (⟨"HookColours$Hanging", "firstFree", "(II)I"⟩, 5) := ⟨⟨by decide +kernel, by decide +kernel⟩, List.mem_of_getElem? (i := 101) (by decide +kernel), List.mem_of_getElem? (i := 209) (by decide +kernel), List.mem_of_getElem? (i := 210) (by decide +kernel)⟩
theorem lw_p11 : lw_okq (⟨"HookColours", "floorWith", "(I)I"⟩, 8) := ⟨⟨by decide +kernel, by decide +kernel⟩, List.mem_of_getElem? (i := 16) (by decide +kernel), List.mem_of_getElem? (i := 250) (by decide +kernel), List.mem_of_getElem? (i := 251) (by decide +kernel)⟩
theorem lw_p12 : lw_okq (⟨"HookColours", "floorCostWithout", "(I)I"⟩, 8) := ⟨⟨by decide +kernel, by decide +kernel⟩, List.mem_of_getElem? (i := 16) (by decide +kernel), List.mem_of_getElem? (i := 258) (by decide +kernel), List.mem_of_getElem? (i := 259) (by decide +kernel)⟩
theorem lw_p13 : lw_okq (⟨"HookColours$Row", "takeOver", "(LHookColours$Row;II)V"⟩, 6) := ⟨⟨by decide +kernel, by decide +kernel⟩, List.mem_of_getElem? (i := 24) (by decide +kernel), List.mem_of_getElem? (i := 266) (by decide +kernel), List.mem_of_getElem? (i := 267) (by decide +kernel)⟩
theorem lw_p14 : lw_okq (⟨"java/lang/Throwable", "fillInStackTrace", "(I)Ljava/lang/Throwable;"⟩, 6) := ⟨⟨by decide +kernel, by decide +kernel⟩, List.mem_of_getElem? (i := 312) (by decide +kernel), List.mem_of_getElem? (i := 310) (by decide +kernel), List.mem_of_getElem? (i := 311) (by decide +kernel)⟩
theorem lw_p15 : lw_okq (⟨"HookColours", "pourings", "()I"⟩, 8) := ⟨⟨by decide +kernel, by decide +kernel⟩, List.mem_of_getElem? (i := 16) (by decide +kernel), List.mem_of_getElem? (i := 368) (by decide +kernel), List.mem_of_getElem? (i := 369) (by decide +kernel)⟩
def lw_privs_1 : List (MethodName × Nat) := [(⟨"HookColours", "settle", "()V"⟩, 8), (⟨"HookColours$Study", "findLives", "(LHookColours$Row;I)V"⟩, 7), (⟨"HookColours$Study", "addClashes", "(II)V"⟩, 7), (⟨"HookColours$Study", "takeIn", "(LHookColours$Row;I)V"⟩, 7), (⟨"HookColours$Study", "addCost", "(II)V"⟩, 7), (⟨"HookColours$Study", "addPoured", "(II)V"⟩, 7), (⟨"HookColours$Hanging", "putAside", "(LHookColours$Study;I)I"⟩, 5), (⟨"HookColours$Hanging", "hangUp", "(LHookColours$Study;II)V"⟩, 5), (⟨"HookColours$Hanging", "hookOfPartner", "(II)I"⟩, 5), (⟨"HookColours$Hanging", "isFree", "(II)Z"⟩, 5), (⟨"HookColours$Hanging", "firstFree", "(II)I"⟩, 5), (⟨"HookColours", "floorWith", "(I)I"⟩, 8), (⟨"HookColours", "floorCostWithout", "(I)I"⟩, 8), (⟨"HookColours$Row", "takeOver", "(LHookColours$Row;II)V"⟩, 6), (⟨"java/lang/Throwable", "fillInStackTrace", "(I)Ljava/lang/Throwable;"⟩, 6), (⟨"HookColours", "pourings", "()I"⟩, 8)]
theorem lw_r1 : ∀ q ∈ lw_privs_1, lw_okq q := List.forall_mem_cons.mpr ⟨lw_p0, List.forall_mem_cons.mpr ⟨lw_p1, List.forall_mem_cons.mpr ⟨lw_p2, List.forall_mem_cons.mpr ⟨lw_p3, List.forall_mem_cons.mpr ⟨lw_p4, List.forall_mem_cons.mpr ⟨lw_p5, List.forall_mem_cons.mpr ⟨lw_p6, List.forall_mem_cons.mpr ⟨lw_p7, List.forall_mem_cons.mpr ⟨lw_p8, List.forall_mem_cons.mpr ⟨lw_p9, List.forall_mem_cons.mpr ⟨lw_p10, List.forall_mem_cons.mpr ⟨lw_p11, List.forall_mem_cons.mpr ⟨lw_p12, List.forall_mem_cons.mpr ⟨lw_p13, List.forall_mem_cons.mpr ⟨lw_p14, List.forall_mem_cons.mpr ⟨lw_p15, fun _ h => absurd h List.not_mem_nil⟩⟩⟩⟩⟩⟩⟩⟩⟩⟩⟩⟩⟩⟩⟩⟩
theorem lw_p16 : lw_okq (⟨"HookColours", "pouringsSpared", "()I"⟩, 8) := ⟨⟨by decide +kernel, by decide +kernel⟩, List.mem_of_getElem? (i := 16) (by decide +kernel), List.mem_of_getElem? (i := 372) (by decide +kernel), List.mem_of_getElem? (i := 373) (by decide +kernel)⟩
theorem lw_p17 : lw_okq (⟨"HookColours", "isSpared", "(I)Z"⟩, 8) := ⟨⟨by decide +kernel, by decide +kernel⟩, List.mem_of_getElem? (i := 16) (by decide +kernel), List.mem_of_getElem? (i := 376) (by decide +kernel), List.mem_of_getElem? (i := 377) (by decide +kernel)⟩
theorem lw_p18 : lw_okq (⟨"HookColours", "weightsNotSpared", "()I"⟩, 8) := ⟨⟨by decide +kernel, by decide +kernel⟩, List.mem_of_getElem? (i := 16) (by decide +kernel), List.mem_of_getElem? (i := 384) (by decide +kernel), List.mem_of_getElem? (i := 385) (by decide +kernel)⟩
theorem lw_p19 : lw_okq (⟨"HookColours", "requireDeed", "(I)V"⟩, 8) := ⟨⟨by decide +kernel, by decide +kernel⟩, List.mem_of_getElem? (i := 16) (by decide +kernel), List.mem_of_getElem? (i := 399) (by decide +kernel), List.mem_of_getElem? (i := 400) (by decide +kernel)⟩
theorem lw_p20 : lw_okq (⟨"HookColoursModel", "add", "(IIIII)I"⟩, 18) := ⟨⟨by decide +kernel, by decide +kernel⟩, List.mem_of_getElem? (i := 540) (by decide +kernel), List.mem_of_getElem? (i := 618) (by decide +kernel), List.mem_of_getElem? (i := 619) (by decide +kernel)⟩
theorem lw_p21 : lw_okq (⟨"HookColoursModel", "no", "(I)I"⟩, 18) := ⟨⟨by decide +kernel, by decide +kernel⟩, List.mem_of_getElem? (i := 540) (by decide +kernel), List.mem_of_getElem? (i := 622) (by decide +kernel), List.mem_of_getElem? (i := 623) (by decide +kernel)⟩
theorem lw_p22 : lw_okq (⟨"HookColoursModel", "isDeed", "(I)Z"⟩, 18) := ⟨⟨by decide +kernel, by decide +kernel⟩, List.mem_of_getElem? (i := 540) (by decide +kernel), List.mem_of_getElem? (i := 634) (by decide +kernel), List.mem_of_getElem? (i := 635) (by decide +kernel)⟩
theorem lw_p23 : lw_okq (⟨"HookColoursModel", "live", "()V"⟩, 18) := ⟨⟨by decide +kernel, by decide +kernel⟩, List.mem_of_getElem? (i := 540) (by decide +kernel), List.mem_of_getElem? (i := 659) (by decide +kernel), List.mem_of_getElem? (i := 660) (by decide +kernel)⟩
theorem lw_p24 : lw_okq (⟨"HookColoursModel", "uses", "(I)I"⟩, 18) := ⟨⟨by decide +kernel, by decide +kernel⟩, List.mem_of_getElem? (i := 540) (by decide +kernel), List.mem_of_getElem? (i := 663) (by decide +kernel), List.mem_of_getElem? (i := 664) (by decide +kernel)⟩
theorem lw_p25 : lw_okq (⟨"HookColoursModel", "deedTold", "(II)I"⟩, 18) := ⟨⟨by decide +kernel, by decide +kernel⟩, List.mem_of_getElem? (i := 540) (by decide +kernel), List.mem_of_getElem? (i := 667) (by decide +kernel), List.mem_of_getElem? (i := 668) (by decide +kernel)⟩
theorem lw_p26 : lw_okq (⟨"HookColoursModel", "aheadOf", "(I)I"⟩, 18) := ⟨⟨by decide +kernel, by decide +kernel⟩, List.mem_of_getElem? (i := 540) (by decide +kernel), List.mem_of_getElem? (i := 672) (by decide +kernel), List.mem_of_getElem? (i := 673) (by decide +kernel)⟩
theorem lw_p27 : lw_okq (⟨"HookColoursModel", "look", "()V"⟩, 18) := ⟨⟨by decide +kernel, by decide +kernel⟩, List.mem_of_getElem? (i := 540) (by decide +kernel), List.mem_of_getElem? (i := 684) (by decide +kernel), List.mem_of_getElem? (i := 685) (by decide +kernel)⟩
theorem lw_p28 : lw_okq (⟨"HookColoursModel", "clashAll", "(II)V"⟩, 18) := ⟨⟨by decide +kernel, by decide +kernel⟩, List.mem_of_getElem? (i := 540) (by decide +kernel), List.mem_of_getElem? (i := 688) (by decide +kernel), List.mem_of_getElem? (i := 689) (by decide +kernel)⟩
theorem lw_p29 : lw_okq (⟨"HookColoursModel", "add", "(II)V"⟩, 18) := ⟨⟨by decide +kernel, by decide +kernel⟩, List.mem_of_getElem? (i := 540) (by decide +kernel), List.mem_of_getElem? (i := 692) (by decide +kernel), List.mem_of_getElem? (i := 693) (by decide +kernel)⟩
theorem lw_p30 : lw_okq (⟨"HookColoursModel", "lookAll", "()V"⟩, 18) := ⟨⟨by decide +kernel, by decide +kernel⟩, List.mem_of_getElem? (i := 540) (by decide +kernel), List.mem_of_getElem? (i := 700) (by decide +kernel), List.mem_of_getElem? (i := 701) (by decide +kernel)⟩
theorem lw_p31 : lw_okq (⟨"HookColoursModel", "hang", "(I)V"⟩, 18) := ⟨⟨by decide +kernel, by decide +kernel⟩, List.mem_of_getElem? (i := 540) (by decide +kernel), List.mem_of_getElem? (i := 704) (by decide +kernel), List.mem_of_getElem? (i := 705) (by decide +kernel)⟩
def lw_privs_2 : List (MethodName × Nat) := [(⟨"HookColours", "pouringsSpared", "()I"⟩, 8), (⟨"HookColours", "isSpared", "(I)Z"⟩, 8), (⟨"HookColours", "weightsNotSpared", "()I"⟩, 8), (⟨"HookColours", "requireDeed", "(I)V"⟩, 8), (⟨"HookColoursModel", "add", "(IIIII)I"⟩, 18), (⟨"HookColoursModel", "no", "(I)I"⟩, 18), (⟨"HookColoursModel", "isDeed", "(I)Z"⟩, 18), (⟨"HookColoursModel", "live", "()V"⟩, 18), (⟨"HookColoursModel", "uses", "(I)I"⟩, 18), (⟨"HookColoursModel", "deedTold", "(II)I"⟩, 18), (⟨"HookColoursModel", "aheadOf", "(I)I"⟩, 18), (⟨"HookColoursModel", "look", "()V"⟩, 18), (⟨"HookColoursModel", "clashAll", "(II)V"⟩, 18), (⟨"HookColoursModel", "add", "(II)V"⟩, 18), (⟨"HookColoursModel", "lookAll", "()V"⟩, 18), (⟨"HookColoursModel", "hang", "(I)V"⟩, 18)]
theorem lw_r2 : ∀ q ∈ lw_privs_2, lw_okq q := List.forall_mem_cons.mpr ⟨lw_p16, List.forall_mem_cons.mpr ⟨lw_p17, List.forall_mem_cons.mpr ⟨lw_p18, List.forall_mem_cons.mpr ⟨lw_p19, List.forall_mem_cons.mpr ⟨lw_p20, List.forall_mem_cons.mpr ⟨lw_p21, List.forall_mem_cons.mpr ⟨lw_p22, List.forall_mem_cons.mpr ⟨lw_p23, List.forall_mem_cons.mpr ⟨lw_p24, List.forall_mem_cons.mpr ⟨lw_p25, List.forall_mem_cons.mpr ⟨lw_p26, List.forall_mem_cons.mpr ⟨lw_p27, List.forall_mem_cons.mpr ⟨lw_p28, List.forall_mem_cons.mpr ⟨lw_p29, List.forall_mem_cons.mpr ⟨lw_p30, List.forall_mem_cons.mpr ⟨lw_p31, fun _ h => absurd h List.not_mem_nil⟩⟩⟩⟩⟩⟩⟩⟩⟩⟩⟩⟩⟩⟩⟩⟩
theorem lw_p32 : lw_okq (⟨"HookColoursModel", "next", "(II)I"⟩, 18) := ⟨⟨by decide +kernel, by decide +kernel⟩, List.mem_of_getElem? (i := 540) (by decide +kernel), List.mem_of_getElem? (i := 708) (by decide +kernel), List.mem_of_getElem? (i := 709) (by decide +kernel)⟩
theorem lw_p33 : lw_okq (⟨"HookColoursModel", "hookFor", "(II)I"⟩, 18) := ⟨⟨by decide +kernel, by decide +kernel⟩, List.mem_of_getElem? (i := 540) (by decide +kernel), List.mem_of_getElem? (i := 712) (by decide +kernel), List.mem_of_getElem? (i := 713) (by decide +kernel)⟩
theorem lw_p34 : lw_okq (⟨"HookColoursModel", "isPoured", "(II)Z"⟩, 18) := ⟨⟨by decide +kernel, by decide +kernel⟩, List.mem_of_getElem? (i := 540) (by decide +kernel), List.mem_of_getElem? (i := 716) (by decide +kernel), List.mem_of_getElem? (i := 717) (by decide +kernel)⟩
theorem lw_p35 : lw_okq (⟨"HookColoursModel", "isFree", "(II)Z"⟩, 18) := ⟨⟨by decide +kernel, by decide +kernel⟩, List.mem_of_getElem? (i := 540) (by decide +kernel), List.mem_of_getElem? (i := 720) (by decide +kernel), List.mem_of_getElem? (i := 721) (by decide +kernel)⟩
theorem lw_p36 : lw_okq (⟨"HookColoursModel", "potTold", "(II)I"⟩, 18) := ⟨⟨by decide +kernel, by decide +kernel⟩, List.mem_of_getElem? (i := 540) (by decide +kernel), List.mem_of_getElem? (i := 724) (by decide +kernel), List.mem_of_getElem? (i := 725) (by decide +kernel)⟩
theorem lw_p37 : lw_okq (⟨"HookColoursModel", "isFloor", "(I)Z"⟩, 18) := ⟨⟨by decide +kernel, by decide +kernel⟩, List.mem_of_getElem? (i := 540) (by decide +kernel), List.mem_of_getElem? (i := 728) (by decide +kernel), List.mem_of_getElem? (i := 729) (by decide +kernel)⟩
theorem lw_p38 : lw_okq (⟨"HookColoursModel", "counted", "(I)I"⟩, 18) := ⟨⟨by decide +kernel, by decide +kernel⟩, List.mem_of_getElem? (i := 540) (by decide +kernel), List.mem_of_getElem? (i := 736) (by decide +kernel), List.mem_of_getElem? (i := 737) (by decide +kernel)⟩
theorem lw_p39 : lw_okq (⟨"HookColoursModel", "pairs", "()I"⟩, 18) := ⟨⟨by decide +kernel, by decide +kernel⟩, List.mem_of_getElem? (i := 540) (by decide +kernel), List.mem_of_getElem? (i := 740) (by decide +kernel), List.mem_of_getElem? (i := 741) (by decide +kernel)⟩
theorem lw_p40 : lw_okq (⟨"HookColoursModel", "floor", "()I"⟩, 18) := ⟨⟨by decide +kernel, by decide +kernel⟩, List.mem_of_getElem? (i := 540) (by decide +kernel), List.mem_of_getElem? (i := 744) (by decide +kernel), List.mem_of_getElem? (i := 745) (by decide +kernel)⟩
theorem lw_p41 : lw_okq (⟨"HookColoursModel", "usedHooks", "()I"⟩, 18) := ⟨⟨by decide +kernel, by decide +kernel⟩, List.mem_of_getElem? (i := 540) (by decide +kernel), List.mem_of_getElem? (i := 748) (by decide +kernel), List.mem_of_getElem? (i := 749) (by decide +kernel)⟩
theorem lw_p42 : lw_okq (⟨"HookColoursModel", "hangAt", "(I)I"⟩, 18) := ⟨⟨by decide +kernel, by decide +kernel⟩, List.mem_of_getElem? (i := 540) (by decide +kernel), List.mem_of_getElem? (i := 752) (by decide +kernel), List.mem_of_getElem? (i := 753) (by decide +kernel)⟩
theorem lw_p43 : lw_okq (⟨"HookColoursModel", "pourings", "(Z)I"⟩, 18) := ⟨⟨by decide +kernel, by decide +kernel⟩, List.mem_of_getElem? (i := 540) (by decide +kernel), List.mem_of_getElem? (i := 756) (by decide +kernel), List.mem_of_getElem? (i := 757) (by decide +kernel)⟩
theorem lw_p44 : lw_okq (⟨"HookColoursModel", "isSpared", "(I)Z"⟩, 18) := ⟨⟨by decide +kernel, by decide +kernel⟩, List.mem_of_getElem? (i := 540) (by decide +kernel), List.mem_of_getElem? (i := 760) (by decide +kernel), List.mem_of_getElem? (i := 761) (by decide +kernel)⟩
theorem lw_p45 : lw_okq (⟨"HookColoursModel", "floorCost", "()I"⟩, 18) := ⟨⟨by decide +kernel, by decide +kernel⟩, List.mem_of_getElem? (i := 540) (by decide +kernel), List.mem_of_getElem? (i := 764) (by decide +kernel), List.mem_of_getElem? (i := 765) (by decide +kernel)⟩
theorem lw_p46 : lw_okq (⟨"HookColoursModel", "weights", "()I"⟩, 18) := ⟨⟨by decide +kernel, by decide +kernel⟩, List.mem_of_getElem? (i := 540) (by decide +kernel), List.mem_of_getElem? (i := 768) (by decide +kernel), List.mem_of_getElem? (i := 769) (by decide +kernel)⟩
def lw_privs_3 : List (MethodName × Nat) := [(⟨"HookColoursModel", "next", "(II)I"⟩, 18), (⟨"HookColoursModel", "hookFor", "(II)I"⟩, 18), (⟨"HookColoursModel", "isPoured", "(II)Z"⟩, 18), (⟨"HookColoursModel", "isFree", "(II)Z"⟩, 18), (⟨"HookColoursModel", "potTold", "(II)I"⟩, 18), (⟨"HookColoursModel", "isFloor", "(I)Z"⟩, 18), (⟨"HookColoursModel", "counted", "(I)I"⟩, 18), (⟨"HookColoursModel", "pairs", "()I"⟩, 18), (⟨"HookColoursModel", "floor", "()I"⟩, 18), (⟨"HookColoursModel", "usedHooks", "()I"⟩, 18), (⟨"HookColoursModel", "hangAt", "(I)I"⟩, 18), (⟨"HookColoursModel", "pourings", "(Z)I"⟩, 18), (⟨"HookColoursModel", "isSpared", "(I)Z"⟩, 18), (⟨"HookColoursModel", "floorCost", "()I"⟩, 18), (⟨"HookColoursModel", "weights", "()I"⟩, 18)]
theorem lw_r3 : ∀ q ∈ lw_privs_3, lw_okq q := List.forall_mem_cons.mpr ⟨lw_p32, List.forall_mem_cons.mpr ⟨lw_p33, List.forall_mem_cons.mpr ⟨lw_p34, List.forall_mem_cons.mpr ⟨lw_p35, List.forall_mem_cons.mpr ⟨lw_p36, List.forall_mem_cons.mpr ⟨lw_p37, List.forall_mem_cons.mpr ⟨lw_p38, List.forall_mem_cons.mpr ⟨lw_p39, List.forall_mem_cons.mpr ⟨lw_p40, List.forall_mem_cons.mpr ⟨lw_p41, List.forall_mem_cons.mpr ⟨lw_p42, List.forall_mem_cons.mpr ⟨lw_p43, List.forall_mem_cons.mpr ⟨lw_p44, List.forall_mem_cons.mpr ⟨lw_p45, List.forall_mem_cons.mpr ⟨lw_p46, fun _ h => absurd h List.not_mem_nil⟩⟩⟩⟩⟩⟩⟩⟩⟩⟩⟩⟩⟩⟩⟩
def lw_privs : List (MethodName × Nat) := lw_privs_1 ++ (lw_privs_2 ++ (lw_privs_3))
def lw_tbl : List Cond := k2_sels lw_privs ++ tables_1
theorem lw_privs_ok : ∀ q ∈ lw_privs, lw_okq q := by
  show ∀ q ∈ lw_privs_1 ++ (lw_privs_2 ++ (lw_privs_3)), lw_okq q
  exact List.forall_mem_append.mpr ⟨lw_r1, List.forall_mem_append.mpr ⟨lw_r2, lw_r3⟩⟩
/-- the streams that the claim lets the run draw from -/
abbrev lw_cs : List Choice := [Jvm.Choice.named "NaN.bits"]
theorem lw_bits : nanBits ∈ lw_cs := by first | decide | exact List.mem_cons_self | simp [lw_cs, nanBits]
end
section
/-! ===== BEGIN words of one list among another's, by their places ===== -/
theorem goodIn_r {big : List Cond} (ws : List Cond) (ps : List Nat) (hp : ws = ps.filterMap (fun i => big[i]?)) (h : ws.all goodWord = true) : GoodIn big ws := by
  intro w hw
  have h1 := List.all_eq_true.mp h w hw
  rw [hp] at hw
  obtain ⟨i, -, hi⟩ := List.mem_filterMap.mp hw
  have hm : w ∈ big := by first | exact List.mem_of_getElem? hi | exact List.getElem?_mem hi
  exact ⟨hm, good_of_word h1⟩
theorem goodIn_app {big a b : List Cond} (ha : GoodIn big a) (hb : GoodIn big b) : GoodIn big (a ++ b) := fun w h => (List.mem_append.mp h).elim (ha w) (hb w)
theorem goodIn_ca {big a b : List Cond} {c : Cond} (ha : GoodIn big (c :: a)) (hb : GoodIn big b) : GoodIn big (c :: (a ++ b)) := fun w h => (List.mem_cons.mp h).elim (fun e => ha w (List.mem_cons.mpr (Or.inl e))) (fun h => (List.mem_append.mp h).elim (fun h => ha w (List.mem_cons.mpr (Or.inr h))) (hb w))
theorem goodIn_sub {big ws : List Cond} (hm : ∀ w ∈ ws, w ∈ big) (h : ws.all goodWord = true) : GoodIn big ws := fun w hw => ⟨hm w hw, good_of_word (List.all_eq_true.mp h w hw)⟩
/-! ===== END ===== -/

/-! ===== BEGIN exceptions that leave a method, and their catching by the caller (launches without stack traces) ===== -/
section VXA
/-! The laws vx_back, vx_callV, vx_callS, vx_callSW, vx_throw0, vx_throwS follow proofs of the library, with one case more: JvmDerived/Free/Laws.lean (Back.of_free), Shelf42/LK1.lean (callV, callS), Shelf/KitTraced.lean (throwNew0V, throwNewS). -/
/-- where a method has thrown q: the class by its name, the cell, what was written, the world -/
def vx_T (XC : String → State → State → Prop) (st : State) (q : Addr) (t : State) (mc ms : Nat) (free : Addr → Prop) : Prop :=
  ∃ (E : String) (ce : Cell) (L : List Loc), XC E st t ∧ t.heap[q]? = some ce ∧ ce.vm = .none ∧ st.vm.findClass E = some ce.cls ∧ st.WarmedH t.vm ∧ st.sameButNew ({ t with vm := st.vm } : State) L mc ms ∧ ∀ z ∈ L, free z.base
def vx_Q (Qc : Array Value → State → Outcome → State → Prop) (XC : String → State → State → Prop) (mc ms : Nat) (free : Addr → Prop) : Array Value → State → Outcome → State → Prop := fun a st o t =>
  (Qc a st o t ∧ ∃ L, FrameEnd st o t L mc ms ∧ ∀ q ∈ L, free q.base) ∨ ∃ q, o = .threw q ∧ vx_T XC st q t mc ms free
/-- a callee that returns or throws -/
def vx_Met (l : Launch) (y : MethodName) (ws : List Cond) (rm : Room) (Pc : Array Value → State → Prop) (Qc : Array Value → State → Outcome → State → Prop) (XC : String → State → State → Prop) (mc ms : Nat) (free : Addr → Prop) : Prop :=
  MetFree l y (headSpec ws rm) Pc (fun _ _ _ _ _ => True) (vx_Q Qc XC mc ms free)
def vx_Post (XC : String → State → State → Prop) (mc ms : Nat) (free : Addr → Prop) : Pt → Array Value → Addr → Pt → Prop := fun A a q B =>
  ∃ (g : JFrame) (mk : MethodId) (t : State) (L : List Loc) (E : String) (ce : Cell), B.U.heap = t.heap ∧ B.U.vm = t.vm ∧ XC E (A.U.calling g mk a) t ∧ t.heap[q]? = some ce ∧ ce.vm = .none ∧ A.U.vm.findClass E = some ce.cls ∧ B.locs = A.locs ++ L ∧ (∀ z ∈ L, free z.base) ∧ B.cells = A.cells + mc ∧ B.slots = A.slots + ms
def vx_Back (l : Launch) (R : Room) (p : Program) (e : Env) (below : List Frame) (s : State) (sargs : Array Value) (y : MethodName) (len W9 : Nat)
    (Pre : Pt → Array Value → Prop) (Post : Pt → Array Value → Option Value → Pt → Prop) (PostX : Pt → Array Value → Addr → Pt → Prop) : Prop :=
  ∀ (m : MethodId) (meth : Method) (c : Code) (A : Pt) (g : JFrame) (ig : Instr) (mk : MethodId) (a : Array Value),
    Stand p l e R s m sargs below meth c A.U A.locs A.cells A.slots → g.method = m → g.locals.size = c.maxLocals → decode c.code g.pc = .ok (ig, len) →
    2 * g.monitorRoom + (g.stack.map fun v => v.category).sum ≤ W9 → A.U.methodNamed? y = some mk → Pre A a →
    (∃ (v : Option Value) (B : Pt), Stand p l e R s m sargs below meth c B.U B.locs B.cells B.slots ∧ Post A a v B ∧
      Steps p.tables e below (doInvoke e (A.U.setTop g) [] mk a).1 (B.U.setTop { g with pc := g.pc + len, stack := v.toList ++ g.stack })) ∨
    (∃ (q : Addr) (B : Pt), Stand p l e R s m sargs below meth c B.U B.locs B.cells B.slots ∧ PostX A a q B ∧
      Steps p.tables e below (doInvoke e (A.U.setTop g) [] mk a).1 ((B.U.setTop g).pushFrame (.throwing q)))
section Payer
variable {l : Launch} {R : Room} {p : Program} {e : Env} {below : List Frame} {s : State} {sargs : Array Value} {y : MethodName} {len W9 : Nat}
theorem vx_back {ws : List Cond} {rm : Room} {Pc : Array Value → State → Prop} {Qc : Array Value → State → Outcome → State → Prop} {XC : String → State → State → Prop} {mc ms : Nat} {free : Addr → Prop} {bytes : ByteArray} {maxL : Nat} {ret : Option FieldType}
    (hM : vx_Met l y ws rm Pc Qc XC mc ms free) (hblind : FrameBlind Pc) (hrc : rm.cells = mc) (hrs : rm.slots = ms)
    (hframes : rm.frames + 1 ≤ R.frames) (hlocals : W9 + (maxL + 11) + rm.locals ≤ R.locals)
    (hws : ∀ w ∈ ws, ∀ a' U, s.WarmedH U.vm → w.before a' U = true) (hcode : Cond.code y bytes maxL ret ∈ ws) (hinit : ∀ a' U, s.WarmedH U.vm → (Cond.initialized y.cls).before a' U = true) :
    vx_Back l R p e below s sargs y len W9 (PreOf R mc ms Pc) (PostOf Qc mc ms free) (vx_Post XC mc ms free) := by
  intro m meth c A g ig mk a X hg hsize hdg hW hn hp
  have h1 : (headSpec ws rm).pre.before a A.U = true := atoms_intro fun w hw => hws w hw _ _ X.warmed
  have h2 : (Cond.code y bytes maxL ret).before a A.U = true := hws _ hcode _ _ X.warmed
  have h3 : (Cond.initialized y.cls).before a A.U = true := hinit _ _ X.warmed
  have h4 : A.cells + (headSpec ws rm).room.cells ≤ R.cells := by rw [show (headSpec ws rm).room.cells = mc from hrc]; exact hp.1
  have h5 : A.slots + (headSpec ws rm).room.slots ≤ R.slots := by rw [show (headSpec ws rm).room.slots = ms from hrs]; exact hp.2.1
  have hPc : Pc a (A.U.calling g mk a) := hblind _ _ _ _ hp.2.2
  obtain ⟨U, Ls, c0, s0⟩ := A
  dsimp only [Pt.U, Pt.locs, Pt.cells, Pt.slots] at h1 h2 h3 h4 h5 X hn hPc ⊢
  obtain ⟨methY, cY, hmY, hcY, -, hlY, -, -, -, -⟩ := Cond.code_spec hn h2
  obtain ⟨kY, hkY, -⟩ := className_of_methodNamed hn
  have hinitY : kY.init = .initialized := Cond.initialized_spec (findClass_of_methodNamed hn) hkY h3
  have h : At U g.method c below := by rw [hg]; exact X.here
  have hlocals9 : W9 + (maxL + 11) + (headSpec ws rm).room.locals ≤ R.locals := hlocals
  have happ : (headSpec ws rm).appliesLoose y e.platform (U.calling g mk a) = true :=
    Spec.appliesLoose_calling (g := g) h hdg hn hkY hinitY
      (X.room_calling (g := g) (R' := (headSpec ws rm).room) hsize hmY hcY hframes (by rw [hlY]; omega) h4 h5) h1
  obtain ⟨mid, hmid⟩ := h.above
  have hfr : (U.setTop g).frames = (.java g :: mid) ++ below := by rw [State.frames_setTop' g h.top, hmid]; rfl
  obtain ⟨o, s₂, hsteps, -, hend, hq⟩ := Steps.callFree hM p X.admits X.cas X.clock (acts := []) hfr happ hPc trivial
  have hq' : vx_Q Qc XC mc ms free a (U.calling g mk a) o s₂ := hq
  rw [State.frames_setTop' g h.top] at hend
  obtain ⟨g₀, hg0⟩ := Option.isSome_iff_exists.mp h.top
  obtain ⟨r, hr⟩ := State.topJava?_eq_some.mp hg0
  have hr' : (({ U with heap := s₂.heap, slotsUsed := s₂.slotsUsed } : State).setVm s₂.vm).frames = .java g₀ :: r := hr
  rcases hq' with ⟨hqc, L, hfe, hL⟩ | ⟨q, rfl, E, ce, L, hx, hce, hcv, hcl, hW₂, hsm, hL⟩
  · obtain ⟨⟨v, rfl⟩, hW₂, e2, q2, q3, q4, q5, q6⟩ := id hfe
    have e3 : s₂ = ({ (U.calling g mk a).setFrames s₂.frames with heap := s₂.heap, slotsUsed := s₂.slotsUsed } : State).setVm s₂.vm := by
      have : s₂ = ({ s₂ with vm := (U.calling g mk a).vm } : State).setVm s₂.vm := rfl
      rw [e2] at this
      exact this
    obtain ⟨c₂, i₂, len₂, hc₂, hd₂, hf₂⟩ := hend
    have hW' : U.WarmedH s₂.vm := hW₂
    have hcc : c₂ = c := by
      have h1 : s₂.code? g.method = U.code? g.method := by
        rw [State.code?_eq, State.code?_eq, hW'.alike.method?]
      exact Option.some.inj (hc₂.symm.trans (h1.trans h.code))
    subst hcc
    have hlen : len₂ = len := by rw [hdg] at hd₂; cases hd₂; rfl
    subst hlen
    have hs₂ : s₂ = (({ U with heap := s₂.heap, slotsUsed := s₂.slotsUsed } : State).setVm s₂.vm).setTop { g with pc := g.pc + len₂, stack := v.toList ++ g.stack } := by
      refine e3.trans ?_
      rw [hf₂, State.calling_eq h.top, State.setFrames_setFrames, State.setTop_of_frames _ hr', hr]
      rfl
    have hsame : U.sameButNew ({ U with heap := s₂.heap, slotsUsed := s₂.slotsUsed } : State) L mc ms := by
      refine ⟨?_, q2, q3, q4, q5, q6⟩
      obtain ⟨t, ht, -⟩ := State.frames_cons hr
      show ({ U with heap := s₂.heap, slotsUsed := s₂.slotsUsed } : State) = { U.setFrames U.frames with heap := s₂.heap, slotsUsed := s₂.slotsUsed }
      rw [State.setFrames_self ht]
    subst hg
    refine Or.inl ⟨v, ⟨(({ U with heap := s₂.heap, slotsUsed := s₂.slotsUsed } : State).setVm s₂.vm), Ls ++ L, c0 + mc, s0 + ms⟩,
      ⟨X.admits, X.cas, X.clock, X.frames, X.room, X.hears, X.method, X.code, (X.here.setHeapUsed s₂.heap s₂.slotsUsed).setVm hW'.alike, X.tail, State.WarmedH.trans X.warmed hW', X.limits, X.bytes, X.same.trans (hsame.setVm s.vm)⟩,
      ⟨g, mk, s₂, L, rfl, rfl, hqc, rfl, hL, rfl, rfl⟩, ?_⟩
    show Steps p.tables e below _ ((({ U with heap := s₂.heap, slotsUsed := s₂.slotsUsed } : State).setVm s₂.vm).setTop { g with pc := g.pc + len₂, stack := v.toList ++ g.stack })
    rw [← hs₂]
    exact hsteps
  · obtain ⟨e2, q2, q3, q4, q5, q6⟩ := id hsm
    have e3 : s₂ = ({ (U.calling g mk a).setFrames s₂.frames with heap := s₂.heap, slotsUsed := s₂.slotsUsed } : State).setVm s₂.vm := by
      have : s₂ = ({ s₂ with vm := (U.calling g mk a).vm } : State).setVm s₂.vm := rfl
      rw [e2] at this
      exact this
    have hf₂ : s₂.frames = .throwing q :: .java g :: U.frames.tail := hend
    have hW' : U.WarmedH s₂.vm := hW₂
    have hs₂ : s₂ = ((({ U with heap := s₂.heap, slotsUsed := s₂.slotsUsed } : State).setVm s₂.vm).setTop g).pushFrame (.throwing q) := by
      refine e3.trans ?_
      rw [hf₂, State.calling_eq h.top, State.setFrames_setFrames, State.pushFrame, State.frames_setTop _ hr', State.setTop_of_frames _ hr', State.setFrames_setFrames, hr]
      rfl
    have hsame : U.sameButNew ({ U with heap := s₂.heap, slotsUsed := s₂.slotsUsed } : State) L mc ms := by
      refine ⟨?_, q2, q3, q4, q5, q6⟩
      obtain ⟨t, ht, -⟩ := State.frames_cons hr
      show ({ U with heap := s₂.heap, slotsUsed := s₂.slotsUsed } : State) = { U.setFrames U.frames with heap := s₂.heap, slotsUsed := s₂.slotsUsed }
      rw [State.setFrames_self ht]
    subst hg
    refine Or.inr ⟨q, ⟨(({ U with heap := s₂.heap, slotsUsed := s₂.slotsUsed } : State).setVm s₂.vm), Ls ++ L, c0 + mc, s0 + ms⟩,
      ⟨X.admits, X.cas, X.clock, X.frames, X.room, X.hears, X.method, X.code, (X.here.setHeapUsed s₂.heap s₂.slotsUsed).setVm hW'.alike, X.tail, State.WarmedH.trans X.warmed hW', X.limits, X.bytes, X.same.trans (hsame.setVm s.vm)⟩,
      ⟨g, mk, s₂, L, E, ce, rfl, rfl, hx, hce, hcv, hcl, rfl, hL, rfl, rfl⟩, ?_⟩
    show Steps p.tables e below _ (((({ U with heap := s₂.heap, slotsUsed := s₂.slotsUsed } : State).setVm s₂.vm).setTop g).pushFrame (.throwing q))
    rw [← hs₂]
    exact hsteps
end Payer
section Calls
variable {p : Program} {l : Launch} {e : Env} {R : Room} {s : State} {m : MethodId} {args : Array Value} {below : List Frame} {meth : Method} {c : Code} {T : State} {locs : List Loc} {cells slots : Nat}
theorem vx_callV (X : Stand p l e R s m args below meth c T locs cells slots) (hexec : p.tables.exec = Jvm.exec) {own C : String} {index : Nat} {y : MethodName} {bytes : ByteArray} {maxL : Nat} {ret : Option FieldType}
    (hown : s.vm.findClass own = some m.cls) (hlink : (Cond.methodLink own index y).before args s = true) (hinst : (Cond.instanceMethod y).before args s = true) (hsel : (Cond.selects C y y).before args s = true)
    (hcode : (Cond.code y bytes maxL ret).before args s = true) (hy : y.cls ≠ "java/lang/invoke/MethodHandle" ∧ y.cls ≠ "java/lang/invoke/VarHandle")
    {W9 : Nat} {Pre : Pt → Array Value → Prop} {Post : Pt → Array Value → Option Value → Pt → Prop} {PostX : Pt → Array Value → Addr → Pt → Prop} (hK : vx_Back l R p e below s args y 3 W9 Pre Post PostX)
    {b : Addr} {cellB : Cell} (hcell : T.heap[b]? = some cellB) (hobj : cellB.vm.isStatics = false) (hcls : s.vm.findClass C = some cellB.cls)
    {g : JFrame} (hg : g.method = m) (hsize : g.locals.size = c.maxLocals) {argsL rest : List Value} (hlen : ∀ sig, parseMethodDescriptor y.desc = some sig → argsL.length = sig.parameters.length)
    (hstack : g.stack = argsL.reverse ++ .ref b :: rest) (hW : 2 * g.monitorRoom + (rest.map fun v => v.category).sum ≤ W9) (hdg : decode c.code g.pc = .ok (.invokevirtual index, 3))
    (hpre : ∀ vm₁, s.WarmedH vm₁ → Pre ⟨T.setVm vm₁, locs, cells, slots⟩ (Value.ref b :: argsL).toArray) :
    (∃ (v : Option Value) (vm₁ : Vm) (B : Pt), s.WarmedH vm₁ ∧ Stand p l e R s m args below meth c B.U B.locs B.cells B.slots ∧ Post ⟨T.setVm vm₁, locs, cells, slots⟩ (Value.ref b :: argsL).toArray v B ∧
      ∀ target, Steps p.tables e below (B.U.setTop { g with pc := g.pc + 3, stack := v.toList ++ rest }) target → Steps p.tables e below (T.setTop g) target) ∨
    (∃ (q : Addr) (vm₁ : Vm) (B : Pt), s.WarmedH vm₁ ∧ Stand p l e R s m args below meth c B.U B.locs B.cells B.slots ∧ PostX ⟨T.setVm vm₁, locs, cells, slots⟩ (Value.ref b :: argsL).toArray q B ∧
      Steps p.tables e below (T.setTop g) ((B.U.setTop { g with stack := rest }).pushFrame (.throwing q))) := by
  obtain ⟨mk, methM, hnamed, hmethM, hstM, habM⟩ := Cond.instanceMethod_spec hinst
  obtain ⟨methM', cM, hmethM', -, -, -, -, -, -, hsigM⟩ := Cond.code_spec hnamed hcode
  cases hmethM.symm.trans hmethM'
  obtain ⟨c2, r2, m2, q1, q2, q3, q4, kP, hkP, hkPi⟩ := Cond.selects_spec hsel
  cases hcls.symm.trans q1
  cases (State.methodFound?_of_named hnamed hy).symm.trans q2
  cases hnamed.symm.trans q3
  have hselP : selectMethod e.platform s.vm cellB.cls mk = .method mk := by rw [Launch.admits_selectMethod X.admits]; exact q4
  obtain ⟨vm₁, X₁, hstep₁⟩ := X.invokevirtual hexec hown hlink hnamed hmethM hstM hkP hkPi hy (a := b) (cell := cellB) hcell
    (fun z h => by rw [h] at hobj; cases hobj) hselP hmethM habM hkP hkPi (g := g) hg (argsL := argsL) (rest := rest) (hlen _ hsigM) hstack hdg
  rcases hK m meth c ⟨T.setVm vm₁, locs, cells, slots⟩ { g with stack := rest } (.invokevirtual index) mk (Value.ref b :: argsL).toArray X₁ hg hsize hdg hW (X₁.named hnamed) (hpre vm₁ X₁.warmed) with ⟨v, B, X', hpost, hsteps⟩ | ⟨q, B, X', hpost, hsteps⟩
  · exact Or.inl ⟨v, vm₁, B, X₁.warmed, X', hpost, fun target h => hstep₁ _ fun acts => by rw [doInvoke_state]; exact hsteps.trans h⟩
  · exact Or.inr ⟨q, vm₁, B, X₁.warmed, X', hpost, hstep₁ _ fun acts => by rw [doInvoke_state]; exact hsteps⟩
theorem vx_callS (X : Stand p l e R s m args below meth c T locs cells slots) (hexec : p.tables.exec = Jvm.exec) {own : String} {index : Nat} {y : MethodName} {bytes : ByteArray} {maxL : Nat} {ret : Option FieldType}
    (hown : s.vm.findClass own = some m.cls) (hlink : (Cond.methodLink own index y).before args s = true) (hstat : (Cond.static y).before args s = true) (hinit : (Cond.initialized y.cls).before args s = true)
    (hcode : (Cond.code y bytes maxL ret).before args s = true) (hy : y.cls ≠ "java/lang/invoke/MethodHandle" ∧ y.cls ≠ "java/lang/invoke/VarHandle")
    {W9 : Nat} {Pre : Pt → Array Value → Prop} {Post : Pt → Array Value → Option Value → Pt → Prop} {PostX : Pt → Array Value → Addr → Pt → Prop} (hK : vx_Back l R p e below s args y 3 W9 Pre Post PostX)
    {g : JFrame} (hg : g.method = m) (hsize : g.locals.size = c.maxLocals) {argsL rest : List Value} (hlen : ∀ sig, parseMethodDescriptor y.desc = some sig → argsL.length = sig.parameters.length)
    (hstack : g.stack = argsL.reverse ++ rest) (hW : 2 * g.monitorRoom + (rest.map fun v => v.category).sum ≤ W9) (hdg : decode c.code g.pc = .ok (.invokestatic index, 3))
    (hpre : ∀ vm₁, s.WarmedH vm₁ → Pre ⟨T.setVm vm₁, locs, cells, slots⟩ argsL.toArray) :
    (∃ (v : Option Value) (vm₁ : Vm) (B : Pt), s.WarmedH vm₁ ∧ Stand p l e R s m args below meth c B.U B.locs B.cells B.slots ∧ Post ⟨T.setVm vm₁, locs, cells, slots⟩ argsL.toArray v B ∧
      ∀ target, Steps p.tables e below (B.U.setTop { g with pc := g.pc + 3, stack := v.toList ++ rest }) target → Steps p.tables e below (T.setTop g) target) ∨
    (∃ (q : Addr) (vm₁ : Vm) (B : Pt), s.WarmedH vm₁ ∧ Stand p l e R s m args below meth c B.U B.locs B.cells B.slots ∧ PostX ⟨T.setVm vm₁, locs, cells, slots⟩ argsL.toArray q B ∧
      Steps p.tables e below (T.setTop g) ((B.U.setTop { g with stack := rest }).pushFrame (.throwing q))) := by
  obtain ⟨mk, hnamed⟩ := Cond.code_named hcode
  obtain ⟨methM, cM, hmethM, -, -, -, -, -, -, hsigM⟩ := Cond.code_spec hnamed hcode
  have hstatic : methM.isStatic = true := Cond.static_spec hnamed hmethM hstat
  obtain ⟨kP, hkP, -⟩ := className_of_methodNamed hnamed
  have hinitP : kP.init = .initialized := Cond.initialized_spec (findClass_of_methodNamed hnamed) hkP hinit
  obtain ⟨vm₁, X₁, hstep₁⟩ := X.invokestatic hexec hown hlink hnamed hmethM hstatic hkP hinitP hy (g := g) hg (argsL := argsL) (rest := rest) (hlen _ hsigM) hstack hdg
  rcases hK m meth c ⟨T.setVm vm₁, locs, cells, slots⟩ { g with stack := rest } (.invokestatic index) mk argsL.toArray X₁ hg hsize hdg hW (X₁.named hnamed) (hpre vm₁ X₁.warmed) with ⟨v, B, X', hpost, hsteps⟩ | ⟨q, B, X', hpost, hsteps⟩
  · exact Or.inl ⟨v, vm₁, B, X₁.warmed, X', hpost, fun target h => hstep₁ _ fun acts => by rw [doInvoke_state]; exact hsteps.trans h⟩
  · exact Or.inr ⟨q, vm₁, B, X₁.warmed, X', hpost, hstep₁ _ fun acts => by rw [doInvoke_state]; exact hsteps⟩
end Calls
theorem vx_cls {s : State} {T : State} {vm₁ : Vm} {E : String} {k : ClassId} (hW : s.WarmedH vm₁) (h : (T.setVm vm₁).vm.findClass E = some k) : s.vm.findClass E = some k := by
  have h1 : vm₁.findClass E = some k := h
  rw [hW.alike.findClass] at h1
  exact h1
/-- the method's frame g, with q thrown over it -/
def vx_W (p : Program) (l : Launch) (e : Env) (R : Room) (s : State) (m : MethodId) (args : Array Value) (below : List Frame) (meth : Method) (c : Code) (H : Heap) (locs : List Loc) (cells slots : Nat) (Q : State → Prop) (g : JFrame) (q : Addr) : Prop :=
  ∀ T : State, T.heap = H → Stand p l e R s m args below meth c T locs cells slots → ∃ t, Steps p.tables e below ((T.setTop g).pushFrame (.throwing q)) t ∧ Q t
def vx_Run (p : Program) (l : Launch) (e : Env) (R : Room) (s : State) (m : MethodId) (args : Array Value) (below : List Frame) (meth : Method) (c : Code) (H : Heap) (locs : List Loc) (cells slots mc ms : Nat) (g : JFrame) (rest : List Value) (Qa : State → Outcome → State → Prop) (XC : String → State → State → Prop) (free : Addr → Prop) : Prop :=
  ∀ T : State, T.heap = H → Stand p l e R s m args below meth c T locs cells slots →
    (∃ (v : Option Value) (st₀ t T' : State) (L : List Loc), st₀.heap = H ∧ Stand p l e R s m args below meth c T' (locs ++ L) (cells + mc) (slots + ms) ∧ (∀ q ∈ L, free q.base) ∧ T'.heap = t.heap ∧ T'.vm = t.vm ∧ Qa st₀ (.returned v) t ∧
      Goes p e below T g T' { g with pc := g.pc + 3, stack := v.toList ++ rest }) ∨
    (∃ (q : Addr) (st₀ t T' : State) (L : List Loc) (E : String) (ce : Cell), st₀.heap = H ∧ Stand p l e R s m args below meth c T' (locs ++ L) (cells + mc) (slots + ms) ∧ (∀ z ∈ L, free z.base) ∧ T'.heap = t.heap ∧ T'.vm = t.vm ∧ XC E st₀ t ∧ t.heap[q]? = some ce ∧ ce.vm = .none ∧ s.vm.findClass E = some ce.cls ∧
      Steps p.tables e below (T.setTop g) ((T'.setTop { g with stack := rest }).pushFrame (.throwing q)))
def vx_X {S : Type} (px : S → Prop) (B : String → S → State → Prop) (A : Nat → Prop) : String → State → State → Prop := fun E st t => ∃ u : S, px u ∧ B E u t ∧ va_F A st t
section Runs
variable {p : Program} {l : Launch} {e : Env} {R : Room} {s : State} {m : MethodId} {args : Array Value} {below : List Frame} {meth : Method} {c : Code} {H : Heap} {locs : List Loc} {cells slots : Nat}
variable {y : MethodName} {bytes cc : ByteArray} {maxL nL mc ms n index : Nat} {ret : Option FieldType} {ws : List Cond} {rm : Room} {Pc : Array Value → State → Prop} {Qc : Array Value → State → Outcome → State → Prop} {XC : String → State → State → Prop} {free : Addr → Prop} {Ts : List Cond} {own C : String} {b : Addr} {As rest : List Value} {g : JFrame}
theorem vx_callBack (cb : CallB R s args own index y bytes maxL ret ws rm mc ms n) (hM : vx_Met l y ws rm Pc Qc XC mc ms free) (hbl : FrameBlind Pc) : vx_Back l R p e below s args y 3 8 (PreOf R mc ms Pc) (PostOf Qc mc ms free) (vx_Post XC mc ms free) := by
  obtain ⟨hrc, hrs, hfr, hlo, hws, hcw, -, hini, -⟩ := cb
  exact vx_back (bytes := bytes) (maxL := maxL) (ret := ret) hM hbl hrc hrs hfr hlo hws hcw (fun a' U hW => word_at hW (Or.inl (by first | rfl | simp [Cond.onTables, Cond.keeps, Cond.steady])) hini)
theorem vx_runV (S : CallFix p m c cc nL s args Ts own) (hM : vx_Met l y ws rm Pc Qc XC mc ms free) (cw : CallW R s args own C index y bytes maxL ret ws rm mc ms n) (hp : PreV s H C b Pc As)
    (hg : g.method = m) (hn : As.length = n) (hsize : g.locals.size = nL) (hstack : g.stack = As.reverse ++ .ref b :: rest) (hW : 2 * g.monitorRoom + (rest.map fun v => v.category).sum ≤ 8) (hdg : decode cc g.pc = .ok (.invokevirtual index, 3)) (hf : cells + mc ≤ R.cells ∧ slots + ms ≤ R.slots) :
    vx_Run p l e R s m args below meth c H locs cells slots mc ms g rest (Qc (Value.ref b :: As).toArray) XC free := by
  have hK : vx_Back l R p e below s args y 3 8 (PreOf R mc ms Pc) (PostOf Qc mc ms free) (vx_Post XC mc ms free) := vx_callBack cw.1 hM hp.1
  obtain ⟨⟨-, -, -, -, -, -, hcode, -, hy, hlen, hl⟩, hin, hse⟩ := cw
  obtain ⟨hx, hb, hml, ho, -⟩ := S
  obtain ⟨-, ⟨cellB, hcB, hoB, hclB⟩, hPc⟩ := hp
  intro T hT X
  rcases vx_callV X hx (C := C) (bytes := bytes) (maxL := maxL) (ret := ret) ho hl hin hse hcode hy hK (by rw [hT]; exact hcB) hoB hclB hg (hsize.trans hml.symm) (argsL := As) (rest := rest) (fun sig h => hn.trans (hlen sig h)) hstack hW (by rw [hb]; exact hdg)
    (fun vm₁ hW₁ => ⟨hf.1, hf.2, hPc (T.setVm vm₁) hT hW₁⟩) with ⟨v, vm₁, ⟨U', l2, c2, s2⟩, hW₁, X', ⟨g', mk, t, L, e1, e2, hq, h1, hL, h2, h3⟩, st⟩ | ⟨q, vm₁, ⟨U', l2, c2, s2⟩, hW₁, X', ⟨g', mk, t, L, E, ce, e1, e2, hq, hce, hcv, hcl, h1, hL, h2, h3⟩, st⟩
  · dsimp only [Pt.U, Pt.locs, Pt.cells, Pt.slots] at X' e1 e2 h1 h2 h3 st
    subst h1; subst h2; subst h3
    exact Or.inl ⟨v, (T.setVm vm₁).calling g' mk (Value.ref b :: As).toArray, t, U', L, hT, X', hL, e1, e2, hq, st⟩
  · dsimp only [Pt.U, Pt.locs, Pt.cells, Pt.slots] at X' e1 e2 h1 h2 h3 st hcl
    subst h1; subst h2; subst h3
    exact Or.inr ⟨q, (T.setVm vm₁).calling g' mk (Value.ref b :: As).toArray, t, U', L, E, ce, hT, X', hL, e1, e2, hq, hce, hcv, vx_cls hW₁ hcl, st⟩
theorem vx_runS (S : CallFix p m c cc nL s args Ts own) (hM : vx_Met l y ws rm Pc Qc XC mc ms free) (cw : CallB R s args own index y bytes maxL ret ws rm mc ms n ∧ (Cond.static y).before args s = true) (hp : PreS s H Pc As)
    (hg : g.method = m) (hn : As.length = n) (hsize : g.locals.size = nL) (hstack : g.stack = As.reverse ++ rest) (hW : 2 * g.monitorRoom + (rest.map fun v => v.category).sum ≤ 8) (hdg : decode cc g.pc = .ok (.invokestatic index, 3)) (hf : cells + mc ≤ R.cells ∧ slots + ms ≤ R.slots) :
    vx_Run p l e R s m args below meth c H locs cells slots mc ms g rest (Qc As.toArray) XC free := by
  have hK : vx_Back l R p e below s args y 3 8 (PreOf R mc ms Pc) (PostOf Qc mc ms free) (vx_Post XC mc ms free) := vx_callBack cw.1 hM hp.1
  obtain ⟨⟨-, -, -, -, -, -, hcode, hini, hy, hlen, hl⟩, hstt⟩ := cw
  obtain ⟨hx, hb, hml, ho, -⟩ := S
  intro T hT X
  rcases vx_callS X hx (bytes := bytes) (maxL := maxL) (ret := ret) ho hl hstt hini hcode hy hK hg (hsize.trans hml.symm) (argsL := As) (rest := rest) (fun sig h => hn.trans (hlen sig h)) hstack hW (by rw [hb]; exact hdg)
    (fun vm₁ hW₁ => ⟨hf.1, hf.2, hp.2 (T.setVm vm₁) hT hW₁⟩) with ⟨v, vm₁, ⟨U', l2, c2, s2⟩, hW₁, X', ⟨g', mk, t, L, e1, e2, hq, h1, hL, h2, h3⟩, st⟩ | ⟨q, vm₁, ⟨U', l2, c2, s2⟩, hW₁, X', ⟨g', mk, t, L, E, ce, e1, e2, hq, hce, hcv, hcl, h1, hL, h2, h3⟩, st⟩
  · dsimp only [Pt.U, Pt.locs, Pt.cells, Pt.slots] at X' e1 e2 h1 h2 h3 st
    subst h1; subst h2; subst h3
    exact Or.inl ⟨v, (T.setVm vm₁).calling g' mk As.toArray, t, U', L, hT, X', hL, e1, e2, hq, st⟩
  · dsimp only [Pt.U, Pt.locs, Pt.cells, Pt.slots] at X' e1 e2 h1 h2 h3 st hcl
    subst h1; subst h2; subst h3
    exact Or.inr ⟨q, (T.setVm vm₁).calling g' mk As.toArray, t, U', L, E, ce, hT, X', hL, e1, e2, hq, hce, hcv, vx_cls hW₁ hcl, st⟩
end Runs
section Rows
variable {p : Program} {l : Launch} {e : Env} {R : Room} {s : State} {m : MethodId} {args : Array Value} {below : List Frame} {meth : Method} {c : Code} {H : Heap} {locs : List Loc} {cells slots : Nat} {Q : State → Prop}
variable {mc ms : Nat} {free : Addr → Prop} {A0 A1 : Nat → Prop} {H0 : Heap} {a : Array Value} {pc : Nat} {ls : Array Slot} {st0 rest : List Value}
theorem vx_keep {st₀ t T' : State} {L : List Loc} (h0 : st₀.heap = H) (e1 : T'.heap = t.heap) (hS : va_S A0 H0 H locs) (hA : ∀ q, q < H.size → A1 q → A0 q) (hf : ∀ q, free q → A0 q) (hL : ∀ q ∈ L, free q.base) (hF : va_F A1 st₀ t) :
    H.size ≤ T'.heap.size ∧ (∀ q : Nat, q < H.size → ¬ A1 q → T'.heap[q]? = H[q]?) ∧ va_S A0 H0 T'.heap (locs ++ L) := by
  obtain ⟨hz, hk⟩ := hF
  rw [h0] at hz hk
  exact ⟨by rw [e1]; exact hz, fun q h1 h2 => by rw [e1]; exact hk q h1 h2,
    ⟨Nat.le_trans hS.1 (by rw [e1]; exact hz), fun q h1 h2 => by rw [e1, hk q (Nat.lt_of_lt_of_le h1 hS.1) (fun z => h2 (hA q (Nat.lt_of_lt_of_le h1 hS.1) z))]; exact hS.2.1 q h1 h2, fun q hq => by
      rcases List.mem_append.mp hq with h | h
      · exact hS.2.2 q h
      · exact hf _ (hL q h)⟩⟩
theorem vx_calli {S SX : Type} {post : Int32 → S → Prop} {px : SX → Prop} {B : S → State → Prop} {BX : String → SX → State → Prop} {AX : Nat → Prop} (hr : vx_Run p l e R s m args below meth c H locs cells slots mc ms (F0 m pc ls st0) rest (va_Qi post B A1 a) (vx_X px BX AX) free) (hS : va_S A0 H0 H locs) (hA : ∀ q, q < H.size → A1 q → A0 q) (hf : ∀ q, free q → A0 q) (hAX : ∀ q, q < H.size → AX q → A0 q)
    (kx : ∀ (E : String) (ce : Cell) (q9 : Addr) (u : SX) (t : State) (H1 : Heap) (locs1 : List Loc), t.heap = H1 → s.vm.Alike t.vm → px u → BX E u t → H.size ≤ H1.size → (∀ q : Nat, q < H.size → ¬ AX q → H1[q]? = H[q]?) → va_S A0 H0 H1 locs1 → H1[q9]? = some ce → ce.vm = .none → s.vm.findClass E = some ce.cls → vx_W p l e R s m args below meth c H1 locs1 (cells + mc) (slots + ms) Q (F0 m pc ls rest) q9)
    (kk : ∀ (r : Int32) (u : S) (t : State) (H1 : Heap) (locs1 : List Loc), t.heap = H1 → s.vm.Alike t.vm → post r u → B u t → H.size ≤ H1.size → (∀ q : Nat, q < H.size → ¬ A1 q → H1[q]? = H[q]?) → va_S A0 H0 H1 locs1 → W p l e R s m args below meth c H1 locs1 (cells + mc) (slots + ms) Q (F0 m (pc + 3) ls (.int r :: rest))) : W p l e R s m args below meth c H locs cells slots Q (F0 m pc ls st0) := by
  intro T hT X
  rcases hr T hT X with ⟨v, st₀, t, T', L, h0, X', hL, e1, e2, ⟨⟨r, u, hv, hp, hb⟩, hF⟩, st⟩ | ⟨q, st₀, t, T', L, E, ce, h0, X', hL, e1, e2, ⟨u, hp, hb, hF⟩, hce, hcv, hcl, st⟩
  · cases hv
    obtain ⟨k1, k2, k3⟩ := vx_keep h0 e1 hS hA hf hL hF
    obtain ⟨t2, a1, b1⟩ := kk r u t T'.heap (locs ++ L) e1.symm (by rw [← e2]; exact X'.warmed.alike) hp hb k1 k2 k3 T' rfl X'
    exact ⟨t2, st t2 a1, b1⟩
  · obtain ⟨k1, k2, k3⟩ := vx_keep h0 e1 hS hAX hf hL hF
    obtain ⟨t2, a1, b1⟩ := kx E ce q u t T'.heap (locs ++ L) e1.symm (by rw [← e2]; exact X'.warmed.alike) hp hb k1 k2 k3 (by rw [e1]; exact hce) hcv hcl T' rfl X'
    exact ⟨t2, st.trans a1, b1⟩
theorem vx_calll {S SX : Type} {post : Int64 → S → Prop} {px : SX → Prop} {B : S → State → Prop} {BX : String → SX → State → Prop} {AX : Nat → Prop} (hr : vx_Run p l e R s m args below meth c H locs cells slots mc ms (F0 m pc ls st0) rest (va_Ql post B A1 a) (vx_X px BX AX) free) (hS : va_S A0 H0 H locs) (hA : ∀ q, q < H.size → A1 q → A0 q) (hf : ∀ q, free q → A0 q) (hAX : ∀ q, q < H.size → AX q → A0 q)
    (kx : ∀ (E : String) (ce : Cell) (q9 : Addr) (u : SX) (t : State) (H1 : Heap) (locs1 : List Loc), t.heap = H1 → s.vm.Alike t.vm → px u → BX E u t → H.size ≤ H1.size → (∀ q : Nat, q < H.size → ¬ AX q → H1[q]? = H[q]?) → va_S A0 H0 H1 locs1 → H1[q9]? = some ce → ce.vm = .none → s.vm.findClass E = some ce.cls → vx_W p l e R s m args below meth c H1 locs1 (cells + mc) (slots + ms) Q (F0 m pc ls rest) q9)
    (kk : ∀ (r : Int64) (u : S) (t : State) (H1 : Heap) (locs1 : List Loc), t.heap = H1 → s.vm.Alike t.vm → post r u → B u t → H.size ≤ H1.size → (∀ q : Nat, q < H.size → ¬ A1 q → H1[q]? = H[q]?) → va_S A0 H0 H1 locs1 → W p l e R s m args below meth c H1 locs1 (cells + mc) (slots + ms) Q (F0 m (pc + 3) ls (.long r :: rest))) : W p l e R s m args below meth c H locs cells slots Q (F0 m pc ls st0) := by
  intro T hT X
  rcases hr T hT X with ⟨v, st₀, t, T', L, h0, X', hL, e1, e2, ⟨⟨r, u, hv, hp, hb⟩, hF⟩, st⟩ | ⟨q, st₀, t, T', L, E, ce, h0, X', hL, e1, e2, ⟨u, hp, hb, hF⟩, hce, hcv, hcl, st⟩
  · cases hv
    obtain ⟨k1, k2, k3⟩ := vx_keep h0 e1 hS hA hf hL hF
    obtain ⟨t2, a1, b1⟩ := kk r u t T'.heap (locs ++ L) e1.symm (by rw [← e2]; exact X'.warmed.alike) hp hb k1 k2 k3 T' rfl X'
    exact ⟨t2, st t2 a1, b1⟩
  · obtain ⟨k1, k2, k3⟩ := vx_keep h0 e1 hS hAX hf hL hF
    obtain ⟨t2, a1, b1⟩ := kx E ce q u t T'.heap (locs ++ L) e1.symm (by rw [← e2]; exact X'.warmed.alike) hp hb k1 k2 k3 (by rw [e1]; exact hce) hcv hcl T' rfl X'
    exact ⟨t2, st.trans a1, b1⟩
theorem vx_callf {S SX : Type} {post : UInt32 → S → Prop} {px : SX → Prop} {B : S → State → Prop} {BX : String → SX → State → Prop} {AX : Nat → Prop} (hr : vx_Run p l e R s m args below meth c H locs cells slots mc ms (F0 m pc ls st0) rest (va_Qf post B A1 a) (vx_X px BX AX) free) (hS : va_S A0 H0 H locs) (hA : ∀ q, q < H.size → A1 q → A0 q) (hf : ∀ q, free q → A0 q) (hAX : ∀ q, q < H.size → AX q → A0 q)
    (kx : ∀ (E : String) (ce : Cell) (q9 : Addr) (u : SX) (t : State) (H1 : Heap) (locs1 : List Loc), t.heap = H1 → s.vm.Alike t.vm → px u → BX E u t → H.size ≤ H1.size → (∀ q : Nat, q < H.size → ¬ AX q → H1[q]? = H[q]?) → va_S A0 H0 H1 locs1 → H1[q9]? = some ce → ce.vm = .none → s.vm.findClass E = some ce.cls → vx_W p l e R s m args below meth c H1 locs1 (cells + mc) (slots + ms) Q (F0 m pc ls rest) q9)
    (kk : ∀ (r : UInt32) (u : S) (t : State) (H1 : Heap) (locs1 : List Loc), t.heap = H1 → s.vm.Alike t.vm → post r u → B u t → H.size ≤ H1.size → (∀ q : Nat, q < H.size → ¬ A1 q → H1[q]? = H[q]?) → va_S A0 H0 H1 locs1 → W p l e R s m args below meth c H1 locs1 (cells + mc) (slots + ms) Q (F0 m (pc + 3) ls (.float r :: rest))) : W p l e R s m args below meth c H locs cells slots Q (F0 m pc ls st0) := by
  intro T hT X
  rcases hr T hT X with ⟨v, st₀, t, T', L, h0, X', hL, e1, e2, ⟨⟨r, u, hv, hp, hb⟩, hF⟩, st⟩ | ⟨q, st₀, t, T', L, E, ce, h0, X', hL, e1, e2, ⟨u, hp, hb, hF⟩, hce, hcv, hcl, st⟩
  · cases hv
    obtain ⟨k1, k2, k3⟩ := vx_keep h0 e1 hS hA hf hL hF
    obtain ⟨t2, a1, b1⟩ := kk r u t T'.heap (locs ++ L) e1.symm (by rw [← e2]; exact X'.warmed.alike) hp hb k1 k2 k3 T' rfl X'
    exact ⟨t2, st t2 a1, b1⟩
  · obtain ⟨k1, k2, k3⟩ := vx_keep h0 e1 hS hAX hf hL hF
    obtain ⟨t2, a1, b1⟩ := kx E ce q u t T'.heap (locs ++ L) e1.symm (by rw [← e2]; exact X'.warmed.alike) hp hb k1 k2 k3 (by rw [e1]; exact hce) hcv hcl T' rfl X'
    exact ⟨t2, st.trans a1, b1⟩
theorem vx_calld {S SX : Type} {post : UInt64 → S → Prop} {px : SX → Prop} {B : S → State → Prop} {BX : String → SX → State → Prop} {AX : Nat → Prop} (hr : vx_Run p l e R s m args below meth c H locs cells slots mc ms (F0 m pc ls st0) rest (va_Qd post B A1 a) (vx_X px BX AX) free) (hS : va_S A0 H0 H locs) (hA : ∀ q, q < H.size → A1 q → A0 q) (hf : ∀ q, free q → A0 q) (hAX : ∀ q, q < H.size → AX q → A0 q)
    (kx : ∀ (E : String) (ce : Cell) (q9 : Addr) (u : SX) (t : State) (H1 : Heap) (locs1 : List Loc), t.heap = H1 → s.vm.Alike t.vm → px u → BX E u t → H.size ≤ H1.size → (∀ q : Nat, q < H.size → ¬ AX q → H1[q]? = H[q]?) → va_S A0 H0 H1 locs1 → H1[q9]? = some ce → ce.vm = .none → s.vm.findClass E = some ce.cls → vx_W p l e R s m args below meth c H1 locs1 (cells + mc) (slots + ms) Q (F0 m pc ls rest) q9)
    (kk : ∀ (r : UInt64) (u : S) (t : State) (H1 : Heap) (locs1 : List Loc), t.heap = H1 → s.vm.Alike t.vm → post r u → B u t → H.size ≤ H1.size → (∀ q : Nat, q < H.size → ¬ A1 q → H1[q]? = H[q]?) → va_S A0 H0 H1 locs1 → W p l e R s m args below meth c H1 locs1 (cells + mc) (slots + ms) Q (F0 m (pc + 3) ls (.double r :: rest))) : W p l e R s m args below meth c H locs cells slots Q (F0 m pc ls st0) := by
  intro T hT X
  rcases hr T hT X with ⟨v, st₀, t, T', L, h0, X', hL, e1, e2, ⟨⟨r, u, hv, hp, hb⟩, hF⟩, st⟩ | ⟨q, st₀, t, T', L, E, ce, h0, X', hL, e1, e2, ⟨u, hp, hb, hF⟩, hce, hcv, hcl, st⟩
  · cases hv
    obtain ⟨k1, k2, k3⟩ := vx_keep h0 e1 hS hA hf hL hF
    obtain ⟨t2, a1, b1⟩ := kk r u t T'.heap (locs ++ L) e1.symm (by rw [← e2]; exact X'.warmed.alike) hp hb k1 k2 k3 T' rfl X'
    exact ⟨t2, st t2 a1, b1⟩
  · obtain ⟨k1, k2, k3⟩ := vx_keep h0 e1 hS hAX hf hL hF
    obtain ⟨t2, a1, b1⟩ := kx E ce q u t T'.heap (locs ++ L) e1.symm (by rw [← e2]; exact X'.warmed.alike) hp hb k1 k2 k3 (by rw [e1]; exact hce) hcv hcl T' rfl X'
    exact ⟨t2, st.trans a1, b1⟩
theorem vx_callv {S SX : Type} {post : S → Prop} {px : SX → Prop} {B : S → State → Prop} {BX : String → SX → State → Prop} {AX : Nat → Prop} (hr : vx_Run p l e R s m args below meth c H locs cells slots mc ms (F0 m pc ls st0) rest (va_Qv post B A1 a) (vx_X px BX AX) free) (hS : va_S A0 H0 H locs) (hA : ∀ q, q < H.size → A1 q → A0 q) (hf : ∀ q, free q → A0 q) (hAX : ∀ q, q < H.size → AX q → A0 q)
    (kx : ∀ (E : String) (ce : Cell) (q9 : Addr) (u : SX) (t : State) (H1 : Heap) (locs1 : List Loc), t.heap = H1 → s.vm.Alike t.vm → px u → BX E u t → H.size ≤ H1.size → (∀ q : Nat, q < H.size → ¬ AX q → H1[q]? = H[q]?) → va_S A0 H0 H1 locs1 → H1[q9]? = some ce → ce.vm = .none → s.vm.findClass E = some ce.cls → vx_W p l e R s m args below meth c H1 locs1 (cells + mc) (slots + ms) Q (F0 m pc ls rest) q9)
    (kk : ∀ (u : S) (t : State) (H1 : Heap) (locs1 : List Loc), t.heap = H1 → s.vm.Alike t.vm → post u → B u t → H.size ≤ H1.size → (∀ q : Nat, q < H.size → ¬ A1 q → H1[q]? = H[q]?) → va_S A0 H0 H1 locs1 → W p l e R s m args below meth c H1 locs1 (cells + mc) (slots + ms) Q (F0 m (pc + 3) ls (rest))) : W p l e R s m args below meth c H locs cells slots Q (F0 m pc ls st0) := by
  intro T hT X
  rcases hr T hT X with ⟨v, st₀, t, T', L, h0, X', hL, e1, e2, ⟨⟨u, hv, hp, hb⟩, hF⟩, st⟩ | ⟨q, st₀, t, T', L, E, ce, h0, X', hL, e1, e2, ⟨u, hp, hb, hF⟩, hce, hcv, hcl, st⟩
  · cases hv
    obtain ⟨k1, k2, k3⟩ := vx_keep h0 e1 hS hA hf hL hF
    obtain ⟨t2, a1, b1⟩ := kk u t T'.heap (locs ++ L) e1.symm (by rw [← e2]; exact X'.warmed.alike) hp hb k1 k2 k3 T' rfl X'
    exact ⟨t2, st t2 a1, b1⟩
  · obtain ⟨k1, k2, k3⟩ := vx_keep h0 e1 hS hAX hf hL hF
    obtain ⟨t2, a1, b1⟩ := kx E ce q u t T'.heap (locs ++ L) e1.symm (by rw [← e2]; exact X'.warmed.alike) hp hb k1 k2 k3 (by rw [e1]; exact hce) hcv hcl T' rfl X'
    exact ⟨t2, st.trans a1, b1⟩
/-- caught by the row x of this method's table; the rows ahead don't take it -/
theorem vx_catch {own name : String} {E : String} {ce : Cell} {q : Addr} (hown : s.vm.findClass own = some m.cls) (pre : List ExceptionTableEntry) (x : ExceptionTableEntry) (suf : List ExceptionTableEntry) (hsplit : c.exceptionTable.toList = pre ++ x :: suf)
    (hpass : ∀ z ∈ pre, covers z pc = false ∨ (z.catchType ≠ 0 ∧ ∃ nm : String, (Cond.classLink own z.catchType nm).before args s = true ∧ va_Nc E nm s)) (hx : covers x pc = true) (h0 : x.catchType ≠ 0)
    (hlink : (Cond.classLink own x.catchType name).before args s = true) (hcast : (Cond.castable E name).before args s = true) (hcell : H[q]? = some ce) (hv : ce.vm = .none) (hcl : s.vm.findClass E = some ce.cls)
    (kk : W p l e R s m args below meth c H locs cells slots Q (F0 m x.handlerPc ls [.ref q])) : vx_W p l e R s m args below meth c H locs cells slots Q (F0 m pc ls rest) q := by
  intro T hT X
  have hpl : e.platform.magicAccessors = ({} : Platform).magicAccessors := by rw [X.admits.platform]
  obtain ⟨c3, c4, hc3, hc4, hasg⟩ := Cond.castable_spec hcast
  cases Option.some.inj (hc3.symm.trans hcl)
  obtain ⟨c5, hc5, hcl5⟩ := Cond.classLink_spec hown hlink e.platform hpl
  cases Option.some.inj (hc4.symm.trans hc5)
  obtain ⟨vm', X', st⟩ := X.thenCaughtThrough q (g := F0 m pc ls rest) rfl (Steps.refl _) (by rw [hT]; exact hcell) (by rw [hv]; rfl) (by obtain ⟨k9, h9, -⟩ := Vm.findClass_spec hcl; exact ⟨k9, h9⟩) pre x suf hsplit
    (fun z hz => by
      rcases hpass z hz with h | ⟨hz0, nm, hl1, hn1⟩
      · exact Or.inl h
      · obtain ⟨c6, hc6, hcl6⟩ := Cond.classLink_spec hown hl1 e.platform hpl
        obtain ⟨a8, b8, h1, h2, h3⟩ := hn1
        cases Option.some.inj (h1.symm.trans hcl)
        cases Option.some.inj (h2.symm.trans hc6)
        exact Or.inr ⟨hz0, _, hcl6, h3⟩) hx (Or.inr ⟨h0, c4, hcl5, hasg⟩)
  obtain ⟨t, a1, b1⟩ := kk (T.setVm vm') hT X'
  exact ⟨t, st.trans a1, b1⟩
end Rows
section Ends
variable {p : Program} {l : Launch} {e : Env} {R : Room} {s : State} {m : MethodId} {args : Array Value} {below : List Frame} {meth : Method} {c : Code} {H : Heap} {locs : List Loc} {cells slots : Nat} {Q : State → Prop}
variable {mc ms : Nat} {free : Addr → Prop} {A0 A1 : Nat → Prop} {H0 : Heap} {a : Array Value} {ls : Array Slot} {st0 rest : List Value}
variable {Qc : Array Value → State → Outcome → State → Prop} {XC : String → State → State → Prop}
/-- what a body that may throw owes at its end -/
def vx_MQ (below : List Frame) (Qc : Array Value → State → Outcome → State → Prop) (XC : String → State → State → Prop) (a : Array Value) (s : State) (mc ms : Nat) (free : Addr → Prop) : State → Prop := fun t =>
  ∃ o, t.status = .running ∧ Ended t below o ∧ vx_Q Qc XC mc ms free a s o t
theorem vx_ret {g : JFrame} {mc ms : Nat} (k : W p l e R s m args below meth c H locs cells slots (MQ below Qc args s mc ms free) g) : W p l e R s m args below meth c H locs cells slots (vx_MQ below Qc XC args s mc ms free) g := by
  intro T hT X
  obtain ⟨t, a1, o, b1, b2, b3, b4⟩ := k T hT X
  exact ⟨t, a1, o, b1, b2, Or.inl ⟨b3, b4⟩⟩
/-- not caught here: it goes on to the caller -/
theorem vx_widen {g : JFrame} {q : Addr} {k n : Nat} (h1 : cells ≤ k) (h2 : slots ≤ n) (kk : vx_W p l e R s m args below meth c H locs k n Q g q) : vx_W p l e R s m args below meth c H locs cells slots Q g q := fun T hT X => kk T hT (stand_widen X h1 h2)
theorem vx_out {pc : Nat} {E : String} {ce : Cell} {q : Addr} {mc ms : Nat} (hout : ∀ x ∈ c.exceptionTable.toList, covers x pc = false) (hlocks : meth.locks = false) (hcell : H[q]? = some ce) (hv : ce.vm = .none) (hcl : s.vm.findClass E = some ce.cls)
    (hx : ∀ t : State, t.heap = H → s.vm.Alike t.vm → XC E s t) (hf : ∀ z ∈ locs, free z.base) (hc : cells ≤ mc) (hs : slots ≤ ms) :
    vx_W p l e R s m args below meth c H locs cells slots (vx_MQ below Qc XC args s mc ms free) (F0 m pc ls rest) q := by
  intro T hT X
  obtain ⟨st1, hrun, hend, hW, hsm⟩ := X.leaveThrown q (g := F0 m pc ls rest) rfl rfl rfl hout hlocks
  have hcell9 : (T.setFrames (.throwing q :: below)).heap[q]? = some ce := by
    show T.heap[q]? = some ce
    rw [hT]; exact hcell
  exact ⟨_, st1, .threw q, hrun, hend, Or.inr ⟨q, rfl, E, ce, locs, hx _ hT hW.alike, hcell9, hv, hcl, hW, hsm.mono hc hs, hf⟩⟩
theorem vx_frame {U : State} {k n : Nat} (h : s.sameButNew ({ U with vm := s.vm } : State) locs k n) : s.heap.size ≤ U.heap.size ∧ ∀ q : Nat, q < s.heap.size → (∀ z ∈ locs, z.base ≠ q) → U.heap[q]? = s.heap[q]? := by
  obtain ⟨-, h2, -, -, -, h6⟩ := h
  refine ⟨h2, fun q hq hz => ?_⟩
  obtain ⟨c9, e1, e2, e3, e4⟩ := h6 q _ (Array.getElem?_eq_getElem hq)
  have hs : c9.slots = (s.heap[q]).slots := Array.ext_getElem? fun i => e4 i fun hm => hz _ hm rfl
  have h9 : c9 = s.heap[q] := by
    rw [hs] at e2
    exact e2
  have e5 : U.heap[q]? = some c9 := e1
  rw [e5, h9, Array.getElem?_eq_getElem hq]
/-- the words of a throw but the four that speak of the heap -/
def vx_no (w : Cond) : Bool := decide (w ≠ .isRef (.static Bundle.tN "UNASSIGNED_STACK" Bundle.steD)) && decide (w ≠ .isRef (.static Bundle.tN "SUPPRESSED_SENTINEL" Bundle.listD)) && decide (w ≠ .laysStatic Bundle.tN "UNASSIGNED_STACK" Bundle.steD) && decide (w ≠ .laysStatic Bundle.tN "SUPPRESSED_SENTINEL" Bundle.listD)
def vx_at0 (own : String) (ic : Nat) (X : String) (names : List String) : List Cond := (Bundle.ownAtoms0 own ic X names).filter vx_no
def vx_atS (own : String) (ic : Nat) (X : String) (names : List String) : List Cond := (Bundle.ownAtoms own ic X names).filter vx_no
/-- a word that the tables alone decide, or a good one -/
def vx_ot (w : Cond) : Bool := w.onTables || goodWord w
theorem vx_ot_at {args a' : Array Value} {s U : State} {w : Cond} (hW : s.WarmedH U.vm) (hvm : s.vm = U.vm) (hg : vx_ot w = true) (h : w.before args s = true) : w.before a' U = true := by
  simp only [vx_ot, Bool.or_eq_true] at hg
  rcases hg with hg | hg
  · exact va_tabs hg hvm h
  · exact word_at hW (good_of_word hg) h
/-- a list's words: the good ones out of the method's own list, the others by premises of their own -/
theorem vx_hat {args : Array Value} {s : State} {L B : List Cond} (h1 : ∀ w ∈ L.filter goodWord, w.before args s = true) (h2 : ∀ w ∈ L.filter (fun w => !goodWord w), w ∈ B) (h3 : ∀ w ∈ B, w.before args s = true) : ∀ w ∈ L, w.before args s = true := by
  intro w hw
  by_cases g : goodWord w = true
  · exact h1 w (List.mem_filter.mpr ⟨hw, g⟩)
  · refine h3 w (h2 w (List.mem_filter.mpr ⟨hw, ?_⟩))
    show (!goodWord w) = true
    cases hgw : goodWord w
    · rfl
    · exact absurd hgw g
theorem vx_c {args : Array Value} {s : State} {w : Cond} {B : List Cond} (h : w.before args s = true) (t : ∀ w ∈ B, w.before args s = true) : ∀ w' ∈ w :: B, w'.before args s = true := fun w' h' => (List.mem_cons.mp h').elim (fun e => by rw [e]; exact h) (t w')
theorem vx_n {args : Array Value} {s : State} : ∀ w ∈ ([] : List Cond), w.before args s = true := fun _ h => nomatch h
theorem vx_own {args : Array Value} {s : State} {L : List Cond} (h1 : ∀ w ∈ L.filter vx_no, w.before args s = true)
    (hU : (Cond.isRef (.static Bundle.tN "UNASSIGNED_STACK" Bundle.steD)).before args s = true) (hN : (Cond.isRef (.static Bundle.tN "SUPPRESSED_SENTINEL" Bundle.listD)).before args s = true)
    (lU : (Cond.laysStatic Bundle.tN "UNASSIGNED_STACK" Bundle.steD).before args s = true) (lN : (Cond.laysStatic Bundle.tN "SUPPRESSED_SENTINEL" Bundle.listD).before args s = true) : ∀ w ∈ L, w.before args s = true := by
  intro w hw
  by_cases e1 : w = .isRef (.static Bundle.tN "UNASSIGNED_STACK" Bundle.steD)
  · rw [e1]; exact hU
  · by_cases e2 : w = .isRef (.static Bundle.tN "SUPPRESSED_SENTINEL" Bundle.listD)
    · rw [e2]; exact hN
    · by_cases e3 : w = .laysStatic Bundle.tN "UNASSIGNED_STACK" Bundle.steD
      · rw [e3]; exact lU
      · by_cases e4 : w = .laysStatic Bundle.tN "SUPPRESSED_SENTINEL" Bundle.listD
        · rw [e4]; exact lN
        · exact h1 w (List.mem_filter.mpr ⟨hw, by unfold vx_no; rw [decide_eq_true e1, decide_eq_true e2, decide_eq_true e3, decide_eq_true e4]; rfl⟩)
/-- where a static field lies, its class's statics cell in H -/
def vx_L (C n d : String) (A : Nat → Prop) (U : State) (H : Heap) : Prop := ∃ (c : ClassId) (k : Class) (i : Nat) (f : Field) (a : Nat) (cell : Cell), U.vm.findClass C = some c ∧ U.fieldFound? C n d = some (c, k, i, f) ∧ f.isStatic = true ∧ k.statics = some a ∧ H[a]? = some cell ∧ cell.vm.isStatics = true ∧ cell.cls = c ∧ f.slot < cell.slots.size ∧ k.staticTypes[f.slot]? = some f.type ∧ ¬ A a
theorem vx_L.moved {C n d : String} {A : Nat → Prop} {u U : State} {H : Heap} (hvm : u.vm.Alike U.vm) (h : vx_L C n d A u H) : vx_L C n d A U H := by
  obtain ⟨c, k, i, f, a, cell, h1, h2, h3, h4, h5, h6, h7, h8, h9, h10⟩ := h
  obtain ⟨k', hi', he⟩ := State.fieldFound?_setVm hvm h2
  exact ⟨c, k', i, f, a, cell, by rw [hvm.findClass]; exact h1, hi', h3, by rw [he]; exact h4, h5, h6, h7, h8, by rw [he]; exact h9, h10⟩
theorem vx_L.kept {C n d : String} {A : Nat → Prop} {U : State} {H H1 : Heap} (h : vx_L C n d A U H) (hq : ∀ a : Nat, a < H.size → ¬ A a → H1[a]? = H[a]?) : vx_L C n d A U H1 := by
  obtain ⟨c, k, i, f, a, cell, h1, h2, h3, h4, h5, h6, h7, h8, h9, h10⟩ := h
  exact ⟨c, k, i, f, a, cell, h1, h2, h3, h4, by rw [hq a (Array.getElem?_eq_some_iff.mp h5).1 h10]; exact h5, h6, h7, h8, h9, h10⟩
theorem vx_L.narrow {C n d : String} {A B : Nat → Prop} {U : State} {H : Heap} (h : vx_L C n d A U H) (hAB : ∀ q, B q → A q) : vx_L C n d B U H := by
  obtain ⟨c, k, i, f, a, cell, h1, h2, h3, h4, h5, h6, h7, h8, h9, h10⟩ := h
  exact ⟨c, k, i, f, a, cell, h1, h2, h3, h4, h5, h6, h7, h8, h9, fun z => h10 (hAB _ z)⟩
theorem vx_L.word {C n d : String} {A : Nat → Prop} {s : State} {args : Array Value} (h : vx_L C n d A s s.heap) : (Cond.laysStatic C n d).before args s = true := by
  obtain ⟨c, k, i, f, a, cell, h1, h2, h3, h4, h5, h6, h7, h8, h9, -⟩ := h
  show (Cond.laysStatic C n d).holds args s none s [] = true
  exact Cond.laysStatic_of h1 h2 h3 h4 h5 h6 h7 h8 h9
/-- .. and what it holds: null or some reference -/
def vx_Zq (C n d : String) (A : Nat → Prop) (U : State) (H : Heap) : Prop := va_Zq C n d A U H ∧ vx_L C n d A U H
theorem vx_Zq.moved {C n d : String} {A : Nat → Prop} {u U : State} {H : Heap} (hvm : u.vm.Alike U.vm) (h : vx_Zq C n d A u H) : vx_Zq C n d A U H := ⟨va_Zq.moved hvm h.1, vx_L.moved hvm h.2⟩
theorem vx_Zq.kept {C n d : String} {A : Nat → Prop} {U : State} {H H1 : Heap} (h : vx_Zq C n d A U H) (hq : ∀ a : Nat, a < H.size → ¬ A a → H1[a]? = H[a]?) : vx_Zq C n d A U H1 := ⟨va_Zq.kept h.1 hq, vx_L.kept h.2 hq⟩
theorem vx_Zq.narrow {C n d : String} {A B : Nat → Prop} {U : State} {H : Heap} (h : vx_Zq C n d A U H) (hAB : ∀ q, B q → A q) : vx_Zq C n d B U H := ⟨va_Zq.narrow h.1 hAB, vx_L.narrow h.2 hAB⟩
theorem vx_Zqof {args : Array Value} {s : State} {C n d : String} {A : Nat → Prop} (hl : (Cond.laysStatic C n d).before args s = true) (hini : (Cond.initialized C).before args s = true) (h : (Cond.isRef (.static C n d)).before args s = true) (hA : ∀ a : Nat, a < s.heap.size → ¬ A a) : vx_Zq C n d A s s.heap := by
  refine ⟨va_Zqof hl hini h hA, ?_⟩
  obtain ⟨c, k, i, f, a, cell, h1, h2, h3, h4, h5, h6, h7, h8, h9⟩ := Cond.laysStatic_spec hl
  exact ⟨c, k, i, f, a, cell, h1, h2, h3, h4, h5, h6, h7, h8, h9, hA a (Array.getElem?_eq_some_iff.mp h5).1⟩
theorem vx_isRef {C n d : String} {v : Value} {A : Nat → Prop} {s : State} {args : Array Value} (h : va_Z C n d v A s s.heap) (hv : v.isRef = true) : (Cond.isRef (.static C n d)).before args s = true := by
  obtain ⟨cf, kf, fi, f, a, cell, h1, h2, h3, h4, h5, h6, h7, -⟩ := h
  have he : (Term.static C n d).eval args s none [] s = some v := by
    simp [Term.eval, State.fieldNamed?, h1, h2, h4, h5, h6, h7]
  simp only [Cond.before, Cond.holds, Cond.value, he]
  cases v <;> simp_all [Value.isRef]
theorem vx_isRefq {C n d : String} {A : Nat → Prop} {s : State} {args : Array Value} (h : va_Zq C n d A s s.heap) : (Cond.isRef (.static C n d)).before args s = true := by
  rcases h with h | ⟨t, h⟩
  · exact vx_isRef h rfl
  · exact vx_isRef h rfl
/-- the same frame, seen from here: as if the method were called anew in this heap -/
theorem vx_rebase {T : State} (X : Stand p l e R s m args below meth c T locs cells slots) {R' : Room} (hf : R'.frames ≤ R.frames) (hl : R'.locals ≤ R.locals) (hc : cells + R'.cells ≤ R.cells) (hs : slots + R'.slots ≤ R.slots) :
    Stand p l e R' ((T.setVm s.vm).setFrames (.invoking m args :: below)) m args below meth c T [] 0 0 := by
  have htop : (T.setVm s.vm).topJava?.isSome := X.here.top
  have hF : ((T.setVm s.vm).setFrames (.invoking m args :: below)).frames = .invoking m args :: below := State.frames_setFrames _ (State.cur_lt_of_top htop)
  obtain ⟨g₀, hg0⟩ := Option.isSome_iff_exists.mp htop
  obtain ⟨r, hr⟩ := State.topJava?_eq_some.mp hg0
  have hl9 : e.platform.stackLimits (T.setVm s.vm).me = e.platform.stackLimits s.me := X.limits
  have hb9 : (T.setVm s.vm).me.stackBytes = s.me.stackBytes := X.bytes
  refine ⟨X.admits, X.cas, X.clock, hF, ?_, X.hears, X.method, X.code, X.here, X.tail, X.warmed, ?_, ?_, ?_⟩
  · have h := X.room
    have hU : ((T.setVm s.vm).setFrames (.invoking m args :: below)).localsInUse = s.localsInUse := by
      rw [State.localsInUse_invoking hF (meth := meth) (c := c) X.method X.code, State.localsInUse_invoking X.frames X.method X.code]
    simp only [State.hasRoom, Bool.and_eq_true, decide_eq_true_eq] at h ⊢
    obtain ⟨⟨⟨⟨h1, h2, h3, h4, h5, h6⟩, h7⟩, h8⟩, h9⟩ := h
    rw [X.frames, List.length_cons] at h2 h3
    have q1 := X.heapSize
    have q2 := X.used
    simp only [hF, hU, List.length_cons, State.stackLimits_setFrames, State.stackBytes_setFrames, hl9, hb9]
    refine ⟨⟨⟨⟨by omega, by omega, by omega, by omega, by omega, h6⟩, ?_⟩, ?_⟩, X.book⟩
    · show T.heap.size + R'.cells ≤ e.platform.maxCells
      omega
    · show T.slotsUsed + R'.slots ≤ e.platform.maxSlots
      omega
  · rw [State.stackLimits_setFrames]; rfl
  · rw [State.stackBytes_setFrames]; rfl
  · refine ⟨?_, Nat.le_refl _, Nat.le_refl _, ?_, ?_, fun a c9 h9 => ⟨c9, h9, rfl, rfl, fun _ _ => rfl⟩⟩
    · obtain ⟨t, ht, -⟩ := State.frames_cons hr
      show T.setVm s.vm = { ((T.setVm s.vm).setFrames (.invoking m args :: below)).setFrames (T.setVm s.vm).frames with heap := T.heap, slotsUsed := T.slotsUsed }
      rw [State.setFrames_setFrames, State.setFrames_self ht]
      rfl
    · show T.slotsUsed = T.slotsUsed + ((T.heap.toList.drop T.heap.size).map (·.slots.size)).sum
      rw [List.drop_eq_nil_of_le (Nat.le_of_eq Array.length_toList)]
      rfl
    · show ((T.heap.toList.drop T.heap.size).map (·.slots.size)).sum ≤ 0
      rw [List.drop_eq_nil_of_le (Nat.le_of_eq Array.length_toList)]
      exact Nat.le_refl _
/-- 'throw new E()': new; dup; invokespecial; athrow -/
theorem vx_throw0 {cc : ByteArray} {pc : Nat} (hexec : p.tables.exec = Jvm.exec) (hb : c.code = cc) (hl : l.stackTraces = false) {own cls : String} {names : List String} {ik ic mc ms : Nat} {A : Nat → Prop}
    (hown : s.vm.findClass own = some m.cls) (hcls : Bundle.fit cls = true) (hnames : ∀ n ∈ names, Bundle.fit n = true)
    (hk : (Cond.classLink own ik cls).before args s = true) (hini : (Cond.initialized cls).before args s = true) (hat : ∀ w ∈ vx_at0 own ic cls names, w.before args s = true)
    (hgood : ∀ w ∈ Cond.classLink own ik cls :: Cond.initialized cls :: vx_at0 own ic cls names, vx_ot w = true)
    (hU : vx_Zq Bundle.tN "UNASSIGNED_STACK" Bundle.steD A s s.heap) (hN : vx_Zq Bundle.tN "SUPPRESSED_SENTINEL" Bundle.listD A s s.heap) (hS : va_S A s.heap H locs) (hsize : ls.size = c.maxLocals)
    (d0 : decode cc pc = .ok (.new ik, 3)) (d3 : decode cc (pc + 3) = .ok (.dup, 1)) (d4 : decode cc (pc + 4) = .ok (.invokespecial ic, 3)) (d7 : decode cc (pc + 7) = .ok (.athrow, 1))
    (hout : ∀ x ∈ c.exceptionTable.toList, covers x (pc + 7) = false)
    (hRframes : names.length + 3 < R.frames) (hRlocals : (rest.map fun v => v.category).sum + (13 * (names.length + 1) + 42) ≤ R.locals) (hRcells : cells + 1 ≤ R.cells) (hRslots : slots + 6 ≤ R.slots) (hlocks : meth.locks = false)
    (hx : ∀ t : State, s.vm.Alike t.vm → H.size ≤ t.heap.size → (∀ q : Nat, q < H.size → t.heap[q]? = H[q]?) → XC cls s t)
    (hf : ∀ z ∈ locs, free z.base) (hc : cells + 1 ≤ mc) (hs : slots + 6 ≤ ms) :
    W p l e R s m args below meth c H locs cells slots (vx_MQ below Qc XC args s mc ms free) (F0 m pc ls rest) := by
  intro T hT X
  have htr : e.platform.stackTraces = false := (show e.platform.stackTraces = l.stackTraces by rw [X.admits.platform]).trans hl
  have Y := vx_rebase X (R' := { frames := R.frames, locals := R.locals, cells := 1, slots := 6 }) (Nat.le_refl _) (Nat.le_refl _) hRcells hRslots
  obtain ⟨s', hA⟩ : ∃ z, z = (T.setVm s.vm).setFrames (.invoking m args :: below) := ⟨_, rfl⟩
  rw [← hA] at Y
  have hvm : s'.vm = s.vm := by rw [hA]; rfl
  have hhp : s'.heap = H := by rw [hA]; exact hT
  have hW0 : s.WarmedH s'.vm := by rw [hvm]; exact State.WarmedH.refl s
  have hat' : ∀ w ∈ vx_at0 own ic cls names, w.before args s' = true := fun w hw => vx_ot_at hW0 hvm.symm (hgood w (List.mem_cons_of_mem _ (List.mem_cons_of_mem _ hw))) (hat w hw)
  have hk' : (Cond.classLink own ik cls).before args s' = true := vx_ot_at hW0 hvm.symm (hgood _ List.mem_cons_self) hk
  have hini' : (Cond.initialized cls).before args s' = true := vx_ot_at hW0 hvm.symm (hgood _ (List.mem_cons_of_mem _ List.mem_cons_self)) hini
  have hU' : vx_Zq Bundle.tN "UNASSIGNED_STACK" Bundle.steD A s' s'.heap := by rw [hhp]; exact vx_Zq.moved hW0.alike (hU.kept hS.2.1)
  have hN' : vx_Zq Bundle.tN "SUPPRESSED_SENTINEL" Bundle.listD A s' s'.heap := by rw [hhp]; exact vx_Zq.moved hW0.alike (hN.kept hS.2.1)
  have h : ∀ w ∈ Bundle.ownAtoms0 own ic cls names, w.before args s' = true := vx_own hat' (vx_isRefq hU'.1) (vx_isRefq hN'.1) hU'.2.word hN'.2.word
  have hown' : s'.vm.findClass own = some m.cls := by rw [hvm]; exact hown
  have hins : (Cond.instantiable cls 6).before args s' = true := h _ (by simp [Bundle.ownAtoms0])
  obtain ⟨vm₁, cX, kX, hfX, hkX, -, -, X₁, st1⟩ := Y.newCold hexec (own := own) (C := cls) (index := ik) (n := 6) hown' hk' hins hini'
    (g := F0 m pc ls rest) rfl (by rw [hb]; exact d0) (Nat.le_refl _) (Nat.le_refl _)
  generalize hT1 : (T.setVm vm₁).pushCell { cls := cX, slots := kX.instanceTypes.map defaultValue, vm := .none } = T1 at X₁ st1
  have hcat : (Value.ref T.heap.size).category = 1 := rfl
  have hcellA : T1.heap[T.heap.size]? = some (freshCell cX kX) := by rw [← hT1]; exact State.heap_pushCell_size _ _
  have d3' : decode c.code (pc + 3) = .ok (.dup, 1) := by rw [hb]; exact d3
  obtain ⟨U, hsteps, hrun, hend, hW, hsame, ce, hce, hO⟩ := X₁.ctorThrow0 hexec htr (own := own) (cls := cls) (names := names) (ic := ic) hown' hcls hnames h (fun x hx => nomatch hx) hfX hkX hcellA (by rw [hhp, hT]; exact Nat.le_refl _)
    (g := { method := m, pc := pc + 4, locals := ls, stack := .ref T.heap.size :: .ref T.heap.size :: rest, locked := none }) rfl hsize rfl rfl (rest := rest) rfl
    (by rw [hb]; exact d4) (by rw [hb]; exact d7) hout hRframes (by simp only [List.map_cons, List.sum_cons, hcat]; omega) hlocks
  obtain ⟨f1, f2⟩ := vx_frame hsame
  rw [hhp] at f1 f2
  have hWs : s.WarmedH U.vm := State.WarmedH.trans hW0 hW
  have hcl : s.vm.findClass cls = some ce.cls := by
    have h9 := hO.cls
    rw [hvm] at h9
    exact h9
  have hall : s.sameButNew ({ U with vm := s.vm } : State) locs mc ms := by
    subst hA
    obtain ⟨e1, e2⟩ := hsame
    rw [State.setFrames_setFrames] at e1
    have h2 : (T.setVm s.vm).sameButNew ({ U with vm := s.vm } : State) [] (0 + 1) (0 + 6) := ⟨e1, e2⟩
    have h3 := X.same.trans h2
    rw [List.append_nil] at h3
    exact h3.mono hc hs
  refine ⟨U, ?_, .threw T.heap.size, hrun, hend, Or.inr ⟨T.heap.size, rfl, cls, ce, locs, hx U hWs.alike f1 (fun q hq => f2 q hq (fun z hz => nomatch hz)), hce, hO.vm, hcl, hWs, hall, hf⟩⟩
  refine st1 _ ?_
  show Steps p.tables e below (T1.setTop { method := m, pc := pc + 3, locals := ls, stack := .ref T.heap.size :: rest, locked := none }) _
  jvm_step X₁.here [X₁.here.top, hexec, d3', Value.category]
  exact hsteps
/-- 'throw new E("text")': new; dup; ldc; invokespecial; athrow -/
theorem vx_throwS {cc : ByteArray} {pc : Nat} (hexec : p.tables.exec = Jvm.exec) (hb : c.code = cc) (hl : l.stackTraces = false) {own cls text : String} {names : List String} {ik is ic mc ms sa : Nat} {A : Nat → Prop}
    (hown : s.vm.findClass own = some m.cls) (hcls : Bundle.fit cls = true) (hnames : ∀ n ∈ names, Bundle.fit n = true)
    (hk : (Cond.classLink own ik cls).before args s = true) (hini : (Cond.initialized cls).before args s = true) (hstr : vk_R own is text sa s) (hat : ∀ w ∈ vx_atS own ic cls names, w.before args s = true)
    (hgood : ∀ w ∈ Cond.classLink own ik cls :: Cond.initialized cls :: vx_atS own ic cls names, vx_ot w = true)
    (hU : vx_Zq Bundle.tN "UNASSIGNED_STACK" Bundle.steD A s s.heap) (hN : vx_Zq Bundle.tN "SUPPRESSED_SENTINEL" Bundle.listD A s s.heap) (hS : va_S A s.heap H locs) (hsize : ls.size = c.maxLocals)
    (d0 : decode cc pc = .ok (.new ik, 3)) (d3 : decode cc (pc + 3) = .ok (.dup, 1)) (d4 : decode cc (pc + 4) = .ok (.ldc is, 2)) (d6 : decode cc (pc + 6) = .ok (.invokespecial ic, 3)) (d9 : decode cc (pc + 9) = .ok (.athrow, 1))
    (hout : ∀ x ∈ c.exceptionTable.toList, covers x (pc + 9) = false)
    (hRframes : names.length + 3 < R.frames) (hRlocals : (rest.map fun v => v.category).sum + (13 * (names.length + 1) + 43) ≤ R.locals) (hRcells : cells + 1 ≤ R.cells) (hRslots : slots + 6 ≤ R.slots) (hlocks : meth.locks = false)
    (hx : ∀ t : State, s.vm.Alike t.vm → H.size ≤ t.heap.size → (∀ q : Nat, q < H.size → t.heap[q]? = H[q]?) → XC cls s t)
    (hf : ∀ z ∈ locs, free z.base) (hc : cells + 1 ≤ mc) (hs : slots + 6 ≤ ms) :
    W p l e R s m args below meth c H locs cells slots (vx_MQ below Qc XC args s mc ms free) (F0 m pc ls rest) := by
  intro T hT X
  have htr : e.platform.stackTraces = false := (show e.platform.stackTraces = l.stackTraces by rw [X.admits.platform]).trans hl
  have Y := vx_rebase X (R' := { frames := R.frames, locals := R.locals, cells := 1, slots := 6 }) (Nat.le_refl _) (Nat.le_refl _) hRcells hRslots
  obtain ⟨s', hA⟩ : ∃ z, z = (T.setVm s.vm).setFrames (.invoking m args :: below) := ⟨_, rfl⟩
  rw [← hA] at Y
  have hvm : s'.vm = s.vm := by rw [hA]; rfl
  have hhp : s'.heap = H := by rw [hA]; exact hT
  have hW0 : s.WarmedH s'.vm := by rw [hvm]; exact State.WarmedH.refl s
  have hat' : ∀ w ∈ vx_atS own ic cls names, w.before args s' = true := fun w hw => vx_ot_at hW0 hvm.symm (hgood w (List.mem_cons_of_mem _ (List.mem_cons_of_mem _ hw))) (hat w hw)
  have hk' : (Cond.classLink own ik cls).before args s' = true := vx_ot_at hW0 hvm.symm (hgood _ List.mem_cons_self) hk
  have hini' : (Cond.initialized cls).before args s' = true := vx_ot_at hW0 hvm.symm (hgood _ (List.mem_cons_of_mem _ List.mem_cons_self)) hini
  have hU' : vx_Zq Bundle.tN "UNASSIGNED_STACK" Bundle.steD A s' s'.heap := by rw [hhp]; exact vx_Zq.moved hW0.alike (hU.kept hS.2.1)
  have hN' : vx_Zq Bundle.tN "SUPPRESSED_SENTINEL" Bundle.listD A s' s'.heap := by rw [hhp]; exact vx_Zq.moved hW0.alike (hN.kept hS.2.1)
  have h : ∀ w ∈ Bundle.ownAtoms own ic cls names, w.before args s' = true := vx_own hat' (vx_isRefq hU'.1) (vx_isRefq hN'.1) hU'.2.word hN'.2.word
  have hown' : s'.vm.findClass own = some m.cls := by rw [hvm]; exact hown
  have hins : (Cond.instantiable cls 6).before args s' = true := h _ (by simp [Bundle.ownAtoms])
  obtain ⟨vm₁, cX, kX, hfX, hkX, -, -, X₁, st1⟩ := Y.newCold hexec (own := own) (C := cls) (index := ik) (n := 6) hown' hk' hins hini'
    (g := F0 m pc ls rest) rfl (by rw [hb]; exact d0) (Nat.le_refl _) (Nat.le_refl _)
  generalize hT1 : (T.setVm vm₁).pushCell { cls := cX, slots := kX.instanceTypes.map defaultValue, vm := .none } = T1 at X₁ st1
  have hcat : (Value.ref T.heap.size).category = 1 := rfl
  have hcellA : T1.heap[T.heap.size]? = some (freshCell cX kX) := by rw [← hT1]; exact State.heap_pushCell_size _ _
  have d3' : decode c.code (pc + 3) = .ok (.dup, 1) := by rw [hb]; exact d3
  have d4' : decode c.code (pc + 4) = .ok (.ldc is, 2) := by rw [hb]; exact d4
  have hstr' : vk_R own is text sa s' := vk_R.warm hW0 hstr
  obtain ⟨U, hsteps, hrun, hend, hW, hsame, ce, hce, hO⟩ := X₁.ctorThrowS hexec htr (own := own) (cls := cls) (names := names) (ic := ic) hown' hcls hnames h (fun x hx => nomatch hx) hfX hkX hcellA (by rw [hhp, hT]; exact Nat.le_refl _) (msg := .ref sa) rfl
    (g := { method := m, pc := pc + 6, locals := ls, stack := .ref sa :: .ref T.heap.size :: .ref T.heap.size :: rest, locked := none }) rfl hsize rfl rfl (rest := rest) rfl
    (by rw [hb]; exact d6) (by rw [hb]; exact d9) hout hRframes (by simp only [List.map_cons, List.sum_cons, hcat]; omega) hlocks
  obtain ⟨f1, f2⟩ := vx_frame hsame
  rw [hhp] at f1 f2
  have hWs : s.WarmedH U.vm := State.WarmedH.trans hW0 hW
  have hcl : s.vm.findClass cls = some ce.cls := by
    have h9 := hO.cls
    rw [hvm] at h9
    exact h9
  have hall : s.sameButNew ({ U with vm := s.vm } : State) locs mc ms := by
    subst hA
    obtain ⟨e1, e2⟩ := hsame
    rw [State.setFrames_setFrames] at e1
    have h2 : (T.setVm s.vm).sameButNew ({ U with vm := s.vm } : State) [] (0 + 1) (0 + 6) := ⟨e1, e2⟩
    have h3 := X.same.trans h2
    rw [List.append_nil] at h3
    exact h3.mono hc hs
  refine ⟨U, ?_, .threw T.heap.size, hrun, hend, Or.inr ⟨T.heap.size, rfl, cls, ce, locs, hx U hWs.alike f1 (fun q hq => f2 q hq (fun z hz => nomatch hz)), hce, hO.vm, hcl, hWs, hall, hf⟩⟩
  refine st1 _ ?_
  show Steps p.tables e below (T1.setTop { method := m, pc := pc + 3, locals := ls, stack := .ref T.heap.size :: rest, locked := none }) _
  jvm_step X₁.here [X₁.here.top, hexec, d3', Value.category]
  exact X₁.ldcString hexec (own := own) (text := text) (index := is) (a := sa) hown' hstr'.1 hstr'.2
    (g := { method := m, pc := pc + 4, locals := ls, stack := .ref T.heap.size :: .ref T.heap.size :: rest, locked := none }) rfl d4' _ hsteps
/-- 'throw new E("text")', the text by a wide index -/
theorem vx_throwSW {cc : ByteArray} {pc : Nat} (hexec : p.tables.exec = Jvm.exec) (hb : c.code = cc) (hl : l.stackTraces = false) {own cls text : String} {names : List String} {ik is ic mc ms sa : Nat} {A : Nat → Prop}
    (hown : s.vm.findClass own = some m.cls) (hcls : Bundle.fit cls = true) (hnames : ∀ n ∈ names, Bundle.fit n = true)
    (hk : (Cond.classLink own ik cls).before args s = true) (hini : (Cond.initialized cls).before args s = true) (hstr : vk_R own is text sa s) (hat : ∀ w ∈ vx_atS own ic cls names, w.before args s = true)
    (hgood : ∀ w ∈ Cond.classLink own ik cls :: Cond.initialized cls :: vx_atS own ic cls names, vx_ot w = true)
    (hU : vx_Zq Bundle.tN "UNASSIGNED_STACK" Bundle.steD A s s.heap) (hN : vx_Zq Bundle.tN "SUPPRESSED_SENTINEL" Bundle.listD A s s.heap) (hS : va_S A s.heap H locs) (hsize : ls.size = c.maxLocals)
    (d0 : decode cc pc = .ok (.new ik, 3)) (d3 : decode cc (pc + 3) = .ok (.dup, 1)) (d4 : decode cc (pc + 4) = .ok (.ldc_w is, 3)) (d7 : decode cc (pc + 7) = .ok (.invokespecial ic, 3)) (d10 : decode cc (pc + 10) = .ok (.athrow, 1))
    (hout : ∀ x ∈ c.exceptionTable.toList, covers x (pc + 10) = false)
    (hRframes : names.length + 3 < R.frames) (hRlocals : (rest.map fun v => v.category).sum + (13 * (names.length + 1) + 43) ≤ R.locals) (hRcells : cells + 1 ≤ R.cells) (hRslots : slots + 6 ≤ R.slots) (hlocks : meth.locks = false)
    (hx : ∀ t : State, s.vm.Alike t.vm → H.size ≤ t.heap.size → (∀ q : Nat, q < H.size → t.heap[q]? = H[q]?) → XC cls s t)
    (hf : ∀ z ∈ locs, free z.base) (hc : cells + 1 ≤ mc) (hs : slots + 6 ≤ ms) :
    W p l e R s m args below meth c H locs cells slots (vx_MQ below Qc XC args s mc ms free) (F0 m pc ls rest) := by
  intro T hT X
  have htr : e.platform.stackTraces = false := (show e.platform.stackTraces = l.stackTraces by rw [X.admits.platform]).trans hl
  have Y := vx_rebase X (R' := { frames := R.frames, locals := R.locals, cells := 1, slots := 6 }) (Nat.le_refl _) (Nat.le_refl _) hRcells hRslots
  obtain ⟨s', hA⟩ : ∃ z, z = (T.setVm s.vm).setFrames (.invoking m args :: below) := ⟨_, rfl⟩
  rw [← hA] at Y
  have hvm : s'.vm = s.vm := by rw [hA]; rfl
  have hhp : s'.heap = H := by rw [hA]; exact hT
  have hW0 : s.WarmedH s'.vm := by rw [hvm]; exact State.WarmedH.refl s
  have hat' : ∀ w ∈ vx_atS own ic cls names, w.before args s' = true := fun w hw => vx_ot_at hW0 hvm.symm (hgood w (List.mem_cons_of_mem _ (List.mem_cons_of_mem _ hw))) (hat w hw)
  have hk' : (Cond.classLink own ik cls).before args s' = true := vx_ot_at hW0 hvm.symm (hgood _ List.mem_cons_self) hk
  have hini' : (Cond.initialized cls).before args s' = true := vx_ot_at hW0 hvm.symm (hgood _ (List.mem_cons_of_mem _ List.mem_cons_self)) hini
  have hU' : vx_Zq Bundle.tN "UNASSIGNED_STACK" Bundle.steD A s' s'.heap := by rw [hhp]; exact vx_Zq.moved hW0.alike (hU.kept hS.2.1)
  have hN' : vx_Zq Bundle.tN "SUPPRESSED_SENTINEL" Bundle.listD A s' s'.heap := by rw [hhp]; exact vx_Zq.moved hW0.alike (hN.kept hS.2.1)
  have h : ∀ w ∈ Bundle.ownAtoms own ic cls names, w.before args s' = true := vx_own hat' (vx_isRefq hU'.1) (vx_isRefq hN'.1) hU'.2.word hN'.2.word
  have hown' : s'.vm.findClass own = some m.cls := by rw [hvm]; exact hown
  have hins : (Cond.instantiable cls 6).before args s' = true := h _ (by simp [Bundle.ownAtoms])
  obtain ⟨vm₁, cX, kX, hfX, hkX, -, -, X₁, st1⟩ := Y.newCold hexec (own := own) (C := cls) (index := ik) (n := 6) hown' hk' hins hini'
    (g := F0 m pc ls rest) rfl (by rw [hb]; exact d0) (Nat.le_refl _) (Nat.le_refl _)
  generalize hT1 : (T.setVm vm₁).pushCell { cls := cX, slots := kX.instanceTypes.map defaultValue, vm := .none } = T1 at X₁ st1
  have hcat : (Value.ref T.heap.size).category = 1 := rfl
  have hcellA : T1.heap[T.heap.size]? = some (freshCell cX kX) := by rw [← hT1]; exact State.heap_pushCell_size _ _
  have d3' : decode c.code (pc + 3) = .ok (.dup, 1) := by rw [hb]; exact d3
  have d4' : decode c.code (pc + 4) = .ok (.ldc_w is, 3) := by rw [hb]; exact d4
  have hstr' : vk_R own is text sa s' := vk_R.warm hW0 hstr
  obtain ⟨U, hsteps, hrun, hend, hW, hsame, ce, hce, hO⟩ := X₁.ctorThrowS hexec htr (own := own) (cls := cls) (names := names) (ic := ic) hown' hcls hnames h (fun x hx => nomatch hx) hfX hkX hcellA (by rw [hhp, hT]; exact Nat.le_refl _) (msg := .ref sa) rfl
    (g := { method := m, pc := pc + 7, locals := ls, stack := .ref sa :: .ref T.heap.size :: .ref T.heap.size :: rest, locked := none }) rfl hsize rfl rfl (rest := rest) rfl
    (by rw [hb]; exact d7) (by rw [hb]; exact d10) hout hRframes (by simp only [List.map_cons, List.sum_cons, hcat]; omega) hlocks
  obtain ⟨f1, f2⟩ := vx_frame hsame
  rw [hhp] at f1 f2
  have hWs : s.WarmedH U.vm := State.WarmedH.trans hW0 hW
  have hcl : s.vm.findClass cls = some ce.cls := by
    have h9 := hO.cls
    rw [hvm] at h9
    exact h9
  have hall : s.sameButNew ({ U with vm := s.vm } : State) locs mc ms := by
    subst hA
    obtain ⟨e1, e2⟩ := hsame
    rw [State.setFrames_setFrames] at e1
    have h2 : (T.setVm s.vm).sameButNew ({ U with vm := s.vm } : State) [] (0 + 1) (0 + 6) := ⟨e1, e2⟩
    have h3 := X.same.trans h2
    rw [List.append_nil] at h3
    exact h3.mono hc hs
  refine ⟨U, ?_, .threw T.heap.size, hrun, hend, Or.inr ⟨T.heap.size, rfl, cls, ce, locs, hx U hWs.alike f1 (fun q hq => f2 q hq (fun z hz => nomatch hz)), hce, hO.vm, hcl, hWs, hall, hf⟩⟩
  refine st1 _ ?_
  show Steps p.tables e below (T1.setTop { method := m, pc := pc + 3, locals := ls, stack := .ref T.heap.size :: rest, locked := none }) _
  jvm_step X₁.here [X₁.here.top, hexec, d3', Value.category]
  exact X₁.ldcStringW hexec (own := own) (text := text) (index := is) (a := sa) hown' hstr'.1 hstr'.2
    (g := { method := m, pc := pc + 4, locals := ls, stack := .ref T.heap.size :: .ref T.heap.size :: rest, locked := none }) rfl d4' _ hsteps
end Ends
section Bodies
variable {l : Launch}
theorem vx_ofW {y : MethodName} {ws ws' : List Cond} {rm : Room} {Pc : Array Value → State → Prop} {Qc : Array Value → State → Outcome → State → Prop} {XC : String → State → State → Prop} {mc ms : Nat} {free : Addr → Prop} {cc : ByteArray} {maxL : Nat} {ret : Option FieldType}
    (hy : plainName y.cls = true) (hw : ws = Cond.code y cc maxL ret :: ws')
    (body : ∀ p e s m args below meth c s₁, BodyLoose p l y (headSpec ws rm) cc maxL ret e s m args below meth c s₁ → c.maxLocals = maxL → (∀ x ∈ c.exceptionTable.toList, False) → Pc args s →
      W p l e (headSpec ws rm).room s m args below meth c s.heap [] 0 0 (vx_MQ below Qc XC args s mc ms free) (entryFrame m args maxL)) : vx_Met l y ws rm Pc Qc XC mc ms free := by
  refine MetFree.of_bodyS (code := cc) (maxLocals := maxL) (ret := ret) hy ?_ ?_
  · intro args s m h hn
    obtain ⟨meth, c, h1, h2, h3, h4, h5, h6, -, -⟩ := Cond.code_spec hn (atoms_spec (ws := ws) h _ (by rw [hw]; exact List.mem_cons_self))
    exact ⟨meth, c, h1, h2, h3, h4, h5, h6⟩
  · intro p e s m args below meth c s₁ B hml hP _
    have hh0 : s₁.heap = s.heap := by rw [B.state]; rfl
    have ht : ∀ x ∈ c.exceptionTable.toList, False := by
      obtain ⟨meth9, c9, h1, h2, -, -, -, -, h7, -⟩ := Cond.code_spec B.named (atoms_spec (ws := ws) B.pre _ (by rw [hw]; exact List.mem_cons_self))
      cases Option.some.inj (h1.symm.trans B.method)
      cases Option.some.inj (h2.symm.trans (Stand.of_body B).code)
      intro x hx
      rw [Array.isEmpty_iff.mp h7] at hx
      cases hx
    obtain ⟨t, a1, o, b1, b2, b3⟩ := body p e s m args below meth c s₁ B hml ht hP s₁ hh0 (Stand.of_body B)
    exact ⟨t, o, a1, b1, b2, b3⟩
/-- the table of a body with handlers -/
theorem vx_table {p : Program} {x y : MethodName} {S : Spec} {cc bytes : ByteArray} {maxL maxL' : Nat} {ret ret' : Option FieldType} {e : Env} {s s₁ : State} {m : MethodId} {args : Array Value} {below : List Frame} {meth : Method} {c : Code} {hh : List (Nat × Nat × Nat × Nat)}
    (B : BodyLoose p l y S cc maxL ret e s m args below meth c s₁) (h : (Cond.codeWith y bytes maxL' ret' hh).before args s = true) : c.exceptionTable.toList = tableOf hh := by
  obtain ⟨m9, meth9, c9, hn9, h1, h2, -, -, h6, -⟩ := Cond.codeWith_spec h
  cases Option.some.inj (hn9.symm.trans B.named)
  cases Option.some.inj (h1.symm.trans B.method)
  cases Option.some.inj (h2.symm.trans (Stand.of_body B).code)
  rw [← h6, table_eq]
end Bodies
end VXA
/-! ===== END ===== -/
/-! ===== BEGIN a static call of a method with an exception table ===== -/
section VXS
variable {p : Program} {l : Launch} {e : Env} {R : Room} {s : State} {m : MethodId} {args : Array Value} {below : List Frame} {meth : Method} {c : Code} {T : State} {H : Heap} {locs : List Loc} {cells slots : Nat}
abbrev vx_CSW (R : Room) (s : State) (args : Array Value) (own : String) (index : Nat) (y : MethodName) (bytes : ByteArray) (maxL : Nat) (ret : Option FieldType) (hh : List (Nat × Nat × Nat × Nat)) (ws : List Cond) (rm : Room) (mc ms n : Nat) : Prop :=
  (rm.cells = mc ∧ rm.slots = ms ∧ rm.frames + 1 ≤ R.frames ∧ 8 + (maxL + 11) + rm.locals ≤ R.locals ∧ (∀ w ∈ ws, ∀ (a' : Array Value) (U : State), s.WarmedH U.vm → w.before a' U = true) ∧ Cond.codeWith y bytes maxL ret hh ∈ ws) ∧
  (Cond.codeWith y bytes maxL ret hh).before args s = true ∧ (Cond.initialized y.cls).before args s = true ∧ (y.cls ≠ "java/lang/invoke/MethodHandle" ∧ y.cls ≠ "java/lang/invoke/VarHandle") ∧
  (∀ sig, parseMethodDescriptor y.desc = some sig → n = sig.parameters.length) ∧ (Cond.methodLink own index y).before args s = true ∧ (Cond.static y).before args s = true
theorem vx_cwSW {own : String} {index maxL mc ms : Nat} {y : MethodName} {bytes : ByteArray} {ret : Option FieldType} {hh : List (Nat × Nat × Nat × Nat)} {Ts ws ws' : List Cond} {rm : Room} (n : Nat) (ht : ∀ w ∈ Ts, w.before args s = true) (hT : GoodIn Ts (va_wsS own index y ws)) (hw : ws = Cond.codeWith y bytes maxL ret hh :: ws') (hrc : rm.cells = mc) (hrs : rm.slots = ms)
    (hd : y.cls ≠ "java/lang/invoke/MethodHandle" ∧ y.cls ≠ "java/lang/invoke/VarHandle" ∧ (parseMethodDescriptor y.desc).map (fun d => d.parameters.length) = some n) (hR : rm.frames + 1 ≤ R.frames ∧ 8 + (maxL + 11) + rm.locals ≤ R.locals) :
    vx_CSW R s args own index y bytes maxL ret hh ws rm mc ms n := by
  have ok : ∀ w ∈ va_wsS own index y ws, w.before args s = true := fun w h => ht w (hT w h).1
  have hG : GoodIn Ts ws := fun w h => hT w (by unfold va_wsS; exact List.mem_append_right _ h)
  have hc : Cond.codeWith y bytes maxL ret hh ∈ ws := by rw [hw]; exact List.mem_cons_self
  refine ⟨⟨hrc, hrs, hR.1, hR.2, pay_in ht hG, hc⟩, ht _ (hG _ hc).1, ok _ (by simp [va_wsS]), ⟨hd.1, hd.2.1⟩, fun sig h => ?_, ok _ (by simp [va_wsS]), ok _ (by simp [va_wsS])⟩
  have h2 := hd.2.2
  rw [h] at h2
  exact (Option.some.inj h2).symm
theorem vx_callSW (X : Stand p l e R s m args below meth c T locs cells slots) (hexec : p.tables.exec = Jvm.exec) {own : String} {index : Nat} {y : MethodName} {bytes : ByteArray} {maxL : Nat} {ret : Option FieldType} {hh : List (Nat × Nat × Nat × Nat)}
    (hown : s.vm.findClass own = some m.cls) (hlink : (Cond.methodLink own index y).before args s = true) (hstat : (Cond.static y).before args s = true) (hinit : (Cond.initialized y.cls).before args s = true)
    (hcode : (Cond.codeWith y bytes maxL ret hh).before args s = true) (hy : y.cls ≠ "java/lang/invoke/MethodHandle" ∧ y.cls ≠ "java/lang/invoke/VarHandle")
    {W9 : Nat} {Pre : Pt → Array Value → Prop} {Post : Pt → Array Value → Option Value → Pt → Prop} (hK : Back l R p e below s args y 3 W9 Pre Post)
    {g : JFrame} (hg : g.method = m) (hsize : g.locals.size = c.maxLocals) {argsL rest : List Value} (hlen : ∀ sig, parseMethodDescriptor y.desc = some sig → argsL.length = sig.parameters.length)
    (hstack : g.stack = argsL.reverse ++ rest) (hW : 2 * g.monitorRoom + (rest.map fun v => v.category).sum ≤ W9) (hdg : decode c.code g.pc = .ok (.invokestatic index, 3))
    (hpre : ∀ vm₁, s.WarmedH vm₁ → Pre ⟨T.setVm vm₁, locs, cells, slots⟩ argsL.toArray) :
    ∃ (v : Option Value) (vm₁ : Vm) (B : Pt), s.WarmedH vm₁ ∧ Stand p l e R s m args below meth c B.U B.locs B.cells B.slots ∧ Post ⟨T.setVm vm₁, locs, cells, slots⟩ argsL.toArray v B ∧
      ∀ target, Steps p.tables e below (B.U.setTop { g with pc := g.pc + 3, stack := v.toList ++ rest }) target → Steps p.tables e below (T.setTop g) target := by
  obtain ⟨mk, methM, cM, hnamed, hmethM, -, -, -, -, -, -, hsigM⟩ := Cond.codeWith_spec hcode
  have hstatic : methM.isStatic = true := Cond.static_spec hnamed hmethM hstat
  obtain ⟨kP, hkP, -⟩ := className_of_methodNamed hnamed
  have hinitP : kP.init = .initialized := Cond.initialized_spec (findClass_of_methodNamed hnamed) hkP hinit
  obtain ⟨vm₁, X₁, hstep₁⟩ := X.invokestatic hexec hown hlink hnamed hmethM hstatic hkP hinitP hy (g := g) hg (argsL := argsL) (rest := rest) (hlen _ hsigM) hstack hdg
  obtain ⟨v, B, X', hpost, hsteps⟩ := hK m meth c ⟨T.setVm vm₁, locs, cells, slots⟩ { g with stack := rest } (.invokestatic index) mk argsL.toArray X₁ hg hsize hdg hW (X₁.named hnamed) (hpre vm₁ X₁.warmed)
  exact ⟨v, vm₁, B, X₁.warmed, X', hpost, fun target h => hstep₁ _ fun acts => by rw [doInvoke_state]; exact hsteps.trans h⟩
theorem vx_runSW {y : MethodName} {bytes cc : ByteArray} {maxL nL mc ms n index : Nat} {ret : Option FieldType} {hh : List (Nat × Nat × Nat × Nat)} {ws : List Cond} {rm : Room} {Pc : Array Value → State → Prop} {Qc : Array Value → State → Outcome → State → Prop} {free : Addr → Prop} {Ts : List Cond} {own : String} {As rest : List Value} {g : JFrame}
    (S : CallFix p m c cc nL s args Ts own) (hM : Met l y ws rm Pc Qc mc ms free) (cw : vx_CSW R s args own index y bytes maxL ret hh ws rm mc ms n) (hp : PreS s H Pc As)
    (hg : g.method = m) (hn : As.length = n) (hsize : g.locals.size = nL) (hstack : g.stack = As.reverse ++ rest) (hW : 2 * g.monitorRoom + (rest.map fun v => v.category).sum ≤ 8) (hdg : decode cc g.pc = .ok (.invokestatic index, 3)) (hf : cells + mc ≤ R.cells ∧ slots + ms ≤ R.slots) :
    va_Run p l e R s m args below meth c H locs cells slots mc ms g rest (Qc As.toArray) (free) := by
  obtain ⟨⟨hrc, hrs, hfr, hlo, hws, hcw⟩, hcode, hini, hy, hlen, hl, hstt⟩ := cw
  have hK : Back l R p e below s args y 3 8 (PreOf R mc ms Pc) (PostOf Qc mc ms free) := va_backW (hh := hh) (bytes := bytes) (maxL := maxL) (ret := ret) hM hp.1 hrc hrs hfr hlo hws hcw (fun a' U hW => word_at hW (Or.inl (by first | rfl | simp [Cond.onTables, Cond.keeps, Cond.steady])) hini)
  obtain ⟨hx, hb, hml, ho, -⟩ := S
  intro T hT X
  obtain ⟨v, vm₁, ⟨U', l2, c2, s2⟩, hW₁, X', ⟨g', mk, t, L, e1, e2, hq, h1, hL, h2, h3⟩, st⟩ := vx_callSW X hx (hh := hh) (bytes := bytes) (maxL := maxL) (ret := ret) ho hl hstt hini hcode hy hK hg (hsize.trans hml.symm) (argsL := As) (rest := rest) (fun sig h => hn.trans (hlen sig h)) hstack hW (by rw [hb]; exact hdg)
    (fun vm₁ hW₁ => ⟨hf.1, hf.2, hp.2 (T.setVm vm₁) hT hW₁⟩)
  dsimp only [Pt.U, Pt.locs, Pt.cells, Pt.slots] at X' e1 e2 h1 h2 h3 st
  subst h1; subst h2; subst h3
  exact ⟨v, (T.setVm vm₁).calling g' mk As.toArray, t, U', L, hT, X', hL, e1, e2, hq, st⟩
/-- not caught here, past rows that name other classes: it goes on to the caller -/
theorem vx_outP {p : Program} {l : Launch} {e : Env} {R : Room} {s : State} {m : MethodId} {args : Array Value} {below : List Frame} {meth : Method} {c : Code} {H : Heap} {locs : List Loc} {cells slots : Nat} {free : Addr → Prop} {ls : Array Slot} {rest : List Value} {Qc : Array Value → State → Outcome → State → Prop} {XC : String → State → State → Prop}
    {pc : Nat} {own E : String} {ce : Cell} {q : Addr} {mc ms : Nat} (hown : s.vm.findClass own = some m.cls) (hlocks : meth.locks = false)
    (hpass : ∀ z ∈ c.exceptionTable.toList, covers z pc = false ∨ (z.catchType ≠ 0 ∧ ∃ nm : String, (Cond.classLink own z.catchType nm).before args s = true ∧ va_Nc E nm s)) (hcell : H[q]? = some ce) (hv : ce.vm = .none) (hcl : s.vm.findClass E = some ce.cls)
    (hx : ∀ t : State, t.heap = H → s.vm.Alike t.vm → XC E s t) (hf : ∀ z ∈ locs, free z.base) (hc : cells ≤ mc) (hs : slots ≤ ms) :
    vx_W p l e R s m args below meth c H locs cells slots (vx_MQ below Qc XC args s mc ms free) (F0 m pc ls rest) q := by
  intro T hT X
  have hpl : e.platform.magicAccessors = ({} : Platform).magicAccessors := by rw [X.admits.platform]
  obtain ⟨vm', hW', X', st⟩ := X.outThrough hlocks q (g := F0 m pc ls rest) rfl rfl rfl (cell := ce) (by rw [hT]; exact hcell) (by rw [hv]; rfl)
    (by obtain ⟨k9, h9, -⟩ := Vm.findClass_spec hcl; exact ⟨k9, h9⟩) (fun z hz => by
      rcases hpass z hz with h | ⟨hz0, nm, hl1, hn1⟩
      · exact Or.inl h
      · obtain ⟨c6, hc6, hcl6⟩ := Cond.classLink_spec hown hl1 e.platform hpl
        obtain ⟨a8, b8, h1, h2, h3⟩ := hn1
        cases Option.some.inj (h1.symm.trans hcl)
        cases Option.some.inj (h2.symm.trans hc6)
        exact Or.inr ⟨hz0, _, hcl6, h3⟩)
  obtain ⟨g₀, hfr⟩ := X'.frames_eq
  have hcell9 : ((T.setVm vm').setFrames (.throwing q :: below)).heap[q]? = some ce := by
    show T.heap[q]? = some ce
    rw [hT]; exact hcell
  have hend : Ended ((T.setVm vm').setFrames (.throwing q :: below)) below (.threw q) := State.frames_setFrames _ (State.cur_lt_of_frames hfr)
  refine ⟨(T.setVm vm').setFrames (.throwing q :: below), ?_, .threw q, X'.here.running, hend, Or.inr ⟨q, rfl, E, ce, locs, hx _ hT (X'.ends _).1.alike, hcell9, hv, hcl, (X'.ends _).1, (X'.ends _).2.mono hc hs, hf⟩⟩
  rw [X.pushThrowing_eq]
  exact st
/-- a thing of a world lies in the heap -/
theorem vx_lt {D : va_G} {cl : List vw_C} {ws : va_W} {H1 : Heap} (h : va_P D cl ws H1) {k : Nat} {q : Nat × va_E} (hk : ws[k]? = some q) : q.1 < H1.size := (h k q hk).lt
end VXS
/-! ===== END ===== -/
/-! ===== BEGIN methods with a table of their own: called by a name, returning or throwing ===== -/
section VXH
/-! vx_backW, vx_callVX, vx_callSX, vx_callVW, vx_runVW, vx_runVX, vx_runSX, vx_ofWH follow the same proofs as their sisters above (Free/Laws.lean, Shelf42/LK1.lean); vx_outP calls Shelf42/NT130.lean (outThrough). -/
section
variable {l : Launch} {R : Room} {p : Program} {e : Env} {below : List Frame} {s : State} {sargs : Array Value} {y : MethodName} {len W9 : Nat}
theorem vx_backW {ws : List Cond} {rm : Room} {Pc : Array Value → State → Prop} {Qc : Array Value → State → Outcome → State → Prop} {XC : String → State → State → Prop} {mc ms : Nat} {free : Addr → Prop} {bytes : ByteArray} {maxL : Nat} {ret : Option FieldType} {hh : List (Nat × Nat × Nat × Nat)}
    (hM : vx_Met l y ws rm Pc Qc XC mc ms free) (hblind : FrameBlind Pc) (hrc : rm.cells = mc) (hrs : rm.slots = ms)
    (hframes : rm.frames + 1 ≤ R.frames) (hlocals : W9 + (maxL + 11) + rm.locals ≤ R.locals)
    (hws : ∀ w ∈ ws, ∀ a' U, s.WarmedH U.vm → w.before a' U = true) (hcode : Cond.codeWith y bytes maxL ret hh ∈ ws) (hinit : ∀ a' U, s.WarmedH U.vm → (Cond.initialized y.cls).before a' U = true) :
    vx_Back l R p e below s sargs y len W9 (PreOf R mc ms Pc) (PostOf Qc mc ms free) (vx_Post XC mc ms free) := by
  intro m meth c A g ig mk a X hg hsize hdg hW hn hp
  have h1 : (headSpec ws rm).pre.before a A.U = true := atoms_intro fun w hw => hws w hw _ _ X.warmed
  have h2 : (Cond.codeWith y bytes maxL ret hh).before a A.U = true := hws _ hcode _ _ X.warmed
  have h3 : (Cond.initialized y.cls).before a A.U = true := hinit _ _ X.warmed
  have h4 : A.cells + (headSpec ws rm).room.cells ≤ R.cells := by rw [show (headSpec ws rm).room.cells = mc from hrc]; exact hp.1
  have h5 : A.slots + (headSpec ws rm).room.slots ≤ R.slots := by rw [show (headSpec ws rm).room.slots = ms from hrs]; exact hp.2.1
  have hPc : Pc a (A.U.calling g mk a) := hblind _ _ _ _ hp.2.2
  obtain ⟨U, Ls, c0, s0⟩ := A
  dsimp only [Pt.U, Pt.locs, Pt.cells, Pt.slots] at h1 h2 h3 h4 h5 X hn hPc ⊢
  obtain ⟨m9, methY, cY, hn9, hmY, hcY, -, hlY, -⟩ := Cond.codeWith_spec h2
  cases Option.some.inj (hn9.symm.trans hn)
  obtain ⟨kY, hkY, -⟩ := className_of_methodNamed hn
  have hinitY : kY.init = .initialized := Cond.initialized_spec (findClass_of_methodNamed hn) hkY h3
  have h : At U g.method c below := by rw [hg]; exact X.here
  have hlocals9 : W9 + (maxL + 11) + (headSpec ws rm).room.locals ≤ R.locals := hlocals
  have happ : (headSpec ws rm).appliesLoose y e.platform (U.calling g mk a) = true :=
    Spec.appliesLoose_calling (g := g) h hdg hn hkY hinitY
      (X.room_calling (g := g) (R' := (headSpec ws rm).room) hsize hmY hcY hframes (by rw [hlY]; omega) h4 h5) h1
  obtain ⟨mid, hmid⟩ := h.above
  have hfr : (U.setTop g).frames = (.java g :: mid) ++ below := by rw [State.frames_setTop' g h.top, hmid]; rfl
  obtain ⟨o, s₂, hsteps, -, hend, hq⟩ := Steps.callFree hM p X.admits X.cas X.clock (acts := []) hfr happ hPc trivial
  have hq' : vx_Q Qc XC mc ms free a (U.calling g mk a) o s₂ := hq
  rw [State.frames_setTop' g h.top] at hend
  obtain ⟨g₀, hg0⟩ := Option.isSome_iff_exists.mp h.top
  obtain ⟨r, hr⟩ := State.topJava?_eq_some.mp hg0
  have hr' : (({ U with heap := s₂.heap, slotsUsed := s₂.slotsUsed } : State).setVm s₂.vm).frames = .java g₀ :: r := hr
  rcases hq' with ⟨hqc, L, hfe, hL⟩ | ⟨q, rfl, E, ce, L, hx, hce, hcv, hcl, hW₂, hsm, hL⟩
  · obtain ⟨⟨v, rfl⟩, hW₂, e2, q2, q3, q4, q5, q6⟩ := id hfe
    have e3 : s₂ = ({ (U.calling g mk a).setFrames s₂.frames with heap := s₂.heap, slotsUsed := s₂.slotsUsed } : State).setVm s₂.vm := by
      have : s₂ = ({ s₂ with vm := (U.calling g mk a).vm } : State).setVm s₂.vm := rfl
      rw [e2] at this
      exact this
    obtain ⟨c₂, i₂, len₂, hc₂, hd₂, hf₂⟩ := hend
    have hW' : U.WarmedH s₂.vm := hW₂
    have hcc : c₂ = c := by
      have h1 : s₂.code? g.method = U.code? g.method := by
        rw [State.code?_eq, State.code?_eq, hW'.alike.method?]
      exact Option.some.inj (hc₂.symm.trans (h1.trans h.code))
    subst hcc
    have hlen : len₂ = len := by rw [hdg] at hd₂; cases hd₂; rfl
    subst hlen
    have hs₂ : s₂ = (({ U with heap := s₂.heap, slotsUsed := s₂.slotsUsed } : State).setVm s₂.vm).setTop { g with pc := g.pc + len₂, stack := v.toList ++ g.stack } := by
      refine e3.trans ?_
      rw [hf₂, State.calling_eq h.top, State.setFrames_setFrames, State.setTop_of_frames _ hr', hr]
      rfl
    have hsame : U.sameButNew ({ U with heap := s₂.heap, slotsUsed := s₂.slotsUsed } : State) L mc ms := by
      refine ⟨?_, q2, q3, q4, q5, q6⟩
      obtain ⟨t, ht, -⟩ := State.frames_cons hr
      show ({ U with heap := s₂.heap, slotsUsed := s₂.slotsUsed } : State) = { U.setFrames U.frames with heap := s₂.heap, slotsUsed := s₂.slotsUsed }
      rw [State.setFrames_self ht]
    subst hg
    refine Or.inl ⟨v, ⟨(({ U with heap := s₂.heap, slotsUsed := s₂.slotsUsed } : State).setVm s₂.vm), Ls ++ L, c0 + mc, s0 + ms⟩,
      ⟨X.admits, X.cas, X.clock, X.frames, X.room, X.hears, X.method, X.code, (X.here.setHeapUsed s₂.heap s₂.slotsUsed).setVm hW'.alike, X.tail, State.WarmedH.trans X.warmed hW', X.limits, X.bytes, X.same.trans (hsame.setVm s.vm)⟩,
      ⟨g, mk, s₂, L, rfl, rfl, hqc, rfl, hL, rfl, rfl⟩, ?_⟩
    show Steps p.tables e below _ ((({ U with heap := s₂.heap, slotsUsed := s₂.slotsUsed } : State).setVm s₂.vm).setTop { g with pc := g.pc + len₂, stack := v.toList ++ g.stack })
    rw [← hs₂]
    exact hsteps
  · obtain ⟨e2, q2, q3, q4, q5, q6⟩ := id hsm
    have e3 : s₂ = ({ (U.calling g mk a).setFrames s₂.frames with heap := s₂.heap, slotsUsed := s₂.slotsUsed } : State).setVm s₂.vm := by
      have : s₂ = ({ s₂ with vm := (U.calling g mk a).vm } : State).setVm s₂.vm := rfl
      rw [e2] at this
      exact this
    have hf₂ : s₂.frames = .throwing q :: .java g :: U.frames.tail := hend
    have hW' : U.WarmedH s₂.vm := hW₂
    have hs₂ : s₂ = ((({ U with heap := s₂.heap, slotsUsed := s₂.slotsUsed } : State).setVm s₂.vm).setTop g).pushFrame (.throwing q) := by
      refine e3.trans ?_
      rw [hf₂, State.calling_eq h.top, State.setFrames_setFrames, State.pushFrame, State.frames_setTop _ hr', State.setTop_of_frames _ hr', State.setFrames_setFrames, hr]
      rfl
    have hsame : U.sameButNew ({ U with heap := s₂.heap, slotsUsed := s₂.slotsUsed } : State) L mc ms := by
      refine ⟨?_, q2, q3, q4, q5, q6⟩
      obtain ⟨t, ht, -⟩ := State.frames_cons hr
      show ({ U with heap := s₂.heap, slotsUsed := s₂.slotsUsed } : State) = { U.setFrames U.frames with heap := s₂.heap, slotsUsed := s₂.slotsUsed }
      rw [State.setFrames_self ht]
    subst hg
    refine Or.inr ⟨q, ⟨(({ U with heap := s₂.heap, slotsUsed := s₂.slotsUsed } : State).setVm s₂.vm), Ls ++ L, c0 + mc, s0 + ms⟩,
      ⟨X.admits, X.cas, X.clock, X.frames, X.room, X.hears, X.method, X.code, (X.here.setHeapUsed s₂.heap s₂.slotsUsed).setVm hW'.alike, X.tail, State.WarmedH.trans X.warmed hW', X.limits, X.bytes, X.same.trans (hsame.setVm s.vm)⟩,
      ⟨g, mk, s₂, L, E, ce, rfl, rfl, hx, hce, hcv, hcl, rfl, hL, rfl, rfl⟩, ?_⟩
    show Steps p.tables e below _ (((({ U with heap := s₂.heap, slotsUsed := s₂.slotsUsed } : State).setVm s₂.vm).setTop g).pushFrame (.throwing q))
    rw [← hs₂]
    exact hsteps
end
variable {p : Program} {l : Launch} {e : Env} {R : Room} {s : State} {m : MethodId} {args : Array Value} {below : List Frame} {meth : Method} {c : Code} {T : State} {H : Heap} {locs : List Loc} {cells slots : Nat}
theorem vx_callVX (X : Stand p l e R s m args below meth c T locs cells slots) (hexec : p.tables.exec = Jvm.exec) {own C : String} {index : Nat} {y : MethodName} {bytes : ByteArray} {maxL : Nat} {ret : Option FieldType} {hh : List (Nat × Nat × Nat × Nat)}
    (hown : s.vm.findClass own = some m.cls) (hlink : (Cond.methodLink own index y).before args s = true) (hinst : (Cond.instanceMethod y).before args s = true) (hsel : (Cond.selects C y y).before args s = true)
    (hcode : (Cond.codeWith y bytes maxL ret hh).before args s = true) (hy : y.cls ≠ "java/lang/invoke/MethodHandle" ∧ y.cls ≠ "java/lang/invoke/VarHandle")
    {W9 : Nat} {Pre : Pt → Array Value → Prop} {Post : Pt → Array Value → Option Value → Pt → Prop} {PostX : Pt → Array Value → Addr → Pt → Prop} (hK : vx_Back l R p e below s args y 3 W9 Pre Post PostX)
    {b : Addr} {cellB : Cell} (hcell : T.heap[b]? = some cellB) (hobj : cellB.vm.isStatics = false) (hcls : s.vm.findClass C = some cellB.cls)
    {g : JFrame} (hg : g.method = m) (hsize : g.locals.size = c.maxLocals) {argsL rest : List Value} (hlen : ∀ sig, parseMethodDescriptor y.desc = some sig → argsL.length = sig.parameters.length)
    (hstack : g.stack = argsL.reverse ++ .ref b :: rest) (hW : 2 * g.monitorRoom + (rest.map fun v => v.category).sum ≤ W9) (hdg : decode c.code g.pc = .ok (.invokevirtual index, 3))
    (hpre : ∀ vm₁, s.WarmedH vm₁ → Pre ⟨T.setVm vm₁, locs, cells, slots⟩ (Value.ref b :: argsL).toArray) :
    (∃ (v : Option Value) (vm₁ : Vm) (B : Pt), s.WarmedH vm₁ ∧ Stand p l e R s m args below meth c B.U B.locs B.cells B.slots ∧ Post ⟨T.setVm vm₁, locs, cells, slots⟩ (Value.ref b :: argsL).toArray v B ∧
      ∀ target, Steps p.tables e below (B.U.setTop { g with pc := g.pc + 3, stack := v.toList ++ rest }) target → Steps p.tables e below (T.setTop g) target) ∨
    (∃ (q : Addr) (vm₁ : Vm) (B : Pt), s.WarmedH vm₁ ∧ Stand p l e R s m args below meth c B.U B.locs B.cells B.slots ∧ PostX ⟨T.setVm vm₁, locs, cells, slots⟩ (Value.ref b :: argsL).toArray q B ∧
      Steps p.tables e below (T.setTop g) ((B.U.setTop { g with stack := rest }).pushFrame (.throwing q))) := by
  obtain ⟨mk, methM, hnamed, hmethM, hstM, habM⟩ := Cond.instanceMethod_spec hinst
  obtain ⟨m8, methM', cM, hn8, hmethM', -, -, -, -, -, -, hsigM⟩ := Cond.codeWith_spec hcode
  cases Option.some.inj (hn8.symm.trans hnamed)
  cases hmethM.symm.trans hmethM'
  obtain ⟨c2, r2, m2, q1, q2, q3, q4, kP, hkP, hkPi⟩ := Cond.selects_spec hsel
  cases hcls.symm.trans q1
  cases (State.methodFound?_of_named hnamed hy).symm.trans q2
  cases hnamed.symm.trans q3
  have hselP : selectMethod e.platform s.vm cellB.cls mk = .method mk := by rw [Launch.admits_selectMethod X.admits]; exact q4
  obtain ⟨vm₁, X₁, hstep₁⟩ := X.invokevirtual hexec hown hlink hnamed hmethM hstM hkP hkPi hy (a := b) (cell := cellB) hcell
    (fun z h => by rw [h] at hobj; cases hobj) hselP hmethM habM hkP hkPi (g := g) hg (argsL := argsL) (rest := rest) (hlen _ hsigM) hstack hdg
  rcases hK m meth c ⟨T.setVm vm₁, locs, cells, slots⟩ { g with stack := rest } (.invokevirtual index) mk (Value.ref b :: argsL).toArray X₁ hg hsize hdg hW (X₁.named hnamed) (hpre vm₁ X₁.warmed) with ⟨v, B, X', hpost, hsteps⟩ | ⟨q, B, X', hpost, hsteps⟩
  · exact Or.inl ⟨v, vm₁, B, X₁.warmed, X', hpost, fun target h => hstep₁ _ fun acts => by rw [doInvoke_state]; exact hsteps.trans h⟩
  · exact Or.inr ⟨q, vm₁, B, X₁.warmed, X', hpost, hstep₁ _ fun acts => by rw [doInvoke_state]; exact hsteps⟩
theorem vx_callSX (X : Stand p l e R s m args below meth c T locs cells slots) (hexec : p.tables.exec = Jvm.exec) {own : String} {index : Nat} {y : MethodName} {bytes : ByteArray} {maxL : Nat} {ret : Option FieldType} {hh : List (Nat × Nat × Nat × Nat)}
    (hown : s.vm.findClass own = some m.cls) (hlink : (Cond.methodLink own index y).before args s = true) (hstat : (Cond.static y).before args s = true) (hinit : (Cond.initialized y.cls).before args s = true)
    (hcode : (Cond.codeWith y bytes maxL ret hh).before args s = true) (hy : y.cls ≠ "java/lang/invoke/MethodHandle" ∧ y.cls ≠ "java/lang/invoke/VarHandle")
    {W9 : Nat} {Pre : Pt → Array Value → Prop} {Post : Pt → Array Value → Option Value → Pt → Prop} {PostX : Pt → Array Value → Addr → Pt → Prop} (hK : vx_Back l R p e below s args y 3 W9 Pre Post PostX)
    {g : JFrame} (hg : g.method = m) (hsize : g.locals.size = c.maxLocals) {argsL rest : List Value} (hlen : ∀ sig, parseMethodDescriptor y.desc = some sig → argsL.length = sig.parameters.length)
    (hstack : g.stack = argsL.reverse ++ rest) (hW : 2 * g.monitorRoom + (rest.map fun v => v.category).sum ≤ W9) (hdg : decode c.code g.pc = .ok (.invokestatic index, 3))
    (hpre : ∀ vm₁, s.WarmedH vm₁ → Pre ⟨T.setVm vm₁, locs, cells, slots⟩ argsL.toArray) :
    (∃ (v : Option Value) (vm₁ : Vm) (B : Pt), s.WarmedH vm₁ ∧ Stand p l e R s m args below meth c B.U B.locs B.cells B.slots ∧ Post ⟨T.setVm vm₁, locs, cells, slots⟩ argsL.toArray v B ∧
      ∀ target, Steps p.tables e below (B.U.setTop { g with pc := g.pc + 3, stack := v.toList ++ rest }) target → Steps p.tables e below (T.setTop g) target) ∨
    (∃ (q : Addr) (vm₁ : Vm) (B : Pt), s.WarmedH vm₁ ∧ Stand p l e R s m args below meth c B.U B.locs B.cells B.slots ∧ PostX ⟨T.setVm vm₁, locs, cells, slots⟩ argsL.toArray q B ∧
      Steps p.tables e below (T.setTop g) ((B.U.setTop { g with stack := rest }).pushFrame (.throwing q))) := by
  obtain ⟨mk, methM, cM, hnamed, hmethM, -, -, -, -, -, -, hsigM⟩ := Cond.codeWith_spec hcode
  have hstatic : methM.isStatic = true := Cond.static_spec hnamed hmethM hstat
  obtain ⟨kP, hkP, -⟩ := className_of_methodNamed hnamed
  have hinitP : kP.init = .initialized := Cond.initialized_spec (findClass_of_methodNamed hnamed) hkP hinit
  obtain ⟨vm₁, X₁, hstep₁⟩ := X.invokestatic hexec hown hlink hnamed hmethM hstatic hkP hinitP hy (g := g) hg (argsL := argsL) (rest := rest) (hlen _ hsigM) hstack hdg
  rcases hK m meth c ⟨T.setVm vm₁, locs, cells, slots⟩ { g with stack := rest } (.invokestatic index) mk argsL.toArray X₁ hg hsize hdg hW (X₁.named hnamed) (hpre vm₁ X₁.warmed) with ⟨v, B, X', hpost, hsteps⟩ | ⟨q, B, X', hpost, hsteps⟩
  · exact Or.inl ⟨v, vm₁, B, X₁.warmed, X', hpost, fun target h => hstep₁ _ fun acts => by rw [doInvoke_state]; exact hsteps.trans h⟩
  · exact Or.inr ⟨q, vm₁, B, X₁.warmed, X', hpost, hstep₁ _ fun acts => by rw [doInvoke_state]; exact hsteps⟩
theorem vx_callVW (X : Stand p l e R s m args below meth c T locs cells slots) (hexec : p.tables.exec = Jvm.exec) {own C : String} {index : Nat} {y : MethodName} {bytes : ByteArray} {maxL : Nat} {ret : Option FieldType} {hh : List (Nat × Nat × Nat × Nat)}
    (hown : s.vm.findClass own = some m.cls) (hlink : (Cond.methodLink own index y).before args s = true) (hinst : (Cond.instanceMethod y).before args s = true) (hsel : (Cond.selects C y y).before args s = true)
    (hcode : (Cond.codeWith y bytes maxL ret hh).before args s = true) (hy : y.cls ≠ "java/lang/invoke/MethodHandle" ∧ y.cls ≠ "java/lang/invoke/VarHandle")
    {W9 : Nat} {Pre : Pt → Array Value → Prop} {Post : Pt → Array Value → Option Value → Pt → Prop} (hK : Back l R p e below s args y 3 W9 Pre Post)
    {b : Addr} {cellB : Cell} (hcell : T.heap[b]? = some cellB) (hobj : cellB.vm.isStatics = false) (hcls : s.vm.findClass C = some cellB.cls)
    {g : JFrame} (hg : g.method = m) (hsize : g.locals.size = c.maxLocals) {argsL rest : List Value} (hlen : ∀ sig, parseMethodDescriptor y.desc = some sig → argsL.length = sig.parameters.length)
    (hstack : g.stack = argsL.reverse ++ .ref b :: rest) (hW : 2 * g.monitorRoom + (rest.map fun v => v.category).sum ≤ W9) (hdg : decode c.code g.pc = .ok (.invokevirtual index, 3))
    (hpre : ∀ vm₁, s.WarmedH vm₁ → Pre ⟨T.setVm vm₁, locs, cells, slots⟩ (Value.ref b :: argsL).toArray) :
    ∃ (v : Option Value) (vm₁ : Vm) (B : Pt), s.WarmedH vm₁ ∧ Stand p l e R s m args below meth c B.U B.locs B.cells B.slots ∧ Post ⟨T.setVm vm₁, locs, cells, slots⟩ (Value.ref b :: argsL).toArray v B ∧
      ∀ target, Steps p.tables e below (B.U.setTop { g with pc := g.pc + 3, stack := v.toList ++ rest }) target → Steps p.tables e below (T.setTop g) target := by
  obtain ⟨mk, methM, hnamed, hmethM, hstM, habM⟩ := Cond.instanceMethod_spec hinst
  obtain ⟨m8, methM', cM, hn8, hmethM', -, -, -, -, -, -, hsigM⟩ := Cond.codeWith_spec hcode
  cases Option.some.inj (hn8.symm.trans hnamed)
  cases hmethM.symm.trans hmethM'
  obtain ⟨c2, r2, m2, q1, q2, q3, q4, kP, hkP, hkPi⟩ := Cond.selects_spec hsel
  cases hcls.symm.trans q1
  cases (State.methodFound?_of_named hnamed hy).symm.trans q2
  cases hnamed.symm.trans q3
  have hselP : selectMethod e.platform s.vm cellB.cls mk = .method mk := by rw [Launch.admits_selectMethod X.admits]; exact q4
  obtain ⟨vm₁, X₁, hstep₁⟩ := X.invokevirtual hexec hown hlink hnamed hmethM hstM hkP hkPi hy (a := b) (cell := cellB) hcell
    (fun z h => by rw [h] at hobj; cases hobj) hselP hmethM habM hkP hkPi (g := g) hg (argsL := argsL) (rest := rest) (hlen _ hsigM) hstack hdg
  obtain ⟨v, B, X', hpost, hsteps⟩ := hK m meth c ⟨T.setVm vm₁, locs, cells, slots⟩ { g with stack := rest } (.invokevirtual index) mk (Value.ref b :: argsL).toArray X₁ hg hsize hdg hW (X₁.named hnamed) (hpre vm₁ X₁.warmed)
  exact ⟨v, vm₁, B, X₁.warmed, X', hpost, fun target h => hstep₁ _ fun acts => by rw [doInvoke_state]; exact hsteps.trans h⟩
abbrev vx_CVW (R : Room) (s : State) (args : Array Value) (own C : String) (index : Nat) (y : MethodName) (bytes : ByteArray) (maxL : Nat) (ret : Option FieldType) (hh : List (Nat × Nat × Nat × Nat)) (ws : List Cond) (rm : Room) (mc ms n : Nat) : Prop :=
  (rm.cells = mc ∧ rm.slots = ms ∧ rm.frames + 1 ≤ R.frames ∧ 8 + (maxL + 11) + rm.locals ≤ R.locals ∧ (∀ w ∈ ws, ∀ (a' : Array Value) (U : State), s.WarmedH U.vm → w.before a' U = true) ∧ Cond.codeWith y bytes maxL ret hh ∈ ws) ∧
  (Cond.codeWith y bytes maxL ret hh).before args s = true ∧ (Cond.initialized y.cls).before args s = true ∧ (y.cls ≠ "java/lang/invoke/MethodHandle" ∧ y.cls ≠ "java/lang/invoke/VarHandle") ∧
  (∀ sig, parseMethodDescriptor y.desc = some sig → n = sig.parameters.length) ∧ (Cond.methodLink own index y).before args s = true ∧ (Cond.instanceMethod y).before args s = true ∧ (Cond.selects C y y).before args s = true
theorem vx_cwVW {own C : String} {index maxL mc ms : Nat} {y : MethodName} {bytes : ByteArray} {ret : Option FieldType} {hh : List (Nat × Nat × Nat × Nat)} {Ts ws ws' : List Cond} {rm : Room} (n : Nat) (ht : ∀ w ∈ Ts, w.before args s = true) (hT : GoodIn Ts (wsV own index C y ws)) (hw : ws = Cond.codeWith y bytes maxL ret hh :: ws') (hrc : rm.cells = mc) (hrs : rm.slots = ms)
    (hd : y.cls = C ∧ y.cls ≠ "java/lang/invoke/MethodHandle" ∧ y.cls ≠ "java/lang/invoke/VarHandle" ∧ (parseMethodDescriptor y.desc).map (fun d => d.parameters.length) = some n) (hR : rm.frames + 1 ≤ R.frames ∧ 8 + (maxL + 11) + rm.locals ≤ R.locals) :
    vx_CVW R s args own C index y bytes maxL ret hh ws rm mc ms n := by
  obtain ⟨hC, hd⟩ := hd
  subst hC
  have ok : ∀ w ∈ wsV own index y.cls y ws, w.before args s = true := fun w h => ht w (hT w h).1
  have hG : GoodIn Ts ws := fun w h => hT w (by unfold wsV; exact List.mem_append_right _ h)
  have hc : Cond.codeWith y bytes maxL ret hh ∈ ws := by rw [hw]; exact List.mem_cons_self
  refine ⟨⟨hrc, hrs, hR.1, hR.2, pay_in ht hG, hc⟩, ht _ (hG _ hc).1, ok _ (by simp [wsV]), ⟨hd.1, hd.2.1⟩, fun sig h => ?_, ok _ (by simp [wsV]), ok _ (by simp [wsV]), ok _ (by simp [wsV])⟩
  have h2 := hd.2.2
  rw [h] at h2
  exact (Option.some.inj h2).symm
theorem vx_runVW {y : MethodName} {bytes cc : ByteArray} {maxL nL mc ms n index : Nat} {ret : Option FieldType} {hh : List (Nat × Nat × Nat × Nat)} {ws : List Cond} {rm : Room} {Pc : Array Value → State → Prop} {Qc : Array Value → State → Outcome → State → Prop} {free : Addr → Prop} {Ts : List Cond} {own C : String} {b : Addr} {As rest : List Value} {g : JFrame}
    (S : CallFix p m c cc nL s args Ts own) (hM : Met l y ws rm Pc Qc mc ms free) (cw : vx_CVW R s args own C index y bytes maxL ret hh ws rm mc ms n) (hp : PreV s H C b Pc As)
    (hg : g.method = m) (hn : As.length = n) (hsize : g.locals.size = nL) (hstack : g.stack = As.reverse ++ .ref b :: rest) (hW : 2 * g.monitorRoom + (rest.map fun v => v.category).sum ≤ 8) (hdg : decode cc g.pc = .ok (.invokevirtual index, 3)) (hf : cells + mc ≤ R.cells ∧ slots + ms ≤ R.slots) :
    va_Run p l e R s m args below meth c H locs cells slots mc ms g rest (Qc (Value.ref b :: As).toArray) free := by
  obtain ⟨⟨hrc, hrs, hfr, hlo, hws, hcw⟩, hcode, hini, hy, hlen, hl, hin, hse⟩ := cw
  have hK : Back l R p e below s args y 3 8 (PreOf R mc ms Pc) (PostOf Qc mc ms free) := va_backW (hh := hh) (bytes := bytes) (maxL := maxL) (ret := ret) hM hp.1 hrc hrs hfr hlo hws hcw (fun a' U hW => word_at hW (Or.inl (by first | rfl | simp [Cond.onTables, Cond.keeps, Cond.steady])) hini)
  obtain ⟨hx, hb, hml, ho, -⟩ := S
  obtain ⟨-, ⟨cellB, hcB, hoB, hclB⟩, hPc⟩ := hp
  intro T hT X
  obtain ⟨v, vm₁, ⟨U', l2, c2, s2⟩, hW₁, X', ⟨g', mk, t, L, e1, e2, hq, h1, hL, h2, h3⟩, st⟩ := vx_callVW X hx (C := C) (hh := hh) (bytes := bytes) (maxL := maxL) (ret := ret) ho hl hin hse hcode hy hK (by rw [hT]; exact hcB) hoB hclB hg (hsize.trans hml.symm) (argsL := As) (rest := rest) (fun sig h => hn.trans (hlen sig h)) hstack hW (by rw [hb]; exact hdg)
    (fun vm₁ hW₁ => ⟨hf.1, hf.2, hPc (T.setVm vm₁) hT hW₁⟩)
  dsimp only [Pt.U, Pt.locs, Pt.cells, Pt.slots] at X' e1 e2 h1 h2 h3 st
  subst h1; subst h2; subst h3
  exact ⟨v, (T.setVm vm₁).calling g' mk (Value.ref b :: As).toArray, t, U', L, hT, X', hL, e1, e2, hq, st⟩
section
variable {y : MethodName} {bytes cc : ByteArray} {maxL nL mc ms n index : Nat} {ret : Option FieldType} {ws : List Cond} {rm : Room} {Pc : Array Value → State → Prop} {Qc : Array Value → State → Outcome → State → Prop} {XC : String → State → State → Prop} {free : Addr → Prop} {Ts : List Cond} {own C : String} {b : Addr} {As rest : List Value} {g : JFrame}
theorem vx_runVX {hh : List (Nat × Nat × Nat × Nat)} (S : CallFix p m c cc nL s args Ts own) (hM : vx_Met l y ws rm Pc Qc XC mc ms free) (cw : vx_CVW R s args own C index y bytes maxL ret hh ws rm mc ms n) (hp : PreV s H C b Pc As)
    (hg : g.method = m) (hn : As.length = n) (hsize : g.locals.size = nL) (hstack : g.stack = As.reverse ++ .ref b :: rest) (hW : 2 * g.monitorRoom + (rest.map fun v => v.category).sum ≤ 8) (hdg : decode cc g.pc = .ok (.invokevirtual index, 3)) (hf : cells + mc ≤ R.cells ∧ slots + ms ≤ R.slots) :
    vx_Run p l e R s m args below meth c H locs cells slots mc ms g rest (Qc (Value.ref b :: As).toArray) XC free := by
  obtain ⟨⟨hrc, hrs, hfr, hlo, hws, hcw⟩, hcode, hini, hy, hlen, hl, hin, hse⟩ := cw
  have hK : vx_Back l R p e below s args y 3 8 (PreOf R mc ms Pc) (PostOf Qc mc ms free) (vx_Post XC mc ms free) := vx_backW (hh := hh) (bytes := bytes) (maxL := maxL) (ret := ret) hM hp.1 hrc hrs hfr hlo hws hcw (fun a' U hW => word_at hW (Or.inl (by first | rfl | simp [Cond.onTables, Cond.keeps, Cond.steady])) hini)
  obtain ⟨hx, hb, hml, ho, -⟩ := S
  obtain ⟨-, ⟨cellB, hcB, hoB, hclB⟩, hPc⟩ := hp
  intro T hT X
  rcases vx_callVX X hx (C := C) (hh := hh) (bytes := bytes) (maxL := maxL) (ret := ret) ho hl hin hse hcode hy hK (by rw [hT]; exact hcB) hoB hclB hg (hsize.trans hml.symm) (argsL := As) (rest := rest) (fun sig h => hn.trans (hlen sig h)) hstack hW (by rw [hb]; exact hdg)
    (fun vm₁ hW₁ => ⟨hf.1, hf.2, hPc (T.setVm vm₁) hT hW₁⟩) with ⟨v, vm₁, ⟨U', l2, c2, s2⟩, hW₁, X', ⟨g', mk, t, L, e1, e2, hq, h1, hL, h2, h3⟩, st⟩ | ⟨q, vm₁, ⟨U', l2, c2, s2⟩, hW₁, X', ⟨g', mk, t, L, E, ce, e1, e2, hq, hce, hcv, hcl, h1, hL, h2, h3⟩, st⟩
  · dsimp only [Pt.U, Pt.locs, Pt.cells, Pt.slots] at X' e1 e2 h1 h2 h3 st
    subst h1; subst h2; subst h3
    exact Or.inl ⟨v, (T.setVm vm₁).calling g' mk (Value.ref b :: As).toArray, t, U', L, hT, X', hL, e1, e2, hq, st⟩
  · dsimp only [Pt.U, Pt.locs, Pt.cells, Pt.slots] at X' e1 e2 h1 h2 h3 st hcl
    subst h1; subst h2; subst h3
    exact Or.inr ⟨q, (T.setVm vm₁).calling g' mk (Value.ref b :: As).toArray, t, U', L, E, ce, hT, X', hL, e1, e2, hq, hce, hcv, vx_cls hW₁ hcl, st⟩
theorem vx_runSX {hh : List (Nat × Nat × Nat × Nat)} (S : CallFix p m c cc nL s args Ts own) (hM : vx_Met l y ws rm Pc Qc XC mc ms free) (cw : vx_CSW R s args own index y bytes maxL ret hh ws rm mc ms n) (hp : PreS s H Pc As)
    (hg : g.method = m) (hn : As.length = n) (hsize : g.locals.size = nL) (hstack : g.stack = As.reverse ++ rest) (hW : 2 * g.monitorRoom + (rest.map fun v => v.category).sum ≤ 8) (hdg : decode cc g.pc = .ok (.invokestatic index, 3)) (hf : cells + mc ≤ R.cells ∧ slots + ms ≤ R.slots) :
    vx_Run p l e R s m args below meth c H locs cells slots mc ms g rest (Qc As.toArray) XC free := by
  obtain ⟨⟨hrc, hrs, hfr, hlo, hws, hcw⟩, hcode, hini, hy, hlen, hl, hstt⟩ := cw
  have hK : vx_Back l R p e below s args y 3 8 (PreOf R mc ms Pc) (PostOf Qc mc ms free) (vx_Post XC mc ms free) := vx_backW (hh := hh) (bytes := bytes) (maxL := maxL) (ret := ret) hM hp.1 hrc hrs hfr hlo hws hcw (fun a' U hW => word_at hW (Or.inl (by first | rfl | simp [Cond.onTables, Cond.keeps, Cond.steady])) hini)
  obtain ⟨hx, hb, hml, ho, -⟩ := S
  intro T hT X
  rcases vx_callSX X hx (hh := hh) (bytes := bytes) (maxL := maxL) (ret := ret) ho hl hstt hini hcode hy hK hg (hsize.trans hml.symm) (argsL := As) (rest := rest) (fun sig h => hn.trans (hlen sig h)) hstack hW (by rw [hb]; exact hdg)
    (fun vm₁ hW₁ => ⟨hf.1, hf.2, hp.2 (T.setVm vm₁) hT hW₁⟩) with ⟨v, vm₁, ⟨U', l2, c2, s2⟩, hW₁, X', ⟨g', mk, t, L, e1, e2, hq, h1, hL, h2, h3⟩, st⟩ | ⟨q, vm₁, ⟨U', l2, c2, s2⟩, hW₁, X', ⟨g', mk, t, L, E, ce, e1, e2, hq, hce, hcv, hcl, h1, hL, h2, h3⟩, st⟩
  · dsimp only [Pt.U, Pt.locs, Pt.cells, Pt.slots] at X' e1 e2 h1 h2 h3 st
    subst h1; subst h2; subst h3
    exact Or.inl ⟨v, (T.setVm vm₁).calling g' mk As.toArray, t, U', L, hT, X', hL, e1, e2, hq, st⟩
  · dsimp only [Pt.U, Pt.locs, Pt.cells, Pt.slots] at X' e1 e2 h1 h2 h3 st hcl
    subst h1; subst h2; subst h3
    exact Or.inr ⟨q, (T.setVm vm₁).calling g' mk As.toArray, t, U', L, E, ce, hT, X', hL, e1, e2, hq, hce, hcv, vx_cls hW₁ hcl, st⟩
end
end VXH
theorem vx_ofWH {l : Launch} {y : MethodName} {ws ws' : List Cond} {rm : Room} {Pc : Array Value → State → Prop} {Qc : Array Value → State → Outcome → State → Prop} {XC : String → State → State → Prop} {mc ms : Nat} {free : Addr → Prop} {cc : ByteArray} {maxL : Nat} {ret : Option FieldType} {hh : List (Nat × Nat × Nat × Nat)}
    (hy : plainName y.cls = true) (hw : ws = Cond.codeWith y cc maxL ret hh :: ws')
    (body : ∀ p e s m args below meth c s₁, BodyLoose p l y (headSpec ws rm) cc maxL ret e s m args below meth c s₁ → c.maxLocals = maxL → Pc args s →
      W p l e (headSpec ws rm).room s m args below meth c s.heap [] 0 0 (vx_MQ below Qc XC args s mc ms free) (entryFrame m args maxL)) : vx_Met l y ws rm Pc Qc XC mc ms free := by
  refine MetFree.of_bodyS (code := cc) (maxLocals := maxL) (ret := ret) hy ?_ ?_
  · intro args s m h hn
    obtain ⟨m9, meth, c, hn9, h1, h2, h3, h4, -, h5, h6, -⟩ := Cond.codeWith_spec (atoms_spec (ws := ws) h _ (by rw [hw]; exact List.mem_cons_self))
    cases hn.symm.trans hn9
    exact ⟨meth, c, h1, h2, h3, h4, h5, h6⟩
  · intro p e s m args below meth c s₁ B hml hP _
    have hh0 : s₁.heap = s.heap := by rw [B.state]; rfl
    obtain ⟨t, a1, o, b1, b2, b3⟩ := body p e s m args below meth c s₁ B hml hP s₁ hh0 (Stand.of_body B)
    exact ⟨t, o, a1, b1, b2, b3⟩
/-! ===== END ===== -/

section
variable {p : Program} {l : Launch} {e : Env} {R : Room} {s : State} {m : MethodId} {args : Array Value} {below : List Frame} {meth : Method} {c : Code} {H : Heap} {locs : List Loc} {cells slots : Nat}
variable {T : State}
theorem vx_callVN (X : Stand p l e R s m args below meth c T locs cells slots) (hexec : p.tables.exec = Jvm.exec) {own C : String} {index : Nat} {host : String} {y : MethodName} {bytes : ByteArray} {maxL : Nat} {ret : Option FieldType}
    (hown : s.vm.findClass own = some m.cls) (hlink : (Cond.methodLinkNest own index y host).before args s = true) (hinst : (Cond.instanceMethod y).before args s = true) (hsel : (Cond.selects C y y).before args s = true)
    (hcode : (Cond.code y bytes maxL ret).before args s = true) (hy : y.cls ≠ "java/lang/invoke/MethodHandle" ∧ y.cls ≠ "java/lang/invoke/VarHandle")
    {W : Nat} {Pre : Pt → Array Value → Prop} {Post : Pt → Array Value → Option Value → Pt → Prop} {PostX : Pt → Array Value → Addr → Pt → Prop} (hK : vx_Back l R p e below s args y 3 W Pre Post PostX)
    {b : Addr} {cellB : Cell} (hcell : T.heap[b]? = some cellB) (hobj : cellB.vm.isStatics = false) (hcls : s.vm.findClass C = some cellB.cls)
    {g : JFrame} (hg : g.method = m) (hsize : g.locals.size = c.maxLocals) {argsL rest : List Value} (hlen : ∀ sig, parseMethodDescriptor y.desc = some sig → argsL.length = sig.parameters.length)
    (hstack : g.stack = argsL.reverse ++ .ref b :: rest) (hW : 2 * g.monitorRoom + (rest.map fun v => v.category).sum ≤ W) (hdg : decode c.code g.pc = .ok (.invokevirtual index, 3))
    (hpre : ∀ vm₁, s.WarmedH vm₁ → Pre ⟨T.setVm vm₁, locs, cells, slots⟩ (Value.ref b :: argsL).toArray) :
    (∃ (v : Option Value) (vm₁ : Vm) (B : Pt), s.WarmedH vm₁ ∧ Stand p l e R s m args below meth c B.U B.locs B.cells B.slots ∧ Post ⟨T.setVm vm₁, locs, cells, slots⟩ (Value.ref b :: argsL).toArray v B ∧
      ∀ target, Steps p.tables e below (B.U.setTop { g with pc := g.pc + 3, stack := v.toList ++ rest }) target → Steps p.tables e below (T.setTop g) target) ∨
    (∃ (q : Addr) (vm₁ : Vm) (B : Pt), s.WarmedH vm₁ ∧ Stand p l e R s m args below meth c B.U B.locs B.cells B.slots ∧ PostX ⟨T.setVm vm₁, locs, cells, slots⟩ (Value.ref b :: argsL).toArray q B ∧
      Steps p.tables e below (T.setTop g) ((B.U.setTop { g with stack := rest }).pushFrame (.throwing q))) := by
  obtain ⟨mk, methM, hnamed, hmethM, hstM, habM⟩ := Cond.instanceMethod_spec hinst
  obtain ⟨methM', cM, hmethM', -, -, -, -, -, -, hsigM⟩ := Cond.code_spec hnamed hcode
  cases hmethM.symm.trans hmethM'
  obtain ⟨c2, r2, m2, q1, q2, q3, q4, kP, hkP, hkPi⟩ := Cond.selects_spec hsel
  cases hcls.symm.trans q1
  cases (State.methodFound?_of_named hnamed hy).symm.trans q2
  cases hnamed.symm.trans q3
  have hselP : selectMethod e.platform s.vm cellB.cls mk = .method mk := by rw [Launch.admits_selectMethod X.admits]; exact q4
  obtain ⟨vm₁, X₁, hstep₁⟩ := X.invokevirtualNest hexec hown hlink hnamed hmethM hstM hkP hkPi hy (a := b) (cell := cellB) hcell
    (fun z h => by rw [h] at hobj; cases hobj) hselP hmethM habM hkP hkPi (g := g) hg (argsL := argsL) (rest := rest) (hlen _ hsigM) hstack hdg
  rcases hK m meth c ⟨T.setVm vm₁, locs, cells, slots⟩ { g with stack := rest } (.invokevirtual index) mk (Value.ref b :: argsL).toArray X₁ hg hsize hdg hW (X₁.named hnamed) (hpre vm₁ X₁.warmed) with ⟨v, B, X', hpost, hsteps⟩ | ⟨q, B, X', hpost, hsteps⟩
  · exact Or.inl ⟨v, vm₁, B, X₁.warmed, X', hpost, fun target h => hstep₁ _ fun acts => by rw [doInvoke_state]; exact hsteps.trans h⟩
  · exact Or.inr ⟨q, vm₁, B, X₁.warmed, X', hpost, hstep₁ _ fun acts => by rw [doInvoke_state]; exact hsteps⟩
theorem vx_callSN (X : Stand p l e R s m args below meth c T locs cells slots) (hexec : p.tables.exec = Jvm.exec) {own : String} {index : Nat} {host : String} {y : MethodName} {bytes : ByteArray} {maxL : Nat} {ret : Option FieldType}
    (hown : s.vm.findClass own = some m.cls) (hlink : (Cond.methodLinkNest own index y host).before args s = true) (hstat : (Cond.static y).before args s = true) (hinit : (Cond.initialized y.cls).before args s = true)
    (hcode : (Cond.code y bytes maxL ret).before args s = true) (hy : y.cls ≠ "java/lang/invoke/MethodHandle" ∧ y.cls ≠ "java/lang/invoke/VarHandle")
    {W : Nat} {Pre : Pt → Array Value → Prop} {Post : Pt → Array Value → Option Value → Pt → Prop} {PostX : Pt → Array Value → Addr → Pt → Prop} (hK : vx_Back l R p e below s args y 3 W Pre Post PostX)
    {g : JFrame} (hg : g.method = m) (hsize : g.locals.size = c.maxLocals) {argsL rest : List Value} (hlen : ∀ sig, parseMethodDescriptor y.desc = some sig → argsL.length = sig.parameters.length)
    (hstack : g.stack = argsL.reverse ++ rest) (hW : 2 * g.monitorRoom + (rest.map fun v => v.category).sum ≤ W) (hdg : decode c.code g.pc = .ok (.invokestatic index, 3))
    (hpre : ∀ vm₁, s.WarmedH vm₁ → Pre ⟨T.setVm vm₁, locs, cells, slots⟩ argsL.toArray) :
    (∃ (v : Option Value) (vm₁ : Vm) (B : Pt), s.WarmedH vm₁ ∧ Stand p l e R s m args below meth c B.U B.locs B.cells B.slots ∧ Post ⟨T.setVm vm₁, locs, cells, slots⟩ argsL.toArray v B ∧
      ∀ target, Steps p.tables e below (B.U.setTop { g with pc := g.pc + 3, stack := v.toList ++ rest }) target → Steps p.tables e below (T.setTop g) target) ∨
    (∃ (q : Addr) (vm₁ : Vm) (B : Pt), s.WarmedH vm₁ ∧ Stand p l e R s m args below meth c B.U B.locs B.cells B.slots ∧ PostX ⟨T.setVm vm₁, locs, cells, slots⟩ argsL.toArray q B ∧
      Steps p.tables e below (T.setTop g) ((B.U.setTop { g with stack := rest }).pushFrame (.throwing q))) := by
  obtain ⟨mk, hnamed⟩ := Cond.code_named hcode
  obtain ⟨methM, cM, hmethM, -, -, -, -, -, -, hsigM⟩ := Cond.code_spec hnamed hcode
  have hstatic : methM.isStatic = true := Cond.static_spec hnamed hmethM hstat
  obtain ⟨kP, hkP, -⟩ := className_of_methodNamed hnamed
  have hinitP : kP.init = .initialized := Cond.initialized_spec (findClass_of_methodNamed hnamed) hkP hinit
  obtain ⟨vm₁, X₁, hstep₁⟩ := X.invokestaticNest hexec hown hlink hnamed hmethM hstatic hkP hinitP hy (g := g) hg (argsL := argsL) (rest := rest) (hlen _ hsigM) hstack hdg
  rcases hK m meth c ⟨T.setVm vm₁, locs, cells, slots⟩ { g with stack := rest } (.invokestatic index) mk argsL.toArray X₁ hg hsize hdg hW (X₁.named hnamed) (hpre vm₁ X₁.warmed) with ⟨v, B, X', hpost, hsteps⟩ | ⟨q, B, X', hpost, hsteps⟩
  · exact Or.inl ⟨v, vm₁, B, X₁.warmed, X', hpost, fun target h => hstep₁ _ fun acts => by rw [doInvoke_state]; exact hsteps.trans h⟩
  · exact Or.inr ⟨q, vm₁, B, X₁.warmed, X', hpost, hstep₁ _ fun acts => by rw [doInvoke_state]; exact hsteps⟩
theorem vx_runVN {y : MethodName} {bytes cc : ByteArray} {maxL nL mc ms n index : Nat} {ret : Option FieldType} {ws : List Cond} {rm : Room} {Pc : Array Value → State → Prop} {Qc : Array Value → State → Outcome → State → Prop} {XC : String → State → State → Prop} {free : Addr → Prop} {Ts : List Cond} {own C host : String} {b : Addr} {As rest : List Value} {g : JFrame}
    (S : CallFix p m c cc nL s args Ts own) (hM : vx_Met l y ws rm Pc Qc XC mc ms free) (cw : va_CN R s args own index y host bytes maxL ret ws rm mc ms n ∧ (Cond.instanceMethod y).before args s = true ∧ (Cond.selects C y y).before args s = true) (hp : PreV s H C b Pc As)
    (hg : g.method = m) (hn : As.length = n) (hsize : g.locals.size = nL) (hstack : g.stack = As.reverse ++ .ref b :: rest) (hW : 2 * g.monitorRoom + (rest.map fun v => v.category).sum ≤ 8) (hdg : decode cc g.pc = .ok (.invokevirtual index, 3)) (hf : cells + mc ≤ R.cells ∧ slots + ms ≤ R.slots) :
    vx_Run p l e R s m args below meth c H locs cells slots mc ms g rest (Qc (Value.ref b :: As).toArray) XC free := by
  obtain ⟨⟨⟨hrc, hrs, hfr, hlo, hws, hcw⟩, hcode, hini, hy, hlen, hl⟩, hx1, hx2⟩ := cw
  have hK : vx_Back l R p e below s args y 3 8 (PreOf R mc ms Pc) (PostOf Qc mc ms free) (vx_Post XC mc ms free) := vx_back (bytes := bytes) (maxL := maxL) (ret := ret) hM hp.1 hrc hrs hfr hlo hws hcw (fun a' U hW => word_at hW (Or.inl (by first | rfl | simp [Cond.onTables, Cond.keeps, Cond.steady])) hini)
  obtain ⟨hx, hb, hml, ho, -⟩ := S
  obtain ⟨-, ⟨cellB, hcB, hoB, hclB⟩, hPc⟩ := hp
  intro T hT X
  rcases vx_callVN X hx (C := C) (bytes := bytes) (maxL := maxL) (ret := ret) ho hl hx1 hx2 hcode hy hK (by rw [hT]; exact hcB) hoB hclB hg (hsize.trans hml.symm) (argsL := As) (rest := rest) (fun sig h => hn.trans (hlen sig h)) hstack hW (by rw [hb]; exact hdg)
    (fun vm₁ hW₁ => ⟨hf.1, hf.2, hPc (T.setVm vm₁) hT hW₁⟩) with ⟨v, vm₁, ⟨U', l2, c2, s2⟩, hW₁, X', ⟨g', mk, t, L, e1, e2, hq, h1, hL, h2, h3⟩, st⟩ | ⟨q, vm₁, ⟨U', l2, c2, s2⟩, hW₁, X', ⟨g', mk, t, L, E, ce, e1, e2, hq, hce, hcv, hcl, h1, hL, h2, h3⟩, st⟩
  · dsimp only [Pt.U, Pt.locs, Pt.cells, Pt.slots] at X' e1 e2 h1 h2 h3 st
    subst h1; subst h2; subst h3
    exact Or.inl ⟨v, (T.setVm vm₁).calling g' mk (Value.ref b :: As).toArray, t, U', L, hT, X', hL, e1, e2, hq, st⟩
  · dsimp only [Pt.U, Pt.locs, Pt.cells, Pt.slots] at X' e1 e2 h1 h2 h3 st hcl
    subst h1; subst h2; subst h3
    exact Or.inr ⟨q, (T.setVm vm₁).calling g' mk (Value.ref b :: As).toArray, t, U', L, E, ce, hT, X', hL, e1, e2, hq, hce, hcv, vx_cls hW₁ hcl, st⟩
theorem vx_runSN {y : MethodName} {bytes cc : ByteArray} {maxL nL mc ms n index : Nat} {ret : Option FieldType} {ws : List Cond} {rm : Room} {Pc : Array Value → State → Prop} {Qc : Array Value → State → Outcome → State → Prop} {XC : String → State → State → Prop} {free : Addr → Prop} {Ts : List Cond} {own host : String} {As rest : List Value} {g : JFrame}
    (S : CallFix p m c cc nL s args Ts own) (hM : vx_Met l y ws rm Pc Qc XC mc ms free) (cw : va_CN R s args own index y host bytes maxL ret ws rm mc ms n ∧ (Cond.static y).before args s = true ∧ True) (hp : PreS s H Pc As)
    (hg : g.method = m) (hn : As.length = n) (hsize : g.locals.size = nL) (hstack : g.stack = As.reverse ++ rest) (hW : 2 * g.monitorRoom + (rest.map fun v => v.category).sum ≤ 8) (hdg : decode cc g.pc = .ok (.invokestatic index, 3)) (hf : cells + mc ≤ R.cells ∧ slots + ms ≤ R.slots) :
    vx_Run p l e R s m args below meth c H locs cells slots mc ms g rest (Qc As.toArray) XC free := by
  obtain ⟨⟨⟨hrc, hrs, hfr, hlo, hws, hcw⟩, hcode, hini, hy, hlen, hl⟩, hx1, hx2⟩ := cw
  have hK : vx_Back l R p e below s args y 3 8 (PreOf R mc ms Pc) (PostOf Qc mc ms free) (vx_Post XC mc ms free) := vx_back (bytes := bytes) (maxL := maxL) (ret := ret) hM hp.1 hrc hrs hfr hlo hws hcw (fun a' U hW => word_at hW (Or.inl (by first | rfl | simp [Cond.onTables, Cond.keeps, Cond.steady])) hini)
  obtain ⟨hx, hb, hml, ho, -⟩ := S
  have hPc := hp.2
  intro T hT X
  rcases vx_callSN X hx (bytes := bytes) (maxL := maxL) (ret := ret) ho hl hx1 hini hcode hy hK hg (hsize.trans hml.symm) (argsL := As) (rest := rest) (fun sig h => hn.trans (hlen sig h)) hstack hW (by rw [hb]; exact hdg)
    (fun vm₁ hW₁ => ⟨hf.1, hf.2, hPc (T.setVm vm₁) hT hW₁⟩) with ⟨v, vm₁, ⟨U', l2, c2, s2⟩, hW₁, X', ⟨g', mk, t, L, e1, e2, hq, h1, hL, h2, h3⟩, st⟩ | ⟨q, vm₁, ⟨U', l2, c2, s2⟩, hW₁, X', ⟨g', mk, t, L, E, ce, e1, e2, hq, hce, hcv, hcl, h1, hL, h2, h3⟩, st⟩
  · dsimp only [Pt.U, Pt.locs, Pt.cells, Pt.slots] at X' e1 e2 h1 h2 h3 st
    subst h1; subst h2; subst h3
    exact Or.inl ⟨v, (T.setVm vm₁).calling g' mk As.toArray, t, U', L, hT, X', hL, e1, e2, hq, st⟩
  · dsimp only [Pt.U, Pt.locs, Pt.cells, Pt.slots] at X' e1 e2 h1 h2 h3 st hcl
    subst h1; subst h2; subst h3
    exact Or.inr ⟨q, (T.setVm vm₁).calling g' mk As.toArray, t, U', L, E, ce, hT, X', hL, e1, e2, hq, hce, hcv, vx_cls hW₁ hcl, st⟩
end
end
section
def RX0 : String := "HookColours$Hanging"
def TX0 : u_T := fun k => match k with
  | 0 => ("HookColours$Hanging", "place", "[I", true)
  | 1 => ("HookColours$Hanging", "hook", "[I", true)
  | 2 => ("HookColours$Hanging", "potsAt", "[I", true)
  | 3 => ("HookColours$Hanging", "aside", "[I", true)
  | _ => ("HookColours$Hanging", "floor", "I", false)
def tyX0 : Nat → FieldType := fun k => match k with
  | 0 => .array .int
  | 1 => .array .int
  | 2 => .array .int
  | 3 => .array .int
  | _ => .int
theorem nmX0 : ∀ a, a < 5 → ∀ b, b < 5 → a ≠ b → (TX0 a).2.1 ≠ (TX0 b).2.1 := by decide +kernel
theorem tyX0_ok : ∀ k, k < 5 → parseFieldDescriptor (TX0 k).2.2.1 = some (tyX0 k) := by decide +kernel
abbrev cX0_init : ByteArray := prog_2_method_1_code
def yX0_init : MethodName := ⟨RX0, "<init>", "()V"⟩
abbrev cX0_make : ByteArray := prog_2_method_2_code
def yX0_make : MethodName := ⟨RX0, "make", "(LHookColours$Study;I)V"⟩
abbrev cX0_hooksInUse : ByteArray := prog_2_method_3_code
def yX0_hooksInUse : MethodName := ⟨RX0, "hooksInUse", "()I"⟩
abbrev cX0_share : ByteArray := prog_2_method_4_code
def yX0_share : MethodName := ⟨RX0, "share", "(II)Z"⟩
abbrev cX0_putAside : ByteArray := prog_2_method_5_code
def yX0_putAside : MethodName := ⟨RX0, "putAside", "(LHookColours$Study;I)I"⟩
abbrev cX0_firstEasy : ByteArray := prog_2_method_6_code
def yX0_firstEasy : MethodName := ⟨RX0, "firstEasy", "(LHookColours$Study;II)I"⟩
abbrev cX0_cheapest : ByteArray := prog_2_method_7_code
def yX0_cheapest : MethodName := ⟨RX0, "cheapest", "(LHookColours$Study;I)I"⟩
abbrev cX0_hangUp : ByteArray := prog_2_method_8_code
def yX0_hangUp : MethodName := ⟨RX0, "hangUp", "(LHookColours$Study;II)V"⟩
abbrev cX0_hookOfPartner : ByteArray := prog_2_method_9_code
def yX0_hookOfPartner : MethodName := ⟨RX0, "hookOfPartner", "(II)I"⟩
abbrev cX0_firstFree : ByteArray := prog_2_method_10_code
def yX0_firstFree : MethodName := ⟨RX0, "firstFree", "(II)I"⟩
abbrev cX0_isFree : ByteArray := prog_2_method_11_code
def yX0_isFree : MethodName := ⟨RX0, "isFree", "(II)Z"⟩
def RX1 : String := "HookColours$Row"
def TX1 : u_T := fun k => match k with
  | 0 => ("HookColours$Row", "filled", "[I", true)
  | 1 => ("HookColours$Row", "first", "[I", true)
  | 2 => ("HookColours$Row", "second", "[I", true)
  | 3 => ("HookColours$Row", "weight", "[I", true)
  | 4 => ("HookColours$Row", "pouring", "[Z", true)
  | _ => ("HookColours$Row", "size", "I", false)
def tyX1 : Nat → FieldType := fun k => match k with
  | 0 => .array .int
  | 1 => .array .int
  | 2 => .array .int
  | 3 => .array .int
  | 4 => .array .boolean
  | _ => .int
theorem nmX1 : ∀ a, a < 6 → ∀ b, b < 6 → a ≠ b → (TX1 a).2.1 ≠ (TX1 b).2.1 := by decide +kernel
theorem tyX1_ok : ∀ k, k < 6 → parseFieldDescriptor (TX1 k).2.2.1 = some (tyX1 k) := by decide +kernel
abbrev cX1_init : ByteArray := prog_3_method_1_code
def yX1_init : MethodName := ⟨RX1, "<init>", "()V"⟩
abbrev cX1_add : ByteArray := prog_3_method_2_code
def yX1_add : MethodName := ⟨RX1, "add", "(IIIIZ)I"⟩
abbrev cX1_remove : ByteArray := prog_3_method_3_code
def yX1_remove : MethodName := ⟨RX1, "remove", "(I)V"⟩
abbrev cX1_copy : ByteArray := prog_3_method_4_code
def yX1_copy : MethodName := ⟨RX1, "copy", "(LHookColours$Row;)V"⟩
abbrev cX1_used : ByteArray := prog_3_method_5_code
def yX1_used : MethodName := ⟨RX1, "used", "(I)I"⟩
abbrev cX1_takeOver : ByteArray := prog_3_method_6_code
def yX1_takeOver : MethodName := ⟨RX1, "takeOver", "(LHookColours$Row;II)V"⟩
def RX2 : String := "HookColours$Study"
def TX2 : u_T := fun k => match k with
  | 0 => ("HookColours$Study", "behind", "[I", true)
  | 1 => ("HookColours$Study", "ahead", "[I", true)
  | 2 => ("HookColours$Study", "clashes", "[I", true)
  | 3 => ("HookColours$Study", "poured", "[I", true)
  | 4 => ("HookColours$Study", "cost", "[I", true)
  | 5 => ("HookColours$Study", "aheadOfAll", "I", false)
  | _ => ("HookColours$Study", "there", "I", false)
def tyX2 : Nat → FieldType := fun k => match k with
  | 0 => .array .int
  | 1 => .array .int
  | 2 => .array .int
  | 3 => .array .int
  | 4 => .array .int
  | 5 => .int
  | _ => .int
theorem nmX2 : ∀ a, a < 7 → ∀ b, b < 7 → a ≠ b → (TX2 a).2.1 ≠ (TX2 b).2.1 := by decide +kernel
theorem tyX2_ok : ∀ k, k < 7 → parseFieldDescriptor (TX2 k).2.2.1 = some (tyX2 k) := by decide +kernel
abbrev cX2_init : ByteArray := prog_4_method_1_code
def yX2_init : MethodName := ⟨RX2, "<init>", "()V"⟩
abbrev cX2_make : ByteArray := prog_4_method_2_code
def yX2_make : MethodName := ⟨RX2, "make", "(LHookColours$Row;I)V"⟩
abbrev cX2_pairsOfClashes : ByteArray := prog_4_method_3_code
def yX2_pairsOfClashes : MethodName := ⟨RX2, "pairsOfClashes", "()I"⟩
abbrev cX2_costOf : ByteArray := prog_4_method_4_code
def yX2_costOf : MethodName := ⟨RX2, "costOf", "(I)I"⟩
abbrev cX2_findLives : ByteArray := prog_4_method_5_code
def yX2_findLives : MethodName := ⟨RX2, "findLives", "(LHookColours$Row;I)V"⟩
abbrev cX2_takeIn : ByteArray := prog_4_method_6_code
def yX2_takeIn : MethodName := ⟨RX2, "takeIn", "(LHookColours$Row;I)V"⟩
abbrev cX2_addCost : ByteArray := prog_4_method_7_code
def yX2_addCost : MethodName := ⟨RX2, "addCost", "(II)V"⟩
abbrev cX2_addPoured : ByteArray := prog_4_method_8_code
def yX2_addPoured : MethodName := ⟨RX2, "addPoured", "(II)V"⟩
abbrev cX2_addClashes : ByteArray := prog_4_method_9_code
def yX2_addClashes : MethodName := ⟨RX2, "addClashes", "(II)V"⟩
def RX3 : String := "HookColours"
def TX3 : u_T := fun k => match k with
  | 0 => ("HookColours", "row", "LHookColours$Row;", true)
  | 1 => ("HookColours", "study", "LHookColours$Study;", true)
  | 2 => ("HookColours", "hanging", "LHookColours$Hanging;", true)
  | 3 => ("HookColours", "rowTried", "LHookColours$Row;", true)
  | 4 => ("HookColours", "studyTried", "LHookColours$Study;", true)
  | 5 => ("HookColours", "hangingTried", "LHookColours$Hanging;", true)
  | 6 => ("HookColours", "wanted", "I", false)
  | _ => ("HookColours", "hooks", "I", false)
def tyX3 : Nat → FieldType := fun k => match k with
  | 0 => .object "HookColours$Row"
  | 1 => .object "HookColours$Study"
  | 2 => .object "HookColours$Hanging"
  | 3 => .object "HookColours$Row"
  | 4 => .object "HookColours$Study"
  | 5 => .object "HookColours$Hanging"
  | 6 => .int
  | _ => .int
theorem nmX3 : ∀ a, a < 8 → ∀ b, b < 8 → a ≠ b → (TX3 a).2.1 ≠ (TX3 b).2.1 := by decide +kernel
theorem tyX3_ok : ∀ k, k < 8 → parseFieldDescriptor (TX3 k).2.2.1 = some (tyX3 k) := by decide +kernel
abbrev cX3_init : ByteArray := prog_1_method_1_code
def yX3_init : MethodName := ⟨RX3, "<init>", "()V"⟩
abbrev cX3_cook : ByteArray := prog_1_method_2_code
def yX3_cook : MethodName := ⟨RX3, "cook", "(IIII)I"⟩
abbrev cX3_pour : ByteArray := prog_1_method_3_code
def yX3_pour : MethodName := ⟨RX3, "pour", "(III)I"⟩
abbrev cX3_drop : ByteArray := prog_1_method_4_code
def yX3_drop : MethodName := ⟨RX3, "drop", "(I)I"⟩
abbrev cX3_want : ByteArray := prog_1_method_5_code
def yX3_want : MethodName := ⟨RX3, "want", "(IZ)Z"⟩
abbrev cX3_setHooks : ByteArray := prog_1_method_6_code
def yX3_setHooks : MethodName := ⟨RX3, "setHooks", "(I)I"⟩
abbrev cX3_deed : ByteArray := prog_1_method_7_code
def yX3_deed : MethodName := ⟨RX3, "deed", "(II)I"⟩
abbrev cX3_lives : ByteArray := prog_1_method_8_code
def yX3_lives : MethodName := ⟨RX3, "lives", "(II)Z"⟩
abbrev cX3_clash : ByteArray := prog_1_method_9_code
def yX3_clash : MethodName := ⟨RX3, "clash", "(II)Z"⟩
abbrev cX3_pot : ByteArray := prog_1_method_10_code
def yX3_pot : MethodName := ⟨RX3, "pot", "(II)I"⟩
abbrev cX3_count : ByteArray := prog_1_method_11_code
def yX3_count : MethodName := ⟨RX3, "count", "(I)I"⟩
abbrev cX3_hangs : ByteArray := prog_1_method_12_code
def yX3_hangs : MethodName := ⟨RX3, "hangs", "(I)I"⟩
abbrev cX3_crowd : ByteArray := prog_1_method_13_code
def yX3_crowd : MethodName := ⟨RX3, "crowd", "()I"⟩
abbrev cX3_would : ByteArray := prog_1_method_14_code
def yX3_would : MethodName := ⟨RX3, "would", "(I)I"⟩
abbrev cX3_fewest : ByteArray := prog_1_method_15_code
def yX3_fewest : MethodName := ⟨RX3, "fewest", "()I"⟩
abbrev cX3_advise : ByteArray := prog_1_method_16_code
def yX3_advise : MethodName := ⟨RX3, "advise", "()I"⟩
abbrev cX3_mean : ByteArray := prog_1_method_17_code
def yX3_mean : MethodName := ⟨RX3, "mean", "()D"⟩
abbrev cX3_digest : ByteArray := prog_1_method_18_code
def yX3_digest : MethodName := ⟨RX3, "digest", "()J"⟩
abbrev cX3_digested : ByteArray := prog_1_method_19_code
def yX3_digested : MethodName := ⟨RX3, "digested", "(JJ)J"⟩
abbrev cX3_settle : ByteArray := prog_1_method_20_code
def yX3_settle : MethodName := ⟨RX3, "settle", "()V"⟩
abbrev cX3_floorWith : ByteArray := prog_1_method_21_code
def yX3_floorWith : MethodName := ⟨RX3, "floorWith", "(I)I"⟩
abbrev cX3_floorCostWithout : ByteArray := prog_1_method_22_code
def yX3_floorCostWithout : MethodName := ⟨RX3, "floorCostWithout", "(I)I"⟩
abbrev cX3_pourings : ByteArray := prog_1_method_23_code
def yX3_pourings : MethodName := ⟨RX3, "pourings", "()I"⟩
abbrev cX3_pouringsSpared : ByteArray := prog_1_method_24_code
def yX3_pouringsSpared : MethodName := ⟨RX3, "pouringsSpared", "()I"⟩
abbrev cX3_weightsNotSpared : ByteArray := prog_1_method_25_code
def yX3_weightsNotSpared : MethodName := ⟨RX3, "weightsNotSpared", "()I"⟩
abbrev cX3_isSpared : ByteArray := prog_1_method_26_code
def yX3_isSpared : MethodName := ⟨RX3, "isSpared", "(I)Z"⟩
abbrev cX3_requireDeed : ByteArray := prog_1_method_27_code
def yX3_requireDeed : MethodName := ⟨RX3, "requireDeed", "(I)V"⟩
abbrev cX3_requirePot : ByteArray := prog_1_method_28_code
def yX3_requirePot : MethodName := ⟨RX3, "requirePot", "(I)V"⟩
abbrev cX3_requirePotOrNone : ByteArray := prog_1_method_29_code
def yX3_requirePotOrNone : MethodName := ⟨RX3, "requirePotOrNone", "(I)V"⟩
abbrev cX3_requireWeight : ByteArray := prog_1_method_30_code
def yX3_requireWeight : MethodName := ⟨RX3, "requireWeight", "(I)V"⟩
abbrev cX3_isPot : ByteArray := prog_1_method_31_code
def yX3_isPot : MethodName := ⟨RX3, "isPot", "(I)Z"⟩
abbrev cX3_bit : ByteArray := prog_1_method_32_code
def yX3_bit : MethodName := ⟨RX3, "bit", "(I)I"⟩
abbrev cX3_has : ByteArray := prog_1_method_33_code
def yX3_has : MethodName := ⟨RX3, "has", "(II)Z"⟩
def RX4 : String := "HookColoursModel"
def TX4 : u_T := fun k => match k with
  | 0 => ("HookColoursModel", "thrown", "I", false)
  | 1 => ("HookColoursModel", "hooks", "I", false)
  | 2 => ("HookColoursModel", "guests", "I", false)
  | 3 => ("HookColoursModel", "deeds", "I", false)
  | 4 => ("HookColoursModel", "fills", "[I", true)
  | 5 => ("HookColoursModel", "one", "[I", true)
  | 6 => ("HookColoursModel", "other", "[I", true)
  | 7 => ("HookColoursModel", "weight", "[I", true)
  | 8 => ("HookColoursModel", "isPouring", "[I", true)
  | 9 => ("HookColoursModel", "out", "I", false)
  | 10 => ("HookColoursModel", "behind", "[I", true)
  | 11 => ("HookColoursModel", "first", "I", false)
  | 12 => ("HookColoursModel", "there", "I", false)
  | 13 => ("HookColoursModel", "clashes", "[I", true)
  | 14 => ("HookColoursModel", "cost", "[I", true)
  | 15 => ("HookColoursModel", "place", "[I", true)
  | 16 => ("HookColoursModel", "order", "[I", true)
  | _ => ("HookColoursModel", "hook", "[I", true)
def tyX4 : Nat → FieldType := fun k => match k with
  | 0 => .int
  | 1 => .int
  | 2 => .int
  | 3 => .int
  | 4 => .array .int
  | 5 => .array .int
  | 6 => .array .int
  | 7 => .array .int
  | 8 => .array .int
  | 9 => .int
  | 10 => .array .int
  | 11 => .int
  | 12 => .int
  | 13 => .array .int
  | 14 => .array .int
  | 15 => .array .int
  | 16 => .array .int
  | _ => .array .int
theorem nmX4 : ∀ a, a < 18 → ∀ b, b < 18 → a ≠ b → (TX4 a).2.1 ≠ (TX4 b).2.1 := by decide +kernel
theorem tyX4_ok : ∀ k, k < 18 → parseFieldDescriptor (TX4 k).2.2.1 = some (tyX4 k) := by decide +kernel
abbrev cX4_init : ByteArray := prog_6_method_1_code
def yX4_init : MethodName := ⟨RX4, "<init>", "()V"⟩
abbrev cX4_thrown : ByteArray := prog_6_method_2_code
def yX4_thrown : MethodName := ⟨RX4, "thrown", "()I"⟩
abbrev cX4_no : ByteArray := prog_6_method_3_code
def yX4_no : MethodName := ⟨RX4, "no", "(I)I"⟩
abbrev cX4_isIn : ByteArray := prog_6_method_4_code
def yX4_isIn : MethodName := ⟨RX4, "isIn", "(III)Z"⟩
abbrev cX4_isPot : ByteArray := prog_6_method_5_code
def yX4_isPot : MethodName := ⟨RX4, "isPot", "(I)Z"⟩
abbrev cX4_isDeed : ByteArray := prog_6_method_6_code
def yX4_isDeed : MethodName := ⟨RX4, "isDeed", "(I)Z"⟩
abbrev cX4_has : ByteArray := prog_6_method_7_code
def yX4_has : MethodName := ⟨RX4, "has", "(II)Z"⟩
abbrev cX4_bit : ByteArray := prog_6_method_8_code
def yX4_bit : MethodName := ⟨RX4, "bit", "(I)I"⟩
abbrev cX4_uses : ByteArray := prog_6_method_9_code
def yX4_uses : MethodName := ⟨RX4, "uses", "(I)I"⟩
abbrev cX4_live : ByteArray := prog_6_method_10_code
def yX4_live : MethodName := ⟨RX4, "live", "()V"⟩
abbrev cX4_clashAll : ByteArray := prog_6_method_11_code
def yX4_clashAll : MethodName := ⟨RX4, "clashAll", "(II)V"⟩
abbrev cX4_add : ByteArray := prog_6_method_12_code
def yX4_add : MethodName := ⟨RX4, "add", "(II)V"⟩
abbrev cX4_look : ByteArray := prog_6_method_13_code
def yX4_look : MethodName := ⟨RX4, "look", "()V"⟩
abbrev cX4_next : ByteArray := prog_6_method_14_code
def yX4_next : MethodName := ⟨RX4, "next", "(II)I"⟩
abbrev cX4_isFree : ByteArray := prog_6_method_15_code
def yX4_isFree : MethodName := ⟨RX4, "isFree", "(II)Z"⟩
abbrev cX4_isPoured : ByteArray := prog_6_method_16_code
def yX4_isPoured : MethodName := ⟨RX4, "isPoured", "(II)Z"⟩
abbrev cX4_hookFor : ByteArray := prog_6_method_17_code
def yX4_hookFor : MethodName := ⟨RX4, "hookFor", "(II)I"⟩
abbrev cX4_hang : ByteArray := prog_6_method_18_code
def yX4_hang : MethodName := ⟨RX4, "hang", "(I)V"⟩
abbrev cX4_lookAll : ByteArray := prog_6_method_19_code
def yX4_lookAll : MethodName := ⟨RX4, "lookAll", "()V"⟩
abbrev cX4_isFloor : ByteArray := prog_6_method_20_code
def yX4_isFloor : MethodName := ⟨RX4, "isFloor", "(I)Z"⟩
abbrev cX4_floor : ByteArray := prog_6_method_21_code
def yX4_floor : MethodName := ⟨RX4, "floor", "()I"⟩
abbrev cX4_floorCost : ByteArray := prog_6_method_22_code
def yX4_floorCost : MethodName := ⟨RX4, "floorCost", "()I"⟩
abbrev cX4_isSpared : ByteArray := prog_6_method_23_code
def yX4_isSpared : MethodName := ⟨RX4, "isSpared", "(I)Z"⟩
abbrev cX4_isPotOrNone : ByteArray := prog_6_method_24_code
def yX4_isPotOrNone : MethodName := ⟨RX4, "isPotOrNone", "(I)Z"⟩
abbrev cX4_add_ : ByteArray := prog_6_method_25_code
def yX4_add_ : MethodName := ⟨RX4, "add", "(IIIII)I"⟩
abbrev cX4_cook : ByteArray := prog_6_method_26_code
def yX4_cook : MethodName := ⟨RX4, "cook", "(IIII)I"⟩
abbrev cX4_pour : ByteArray := prog_6_method_27_code
def yX4_pour : MethodName := ⟨RX4, "pour", "(III)I"⟩
abbrev cX4_moveUp : ByteArray := prog_6_method_28_code
def yX4_moveUp : MethodName := ⟨RX4, "moveUp", "([III)V"⟩
abbrev cX4_drop : ByteArray := prog_6_method_29_code
def yX4_drop : MethodName := ⟨RX4, "drop", "(I)I"⟩
abbrev cX4_want : ByteArray := prog_6_method_30_code
def yX4_want : MethodName := ⟨RX4, "want", "(IZ)Z"⟩
abbrev cX4_setHooks : ByteArray := prog_6_method_31_code
def yX4_setHooks : MethodName := ⟨RX4, "setHooks", "(I)I"⟩
abbrev cX4_aheadOf : ByteArray := prog_6_method_32_code
def yX4_aheadOf : MethodName := ⟨RX4, "aheadOf", "(I)I"⟩
abbrev cX4_deedTold : ByteArray := prog_6_method_33_code
def yX4_deedTold : MethodName := ⟨RX4, "deedTold", "(II)I"⟩
abbrev cX4_deed : ByteArray := prog_6_method_34_code
def yX4_deed : MethodName := ⟨RX4, "deed", "(II)I"⟩
abbrev cX4_lives : ByteArray := prog_6_method_35_code
def yX4_lives : MethodName := ⟨RX4, "lives", "(II)Z"⟩
abbrev cX4_clash : ByteArray := prog_6_method_36_code
def yX4_clash : MethodName := ⟨RX4, "clash", "(II)Z"⟩
abbrev cX4_potTold : ByteArray := prog_6_method_37_code
def yX4_potTold : MethodName := ⟨RX4, "potTold", "(II)I"⟩
abbrev cX4_pot : ByteArray := prog_6_method_38_code
def yX4_pot : MethodName := ⟨RX4, "pot", "(II)I"⟩
abbrev cX4_pairs : ByteArray := prog_6_method_39_code
def yX4_pairs : MethodName := ⟨RX4, "pairs", "()I"⟩
abbrev cX4_hangAt : ByteArray := prog_6_method_40_code
def yX4_hangAt : MethodName := ⟨RX4, "hangAt", "(I)I"⟩
abbrev cX4_usedHooks : ByteArray := prog_6_method_41_code
def yX4_usedHooks : MethodName := ⟨RX4, "usedHooks", "()I"⟩
abbrev cX4_pourings : ByteArray := prog_6_method_42_code
def yX4_pourings : MethodName := ⟨RX4, "pourings", "(Z)I"⟩
abbrev cX4_weights : ByteArray := prog_6_method_43_code
def yX4_weights : MethodName := ⟨RX4, "weights", "()I"⟩
abbrev cX4_counted : ByteArray := prog_6_method_44_code
def yX4_counted : MethodName := ⟨RX4, "counted", "(I)I"⟩
abbrev cX4_count : ByteArray := prog_6_method_45_code
def yX4_count : MethodName := ⟨RX4, "count", "(I)I"⟩
abbrev cX4_hangs : ByteArray := prog_6_method_46_code
def yX4_hangs : MethodName := ⟨RX4, "hangs", "(I)I"⟩
abbrev cX4_crowd : ByteArray := prog_6_method_47_code
def yX4_crowd : MethodName := ⟨RX4, "crowd", "()I"⟩
abbrev cX4_would : ByteArray := prog_6_method_48_code
def yX4_would : MethodName := ⟨RX4, "would", "(I)I"⟩
abbrev cX4_fewest : ByteArray := prog_6_method_49_code
def yX4_fewest : MethodName := ⟨RX4, "fewest", "()I"⟩
abbrev cX4_advise : ByteArray := prog_6_method_50_code
def yX4_advise : MethodName := ⟨RX4, "advise", "()I"⟩
abbrev cX4_mean : ByteArray := prog_6_method_51_code
def yX4_mean : MethodName := ⟨RX4, "mean", "()D"⟩
abbrev cX4_digest : ByteArray := prog_6_method_52_code
def yX4_digest : MethodName := ⟨RX4, "digest", "()J"⟩
def RJx145de : String := "java/io/Serializable"
def TJx145de : u_T := fun k => match k with
  | _ => ("", "", "", false)
def tyJx145de : Nat → FieldType := fun k => match k with
  | _ => .int
theorem tyJx145de_ok : ∀ k, k < 0 → parseFieldDescriptor (TJx145de k).2.2.1 = some (tyJx145de k) := by decide +kernel
def RJ6 : String := "java/lang/Integer"
def TJ6 : u_T := fun k => match k with
  | _ => ("", "", "", false)
def tyJ6 : Nat → FieldType := fun k => match k with
  | _ => .int
theorem tyJ6_ok : ∀ k, k < 0 → parseFieldDescriptor (TJ6 k).2.2.1 = some (tyJ6 k) := by decide +kernel
abbrev cJ6_bitCount_0f7a4 : ByteArray := prog_11_method_49_code
def yJ6_bitCount_0f7a4 : MethodName := ⟨RJ6, "bitCount", "(I)I"⟩
def RJ9 : String := "java/lang/Math"
def TJ9 : u_T := fun k => match k with
  | _ => ("", "", "", false)
def tyJ9 : Nat → FieldType := fun k => match k with
  | _ => .int
theorem tyJ9_ok : ∀ k, k < 0 → parseFieldDescriptor (TJ9 k).2.2.1 = some (tyJ9 k) := by decide +kernel
abbrev cJ9_max_7cf53 : ByteArray := prog_12_method_65_code
def yJ9_max_7cf53 : MethodName := ⟨RJ9, "max", "(II)I"⟩
def RJ0 : String := "java/lang/String"
def TJ0 : u_T := fun k => match k with
  | _ => ("", "", "", false)
def tyJ0 : Nat → FieldType := fun k => match k with
  | _ => .int
theorem tyJ0_ok : ∀ k, k < 0 → parseFieldDescriptor (TJ0 k).2.2.1 = some (tyJ0 k) := by decide +kernel
def RJ7 : String := "java/util/Arrays"
def TJ7 : u_T := fun k => match k with
  | _ => ("", "", "", false)
def tyJ7 : Nat → FieldType := fun k => match k with
  | _ => .int
theorem tyJ7_ok : ∀ k, k < 0 → parseFieldDescriptor (TJ7 k).2.2.1 = some (tyJ7 k) := by decide +kernel
abbrev cJ7_fill_53178 : ByteArray := prog_16_method_103_code
def yJ7_fill_53178 : MethodName := ⟨RJ7, "fill", "([II)V"⟩
def RL : String := "HookColoursLaw"
abbrev cL_cook : ByteArray := method_3_code
def yL_cook : MethodName := ⟨RL, "cook", "(LHookColours;IIII[J)I"⟩
abbrev cL_pour : ByteArray := method_4_code
def yL_pour : MethodName := ⟨RL, "pour", "(LHookColours;III[J)I"⟩
abbrev cL_drop : ByteArray := method_5_code
def yL_drop : MethodName := ⟨RL, "drop", "(LHookColours;I[J)I"⟩
abbrev cL_want : ByteArray := method_6_code
def yL_want : MethodName := ⟨RL, "want", "(LHookColours;IZ[J)I"⟩
abbrev cL_setHooks : ByteArray := method_7_code
def yL_setHooks : MethodName := ⟨RL, "setHooks", "(LHookColours;I[J)I"⟩
abbrev cL_deed : ByteArray := method_8_code
def yL_deed : MethodName := ⟨RL, "deed", "(LHookColours;II[J)I"⟩
abbrev cL_lives : ByteArray := method_9_code
def yL_lives : MethodName := ⟨RL, "lives", "(LHookColours;II[J)I"⟩
abbrev cL_clash : ByteArray := method_10_code
def yL_clash : MethodName := ⟨RL, "clash", "(LHookColours;II[J)I"⟩
abbrev cL_pot : ByteArray := method_11_code
def yL_pot : MethodName := ⟨RL, "pot", "(LHookColours;II[J)I"⟩
abbrev cL_count : ByteArray := method_12_code
def yL_count : MethodName := ⟨RL, "count", "(LHookColours;I[J)I"⟩
abbrev cL_hangs : ByteArray := method_13_code
def yL_hangs : MethodName := ⟨RL, "hangs", "(LHookColours;I[J)I"⟩
abbrev cL_would : ByteArray := method_14_code
def yL_would : MethodName := ⟨RL, "would", "(LHookColours;I[J)I"⟩
abbrev cL_law : ByteArray := code
def yL_law : MethodName := ⟨RL, "law", "([I)Z"⟩
end
section
theorem dX0_init_0 : decode cX0_init 0 = .ok (.aload_n 0, 1) := by decide +kernel
theorem dX0_init_1 : decode cX0_init 1 = .ok (.invokespecial 3, 3) := by decide +kernel
theorem dX0_init_4 : decode cX0_init 4 = .ok (.aload_n 0, 1) := by decide +kernel
theorem dX0_init_5 : decode cX0_init 5 = .ok (.bipush 16, 2) := by decide +kernel
theorem dX0_init_7 : decode cX0_init 7 = .ok (.newarray .int, 2) := by decide +kernel
theorem dX0_init_9 : decode cX0_init 9 = .ok (.putfield 9, 3) := by decide +kernel
theorem dX0_init_12 : decode cX0_init 12 = .ok (.aload_n 0, 1) := by decide +kernel
theorem dX0_init_13 : decode cX0_init 13 = .ok (.bipush 16, 2) := by decide +kernel
theorem dX0_init_15 : decode cX0_init 15 = .ok (.newarray .int, 2) := by decide +kernel
theorem dX0_init_17 : decode cX0_init 17 = .ok (.putfield 15, 3) := by decide +kernel
theorem dX0_init_20 : decode cX0_init 20 = .ok (.aload_n 0, 1) := by decide +kernel
theorem dX0_init_21 : decode cX0_init 21 = .ok (.bipush 16, 2) := by decide +kernel
theorem dX0_init_23 : decode cX0_init 23 = .ok (.newarray .int, 2) := by decide +kernel
theorem dX0_init_25 : decode cX0_init 25 = .ok (.putfield 18, 3) := by decide +kernel
theorem dX0_init_28 : decode cX0_init 28 = .ok (.aload_n 0, 1) := by decide +kernel
theorem dX0_init_29 : decode cX0_init 29 = .ok (.bipush 16, 2) := by decide +kernel
theorem dX0_init_31 : decode cX0_init 31 = .ok (.newarray .int, 2) := by decide +kernel
theorem dX0_init_33 : decode cX0_init 33 = .ok (.putfield 21, 3) := by decide +kernel
theorem dX0_init_36 : decode cX0_init 36 = .ok (.aload_n 0, 1) := by decide +kernel
theorem dX0_init_37 : decode cX0_init 37 = .ok (.iconst 0, 1) := by decide +kernel
theorem dX0_init_38 : decode cX0_init 38 = .ok (.putfield 24, 3) := by decide +kernel
theorem dX0_init_41 : decode cX0_init 41 = .ok (.return_, 1) := by decide +kernel
theorem dX0_make_0 : decode cX0_make 0 = .ok (.aload_n 0, 1) := by decide +kernel
theorem dX0_make_1 : decode cX0_make 1 = .ok (.aload_n 1, 1) := by decide +kernel
theorem dX0_make_2 : decode cX0_make 2 = .ok (.iload_n 2, 1) := by decide +kernel
theorem dX0_make_3 : decode cX0_make 3 = .ok (.invokevirtual 28, 3) := by decide +kernel
theorem dX0_make_6 : decode cX0_make 6 = .ok (.istore_n 3, 1) := by decide +kernel
theorem dX0_make_7 : decode cX0_make 7 = .ok (.aload_n 0, 1) := by decide +kernel
theorem dX0_make_8 : decode cX0_make 8 = .ok (.getfield 15, 3) := by decide +kernel
theorem dX0_make_11 : decode cX0_make 11 = .ok (.iconst (-1), 1) := by decide +kernel
theorem dX0_make_12 : decode cX0_make 12 = .ok (.invokestatic 32, 3) := by decide +kernel
theorem dX0_make_15 : decode cX0_make 15 = .ok (.aload_n 0, 1) := by decide +kernel
theorem dX0_make_16 : decode cX0_make 16 = .ok (.getfield 18, 3) := by decide +kernel
theorem dX0_make_19 : decode cX0_make 19 = .ok (.iconst 0, 1) := by decide +kernel
theorem dX0_make_20 : decode cX0_make 20 = .ok (.invokestatic 32, 3) := by decide +kernel
theorem dX0_make_23 : decode cX0_make 23 = .ok (.aload_n 0, 1) := by decide +kernel
theorem dX0_make_24 : decode cX0_make 24 = .ok (.iconst 0, 1) := by decide +kernel
theorem dX0_make_25 : decode cX0_make 25 = .ok (.putfield 24, 3) := by decide +kernel
theorem dX0_make_28 : decode cX0_make 28 = .ok (.iload_n 3, 1) := by decide +kernel
theorem dX0_make_29 : decode cX0_make 29 = .ok (.iconst 1, 1) := by decide +kernel
theorem dX0_make_30 : decode cX0_make 30 = .ok (.isub, 1) := by decide +kernel
theorem dX0_make_31 : decode cX0_make 31 = .ok (.istore 4, 2) := by decide +kernel
theorem dX0_make_33 : decode cX0_make 33 = .ok (.iload 4, 2) := by decide +kernel
theorem dX0_make_35 : decode cX0_make 35 = .ok (.ifCond .lt 22, 3) := by decide +kernel
theorem dX0_make_38 : decode cX0_make 38 = .ok (.aload_n 0, 1) := by decide +kernel
theorem dX0_make_39 : decode cX0_make 39 = .ok (.aload_n 1, 1) := by decide +kernel
theorem dX0_make_40 : decode cX0_make 40 = .ok (.aload_n 0, 1) := by decide +kernel
theorem dX0_make_41 : decode cX0_make 41 = .ok (.getfield 21, 3) := by decide +kernel
theorem dX0_make_44 : decode cX0_make 44 = .ok (.iload 4, 2) := by decide +kernel
theorem dX0_make_46 : decode cX0_make 46 = .ok (.iaload, 1) := by decide +kernel
theorem dX0_make_47 : decode cX0_make 47 = .ok (.iload_n 2, 1) := by decide +kernel
theorem dX0_make_48 : decode cX0_make 48 = .ok (.invokevirtual 38, 3) := by decide +kernel
theorem dX0_make_51 : decode cX0_make 51 = .ok (.iinc 4 (-1), 3) := by decide +kernel
theorem dX0_make_54 : decode cX0_make 54 = .ok (.goto (-21), 3) := by decide +kernel
theorem dX0_make_57 : decode cX0_make 57 = .ok (.return_, 1) := by decide +kernel
theorem dX0_hooksInUse_0 : decode cX0_hooksInUse 0 = .ok (.iconst 0, 1) := by decide +kernel
theorem dX0_hooksInUse_1 : decode cX0_hooksInUse 1 = .ok (.istore_n 1, 1) := by decide +kernel
theorem dX0_hooksInUse_2 : decode cX0_hooksInUse 2 = .ok (.iconst 0, 1) := by decide +kernel
theorem dX0_hooksInUse_3 : decode cX0_hooksInUse 3 = .ok (.istore_n 2, 1) := by decide +kernel
theorem dX0_hooksInUse_4 : decode cX0_hooksInUse 4 = .ok (.iload_n 2, 1) := by decide +kernel
theorem dX0_hooksInUse_5 : decode cX0_hooksInUse 5 = .ok (.bipush 16, 2) := by decide +kernel
theorem dX0_hooksInUse_7 : decode cX0_hooksInUse 7 = .ok (.if_icmp .ge 21, 3) := by decide +kernel
theorem dX0_hooksInUse_10 : decode cX0_hooksInUse 10 = .ok (.aload_n 0, 1) := by decide +kernel
theorem dX0_hooksInUse_11 : decode cX0_hooksInUse 11 = .ok (.getfield 18, 3) := by decide +kernel
theorem dX0_hooksInUse_14 : decode cX0_hooksInUse 14 = .ok (.iload_n 2, 1) := by decide +kernel
theorem dX0_hooksInUse_15 : decode cX0_hooksInUse 15 = .ok (.iaload, 1) := by decide +kernel
theorem dX0_hooksInUse_16 : decode cX0_hooksInUse 16 = .ok (.ifCond .eq 6, 3) := by decide +kernel
theorem dX0_hooksInUse_19 : decode cX0_hooksInUse 19 = .ok (.iinc 1 1, 3) := by decide +kernel
theorem dX0_hooksInUse_22 : decode cX0_hooksInUse 22 = .ok (.iinc 2 1, 3) := by decide +kernel
theorem dX0_hooksInUse_25 : decode cX0_hooksInUse 25 = .ok (.goto (-21), 3) := by decide +kernel
theorem dX0_hooksInUse_28 : decode cX0_hooksInUse 28 = .ok (.iload_n 1, 1) := by decide +kernel
theorem dX0_hooksInUse_29 : decode cX0_hooksInUse 29 = .ok (.ireturn, 1) := by decide +kernel
theorem dX0_share_0 : decode cX0_share 0 = .ok (.iload_n 1, 1) := by decide +kernel
theorem dX0_share_1 : decode cX0_share 1 = .ok (.invokestatic 42, 3) := by decide +kernel
theorem dX0_share_4 : decode cX0_share 4 = .ok (.ifCond .eq 39, 3) := by decide +kernel
theorem dX0_share_7 : decode cX0_share 7 = .ok (.iload_n 2, 1) := by decide +kernel
theorem dX0_share_8 : decode cX0_share 8 = .ok (.invokestatic 42, 3) := by decide +kernel
theorem dX0_share_11 : decode cX0_share 11 = .ok (.ifCond .eq 32, 3) := by decide +kernel
theorem dX0_share_14 : decode cX0_share 14 = .ok (.aload_n 0, 1) := by decide +kernel
theorem dX0_share_15 : decode cX0_share 15 = .ok (.getfield 15, 3) := by decide +kernel
theorem dX0_share_18 : decode cX0_share 18 = .ok (.iload_n 1, 1) := by decide +kernel
theorem dX0_share_19 : decode cX0_share 19 = .ok (.iaload, 1) := by decide +kernel
theorem dX0_share_20 : decode cX0_share 20 = .ok (.iconst (-1), 1) := by decide +kernel
theorem dX0_share_21 : decode cX0_share 21 = .ok (.if_icmp .eq 22, 3) := by decide +kernel
theorem dX0_share_24 : decode cX0_share 24 = .ok (.aload_n 0, 1) := by decide +kernel
theorem dX0_share_25 : decode cX0_share 25 = .ok (.getfield 15, 3) := by decide +kernel
theorem dX0_share_28 : decode cX0_share 28 = .ok (.iload_n 1, 1) := by decide +kernel
theorem dX0_share_29 : decode cX0_share 29 = .ok (.iaload, 1) := by decide +kernel
theorem dX0_share_30 : decode cX0_share 30 = .ok (.aload_n 0, 1) := by decide +kernel
theorem dX0_share_31 : decode cX0_share 31 = .ok (.getfield 15, 3) := by decide +kernel
theorem dX0_share_34 : decode cX0_share 34 = .ok (.iload_n 2, 1) := by decide +kernel
theorem dX0_share_35 : decode cX0_share 35 = .ok (.iaload, 1) := by decide +kernel
theorem dX0_share_36 : decode cX0_share 36 = .ok (.if_icmp .ne 7, 3) := by decide +kernel
theorem dX0_share_39 : decode cX0_share 39 = .ok (.iconst 1, 1) := by decide +kernel
theorem dX0_share_40 : decode cX0_share 40 = .ok (.goto 4, 3) := by decide +kernel
theorem dX0_share_43 : decode cX0_share 43 = .ok (.iconst 0, 1) := by decide +kernel
theorem dX0_share_44 : decode cX0_share 44 = .ok (.ireturn, 1) := by decide +kernel
theorem dX0_putAside_0 : decode cX0_putAside 0 = .ok (.aload_n 0, 1) := by decide +kernel
theorem dX0_putAside_1 : decode cX0_putAside 1 = .ok (.getfield 9, 3) := by decide +kernel
theorem dX0_putAside_4 : decode cX0_putAside 4 = .ok (.iconst (-1), 1) := by decide +kernel
theorem dX0_putAside_5 : decode cX0_putAside 5 = .ok (.invokestatic 32, 3) := by decide +kernel
theorem dX0_putAside_8 : decode cX0_putAside 8 = .ok (.aload_n 1, 1) := by decide +kernel
theorem dX0_putAside_9 : decode cX0_putAside 9 = .ok (.getfield 46, 3) := by decide +kernel
theorem dX0_putAside_12 : decode cX0_putAside 12 = .ok (.istore_n 3, 1) := by decide +kernel
theorem dX0_putAside_13 : decode cX0_putAside 13 = .ok (.iconst 0, 1) := by decide +kernel
theorem dX0_putAside_14 : decode cX0_putAside 14 = .ok (.istore 4, 2) := by decide +kernel
theorem dX0_putAside_16 : decode cX0_putAside 16 = .ok (.iload_n 3, 1) := by decide +kernel
theorem dX0_putAside_17 : decode cX0_putAside 17 = .ok (.ifCond .eq 73, 3) := by decide +kernel
theorem dX0_putAside_20 : decode cX0_putAside 20 = .ok (.iload 4, 2) := by decide +kernel
theorem dX0_putAside_22 : decode cX0_putAside 22 = .ok (.bipush 16, 2) := by decide +kernel
theorem dX0_putAside_24 : decode cX0_putAside 24 = .ok (.if_icmp .ge 66, 3) := by decide +kernel
theorem dX0_putAside_27 : decode cX0_putAside 27 = .ok (.aload_n 1, 1) := by decide +kernel
theorem dX0_putAside_28 : decode cX0_putAside 28 = .ok (.iload_n 3, 1) := by decide +kernel
theorem dX0_putAside_29 : decode cX0_putAside 29 = .ok (.iload_n 2, 1) := by decide +kernel
theorem dX0_putAside_30 : decode cX0_putAside 30 = .ok (.invokestatic 51, 3) := by decide +kernel
theorem dX0_putAside_33 : decode cX0_putAside 33 = .ok (.istore 5, 2) := by decide +kernel
theorem dX0_putAside_35 : decode cX0_putAside 35 = .ok (.iload 5, 2) := by decide +kernel
theorem dX0_putAside_37 : decode cX0_putAside 37 = .ok (.iconst (-1), 1) := by decide +kernel
theorem dX0_putAside_38 : decode cX0_putAside 38 = .ok (.if_icmp .ne 10, 3) := by decide +kernel
theorem dX0_putAside_41 : decode cX0_putAside 41 = .ok (.aload_n 1, 1) := by decide +kernel
theorem dX0_putAside_42 : decode cX0_putAside 42 = .ok (.iload_n 3, 1) := by decide +kernel
theorem dX0_putAside_43 : decode cX0_putAside 43 = .ok (.invokestatic 55, 3) := by decide +kernel
theorem dX0_putAside_46 : decode cX0_putAside 46 = .ok (.istore 5, 2) := by decide +kernel
theorem dX0_putAside_48 : decode cX0_putAside 48 = .ok (.iload 5, 2) := by decide +kernel
theorem dX0_putAside_50 : decode cX0_putAside 50 = .ok (.invokestatic 42, 3) := by decide +kernel
theorem dX0_putAside_53 : decode cX0_putAside 53 = .ok (.ifCond .eq 12, 3) := by decide +kernel
theorem dX0_putAside_56 : decode cX0_putAside 56 = .ok (.aload_n 0, 1) := by decide +kernel
theorem dX0_putAside_57 : decode cX0_putAside 57 = .ok (.getfield 9, 3) := by decide +kernel
theorem dX0_putAside_60 : decode cX0_putAside 60 = .ok (.iload 5, 2) := by decide +kernel
theorem dX0_putAside_62 : decode cX0_putAside 62 = .ok (.iload 4, 2) := by decide +kernel
theorem dX0_putAside_64 : decode cX0_putAside 64 = .ok (.iastore, 1) := by decide +kernel
theorem dX0_putAside_65 : decode cX0_putAside 65 = .ok (.aload_n 0, 1) := by decide +kernel
theorem dX0_putAside_66 : decode cX0_putAside 66 = .ok (.getfield 21, 3) := by decide +kernel
theorem dX0_putAside_69 : decode cX0_putAside 69 = .ok (.iload 4, 2) := by decide +kernel
theorem dX0_putAside_71 : decode cX0_putAside 71 = .ok (.iload 5, 2) := by decide +kernel
theorem dX0_putAside_73 : decode cX0_putAside 73 = .ok (.iastore, 1) := by decide +kernel
theorem dX0_putAside_74 : decode cX0_putAside 74 = .ok (.iload_n 3, 1) := by decide +kernel
theorem dX0_putAside_75 : decode cX0_putAside 75 = .ok (.iload 5, 2) := by decide +kernel
theorem dX0_putAside_77 : decode cX0_putAside 77 = .ok (.invokestatic 58, 3) := by decide +kernel
theorem dX0_putAside_80 : decode cX0_putAside 80 = .ok (.iconst (-1), 1) := by decide +kernel
theorem dX0_putAside_81 : decode cX0_putAside 81 = .ok (.ixor, 1) := by decide +kernel
theorem dX0_putAside_82 : decode cX0_putAside 82 = .ok (.iand, 1) := by decide +kernel
theorem dX0_putAside_83 : decode cX0_putAside 83 = .ok (.istore_n 3, 1) := by decide +kernel
theorem dX0_putAside_84 : decode cX0_putAside 84 = .ok (.iinc 4 1, 3) := by decide +kernel
theorem dX0_putAside_87 : decode cX0_putAside 87 = .ok (.goto (-71), 3) := by decide +kernel
theorem dX0_putAside_90 : decode cX0_putAside 90 = .ok (.iload 4, 2) := by decide +kernel
theorem dX0_putAside_92 : decode cX0_putAside 92 = .ok (.ireturn, 1) := by decide +kernel
theorem dX0_firstEasy_0 : decode cX0_firstEasy 0 = .ok (.iconst 0, 1) := by decide +kernel
theorem dX0_firstEasy_1 : decode cX0_firstEasy 1 = .ok (.istore_n 3, 1) := by decide +kernel
theorem dX0_firstEasy_2 : decode cX0_firstEasy 2 = .ok (.iload_n 3, 1) := by decide +kernel
theorem dX0_firstEasy_3 : decode cX0_firstEasy 3 = .ok (.bipush 16, 2) := by decide +kernel
theorem dX0_firstEasy_5 : decode cX0_firstEasy 5 = .ok (.if_icmp .ge 34, 3) := by decide +kernel
theorem dX0_firstEasy_8 : decode cX0_firstEasy 8 = .ok (.iload_n 1, 1) := by decide +kernel
theorem dX0_firstEasy_9 : decode cX0_firstEasy 9 = .ok (.iload_n 3, 1) := by decide +kernel
theorem dX0_firstEasy_10 : decode cX0_firstEasy 10 = .ok (.invokestatic 62, 3) := by decide +kernel
theorem dX0_firstEasy_13 : decode cX0_firstEasy 13 = .ok (.ifCond .eq 20, 3) := by decide +kernel
theorem dX0_firstEasy_16 : decode cX0_firstEasy 16 = .ok (.aload_n 0, 1) := by decide +kernel
theorem dX0_firstEasy_17 : decode cX0_firstEasy 17 = .ok (.getfield 66, 3) := by decide +kernel
theorem dX0_firstEasy_20 : decode cX0_firstEasy 20 = .ok (.iload_n 3, 1) := by decide +kernel
theorem dX0_firstEasy_21 : decode cX0_firstEasy 21 = .ok (.iaload, 1) := by decide +kernel
theorem dX0_firstEasy_22 : decode cX0_firstEasy 22 = .ok (.iload_n 1, 1) := by decide +kernel
theorem dX0_firstEasy_23 : decode cX0_firstEasy 23 = .ok (.iand, 1) := by decide +kernel
theorem dX0_firstEasy_24 : decode cX0_firstEasy 24 = .ok (.invokestatic 69, 3) := by decide +kernel
theorem dX0_firstEasy_27 : decode cX0_firstEasy 27 = .ok (.iload_n 2, 1) := by decide +kernel
theorem dX0_firstEasy_28 : decode cX0_firstEasy 28 = .ok (.if_icmp .ge 5, 3) := by decide +kernel
theorem dX0_firstEasy_31 : decode cX0_firstEasy 31 = .ok (.iload_n 3, 1) := by decide +kernel
theorem dX0_firstEasy_32 : decode cX0_firstEasy 32 = .ok (.ireturn, 1) := by decide +kernel
theorem dX0_firstEasy_33 : decode cX0_firstEasy 33 = .ok (.iinc 3 1, 3) := by decide +kernel
theorem dX0_firstEasy_36 : decode cX0_firstEasy 36 = .ok (.goto (-34), 3) := by decide +kernel
theorem dX0_firstEasy_39 : decode cX0_firstEasy 39 = .ok (.iconst (-1), 1) := by decide +kernel
theorem dX0_firstEasy_40 : decode cX0_firstEasy 40 = .ok (.ireturn, 1) := by decide +kernel
theorem dX0_cheapest_0 : decode cX0_cheapest 0 = .ok (.iconst (-1), 1) := by decide +kernel
theorem dX0_cheapest_1 : decode cX0_cheapest 1 = .ok (.istore_n 2, 1) := by decide +kernel
theorem dX0_cheapest_2 : decode cX0_cheapest 2 = .ok (.iconst 0, 1) := by decide +kernel
theorem dX0_cheapest_3 : decode cX0_cheapest 3 = .ok (.istore_n 3, 1) := by decide +kernel
theorem dX0_cheapest_4 : decode cX0_cheapest 4 = .ok (.iconst 0, 1) := by decide +kernel
theorem dX0_cheapest_5 : decode cX0_cheapest 5 = .ok (.istore 4, 2) := by decide +kernel
theorem dX0_cheapest_7 : decode cX0_cheapest 7 = .ok (.iconst 0, 1) := by decide +kernel
theorem dX0_cheapest_8 : decode cX0_cheapest 8 = .ok (.istore 5, 2) := by decide +kernel
theorem dX0_cheapest_10 : decode cX0_cheapest 10 = .ok (.iload 5, 2) := by decide +kernel
theorem dX0_cheapest_12 : decode cX0_cheapest 12 = .ok (.bipush 16, 2) := by decide +kernel
theorem dX0_cheapest_14 : decode cX0_cheapest 14 = .ok (.if_icmp .ge 69, 3) := by decide +kernel
theorem dX0_cheapest_17 : decode cX0_cheapest 17 = .ok (.aload_n 0, 1) := by decide +kernel
theorem dX0_cheapest_18 : decode cX0_cheapest 18 = .ok (.getfield 66, 3) := by decide +kernel
theorem dX0_cheapest_21 : decode cX0_cheapest 21 = .ok (.iload 5, 2) := by decide +kernel
theorem dX0_cheapest_23 : decode cX0_cheapest 23 = .ok (.iaload, 1) := by decide +kernel
theorem dX0_cheapest_24 : decode cX0_cheapest 24 = .ok (.iload_n 1, 1) := by decide +kernel
theorem dX0_cheapest_25 : decode cX0_cheapest 25 = .ok (.iand, 1) := by decide +kernel
theorem dX0_cheapest_26 : decode cX0_cheapest 26 = .ok (.invokestatic 69, 3) := by decide +kernel
theorem dX0_cheapest_29 : decode cX0_cheapest 29 = .ok (.istore 6, 2) := by decide +kernel
theorem dX0_cheapest_31 : decode cX0_cheapest 31 = .ok (.iload_n 1, 1) := by decide +kernel
theorem dX0_cheapest_32 : decode cX0_cheapest 32 = .ok (.iload 5, 2) := by decide +kernel
theorem dX0_cheapest_34 : decode cX0_cheapest 34 = .ok (.invokestatic 62, 3) := by decide +kernel
theorem dX0_cheapest_37 : decode cX0_cheapest 37 = .ok (.ifCond .eq 40, 3) := by decide +kernel
theorem dX0_cheapest_40 : decode cX0_cheapest 40 = .ok (.iload_n 2, 1) := by decide +kernel
theorem dX0_cheapest_41 : decode cX0_cheapest 41 = .ok (.iconst (-1), 1) := by decide +kernel
theorem dX0_cheapest_42 : decode cX0_cheapest 42 = .ok (.if_icmp .eq 20, 3) := by decide +kernel
theorem dX0_cheapest_45 : decode cX0_cheapest 45 = .ok (.aload_n 0, 1) := by decide +kernel
theorem dX0_cheapest_46 : decode cX0_cheapest 46 = .ok (.getfield 74, 3) := by decide +kernel
theorem dX0_cheapest_49 : decode cX0_cheapest 49 = .ok (.iload 5, 2) := by decide +kernel
theorem dX0_cheapest_51 : decode cX0_cheapest 51 = .ok (.iaload, 1) := by decide +kernel
theorem dX0_cheapest_52 : decode cX0_cheapest 52 = .ok (.iload 4, 2) := by decide +kernel
theorem dX0_cheapest_54 : decode cX0_cheapest 54 = .ok (.imul, 1) := by decide +kernel
theorem dX0_cheapest_55 : decode cX0_cheapest 55 = .ok (.iload_n 3, 1) := by decide +kernel
theorem dX0_cheapest_56 : decode cX0_cheapest 56 = .ok (.iload 6, 2) := by decide +kernel
theorem dX0_cheapest_58 : decode cX0_cheapest 58 = .ok (.imul, 1) := by decide +kernel
theorem dX0_cheapest_59 : decode cX0_cheapest 59 = .ok (.if_icmp .ge 18, 3) := by decide +kernel
theorem dX0_cheapest_62 : decode cX0_cheapest 62 = .ok (.iload 5, 2) := by decide +kernel
theorem dX0_cheapest_64 : decode cX0_cheapest 64 = .ok (.istore_n 2, 1) := by decide +kernel
theorem dX0_cheapest_65 : decode cX0_cheapest 65 = .ok (.aload_n 0, 1) := by decide +kernel
theorem dX0_cheapest_66 : decode cX0_cheapest 66 = .ok (.getfield 74, 3) := by decide +kernel
theorem dX0_cheapest_69 : decode cX0_cheapest 69 = .ok (.iload 5, 2) := by decide +kernel
theorem dX0_cheapest_71 : decode cX0_cheapest 71 = .ok (.iaload, 1) := by decide +kernel
theorem dX0_cheapest_72 : decode cX0_cheapest 72 = .ok (.istore_n 3, 1) := by decide +kernel
theorem dX0_cheapest_73 : decode cX0_cheapest 73 = .ok (.iload 6, 2) := by decide +kernel
theorem dX0_cheapest_75 : decode cX0_cheapest 75 = .ok (.istore 4, 2) := by decide +kernel
theorem dX0_cheapest_77 : decode cX0_cheapest 77 = .ok (.iinc 5 1, 3) := by decide +kernel
theorem dX0_cheapest_80 : decode cX0_cheapest 80 = .ok (.goto (-70), 3) := by decide +kernel
theorem dX0_cheapest_83 : decode cX0_cheapest 83 = .ok (.iload_n 2, 1) := by decide +kernel
theorem dX0_cheapest_84 : decode cX0_cheapest 84 = .ok (.ireturn, 1) := by decide +kernel
theorem dX0_hangUp_0 : decode cX0_hangUp 0 = .ok (.iload_n 2, 1) := by decide +kernel
theorem dX0_hangUp_1 : decode cX0_hangUp 1 = .ok (.invokestatic 42, 3) := by decide +kernel
theorem dX0_hangUp_4 : decode cX0_hangUp 4 = .ok (.ifCond .ne 4, 3) := by decide +kernel
theorem dX0_hangUp_7 : decode cX0_hangUp 7 = .ok (.return_, 1) := by decide +kernel
theorem dX0_hangUp_8 : decode cX0_hangUp 8 = .ok (.aload_n 0, 1) := by decide +kernel
theorem dX0_hangUp_9 : decode cX0_hangUp 9 = .ok (.aload_n 1, 1) := by decide +kernel
theorem dX0_hangUp_10 : decode cX0_hangUp 10 = .ok (.getfield 77, 3) := by decide +kernel
theorem dX0_hangUp_13 : decode cX0_hangUp 13 = .ok (.iload_n 2, 1) := by decide +kernel
theorem dX0_hangUp_14 : decode cX0_hangUp 14 = .ok (.iaload, 1) := by decide +kernel
theorem dX0_hangUp_15 : decode cX0_hangUp 15 = .ok (.aload_n 1, 1) := by decide +kernel
theorem dX0_hangUp_16 : decode cX0_hangUp 16 = .ok (.getfield 66, 3) := by decide +kernel
theorem dX0_hangUp_19 : decode cX0_hangUp 19 = .ok (.iload_n 2, 1) := by decide +kernel
theorem dX0_hangUp_20 : decode cX0_hangUp 20 = .ok (.iaload, 1) := by decide +kernel
theorem dX0_hangUp_21 : decode cX0_hangUp 21 = .ok (.invokevirtual 80, 3) := by decide +kernel
theorem dX0_hangUp_24 : decode cX0_hangUp 24 = .ok (.istore 4, 2) := by decide +kernel
theorem dX0_hangUp_26 : decode cX0_hangUp 26 = .ok (.iload 4, 2) := by decide +kernel
theorem dX0_hangUp_28 : decode cX0_hangUp 28 = .ok (.iconst (-1), 1) := by decide +kernel
theorem dX0_hangUp_29 : decode cX0_hangUp 29 = .ok (.if_icmp .ne 16, 3) := by decide +kernel
theorem dX0_hangUp_32 : decode cX0_hangUp 32 = .ok (.aload_n 0, 1) := by decide +kernel
theorem dX0_hangUp_33 : decode cX0_hangUp 33 = .ok (.aload_n 1, 1) := by decide +kernel
theorem dX0_hangUp_34 : decode cX0_hangUp 34 = .ok (.getfield 66, 3) := by decide +kernel
theorem dX0_hangUp_37 : decode cX0_hangUp 37 = .ok (.iload_n 2, 1) := by decide +kernel
theorem dX0_hangUp_38 : decode cX0_hangUp 38 = .ok (.iaload, 1) := by decide +kernel
theorem dX0_hangUp_39 : decode cX0_hangUp 39 = .ok (.iload_n 3, 1) := by decide +kernel
theorem dX0_hangUp_40 : decode cX0_hangUp 40 = .ok (.invokevirtual 84, 3) := by decide +kernel
theorem dX0_hangUp_43 : decode cX0_hangUp 43 = .ok (.istore 4, 2) := by decide +kernel
theorem dX0_hangUp_45 : decode cX0_hangUp 45 = .ok (.iload 4, 2) := by decide +kernel
theorem dX0_hangUp_47 : decode cX0_hangUp 47 = .ok (.ifCond .lt 10, 3) := by decide +kernel
theorem dX0_hangUp_50 : decode cX0_hangUp 50 = .ok (.iload 4, 2) := by decide +kernel
theorem dX0_hangUp_52 : decode cX0_hangUp 52 = .ok (.bipush 16, 2) := by decide +kernel
theorem dX0_hangUp_54 : decode cX0_hangUp 54 = .ok (.if_icmp .lt 17, 3) := by decide +kernel
theorem dX0_hangUp_57 : decode cX0_hangUp 57 = .ok (.aload_n 0, 1) := by decide +kernel
theorem dX0_hangUp_58 : decode cX0_hangUp 58 = .ok (.dup, 1) := by decide +kernel
theorem dX0_hangUp_59 : decode cX0_hangUp 59 = .ok (.getfield 24, 3) := by decide +kernel
theorem dX0_hangUp_62 : decode cX0_hangUp 62 = .ok (.iload_n 2, 1) := by decide +kernel
theorem dX0_hangUp_63 : decode cX0_hangUp 63 = .ok (.invokestatic 58, 3) := by decide +kernel
theorem dX0_hangUp_66 : decode cX0_hangUp 66 = .ok (.ior, 1) := by decide +kernel
theorem dX0_hangUp_67 : decode cX0_hangUp 67 = .ok (.putfield 24, 3) := by decide +kernel
theorem dX0_hangUp_70 : decode cX0_hangUp 70 = .ok (.return_, 1) := by decide +kernel
theorem dX0_hangUp_71 : decode cX0_hangUp 71 = .ok (.aload_n 0, 1) := by decide +kernel
theorem dX0_hangUp_72 : decode cX0_hangUp 72 = .ok (.getfield 15, 3) := by decide +kernel
theorem dX0_hangUp_75 : decode cX0_hangUp 75 = .ok (.iload_n 2, 1) := by decide +kernel
theorem dX0_hangUp_76 : decode cX0_hangUp 76 = .ok (.iload 4, 2) := by decide +kernel
theorem dX0_hangUp_78 : decode cX0_hangUp 78 = .ok (.iastore, 1) := by decide +kernel
theorem dX0_hangUp_79 : decode cX0_hangUp 79 = .ok (.aload_n 0, 1) := by decide +kernel
theorem dX0_hangUp_80 : decode cX0_hangUp 80 = .ok (.getfield 18, 3) := by decide +kernel
theorem dX0_hangUp_83 : decode cX0_hangUp 83 = .ok (.iload 4, 2) := by decide +kernel
theorem dX0_hangUp_85 : decode cX0_hangUp 85 = .ok (.dup2, 1) := by decide +kernel
theorem dX0_hangUp_86 : decode cX0_hangUp 86 = .ok (.iaload, 1) := by decide +kernel
theorem dX0_hangUp_87 : decode cX0_hangUp 87 = .ok (.iload_n 2, 1) := by decide +kernel
theorem dX0_hangUp_88 : decode cX0_hangUp 88 = .ok (.invokestatic 58, 3) := by decide +kernel
theorem dX0_hangUp_91 : decode cX0_hangUp 91 = .ok (.ior, 1) := by decide +kernel
theorem dX0_hangUp_92 : decode cX0_hangUp 92 = .ok (.iastore, 1) := by decide +kernel
theorem dX0_hangUp_93 : decode cX0_hangUp 93 = .ok (.return_, 1) := by decide +kernel
theorem dX0_hookOfPartner_0 : decode cX0_hookOfPartner 0 = .ok (.iconst 0, 1) := by decide +kernel
theorem dX0_hookOfPartner_1 : decode cX0_hookOfPartner 1 = .ok (.istore_n 3, 1) := by decide +kernel
theorem dX0_hookOfPartner_2 : decode cX0_hookOfPartner 2 = .ok (.iload_n 3, 1) := by decide +kernel
theorem dX0_hookOfPartner_3 : decode cX0_hookOfPartner 3 = .ok (.bipush 16, 2) := by decide +kernel
theorem dX0_hookOfPartner_5 : decode cX0_hookOfPartner 5 = .ok (.if_icmp .ge 38, 3) := by decide +kernel
theorem dX0_hookOfPartner_8 : decode cX0_hookOfPartner 8 = .ok (.iload_n 1, 1) := by decide +kernel
theorem dX0_hookOfPartner_9 : decode cX0_hookOfPartner 9 = .ok (.iload_n 3, 1) := by decide +kernel
theorem dX0_hookOfPartner_10 : decode cX0_hookOfPartner 10 = .ok (.invokestatic 62, 3) := by decide +kernel
theorem dX0_hookOfPartner_13 : decode cX0_hookOfPartner 13 = .ok (.ifCond .eq 24, 3) := by decide +kernel
theorem dX0_hookOfPartner_16 : decode cX0_hookOfPartner 16 = .ok (.aload_n 0, 1) := by decide +kernel
theorem dX0_hookOfPartner_17 : decode cX0_hookOfPartner 17 = .ok (.aload_n 0, 1) := by decide +kernel
theorem dX0_hookOfPartner_18 : decode cX0_hookOfPartner 18 = .ok (.getfield 15, 3) := by decide +kernel
theorem dX0_hookOfPartner_21 : decode cX0_hookOfPartner 21 = .ok (.iload_n 3, 1) := by decide +kernel
theorem dX0_hookOfPartner_22 : decode cX0_hookOfPartner 22 = .ok (.iaload, 1) := by decide +kernel
theorem dX0_hookOfPartner_23 : decode cX0_hookOfPartner 23 = .ok (.iload_n 2, 1) := by decide +kernel
theorem dX0_hookOfPartner_24 : decode cX0_hookOfPartner 24 = .ok (.invokevirtual 87, 3) := by decide +kernel
theorem dX0_hookOfPartner_27 : decode cX0_hookOfPartner 27 = .ok (.ifCond .eq 10, 3) := by decide +kernel
theorem dX0_hookOfPartner_30 : decode cX0_hookOfPartner 30 = .ok (.aload_n 0, 1) := by decide +kernel
theorem dX0_hookOfPartner_31 : decode cX0_hookOfPartner 31 = .ok (.getfield 15, 3) := by decide +kernel
theorem dX0_hookOfPartner_34 : decode cX0_hookOfPartner 34 = .ok (.iload_n 3, 1) := by decide +kernel
theorem dX0_hookOfPartner_35 : decode cX0_hookOfPartner 35 = .ok (.iaload, 1) := by decide +kernel
theorem dX0_hookOfPartner_36 : decode cX0_hookOfPartner 36 = .ok (.ireturn, 1) := by decide +kernel
theorem dX0_hookOfPartner_37 : decode cX0_hookOfPartner 37 = .ok (.iinc 3 1, 3) := by decide +kernel
theorem dX0_hookOfPartner_40 : decode cX0_hookOfPartner 40 = .ok (.goto (-38), 3) := by decide +kernel
theorem dX0_hookOfPartner_43 : decode cX0_hookOfPartner 43 = .ok (.iconst (-1), 1) := by decide +kernel
theorem dX0_hookOfPartner_44 : decode cX0_hookOfPartner 44 = .ok (.ireturn, 1) := by decide +kernel
theorem dX0_firstFree_0 : decode cX0_firstFree 0 = .ok (.iconst 0, 1) := by decide +kernel
theorem dX0_firstFree_1 : decode cX0_firstFree 1 = .ok (.istore_n 3, 1) := by decide +kernel
theorem dX0_firstFree_2 : decode cX0_firstFree 2 = .ok (.iload_n 3, 1) := by decide +kernel
theorem dX0_firstFree_3 : decode cX0_firstFree 3 = .ok (.iload_n 2, 1) := by decide +kernel
theorem dX0_firstFree_4 : decode cX0_firstFree 4 = .ok (.if_icmp .ge 20, 3) := by decide +kernel
theorem dX0_firstFree_7 : decode cX0_firstFree 7 = .ok (.aload_n 0, 1) := by decide +kernel
theorem dX0_firstFree_8 : decode cX0_firstFree 8 = .ok (.iload_n 3, 1) := by decide +kernel
theorem dX0_firstFree_9 : decode cX0_firstFree 9 = .ok (.iload_n 1, 1) := by decide +kernel
theorem dX0_firstFree_10 : decode cX0_firstFree 10 = .ok (.invokevirtual 87, 3) := by decide +kernel
theorem dX0_firstFree_13 : decode cX0_firstFree 13 = .ok (.ifCond .eq 5, 3) := by decide +kernel
theorem dX0_firstFree_16 : decode cX0_firstFree 16 = .ok (.iload_n 3, 1) := by decide +kernel
theorem dX0_firstFree_17 : decode cX0_firstFree 17 = .ok (.ireturn, 1) := by decide +kernel
theorem dX0_firstFree_18 : decode cX0_firstFree 18 = .ok (.iinc 3 1, 3) := by decide +kernel
theorem dX0_firstFree_21 : decode cX0_firstFree 21 = .ok (.goto (-19), 3) := by decide +kernel
theorem dX0_firstFree_24 : decode cX0_firstFree 24 = .ok (.iconst (-1), 1) := by decide +kernel
theorem dX0_firstFree_25 : decode cX0_firstFree 25 = .ok (.ireturn, 1) := by decide +kernel
theorem dX0_isFree_0 : decode cX0_isFree 0 = .ok (.iload_n 1, 1) := by decide +kernel
theorem dX0_isFree_1 : decode cX0_isFree 1 = .ok (.ifCond .lt 24, 3) := by decide +kernel
theorem dX0_isFree_4 : decode cX0_isFree 4 = .ok (.iload_n 1, 1) := by decide +kernel
theorem dX0_isFree_5 : decode cX0_isFree 5 = .ok (.bipush 16, 2) := by decide +kernel
theorem dX0_isFree_7 : decode cX0_isFree 7 = .ok (.if_icmp .ge 18, 3) := by decide +kernel
theorem dX0_isFree_10 : decode cX0_isFree 10 = .ok (.aload_n 0, 1) := by decide +kernel
theorem dX0_isFree_11 : decode cX0_isFree 11 = .ok (.getfield 18, 3) := by decide +kernel
theorem dX0_isFree_14 : decode cX0_isFree 14 = .ok (.iload_n 1, 1) := by decide +kernel
theorem dX0_isFree_15 : decode cX0_isFree 15 = .ok (.iaload, 1) := by decide +kernel
theorem dX0_isFree_16 : decode cX0_isFree 16 = .ok (.iload_n 2, 1) := by decide +kernel
theorem dX0_isFree_17 : decode cX0_isFree 17 = .ok (.iand, 1) := by decide +kernel
theorem dX0_isFree_18 : decode cX0_isFree 18 = .ok (.ifCond .ne 7, 3) := by decide +kernel
theorem dX0_isFree_21 : decode cX0_isFree 21 = .ok (.iconst 1, 1) := by decide +kernel
theorem dX0_isFree_22 : decode cX0_isFree 22 = .ok (.goto 4, 3) := by decide +kernel
theorem dX0_isFree_25 : decode cX0_isFree 25 = .ok (.iconst 0, 1) := by decide +kernel
theorem dX0_isFree_26 : decode cX0_isFree 26 = .ok (.ireturn, 1) := by decide +kernel
theorem dX1_init_0 : decode cX1_init 0 = .ok (.aload_n 0, 1) := by decide +kernel
theorem dX1_init_1 : decode cX1_init 1 = .ok (.invokespecial 3, 3) := by decide +kernel
theorem dX1_init_4 : decode cX1_init 4 = .ok (.aload_n 0, 1) := by decide +kernel
theorem dX1_init_5 : decode cX1_init 5 = .ok (.bipush 30, 2) := by decide +kernel
theorem dX1_init_7 : decode cX1_init 7 = .ok (.newarray .int, 2) := by decide +kernel
theorem dX1_init_9 : decode cX1_init 9 = .ok (.putfield 9, 3) := by decide +kernel
theorem dX1_init_12 : decode cX1_init 12 = .ok (.aload_n 0, 1) := by decide +kernel
theorem dX1_init_13 : decode cX1_init 13 = .ok (.bipush 30, 2) := by decide +kernel
theorem dX1_init_15 : decode cX1_init 15 = .ok (.newarray .int, 2) := by decide +kernel
theorem dX1_init_17 : decode cX1_init 17 = .ok (.putfield 15, 3) := by decide +kernel
theorem dX1_init_20 : decode cX1_init 20 = .ok (.aload_n 0, 1) := by decide +kernel
theorem dX1_init_21 : decode cX1_init 21 = .ok (.bipush 30, 2) := by decide +kernel
theorem dX1_init_23 : decode cX1_init 23 = .ok (.newarray .int, 2) := by decide +kernel
theorem dX1_init_25 : decode cX1_init 25 = .ok (.putfield 18, 3) := by decide +kernel
theorem dX1_init_28 : decode cX1_init 28 = .ok (.aload_n 0, 1) := by decide +kernel
theorem dX1_init_29 : decode cX1_init 29 = .ok (.bipush 30, 2) := by decide +kernel
theorem dX1_init_31 : decode cX1_init 31 = .ok (.newarray .int, 2) := by decide +kernel
theorem dX1_init_33 : decode cX1_init 33 = .ok (.putfield 21, 3) := by decide +kernel
theorem dX1_init_36 : decode cX1_init 36 = .ok (.aload_n 0, 1) := by decide +kernel
theorem dX1_init_37 : decode cX1_init 37 = .ok (.bipush 30, 2) := by decide +kernel
theorem dX1_init_39 : decode cX1_init 39 = .ok (.newarray .boolean, 2) := by decide +kernel
theorem dX1_init_41 : decode cX1_init 41 = .ok (.putfield 24, 3) := by decide +kernel
theorem dX1_init_44 : decode cX1_init 44 = .ok (.aload_n 0, 1) := by decide +kernel
theorem dX1_init_45 : decode cX1_init 45 = .ok (.iconst 0, 1) := by decide +kernel
theorem dX1_init_46 : decode cX1_init 46 = .ok (.putfield 28, 3) := by decide +kernel
theorem dX1_init_49 : decode cX1_init 49 = .ok (.return_, 1) := by decide +kernel
theorem dX1_add_0 : decode cX1_add 0 = .ok (.aload_n 0, 1) := by decide +kernel
theorem dX1_add_1 : decode cX1_add 1 = .ok (.getfield 28, 3) := by decide +kernel
theorem dX1_add_4 : decode cX1_add 4 = .ok (.bipush 30, 2) := by decide +kernel
theorem dX1_add_6 : decode cX1_add 6 = .ok (.if_icmp .lt 13, 3) := by decide +kernel
theorem dX1_add_9 : decode cX1_add 9 = .ok (.new 32, 3) := by decide +kernel
theorem dX1_add_12 : decode cX1_add 12 = .ok (.dup, 1) := by decide +kernel
theorem dX1_add_13 : decode cX1_add 13 = .ok (.ldc 34, 2) := by decide +kernel
theorem dX1_add_15 : decode cX1_add 15 = .ok (.invokespecial 36, 3) := by decide +kernel
theorem dX1_add_18 : decode cX1_add 18 = .ok (.athrow, 1) := by decide +kernel
theorem dX1_add_19 : decode cX1_add 19 = .ok (.aload_n 0, 1) := by decide +kernel
theorem dX1_add_20 : decode cX1_add 20 = .ok (.getfield 28, 3) := by decide +kernel
theorem dX1_add_23 : decode cX1_add 23 = .ok (.istore 6, 2) := by decide +kernel
theorem dX1_add_25 : decode cX1_add 25 = .ok (.aload_n 0, 1) := by decide +kernel
theorem dX1_add_26 : decode cX1_add 26 = .ok (.getfield 9, 3) := by decide +kernel
theorem dX1_add_29 : decode cX1_add 29 = .ok (.iload 6, 2) := by decide +kernel
theorem dX1_add_31 : decode cX1_add 31 = .ok (.iload_n 1, 1) := by decide +kernel
theorem dX1_add_32 : decode cX1_add 32 = .ok (.iastore, 1) := by decide +kernel
theorem dX1_add_33 : decode cX1_add 33 = .ok (.aload_n 0, 1) := by decide +kernel
theorem dX1_add_34 : decode cX1_add 34 = .ok (.getfield 15, 3) := by decide +kernel
theorem dX1_add_37 : decode cX1_add 37 = .ok (.iload 6, 2) := by decide +kernel
theorem dX1_add_39 : decode cX1_add 39 = .ok (.iload_n 2, 1) := by decide +kernel
theorem dX1_add_40 : decode cX1_add 40 = .ok (.iastore, 1) := by decide +kernel
theorem dX1_add_41 : decode cX1_add 41 = .ok (.aload_n 0, 1) := by decide +kernel
theorem dX1_add_42 : decode cX1_add 42 = .ok (.getfield 18, 3) := by decide +kernel
theorem dX1_add_45 : decode cX1_add 45 = .ok (.iload 6, 2) := by decide +kernel
theorem dX1_add_47 : decode cX1_add 47 = .ok (.iload_n 3, 1) := by decide +kernel
theorem dX1_add_48 : decode cX1_add 48 = .ok (.iastore, 1) := by decide +kernel
theorem dX1_add_49 : decode cX1_add 49 = .ok (.aload_n 0, 1) := by decide +kernel
theorem dX1_add_50 : decode cX1_add 50 = .ok (.getfield 21, 3) := by decide +kernel
theorem dX1_add_53 : decode cX1_add 53 = .ok (.iload 6, 2) := by decide +kernel
theorem dX1_add_55 : decode cX1_add 55 = .ok (.iload 4, 2) := by decide +kernel
theorem dX1_add_57 : decode cX1_add 57 = .ok (.iastore, 1) := by decide +kernel
theorem dX1_add_58 : decode cX1_add 58 = .ok (.aload_n 0, 1) := by decide +kernel
theorem dX1_add_59 : decode cX1_add 59 = .ok (.getfield 24, 3) := by decide +kernel
theorem dX1_add_62 : decode cX1_add 62 = .ok (.iload 6, 2) := by decide +kernel
theorem dX1_add_64 : decode cX1_add 64 = .ok (.iload 5, 2) := by decide +kernel
theorem dX1_add_66 : decode cX1_add 66 = .ok (.bastore, 1) := by decide +kernel
theorem dX1_add_67 : decode cX1_add 67 = .ok (.aload_n 0, 1) := by decide +kernel
theorem dX1_add_68 : decode cX1_add 68 = .ok (.iload 6, 2) := by decide +kernel
theorem dX1_add_70 : decode cX1_add 70 = .ok (.iconst 1, 1) := by decide +kernel
theorem dX1_add_71 : decode cX1_add 71 = .ok (.iadd, 1) := by decide +kernel
theorem dX1_add_72 : decode cX1_add 72 = .ok (.putfield 28, 3) := by decide +kernel
theorem dX1_add_75 : decode cX1_add 75 = .ok (.iload 6, 2) := by decide +kernel
theorem dX1_add_77 : decode cX1_add 77 = .ok (.ireturn, 1) := by decide +kernel
theorem dX1_remove_0 : decode cX1_remove 0 = .ok (.iload_n 1, 1) := by decide +kernel
theorem dX1_remove_1 : decode cX1_remove 1 = .ok (.ifCond .lt 11, 3) := by decide +kernel
theorem dX1_remove_4 : decode cX1_remove 4 = .ok (.iload_n 1, 1) := by decide +kernel
theorem dX1_remove_5 : decode cX1_remove 5 = .ok (.aload_n 0, 1) := by decide +kernel
theorem dX1_remove_6 : decode cX1_remove 6 = .ok (.getfield 28, 3) := by decide +kernel
theorem dX1_remove_9 : decode cX1_remove 9 = .ok (.if_icmp .lt 13, 3) := by decide +kernel
theorem dX1_remove_12 : decode cX1_remove 12 = .ok (.new 39, 3) := by decide +kernel
theorem dX1_remove_15 : decode cX1_remove 15 = .ok (.dup, 1) := by decide +kernel
theorem dX1_remove_16 : decode cX1_remove 16 = .ok (.ldc 41, 2) := by decide +kernel
theorem dX1_remove_18 : decode cX1_remove 18 = .ok (.invokespecial 43, 3) := by decide +kernel
theorem dX1_remove_21 : decode cX1_remove 21 = .ok (.athrow, 1) := by decide +kernel
theorem dX1_remove_22 : decode cX1_remove 22 = .ok (.iload_n 1, 1) := by decide +kernel
theorem dX1_remove_23 : decode cX1_remove 23 = .ok (.istore_n 2, 1) := by decide +kernel
theorem dX1_remove_24 : decode cX1_remove 24 = .ok (.iload_n 2, 1) := by decide +kernel
theorem dX1_remove_25 : decode cX1_remove 25 = .ok (.iconst 1, 1) := by decide +kernel
theorem dX1_remove_26 : decode cX1_remove 26 = .ok (.iadd, 1) := by decide +kernel
theorem dX1_remove_27 : decode cX1_remove 27 = .ok (.aload_n 0, 1) := by decide +kernel
theorem dX1_remove_28 : decode cX1_remove 28 = .ok (.getfield 28, 3) := by decide +kernel
theorem dX1_remove_31 : decode cX1_remove 31 = .ok (.if_icmp .ge 18, 3) := by decide +kernel
theorem dX1_remove_34 : decode cX1_remove 34 = .ok (.aload_n 0, 1) := by decide +kernel
theorem dX1_remove_35 : decode cX1_remove 35 = .ok (.aload_n 0, 1) := by decide +kernel
theorem dX1_remove_36 : decode cX1_remove 36 = .ok (.iload_n 2, 1) := by decide +kernel
theorem dX1_remove_37 : decode cX1_remove 37 = .ok (.iconst 1, 1) := by decide +kernel
theorem dX1_remove_38 : decode cX1_remove 38 = .ok (.iadd, 1) := by decide +kernel
theorem dX1_remove_39 : decode cX1_remove 39 = .ok (.iload_n 2, 1) := by decide +kernel
theorem dX1_remove_40 : decode cX1_remove 40 = .ok (.invokevirtual 44, 3) := by decide +kernel
theorem dX1_remove_43 : decode cX1_remove 43 = .ok (.iinc 2 1, 3) := by decide +kernel
theorem dX1_remove_46 : decode cX1_remove 46 = .ok (.goto (-22), 3) := by decide +kernel
theorem dX1_remove_49 : decode cX1_remove 49 = .ok (.aload_n 0, 1) := by decide +kernel
theorem dX1_remove_50 : decode cX1_remove 50 = .ok (.dup, 1) := by decide +kernel
theorem dX1_remove_51 : decode cX1_remove 51 = .ok (.getfield 28, 3) := by decide +kernel
theorem dX1_remove_54 : decode cX1_remove 54 = .ok (.iconst 1, 1) := by decide +kernel
theorem dX1_remove_55 : decode cX1_remove 55 = .ok (.isub, 1) := by decide +kernel
theorem dX1_remove_56 : decode cX1_remove 56 = .ok (.putfield 28, 3) := by decide +kernel
theorem dX1_remove_59 : decode cX1_remove 59 = .ok (.return_, 1) := by decide +kernel
theorem dX1_copy_0 : decode cX1_copy 0 = .ok (.iconst 0, 1) := by decide +kernel
theorem dX1_copy_1 : decode cX1_copy 1 = .ok (.istore_n 2, 1) := by decide +kernel
theorem dX1_copy_2 : decode cX1_copy 2 = .ok (.iload_n 2, 1) := by decide +kernel
theorem dX1_copy_3 : decode cX1_copy 3 = .ok (.aload_n 1, 1) := by decide +kernel
theorem dX1_copy_4 : decode cX1_copy 4 = .ok (.getfield 28, 3) := by decide +kernel
theorem dX1_copy_7 : decode cX1_copy 7 = .ok (.if_icmp .ge 16, 3) := by decide +kernel
theorem dX1_copy_10 : decode cX1_copy 10 = .ok (.aload_n 0, 1) := by decide +kernel
theorem dX1_copy_11 : decode cX1_copy 11 = .ok (.aload_n 1, 1) := by decide +kernel
theorem dX1_copy_12 : decode cX1_copy 12 = .ok (.iload_n 2, 1) := by decide +kernel
theorem dX1_copy_13 : decode cX1_copy 13 = .ok (.iload_n 2, 1) := by decide +kernel
theorem dX1_copy_14 : decode cX1_copy 14 = .ok (.invokevirtual 44, 3) := by decide +kernel
theorem dX1_copy_17 : decode cX1_copy 17 = .ok (.iinc 2 1, 3) := by decide +kernel
theorem dX1_copy_20 : decode cX1_copy 20 = .ok (.goto (-18), 3) := by decide +kernel
theorem dX1_copy_23 : decode cX1_copy 23 = .ok (.aload_n 0, 1) := by decide +kernel
theorem dX1_copy_24 : decode cX1_copy 24 = .ok (.aload_n 1, 1) := by decide +kernel
theorem dX1_copy_25 : decode cX1_copy 25 = .ok (.getfield 28, 3) := by decide +kernel
theorem dX1_copy_28 : decode cX1_copy 28 = .ok (.putfield 28, 3) := by decide +kernel
theorem dX1_copy_31 : decode cX1_copy 31 = .ok (.return_, 1) := by decide +kernel
theorem dX1_used_0 : decode cX1_used 0 = .ok (.aload_n 0, 1) := by decide +kernel
theorem dX1_used_1 : decode cX1_used 1 = .ok (.getfield 15, 3) := by decide +kernel
theorem dX1_used_4 : decode cX1_used 4 = .ok (.iload_n 1, 1) := by decide +kernel
theorem dX1_used_5 : decode cX1_used 5 = .ok (.iaload, 1) := by decide +kernel
theorem dX1_used_6 : decode cX1_used 6 = .ok (.invokestatic 48, 3) := by decide +kernel
theorem dX1_used_9 : decode cX1_used 9 = .ok (.aload_n 0, 1) := by decide +kernel
theorem dX1_used_10 : decode cX1_used 10 = .ok (.getfield 18, 3) := by decide +kernel
theorem dX1_used_13 : decode cX1_used 13 = .ok (.iload_n 1, 1) := by decide +kernel
theorem dX1_used_14 : decode cX1_used 14 = .ok (.iaload, 1) := by decide +kernel
theorem dX1_used_15 : decode cX1_used 15 = .ok (.invokestatic 48, 3) := by decide +kernel
theorem dX1_used_18 : decode cX1_used 18 = .ok (.ior, 1) := by decide +kernel
theorem dX1_used_19 : decode cX1_used 19 = .ok (.ireturn, 1) := by decide +kernel
theorem dX1_takeOver_0 : decode cX1_takeOver 0 = .ok (.aload_n 0, 1) := by decide +kernel
theorem dX1_takeOver_1 : decode cX1_takeOver 1 = .ok (.getfield 9, 3) := by decide +kernel
theorem dX1_takeOver_4 : decode cX1_takeOver 4 = .ok (.iload_n 3, 1) := by decide +kernel
theorem dX1_takeOver_5 : decode cX1_takeOver 5 = .ok (.aload_n 1, 1) := by decide +kernel
theorem dX1_takeOver_6 : decode cX1_takeOver 6 = .ok (.getfield 9, 3) := by decide +kernel
theorem dX1_takeOver_9 : decode cX1_takeOver 9 = .ok (.iload_n 2, 1) := by decide +kernel
theorem dX1_takeOver_10 : decode cX1_takeOver 10 = .ok (.iaload, 1) := by decide +kernel
theorem dX1_takeOver_11 : decode cX1_takeOver 11 = .ok (.iastore, 1) := by decide +kernel
theorem dX1_takeOver_12 : decode cX1_takeOver 12 = .ok (.aload_n 0, 1) := by decide +kernel
theorem dX1_takeOver_13 : decode cX1_takeOver 13 = .ok (.getfield 15, 3) := by decide +kernel
theorem dX1_takeOver_16 : decode cX1_takeOver 16 = .ok (.iload_n 3, 1) := by decide +kernel
theorem dX1_takeOver_17 : decode cX1_takeOver 17 = .ok (.aload_n 1, 1) := by decide +kernel
theorem dX1_takeOver_18 : decode cX1_takeOver 18 = .ok (.getfield 15, 3) := by decide +kernel
theorem dX1_takeOver_21 : decode cX1_takeOver 21 = .ok (.iload_n 2, 1) := by decide +kernel
theorem dX1_takeOver_22 : decode cX1_takeOver 22 = .ok (.iaload, 1) := by decide +kernel
theorem dX1_takeOver_23 : decode cX1_takeOver 23 = .ok (.iastore, 1) := by decide +kernel
theorem dX1_takeOver_24 : decode cX1_takeOver 24 = .ok (.aload_n 0, 1) := by decide +kernel
theorem dX1_takeOver_25 : decode cX1_takeOver 25 = .ok (.getfield 18, 3) := by decide +kernel
theorem dX1_takeOver_28 : decode cX1_takeOver 28 = .ok (.iload_n 3, 1) := by decide +kernel
theorem dX1_takeOver_29 : decode cX1_takeOver 29 = .ok (.aload_n 1, 1) := by decide +kernel
theorem dX1_takeOver_30 : decode cX1_takeOver 30 = .ok (.getfield 18, 3) := by decide +kernel
theorem dX1_takeOver_33 : decode cX1_takeOver 33 = .ok (.iload_n 2, 1) := by decide +kernel
theorem dX1_takeOver_34 : decode cX1_takeOver 34 = .ok (.iaload, 1) := by decide +kernel
theorem dX1_takeOver_35 : decode cX1_takeOver 35 = .ok (.iastore, 1) := by decide +kernel
theorem dX1_takeOver_36 : decode cX1_takeOver 36 = .ok (.aload_n 0, 1) := by decide +kernel
theorem dX1_takeOver_37 : decode cX1_takeOver 37 = .ok (.getfield 21, 3) := by decide +kernel
theorem dX1_takeOver_40 : decode cX1_takeOver 40 = .ok (.iload_n 3, 1) := by decide +kernel
theorem dX1_takeOver_41 : decode cX1_takeOver 41 = .ok (.aload_n 1, 1) := by decide +kernel
theorem dX1_takeOver_42 : decode cX1_takeOver 42 = .ok (.getfield 21, 3) := by decide +kernel
theorem dX1_takeOver_45 : decode cX1_takeOver 45 = .ok (.iload_n 2, 1) := by decide +kernel
theorem dX1_takeOver_46 : decode cX1_takeOver 46 = .ok (.iaload, 1) := by decide +kernel
theorem dX1_takeOver_47 : decode cX1_takeOver 47 = .ok (.iastore, 1) := by decide +kernel
theorem dX1_takeOver_48 : decode cX1_takeOver 48 = .ok (.aload_n 0, 1) := by decide +kernel
theorem dX1_takeOver_49 : decode cX1_takeOver 49 = .ok (.getfield 24, 3) := by decide +kernel
theorem dX1_takeOver_52 : decode cX1_takeOver 52 = .ok (.iload_n 3, 1) := by decide +kernel
theorem dX1_takeOver_53 : decode cX1_takeOver 53 = .ok (.aload_n 1, 1) := by decide +kernel
theorem dX1_takeOver_54 : decode cX1_takeOver 54 = .ok (.getfield 24, 3) := by decide +kernel
theorem dX1_takeOver_57 : decode cX1_takeOver 57 = .ok (.iload_n 2, 1) := by decide +kernel
theorem dX1_takeOver_58 : decode cX1_takeOver 58 = .ok (.baload, 1) := by decide +kernel
theorem dX1_takeOver_59 : decode cX1_takeOver 59 = .ok (.bastore, 1) := by decide +kernel
theorem dX1_takeOver_60 : decode cX1_takeOver 60 = .ok (.return_, 1) := by decide +kernel
theorem dX2_init_0 : decode cX2_init 0 = .ok (.aload_n 0, 1) := by decide +kernel
theorem dX2_init_1 : decode cX2_init 1 = .ok (.invokespecial 3, 3) := by decide +kernel
theorem dX2_init_4 : decode cX2_init 4 = .ok (.aload_n 0, 1) := by decide +kernel
theorem dX2_init_5 : decode cX2_init 5 = .ok (.bipush 30, 2) := by decide +kernel
theorem dX2_init_7 : decode cX2_init 7 = .ok (.newarray .int, 2) := by decide +kernel
theorem dX2_init_9 : decode cX2_init 9 = .ok (.putfield 9, 3) := by decide +kernel
theorem dX2_init_12 : decode cX2_init 12 = .ok (.aload_n 0, 1) := by decide +kernel
theorem dX2_init_13 : decode cX2_init 13 = .ok (.bipush 30, 2) := by decide +kernel
theorem dX2_init_15 : decode cX2_init 15 = .ok (.newarray .int, 2) := by decide +kernel
theorem dX2_init_17 : decode cX2_init 17 = .ok (.putfield 15, 3) := by decide +kernel
theorem dX2_init_20 : decode cX2_init 20 = .ok (.aload_n 0, 1) := by decide +kernel
theorem dX2_init_21 : decode cX2_init 21 = .ok (.bipush 16, 2) := by decide +kernel
theorem dX2_init_23 : decode cX2_init 23 = .ok (.newarray .int, 2) := by decide +kernel
theorem dX2_init_25 : decode cX2_init 25 = .ok (.putfield 18, 3) := by decide +kernel
theorem dX2_init_28 : decode cX2_init 28 = .ok (.aload_n 0, 1) := by decide +kernel
theorem dX2_init_29 : decode cX2_init 29 = .ok (.bipush 16, 2) := by decide +kernel
theorem dX2_init_31 : decode cX2_init 31 = .ok (.newarray .int, 2) := by decide +kernel
theorem dX2_init_33 : decode cX2_init 33 = .ok (.putfield 21, 3) := by decide +kernel
theorem dX2_init_36 : decode cX2_init 36 = .ok (.aload_n 0, 1) := by decide +kernel
theorem dX2_init_37 : decode cX2_init 37 = .ok (.bipush 16, 2) := by decide +kernel
theorem dX2_init_39 : decode cX2_init 39 = .ok (.newarray .int, 2) := by decide +kernel
theorem dX2_init_41 : decode cX2_init 41 = .ok (.putfield 24, 3) := by decide +kernel
theorem dX2_init_44 : decode cX2_init 44 = .ok (.aload_n 0, 1) := by decide +kernel
theorem dX2_init_45 : decode cX2_init 45 = .ok (.iconst 0, 1) := by decide +kernel
theorem dX2_init_46 : decode cX2_init 46 = .ok (.putfield 27, 3) := by decide +kernel
theorem dX2_init_49 : decode cX2_init 49 = .ok (.aload_n 0, 1) := by decide +kernel
theorem dX2_init_50 : decode cX2_init 50 = .ok (.iconst 0, 1) := by decide +kernel
theorem dX2_init_51 : decode cX2_init 51 = .ok (.putfield 31, 3) := by decide +kernel
theorem dX2_init_54 : decode cX2_init 54 = .ok (.return_, 1) := by decide +kernel
theorem dX2_make_0 : decode cX2_make 0 = .ok (.aload_n 0, 1) := by decide +kernel
theorem dX2_make_1 : decode cX2_make 1 = .ok (.getfield 18, 3) := by decide +kernel
theorem dX2_make_4 : decode cX2_make 4 = .ok (.iconst 0, 1) := by decide +kernel
theorem dX2_make_5 : decode cX2_make 5 = .ok (.invokestatic 34, 3) := by decide +kernel
theorem dX2_make_8 : decode cX2_make 8 = .ok (.aload_n 0, 1) := by decide +kernel
theorem dX2_make_9 : decode cX2_make 9 = .ok (.getfield 21, 3) := by decide +kernel
theorem dX2_make_12 : decode cX2_make 12 = .ok (.iconst 0, 1) := by decide +kernel
theorem dX2_make_13 : decode cX2_make 13 = .ok (.invokestatic 34, 3) := by decide +kernel
theorem dX2_make_16 : decode cX2_make 16 = .ok (.aload_n 0, 1) := by decide +kernel
theorem dX2_make_17 : decode cX2_make 17 = .ok (.getfield 24, 3) := by decide +kernel
theorem dX2_make_20 : decode cX2_make 20 = .ok (.iconst 0, 1) := by decide +kernel
theorem dX2_make_21 : decode cX2_make 21 = .ok (.invokestatic 34, 3) := by decide +kernel
theorem dX2_make_24 : decode cX2_make 24 = .ok (.aload_n 0, 1) := by decide +kernel
theorem dX2_make_25 : decode cX2_make 25 = .ok (.iload_n 2, 1) := by decide +kernel
theorem dX2_make_26 : decode cX2_make 26 = .ok (.putfield 31, 3) := by decide +kernel
theorem dX2_make_29 : decode cX2_make 29 = .ok (.aload_n 0, 1) := by decide +kernel
theorem dX2_make_30 : decode cX2_make 30 = .ok (.aload_n 1, 1) := by decide +kernel
theorem dX2_make_31 : decode cX2_make 31 = .ok (.iload_n 2, 1) := by decide +kernel
theorem dX2_make_32 : decode cX2_make 32 = .ok (.invokevirtual 40, 3) := by decide +kernel
theorem dX2_make_35 : decode cX2_make 35 = .ok (.iconst 0, 1) := by decide +kernel
theorem dX2_make_36 : decode cX2_make 36 = .ok (.istore_n 3, 1) := by decide +kernel
theorem dX2_make_37 : decode cX2_make 37 = .ok (.iload_n 3, 1) := by decide +kernel
theorem dX2_make_38 : decode cX2_make 38 = .ok (.bipush 16, 2) := by decide +kernel
theorem dX2_make_40 : decode cX2_make 40 = .ok (.if_icmp .ge 29, 3) := by decide +kernel
theorem dX2_make_43 : decode cX2_make 43 = .ok (.aload_n 0, 1) := by decide +kernel
theorem dX2_make_44 : decode cX2_make 44 = .ok (.getfield 27, 3) := by decide +kernel
theorem dX2_make_47 : decode cX2_make 47 = .ok (.iload_n 3, 1) := by decide +kernel
theorem dX2_make_48 : decode cX2_make 48 = .ok (.invokestatic 44, 3) := by decide +kernel
theorem dX2_make_51 : decode cX2_make 51 = .ok (.ifCond .eq 12, 3) := by decide +kernel
theorem dX2_make_54 : decode cX2_make 54 = .ok (.aload_n 0, 1) := by decide +kernel
theorem dX2_make_55 : decode cX2_make 55 = .ok (.iload_n 3, 1) := by decide +kernel
theorem dX2_make_56 : decode cX2_make 56 = .ok (.aload_n 0, 1) := by decide +kernel
theorem dX2_make_57 : decode cX2_make 57 = .ok (.getfield 27, 3) := by decide +kernel
theorem dX2_make_60 : decode cX2_make 60 = .ok (.invokevirtual 48, 3) := by decide +kernel
theorem dX2_make_63 : decode cX2_make 63 = .ok (.iinc 3 1, 3) := by decide +kernel
theorem dX2_make_66 : decode cX2_make 66 = .ok (.goto (-29), 3) := by decide +kernel
theorem dX2_make_69 : decode cX2_make 69 = .ok (.iconst 0, 1) := by decide +kernel
theorem dX2_make_70 : decode cX2_make 70 = .ok (.istore_n 3, 1) := by decide +kernel
theorem dX2_make_71 : decode cX2_make 71 = .ok (.iload_n 3, 1) := by decide +kernel
theorem dX2_make_72 : decode cX2_make 72 = .ok (.aload_n 1, 1) := by decide +kernel
theorem dX2_make_73 : decode cX2_make 73 = .ok (.getfield 52, 3) := by decide +kernel
theorem dX2_make_76 : decode cX2_make 76 = .ok (.if_icmp .ge 15, 3) := by decide +kernel
theorem dX2_make_79 : decode cX2_make 79 = .ok (.aload_n 0, 1) := by decide +kernel
theorem dX2_make_80 : decode cX2_make 80 = .ok (.aload_n 1, 1) := by decide +kernel
theorem dX2_make_81 : decode cX2_make 81 = .ok (.iload_n 3, 1) := by decide +kernel
theorem dX2_make_82 : decode cX2_make 82 = .ok (.invokevirtual 57, 3) := by decide +kernel
theorem dX2_make_85 : decode cX2_make 85 = .ok (.iinc 3 1, 3) := by decide +kernel
theorem dX2_make_88 : decode cX2_make 88 = .ok (.goto (-17), 3) := by decide +kernel
theorem dX2_make_91 : decode cX2_make 91 = .ok (.return_, 1) := by decide +kernel
theorem dX2_pairsOfClashes_0 : decode cX2_pairsOfClashes 0 = .ok (.iconst 0, 1) := by decide +kernel
theorem dX2_pairsOfClashes_1 : decode cX2_pairsOfClashes 1 = .ok (.istore_n 1, 1) := by decide +kernel
theorem dX2_pairsOfClashes_2 : decode cX2_pairsOfClashes 2 = .ok (.iconst 0, 1) := by decide +kernel
theorem dX2_pairsOfClashes_3 : decode cX2_pairsOfClashes 3 = .ok (.istore_n 2, 1) := by decide +kernel
theorem dX2_pairsOfClashes_4 : decode cX2_pairsOfClashes 4 = .ok (.iload_n 2, 1) := by decide +kernel
theorem dX2_pairsOfClashes_5 : decode cX2_pairsOfClashes 5 = .ok (.bipush 16, 2) := by decide +kernel
theorem dX2_pairsOfClashes_7 : decode cX2_pairsOfClashes 7 = .ok (.if_icmp .ge 21, 3) := by decide +kernel
theorem dX2_pairsOfClashes_10 : decode cX2_pairsOfClashes 10 = .ok (.iload_n 1, 1) := by decide +kernel
theorem dX2_pairsOfClashes_11 : decode cX2_pairsOfClashes 11 = .ok (.aload_n 0, 1) := by decide +kernel
theorem dX2_pairsOfClashes_12 : decode cX2_pairsOfClashes 12 = .ok (.getfield 18, 3) := by decide +kernel
theorem dX2_pairsOfClashes_15 : decode cX2_pairsOfClashes 15 = .ok (.iload_n 2, 1) := by decide +kernel
theorem dX2_pairsOfClashes_16 : decode cX2_pairsOfClashes 16 = .ok (.iaload, 1) := by decide +kernel
theorem dX2_pairsOfClashes_17 : decode cX2_pairsOfClashes 17 = .ok (.invokestatic 60, 3) := by decide +kernel
theorem dX2_pairsOfClashes_20 : decode cX2_pairsOfClashes 20 = .ok (.iadd, 1) := by decide +kernel
theorem dX2_pairsOfClashes_21 : decode cX2_pairsOfClashes 21 = .ok (.istore_n 1, 1) := by decide +kernel
theorem dX2_pairsOfClashes_22 : decode cX2_pairsOfClashes 22 = .ok (.iinc 2 1, 3) := by decide +kernel
theorem dX2_pairsOfClashes_25 : decode cX2_pairsOfClashes 25 = .ok (.goto (-21), 3) := by decide +kernel
theorem dX2_pairsOfClashes_28 : decode cX2_pairsOfClashes 28 = .ok (.iload_n 1, 1) := by decide +kernel
theorem dX2_pairsOfClashes_29 : decode cX2_pairsOfClashes 29 = .ok (.iconst 1, 1) := by decide +kernel
theorem dX2_pairsOfClashes_30 : decode cX2_pairsOfClashes 30 = .ok (.ishr, 1) := by decide +kernel
theorem dX2_pairsOfClashes_31 : decode cX2_pairsOfClashes 31 = .ok (.ireturn, 1) := by decide +kernel
theorem dX2_costOf_0 : decode cX2_costOf 0 = .ok (.iconst 0, 1) := by decide +kernel
theorem dX2_costOf_1 : decode cX2_costOf 1 = .ok (.istore_n 2, 1) := by decide +kernel
theorem dX2_costOf_2 : decode cX2_costOf 2 = .ok (.iconst 0, 1) := by decide +kernel
theorem dX2_costOf_3 : decode cX2_costOf 3 = .ok (.istore_n 3, 1) := by decide +kernel
theorem dX2_costOf_4 : decode cX2_costOf 4 = .ok (.iload_n 3, 1) := by decide +kernel
theorem dX2_costOf_5 : decode cX2_costOf 5 = .ok (.bipush 16, 2) := by decide +kernel
theorem dX2_costOf_7 : decode cX2_costOf 7 = .ok (.if_icmp .ge 26, 3) := by decide +kernel
theorem dX2_costOf_10 : decode cX2_costOf 10 = .ok (.iload_n 1, 1) := by decide +kernel
theorem dX2_costOf_11 : decode cX2_costOf 11 = .ok (.iload_n 3, 1) := by decide +kernel
theorem dX2_costOf_12 : decode cX2_costOf 12 = .ok (.invokestatic 44, 3) := by decide +kernel
theorem dX2_costOf_15 : decode cX2_costOf 15 = .ok (.ifCond .eq 12, 3) := by decide +kernel
theorem dX2_costOf_18 : decode cX2_costOf 18 = .ok (.iload_n 2, 1) := by decide +kernel
theorem dX2_costOf_19 : decode cX2_costOf 19 = .ok (.aload_n 0, 1) := by decide +kernel
theorem dX2_costOf_20 : decode cX2_costOf 20 = .ok (.getfield 24, 3) := by decide +kernel
theorem dX2_costOf_23 : decode cX2_costOf 23 = .ok (.iload_n 3, 1) := by decide +kernel
theorem dX2_costOf_24 : decode cX2_costOf 24 = .ok (.iaload, 1) := by decide +kernel
theorem dX2_costOf_25 : decode cX2_costOf 25 = .ok (.iadd, 1) := by decide +kernel
theorem dX2_costOf_26 : decode cX2_costOf 26 = .ok (.istore_n 2, 1) := by decide +kernel
theorem dX2_costOf_27 : decode cX2_costOf 27 = .ok (.iinc 3 1, 3) := by decide +kernel
theorem dX2_costOf_30 : decode cX2_costOf 30 = .ok (.goto (-26), 3) := by decide +kernel
theorem dX2_costOf_33 : decode cX2_costOf 33 = .ok (.iload_n 2, 1) := by decide +kernel
theorem dX2_costOf_34 : decode cX2_costOf 34 = .ok (.ireturn, 1) := by decide +kernel
theorem dX2_findLives_0 : decode cX2_findLives 0 = .ok (.iload_n 2, 1) := by decide +kernel
theorem dX2_findLives_1 : decode cX2_findLives 1 = .ok (.istore_n 3, 1) := by decide +kernel
theorem dX2_findLives_2 : decode cX2_findLives 2 = .ok (.aload_n 1, 1) := by decide +kernel
theorem dX2_findLives_3 : decode cX2_findLives 3 = .ok (.getfield 52, 3) := by decide +kernel
theorem dX2_findLives_6 : decode cX2_findLives 6 = .ok (.iconst 1, 1) := by decide +kernel
theorem dX2_findLives_7 : decode cX2_findLives 7 = .ok (.isub, 1) := by decide +kernel
theorem dX2_findLives_8 : decode cX2_findLives 8 = .ok (.istore 4, 2) := by decide +kernel
theorem dX2_findLives_10 : decode cX2_findLives 10 = .ok (.iload 4, 2) := by decide +kernel
theorem dX2_findLives_12 : decode cX2_findLives 12 = .ok (.ifCond .lt 47, 3) := by decide +kernel
theorem dX2_findLives_15 : decode cX2_findLives 15 = .ok (.aload_n 0, 1) := by decide +kernel
theorem dX2_findLives_16 : decode cX2_findLives 16 = .ok (.getfield 9, 3) := by decide +kernel
theorem dX2_findLives_19 : decode cX2_findLives 19 = .ok (.iload 4, 2) := by decide +kernel
theorem dX2_findLives_21 : decode cX2_findLives 21 = .ok (.iload_n 3, 1) := by decide +kernel
theorem dX2_findLives_22 : decode cX2_findLives 22 = .ok (.iastore, 1) := by decide +kernel
theorem dX2_findLives_23 : decode cX2_findLives 23 = .ok (.aload_n 1, 1) := by decide +kernel
theorem dX2_findLives_24 : decode cX2_findLives 24 = .ok (.iload 4, 2) := by decide +kernel
theorem dX2_findLives_26 : decode cX2_findLives 26 = .ok (.invokevirtual 66, 3) := by decide +kernel
theorem dX2_findLives_29 : decode cX2_findLives 29 = .ok (.iload_n 3, 1) := by decide +kernel
theorem dX2_findLives_30 : decode cX2_findLives 30 = .ok (.aload_n 1, 1) := by decide +kernel
theorem dX2_findLives_31 : decode cX2_findLives 31 = .ok (.getfield 69, 3) := by decide +kernel
theorem dX2_findLives_34 : decode cX2_findLives 34 = .ok (.iload 4, 2) := by decide +kernel
theorem dX2_findLives_36 : decode cX2_findLives 36 = .ok (.iaload, 1) := by decide +kernel
theorem dX2_findLives_37 : decode cX2_findLives 37 = .ok (.invokestatic 72, 3) := by decide +kernel
theorem dX2_findLives_40 : decode cX2_findLives 40 = .ok (.iconst (-1), 1) := by decide +kernel
theorem dX2_findLives_41 : decode cX2_findLives 41 = .ok (.ixor, 1) := by decide +kernel
theorem dX2_findLives_42 : decode cX2_findLives 42 = .ok (.iand, 1) := by decide +kernel
theorem dX2_findLives_43 : decode cX2_findLives 43 = .ok (.ior, 1) := by decide +kernel
theorem dX2_findLives_44 : decode cX2_findLives 44 = .ok (.istore_n 3, 1) := by decide +kernel
theorem dX2_findLives_45 : decode cX2_findLives 45 = .ok (.aload_n 0, 1) := by decide +kernel
theorem dX2_findLives_46 : decode cX2_findLives 46 = .ok (.getfield 15, 3) := by decide +kernel
theorem dX2_findLives_49 : decode cX2_findLives 49 = .ok (.iload 4, 2) := by decide +kernel
theorem dX2_findLives_51 : decode cX2_findLives 51 = .ok (.iload_n 3, 1) := by decide +kernel
theorem dX2_findLives_52 : decode cX2_findLives 52 = .ok (.iastore, 1) := by decide +kernel
theorem dX2_findLives_53 : decode cX2_findLives 53 = .ok (.iinc 4 (-1), 3) := by decide +kernel
theorem dX2_findLives_56 : decode cX2_findLives 56 = .ok (.goto (-46), 3) := by decide +kernel
theorem dX2_findLives_59 : decode cX2_findLives 59 = .ok (.aload_n 0, 1) := by decide +kernel
theorem dX2_findLives_60 : decode cX2_findLives 60 = .ok (.iload_n 3, 1) := by decide +kernel
theorem dX2_findLives_61 : decode cX2_findLives 61 = .ok (.putfield 27, 3) := by decide +kernel
theorem dX2_findLives_64 : decode cX2_findLives 64 = .ok (.return_, 1) := by decide +kernel
theorem dX2_takeIn_0 : decode cX2_takeIn 0 = .ok (.aload_n 1, 1) := by decide +kernel
theorem dX2_takeIn_1 : decode cX2_takeIn 1 = .ok (.getfield 69, 3) := by decide +kernel
theorem dX2_takeIn_4 : decode cX2_takeIn 4 = .ok (.iload_n 2, 1) := by decide +kernel
theorem dX2_takeIn_5 : decode cX2_takeIn 5 = .ok (.iaload, 1) := by decide +kernel
theorem dX2_takeIn_6 : decode cX2_takeIn 6 = .ok (.istore_n 3, 1) := by decide +kernel
theorem dX2_takeIn_7 : decode cX2_takeIn 7 = .ok (.aload_n 0, 1) := by decide +kernel
theorem dX2_takeIn_8 : decode cX2_takeIn 8 = .ok (.dup, 1) := by decide +kernel
theorem dX2_takeIn_9 : decode cX2_takeIn 9 = .ok (.getfield 31, 3) := by decide +kernel
theorem dX2_takeIn_12 : decode cX2_takeIn 12 = .ok (.iload_n 3, 1) := by decide +kernel
theorem dX2_takeIn_13 : decode cX2_takeIn 13 = .ok (.invokestatic 72, 3) := by decide +kernel
theorem dX2_takeIn_16 : decode cX2_takeIn 16 = .ok (.aload_n 1, 1) := by decide +kernel
theorem dX2_takeIn_17 : decode cX2_takeIn 17 = .ok (.iload_n 2, 1) := by decide +kernel
theorem dX2_takeIn_18 : decode cX2_takeIn 18 = .ok (.invokevirtual 66, 3) := by decide +kernel
theorem dX2_takeIn_21 : decode cX2_takeIn 21 = .ok (.ior, 1) := by decide +kernel
theorem dX2_takeIn_22 : decode cX2_takeIn 22 = .ok (.ior, 1) := by decide +kernel
theorem dX2_takeIn_23 : decode cX2_takeIn 23 = .ok (.putfield 31, 3) := by decide +kernel
theorem dX2_takeIn_26 : decode cX2_takeIn 26 = .ok (.aload_n 0, 1) := by decide +kernel
theorem dX2_takeIn_27 : decode cX2_takeIn 27 = .ok (.iload_n 3, 1) := by decide +kernel
theorem dX2_takeIn_28 : decode cX2_takeIn 28 = .ok (.aload_n 1, 1) := by decide +kernel
theorem dX2_takeIn_29 : decode cX2_takeIn 29 = .ok (.getfield 75, 3) := by decide +kernel
theorem dX2_takeIn_32 : decode cX2_takeIn 32 = .ok (.iload_n 2, 1) := by decide +kernel
theorem dX2_takeIn_33 : decode cX2_takeIn 33 = .ok (.iaload, 1) := by decide +kernel
theorem dX2_takeIn_34 : decode cX2_takeIn 34 = .ok (.invokevirtual 78, 3) := by decide +kernel
theorem dX2_takeIn_37 : decode cX2_takeIn 37 = .ok (.aload_n 0, 1) := by decide +kernel
theorem dX2_takeIn_38 : decode cX2_takeIn 38 = .ok (.aload_n 1, 1) := by decide +kernel
theorem dX2_takeIn_39 : decode cX2_takeIn 39 = .ok (.getfield 81, 3) := by decide +kernel
theorem dX2_takeIn_42 : decode cX2_takeIn 42 = .ok (.iload_n 2, 1) := by decide +kernel
theorem dX2_takeIn_43 : decode cX2_takeIn 43 = .ok (.iaload, 1) := by decide +kernel
theorem dX2_takeIn_44 : decode cX2_takeIn 44 = .ok (.aload_n 1, 1) := by decide +kernel
theorem dX2_takeIn_45 : decode cX2_takeIn 45 = .ok (.getfield 75, 3) := by decide +kernel
theorem dX2_takeIn_48 : decode cX2_takeIn 48 = .ok (.iload_n 2, 1) := by decide +kernel
theorem dX2_takeIn_49 : decode cX2_takeIn 49 = .ok (.iaload, 1) := by decide +kernel
theorem dX2_takeIn_50 : decode cX2_takeIn 50 = .ok (.invokevirtual 78, 3) := by decide +kernel
theorem dX2_takeIn_53 : decode cX2_takeIn 53 = .ok (.aload_n 0, 1) := by decide +kernel
theorem dX2_takeIn_54 : decode cX2_takeIn 54 = .ok (.aload_n 1, 1) := by decide +kernel
theorem dX2_takeIn_55 : decode cX2_takeIn 55 = .ok (.getfield 84, 3) := by decide +kernel
theorem dX2_takeIn_58 : decode cX2_takeIn 58 = .ok (.iload_n 2, 1) := by decide +kernel
theorem dX2_takeIn_59 : decode cX2_takeIn 59 = .ok (.iaload, 1) := by decide +kernel
theorem dX2_takeIn_60 : decode cX2_takeIn 60 = .ok (.aload_n 1, 1) := by decide +kernel
theorem dX2_takeIn_61 : decode cX2_takeIn 61 = .ok (.getfield 75, 3) := by decide +kernel
theorem dX2_takeIn_64 : decode cX2_takeIn 64 = .ok (.iload_n 2, 1) := by decide +kernel
theorem dX2_takeIn_65 : decode cX2_takeIn 65 = .ok (.iaload, 1) := by decide +kernel
theorem dX2_takeIn_66 : decode cX2_takeIn 66 = .ok (.invokevirtual 78, 3) := by decide +kernel
theorem dX2_takeIn_69 : decode cX2_takeIn 69 = .ok (.aload_n 1, 1) := by decide +kernel
theorem dX2_takeIn_70 : decode cX2_takeIn 70 = .ok (.getfield 87, 3) := by decide +kernel
theorem dX2_takeIn_73 : decode cX2_takeIn 73 = .ok (.iload_n 2, 1) := by decide +kernel
theorem dX2_takeIn_74 : decode cX2_takeIn 74 = .ok (.baload, 1) := by decide +kernel
theorem dX2_takeIn_75 : decode cX2_takeIn 75 = .ok (.ifCond .eq 40, 3) := by decide +kernel
theorem dX2_takeIn_78 : decode cX2_takeIn 78 = .ok (.aload_n 0, 1) := by decide +kernel
theorem dX2_takeIn_79 : decode cX2_takeIn 79 = .ok (.iload_n 3, 1) := by decide +kernel
theorem dX2_takeIn_80 : decode cX2_takeIn 80 = .ok (.aload_n 1, 1) := by decide +kernel
theorem dX2_takeIn_81 : decode cX2_takeIn 81 = .ok (.getfield 81, 3) := by decide +kernel
theorem dX2_takeIn_84 : decode cX2_takeIn 84 = .ok (.iload_n 2, 1) := by decide +kernel
theorem dX2_takeIn_85 : decode cX2_takeIn 85 = .ok (.iaload, 1) := by decide +kernel
theorem dX2_takeIn_86 : decode cX2_takeIn 86 = .ok (.invokevirtual 91, 3) := by decide +kernel
theorem dX2_takeIn_89 : decode cX2_takeIn 89 = .ok (.aload_n 0, 1) := by decide +kernel
theorem dX2_takeIn_90 : decode cX2_takeIn 90 = .ok (.iload_n 3, 1) := by decide +kernel
theorem dX2_takeIn_91 : decode cX2_takeIn 91 = .ok (.aload_n 0, 1) := by decide +kernel
theorem dX2_takeIn_92 : decode cX2_takeIn 92 = .ok (.getfield 9, 3) := by decide +kernel
theorem dX2_takeIn_95 : decode cX2_takeIn 95 = .ok (.iload_n 2, 1) := by decide +kernel
theorem dX2_takeIn_96 : decode cX2_takeIn 96 = .ok (.iaload, 1) := by decide +kernel
theorem dX2_takeIn_97 : decode cX2_takeIn 97 = .ok (.aload_n 1, 1) := by decide +kernel
theorem dX2_takeIn_98 : decode cX2_takeIn 98 = .ok (.getfield 81, 3) := by decide +kernel
theorem dX2_takeIn_101 : decode cX2_takeIn 101 = .ok (.iload_n 2, 1) := by decide +kernel
theorem dX2_takeIn_102 : decode cX2_takeIn 102 = .ok (.iaload, 1) := by decide +kernel
theorem dX2_takeIn_103 : decode cX2_takeIn 103 = .ok (.invokestatic 72, 3) := by decide +kernel
theorem dX2_takeIn_106 : decode cX2_takeIn 106 = .ok (.iconst (-1), 1) := by decide +kernel
theorem dX2_takeIn_107 : decode cX2_takeIn 107 = .ok (.ixor, 1) := by decide +kernel
theorem dX2_takeIn_108 : decode cX2_takeIn 108 = .ok (.iand, 1) := by decide +kernel
theorem dX2_takeIn_109 : decode cX2_takeIn 109 = .ok (.invokevirtual 48, 3) := by decide +kernel
theorem dX2_takeIn_112 : decode cX2_takeIn 112 = .ok (.goto 14, 3) := by decide +kernel
theorem dX2_takeIn_115 : decode cX2_takeIn 115 = .ok (.aload_n 0, 1) := by decide +kernel
theorem dX2_takeIn_116 : decode cX2_takeIn 116 = .ok (.iload_n 3, 1) := by decide +kernel
theorem dX2_takeIn_117 : decode cX2_takeIn 117 = .ok (.aload_n 0, 1) := by decide +kernel
theorem dX2_takeIn_118 : decode cX2_takeIn 118 = .ok (.getfield 9, 3) := by decide +kernel
theorem dX2_takeIn_121 : decode cX2_takeIn 121 = .ok (.iload_n 2, 1) := by decide +kernel
theorem dX2_takeIn_122 : decode cX2_takeIn 122 = .ok (.iaload, 1) := by decide +kernel
theorem dX2_takeIn_123 : decode cX2_takeIn 123 = .ok (.invokevirtual 48, 3) := by decide +kernel
theorem dX2_takeIn_126 : decode cX2_takeIn 126 = .ok (.return_, 1) := by decide +kernel
theorem dX2_addCost_0 : decode cX2_addCost 0 = .ok (.iload_n 1, 1) := by decide +kernel
theorem dX2_addCost_1 : decode cX2_addCost 1 = .ok (.invokestatic 94, 3) := by decide +kernel
theorem dX2_addCost_4 : decode cX2_addCost 4 = .ok (.ifCond .eq 13, 3) := by decide +kernel
theorem dX2_addCost_7 : decode cX2_addCost 7 = .ok (.aload_n 0, 1) := by decide +kernel
theorem dX2_addCost_8 : decode cX2_addCost 8 = .ok (.getfield 24, 3) := by decide +kernel
theorem dX2_addCost_11 : decode cX2_addCost 11 = .ok (.iload_n 1, 1) := by decide +kernel
theorem dX2_addCost_12 : decode cX2_addCost 12 = .ok (.dup2, 1) := by decide +kernel
theorem dX2_addCost_13 : decode cX2_addCost 13 = .ok (.iaload, 1) := by decide +kernel
theorem dX2_addCost_14 : decode cX2_addCost 14 = .ok (.iload_n 2, 1) := by decide +kernel
theorem dX2_addCost_15 : decode cX2_addCost 15 = .ok (.iadd, 1) := by decide +kernel
theorem dX2_addCost_16 : decode cX2_addCost 16 = .ok (.iastore, 1) := by decide +kernel
theorem dX2_addCost_17 : decode cX2_addCost 17 = .ok (.return_, 1) := by decide +kernel
theorem dX2_addPoured_0 : decode cX2_addPoured 0 = .ok (.iload_n 1, 1) := by decide +kernel
theorem dX2_addPoured_1 : decode cX2_addPoured 1 = .ok (.invokestatic 94, 3) := by decide +kernel
theorem dX2_addPoured_4 : decode cX2_addPoured 4 = .ok (.ifCond .eq 36, 3) := by decide +kernel
theorem dX2_addPoured_7 : decode cX2_addPoured 7 = .ok (.iload_n 2, 1) := by decide +kernel
theorem dX2_addPoured_8 : decode cX2_addPoured 8 = .ok (.invokestatic 94, 3) := by decide +kernel
theorem dX2_addPoured_11 : decode cX2_addPoured 11 = .ok (.ifCond .eq 29, 3) := by decide +kernel
theorem dX2_addPoured_14 : decode cX2_addPoured 14 = .ok (.aload_n 0, 1) := by decide +kernel
theorem dX2_addPoured_15 : decode cX2_addPoured 15 = .ok (.getfield 21, 3) := by decide +kernel
theorem dX2_addPoured_18 : decode cX2_addPoured 18 = .ok (.iload_n 1, 1) := by decide +kernel
theorem dX2_addPoured_19 : decode cX2_addPoured 19 = .ok (.dup2, 1) := by decide +kernel
theorem dX2_addPoured_20 : decode cX2_addPoured 20 = .ok (.iaload, 1) := by decide +kernel
theorem dX2_addPoured_21 : decode cX2_addPoured 21 = .ok (.iload_n 2, 1) := by decide +kernel
theorem dX2_addPoured_22 : decode cX2_addPoured 22 = .ok (.invokestatic 72, 3) := by decide +kernel
theorem dX2_addPoured_25 : decode cX2_addPoured 25 = .ok (.ior, 1) := by decide +kernel
theorem dX2_addPoured_26 : decode cX2_addPoured 26 = .ok (.iastore, 1) := by decide +kernel
theorem dX2_addPoured_27 : decode cX2_addPoured 27 = .ok (.aload_n 0, 1) := by decide +kernel
theorem dX2_addPoured_28 : decode cX2_addPoured 28 = .ok (.getfield 21, 3) := by decide +kernel
theorem dX2_addPoured_31 : decode cX2_addPoured 31 = .ok (.iload_n 2, 1) := by decide +kernel
theorem dX2_addPoured_32 : decode cX2_addPoured 32 = .ok (.dup2, 1) := by decide +kernel
theorem dX2_addPoured_33 : decode cX2_addPoured 33 = .ok (.iaload, 1) := by decide +kernel
theorem dX2_addPoured_34 : decode cX2_addPoured 34 = .ok (.iload_n 1, 1) := by decide +kernel
theorem dX2_addPoured_35 : decode cX2_addPoured 35 = .ok (.invokestatic 72, 3) := by decide +kernel
theorem dX2_addPoured_38 : decode cX2_addPoured 38 = .ok (.ior, 1) := by decide +kernel
theorem dX2_addPoured_39 : decode cX2_addPoured 39 = .ok (.iastore, 1) := by decide +kernel
theorem dX2_addPoured_40 : decode cX2_addPoured 40 = .ok (.return_, 1) := by decide +kernel
theorem dX2_addClashes_0 : decode cX2_addClashes 0 = .ok (.iload_n 1, 1) := by decide +kernel
theorem dX2_addClashes_1 : decode cX2_addClashes 1 = .ok (.invokestatic 94, 3) := by decide +kernel
theorem dX2_addClashes_4 : decode cX2_addClashes 4 = .ok (.ifCond .ne 4, 3) := by decide +kernel
theorem dX2_addClashes_7 : decode cX2_addClashes 7 = .ok (.return_, 1) := by decide +kernel
theorem dX2_addClashes_8 : decode cX2_addClashes 8 = .ok (.iload_n 2, 1) := by decide +kernel
theorem dX2_addClashes_9 : decode cX2_addClashes 9 = .ok (.iload_n 1, 1) := by decide +kernel
theorem dX2_addClashes_10 : decode cX2_addClashes 10 = .ok (.invokestatic 72, 3) := by decide +kernel
theorem dX2_addClashes_13 : decode cX2_addClashes 13 = .ok (.iconst (-1), 1) := by decide +kernel
theorem dX2_addClashes_14 : decode cX2_addClashes 14 = .ok (.ixor, 1) := by decide +kernel
theorem dX2_addClashes_15 : decode cX2_addClashes 15 = .ok (.iand, 1) := by decide +kernel
theorem dX2_addClashes_16 : decode cX2_addClashes 16 = .ok (.istore_n 3, 1) := by decide +kernel
theorem dX2_addClashes_17 : decode cX2_addClashes 17 = .ok (.aload_n 0, 1) := by decide +kernel
theorem dX2_addClashes_18 : decode cX2_addClashes 18 = .ok (.getfield 18, 3) := by decide +kernel
theorem dX2_addClashes_21 : decode cX2_addClashes 21 = .ok (.iload_n 1, 1) := by decide +kernel
theorem dX2_addClashes_22 : decode cX2_addClashes 22 = .ok (.dup2, 1) := by decide +kernel
theorem dX2_addClashes_23 : decode cX2_addClashes 23 = .ok (.iaload, 1) := by decide +kernel
theorem dX2_addClashes_24 : decode cX2_addClashes 24 = .ok (.iload_n 3, 1) := by decide +kernel
theorem dX2_addClashes_25 : decode cX2_addClashes 25 = .ok (.ior, 1) := by decide +kernel
theorem dX2_addClashes_26 : decode cX2_addClashes 26 = .ok (.iastore, 1) := by decide +kernel
theorem dX2_addClashes_27 : decode cX2_addClashes 27 = .ok (.iconst 0, 1) := by decide +kernel
theorem dX2_addClashes_28 : decode cX2_addClashes 28 = .ok (.istore 4, 2) := by decide +kernel
theorem dX2_addClashes_30 : decode cX2_addClashes 30 = .ok (.iload 4, 2) := by decide +kernel
theorem dX2_addClashes_32 : decode cX2_addClashes 32 = .ok (.bipush 16, 2) := by decide +kernel
theorem dX2_addClashes_34 : decode cX2_addClashes 34 = .ok (.if_icmp .ge 32, 3) := by decide +kernel
theorem dX2_addClashes_37 : decode cX2_addClashes 37 = .ok (.iload_n 3, 1) := by decide +kernel
theorem dX2_addClashes_38 : decode cX2_addClashes 38 = .ok (.iload 4, 2) := by decide +kernel
theorem dX2_addClashes_40 : decode cX2_addClashes 40 = .ok (.invokestatic 44, 3) := by decide +kernel
theorem dX2_addClashes_43 : decode cX2_addClashes 43 = .ok (.ifCond .eq 17, 3) := by decide +kernel
theorem dX2_addClashes_46 : decode cX2_addClashes 46 = .ok (.aload_n 0, 1) := by decide +kernel
theorem dX2_addClashes_47 : decode cX2_addClashes 47 = .ok (.getfield 18, 3) := by decide +kernel
theorem dX2_addClashes_50 : decode cX2_addClashes 50 = .ok (.iload 4, 2) := by decide +kernel
theorem dX2_addClashes_52 : decode cX2_addClashes 52 = .ok (.dup2, 1) := by decide +kernel
theorem dX2_addClashes_53 : decode cX2_addClashes 53 = .ok (.iaload, 1) := by decide +kernel
theorem dX2_addClashes_54 : decode cX2_addClashes 54 = .ok (.iload_n 1, 1) := by decide +kernel
theorem dX2_addClashes_55 : decode cX2_addClashes 55 = .ok (.invokestatic 72, 3) := by decide +kernel
theorem dX2_addClashes_58 : decode cX2_addClashes 58 = .ok (.ior, 1) := by decide +kernel
theorem dX2_addClashes_59 : decode cX2_addClashes 59 = .ok (.iastore, 1) := by decide +kernel
theorem dX2_addClashes_60 : decode cX2_addClashes 60 = .ok (.iinc 4 1, 3) := by decide +kernel
theorem dX2_addClashes_63 : decode cX2_addClashes 63 = .ok (.goto (-33), 3) := by decide +kernel
theorem dX2_addClashes_66 : decode cX2_addClashes 66 = .ok (.return_, 1) := by decide +kernel
theorem dX3_init_0 : decode cX3_init 0 = .ok (.aload_n 0, 1) := by decide +kernel
theorem dX3_init_1 : decode cX3_init 1 = .ok (.invokespecial 1, 3) := by decide +kernel
theorem dX3_init_4 : decode cX3_init 4 = .ok (.aload_n 0, 1) := by decide +kernel
theorem dX3_init_5 : decode cX3_init 5 = .ok (.new 7, 3) := by decide +kernel
theorem dX3_init_8 : decode cX3_init 8 = .ok (.dup, 1) := by decide +kernel
theorem dX3_init_9 : decode cX3_init 9 = .ok (.invokespecial 9, 3) := by decide +kernel
theorem dX3_init_12 : decode cX3_init 12 = .ok (.putfield 10, 3) := by decide +kernel
theorem dX3_init_15 : decode cX3_init 15 = .ok (.aload_n 0, 1) := by decide +kernel
theorem dX3_init_16 : decode cX3_init 16 = .ok (.new 16, 3) := by decide +kernel
theorem dX3_init_19 : decode cX3_init 19 = .ok (.dup, 1) := by decide +kernel
theorem dX3_init_20 : decode cX3_init 20 = .ok (.invokespecial 18, 3) := by decide +kernel
theorem dX3_init_23 : decode cX3_init 23 = .ok (.putfield 19, 3) := by decide +kernel
theorem dX3_init_26 : decode cX3_init 26 = .ok (.aload_n 0, 1) := by decide +kernel
theorem dX3_init_27 : decode cX3_init 27 = .ok (.new 23, 3) := by decide +kernel
theorem dX3_init_30 : decode cX3_init 30 = .ok (.dup, 1) := by decide +kernel
theorem dX3_init_31 : decode cX3_init 31 = .ok (.invokespecial 25, 3) := by decide +kernel
theorem dX3_init_34 : decode cX3_init 34 = .ok (.putfield 26, 3) := by decide +kernel
theorem dX3_init_37 : decode cX3_init 37 = .ok (.aload_n 0, 1) := by decide +kernel
theorem dX3_init_38 : decode cX3_init 38 = .ok (.new 7, 3) := by decide +kernel
theorem dX3_init_41 : decode cX3_init 41 = .ok (.dup, 1) := by decide +kernel
theorem dX3_init_42 : decode cX3_init 42 = .ok (.invokespecial 9, 3) := by decide +kernel
theorem dX3_init_45 : decode cX3_init 45 = .ok (.putfield 30, 3) := by decide +kernel
theorem dX3_init_48 : decode cX3_init 48 = .ok (.aload_n 0, 1) := by decide +kernel
theorem dX3_init_49 : decode cX3_init 49 = .ok (.new 16, 3) := by decide +kernel
theorem dX3_init_52 : decode cX3_init 52 = .ok (.dup, 1) := by decide +kernel
theorem dX3_init_53 : decode cX3_init 53 = .ok (.invokespecial 18, 3) := by decide +kernel
theorem dX3_init_56 : decode cX3_init 56 = .ok (.putfield 33, 3) := by decide +kernel
theorem dX3_init_59 : decode cX3_init 59 = .ok (.aload_n 0, 1) := by decide +kernel
theorem dX3_init_60 : decode cX3_init 60 = .ok (.new 23, 3) := by decide +kernel
theorem dX3_init_63 : decode cX3_init 63 = .ok (.dup, 1) := by decide +kernel
theorem dX3_init_64 : decode cX3_init 64 = .ok (.invokespecial 25, 3) := by decide +kernel
theorem dX3_init_67 : decode cX3_init 67 = .ok (.putfield 36, 3) := by decide +kernel
theorem dX3_init_70 : decode cX3_init 70 = .ok (.aload_n 0, 1) := by decide +kernel
theorem dX3_init_71 : decode cX3_init 71 = .ok (.iconst 0, 1) := by decide +kernel
theorem dX3_init_72 : decode cX3_init 72 = .ok (.putfield 39, 3) := by decide +kernel
theorem dX3_init_75 : decode cX3_init 75 = .ok (.aload_n 0, 1) := by decide +kernel
theorem dX3_init_76 : decode cX3_init 76 = .ok (.iconst 3, 1) := by decide +kernel
theorem dX3_init_77 : decode cX3_init 77 = .ok (.putfield 43, 3) := by decide +kernel
theorem dX3_init_80 : decode cX3_init 80 = .ok (.aload_n 0, 1) := by decide +kernel
theorem dX3_init_81 : decode cX3_init 81 = .ok (.invokevirtual 46, 3) := by decide +kernel
theorem dX3_init_84 : decode cX3_init 84 = .ok (.return_, 1) := by decide +kernel
theorem dX3_cook_0 : decode cX3_cook 0 = .ok (.iload_n 1, 1) := by decide +kernel
theorem dX3_cook_1 : decode cX3_cook 1 = .ok (.invokestatic 49, 3) := by decide +kernel
theorem dX3_cook_4 : decode cX3_cook 4 = .ok (.iload_n 2, 1) := by decide +kernel
theorem dX3_cook_5 : decode cX3_cook 5 = .ok (.invokestatic 53, 3) := by decide +kernel
theorem dX3_cook_8 : decode cX3_cook 8 = .ok (.iload_n 3, 1) := by decide +kernel
theorem dX3_cook_9 : decode cX3_cook 9 = .ok (.invokestatic 53, 3) := by decide +kernel
theorem dX3_cook_12 : decode cX3_cook 12 = .ok (.iload 4, 2) := by decide +kernel
theorem dX3_cook_14 : decode cX3_cook 14 = .ok (.invokestatic 56, 3) := by decide +kernel
theorem dX3_cook_17 : decode cX3_cook 17 = .ok (.aload_n 0, 1) := by decide +kernel
theorem dX3_cook_18 : decode cX3_cook 18 = .ok (.getfield 10, 3) := by decide +kernel
theorem dX3_cook_21 : decode cX3_cook 21 = .ok (.iload_n 1, 1) := by decide +kernel
theorem dX3_cook_22 : decode cX3_cook 22 = .ok (.iload_n 2, 1) := by decide +kernel
theorem dX3_cook_23 : decode cX3_cook 23 = .ok (.iload_n 3, 1) := by decide +kernel
theorem dX3_cook_24 : decode cX3_cook 24 = .ok (.iload 4, 2) := by decide +kernel
theorem dX3_cook_26 : decode cX3_cook 26 = .ok (.iconst 0, 1) := by decide +kernel
theorem dX3_cook_27 : decode cX3_cook 27 = .ok (.invokevirtual 59, 3) := by decide +kernel
theorem dX3_cook_30 : decode cX3_cook 30 = .ok (.istore 5, 2) := by decide +kernel
theorem dX3_cook_32 : decode cX3_cook 32 = .ok (.aload_n 0, 1) := by decide +kernel
theorem dX3_cook_33 : decode cX3_cook 33 = .ok (.invokevirtual 46, 3) := by decide +kernel
theorem dX3_cook_36 : decode cX3_cook 36 = .ok (.iload 5, 2) := by decide +kernel
theorem dX3_cook_38 : decode cX3_cook 38 = .ok (.ireturn, 1) := by decide +kernel
theorem dX3_pour_0 : decode cX3_pour 0 = .ok (.iload_n 1, 1) := by decide +kernel
theorem dX3_pour_1 : decode cX3_pour 1 = .ok (.invokestatic 49, 3) := by decide +kernel
theorem dX3_pour_4 : decode cX3_pour 4 = .ok (.iload_n 2, 1) := by decide +kernel
theorem dX3_pour_5 : decode cX3_pour 5 = .ok (.invokestatic 49, 3) := by decide +kernel
theorem dX3_pour_8 : decode cX3_pour 8 = .ok (.iload_n 3, 1) := by decide +kernel
theorem dX3_pour_9 : decode cX3_pour 9 = .ok (.invokestatic 56, 3) := by decide +kernel
theorem dX3_pour_12 : decode cX3_pour 12 = .ok (.aload_n 0, 1) := by decide +kernel
theorem dX3_pour_13 : decode cX3_pour 13 = .ok (.getfield 10, 3) := by decide +kernel
theorem dX3_pour_16 : decode cX3_pour 16 = .ok (.iload_n 1, 1) := by decide +kernel
theorem dX3_pour_17 : decode cX3_pour 17 = .ok (.iload_n 2, 1) := by decide +kernel
theorem dX3_pour_18 : decode cX3_pour 18 = .ok (.iconst (-1), 1) := by decide +kernel
theorem dX3_pour_19 : decode cX3_pour 19 = .ok (.iload_n 3, 1) := by decide +kernel
theorem dX3_pour_20 : decode cX3_pour 20 = .ok (.iconst 1, 1) := by decide +kernel
theorem dX3_pour_21 : decode cX3_pour 21 = .ok (.invokevirtual 59, 3) := by decide +kernel
theorem dX3_pour_24 : decode cX3_pour 24 = .ok (.istore 4, 2) := by decide +kernel
theorem dX3_pour_26 : decode cX3_pour 26 = .ok (.aload_n 0, 1) := by decide +kernel
theorem dX3_pour_27 : decode cX3_pour 27 = .ok (.invokevirtual 46, 3) := by decide +kernel
theorem dX3_pour_30 : decode cX3_pour 30 = .ok (.iload 4, 2) := by decide +kernel
theorem dX3_pour_32 : decode cX3_pour 32 = .ok (.ireturn, 1) := by decide +kernel
theorem dX3_drop_0 : decode cX3_drop 0 = .ok (.aload_n 0, 1) := by decide +kernel
theorem dX3_drop_1 : decode cX3_drop 1 = .ok (.getfield 10, 3) := by decide +kernel
theorem dX3_drop_4 : decode cX3_drop 4 = .ok (.iload_n 1, 1) := by decide +kernel
theorem dX3_drop_5 : decode cX3_drop 5 = .ok (.invokevirtual 63, 3) := by decide +kernel
theorem dX3_drop_8 : decode cX3_drop 8 = .ok (.aload_n 0, 1) := by decide +kernel
theorem dX3_drop_9 : decode cX3_drop 9 = .ok (.invokevirtual 46, 3) := by decide +kernel
theorem dX3_drop_12 : decode cX3_drop 12 = .ok (.aload_n 0, 1) := by decide +kernel
theorem dX3_drop_13 : decode cX3_drop 13 = .ok (.getfield 10, 3) := by decide +kernel
theorem dX3_drop_16 : decode cX3_drop 16 = .ok (.getfield 66, 3) := by decide +kernel
theorem dX3_drop_19 : decode cX3_drop 19 = .ok (.ireturn, 1) := by decide +kernel
theorem dX3_want_0 : decode cX3_want 0 = .ok (.iload_n 1, 1) := by decide +kernel
theorem dX3_want_1 : decode cX3_want 1 = .ok (.invokestatic 49, 3) := by decide +kernel
theorem dX3_want_4 : decode cX3_want 4 = .ok (.aload_n 0, 1) := by decide +kernel
theorem dX3_want_5 : decode cX3_want 5 = .ok (.getfield 39, 3) := by decide +kernel
theorem dX3_want_8 : decode cX3_want 8 = .ok (.iload_n 1, 1) := by decide +kernel
theorem dX3_want_9 : decode cX3_want 9 = .ok (.invokestatic 69, 3) := by decide +kernel
theorem dX3_want_12 : decode cX3_want 12 = .ok (.istore_n 3, 1) := by decide +kernel
theorem dX3_want_13 : decode cX3_want 13 = .ok (.aload_n 0, 1) := by decide +kernel
theorem dX3_want_14 : decode cX3_want 14 = .ok (.iload_n 2, 1) := by decide +kernel
theorem dX3_want_15 : decode cX3_want 15 = .ok (.ifCond .eq 15, 3) := by decide +kernel
theorem dX3_want_18 : decode cX3_want 18 = .ok (.aload_n 0, 1) := by decide +kernel
theorem dX3_want_19 : decode cX3_want 19 = .ok (.getfield 39, 3) := by decide +kernel
theorem dX3_want_22 : decode cX3_want 22 = .ok (.iload_n 1, 1) := by decide +kernel
theorem dX3_want_23 : decode cX3_want 23 = .ok (.invokestatic 73, 3) := by decide +kernel
theorem dX3_want_26 : decode cX3_want 26 = .ok (.ior, 1) := by decide +kernel
theorem dX3_want_27 : decode cX3_want 27 = .ok (.goto 14, 3) := by decide +kernel
theorem dX3_want_30 : decode cX3_want 30 = .ok (.aload_n 0, 1) := by decide +kernel
theorem dX3_want_31 : decode cX3_want 31 = .ok (.getfield 39, 3) := by decide +kernel
theorem dX3_want_34 : decode cX3_want 34 = .ok (.iload_n 1, 1) := by decide +kernel
theorem dX3_want_35 : decode cX3_want 35 = .ok (.invokestatic 73, 3) := by decide +kernel
theorem dX3_want_38 : decode cX3_want 38 = .ok (.iconst (-1), 1) := by decide +kernel
theorem dX3_want_39 : decode cX3_want 39 = .ok (.ixor, 1) := by decide +kernel
theorem dX3_want_40 : decode cX3_want 40 = .ok (.iand, 1) := by decide +kernel
theorem dX3_want_41 : decode cX3_want 41 = .ok (.putfield 39, 3) := by decide +kernel
theorem dX3_want_44 : decode cX3_want 44 = .ok (.aload_n 0, 1) := by decide +kernel
theorem dX3_want_45 : decode cX3_want 45 = .ok (.invokevirtual 46, 3) := by decide +kernel
theorem dX3_want_48 : decode cX3_want 48 = .ok (.iload_n 3, 1) := by decide +kernel
theorem dX3_want_49 : decode cX3_want 49 = .ok (.ireturn, 1) := by decide +kernel
theorem dX3_setHooks_0 : decode cX3_setHooks 0 = .ok (.iload_n 1, 1) := by decide +kernel
theorem dX3_setHooks_1 : decode cX3_setHooks 1 = .ok (.iconst 1, 1) := by decide +kernel
theorem dX3_setHooks_2 : decode cX3_setHooks 2 = .ok (.if_icmp .lt 9, 3) := by decide +kernel
theorem dX3_setHooks_5 : decode cX3_setHooks 5 = .ok (.iload_n 1, 1) := by decide +kernel
theorem dX3_setHooks_6 : decode cX3_setHooks 6 = .ok (.bipush 8, 2) := by decide +kernel
theorem dX3_setHooks_8 : decode cX3_setHooks 8 = .ok (.if_icmp .le 13, 3) := by decide +kernel
theorem dX3_setHooks_11 : decode cX3_setHooks 11 = .ok (.new 77, 3) := by decide +kernel
theorem dX3_setHooks_14 : decode cX3_setHooks 14 = .ok (.dup, 1) := by decide +kernel
theorem dX3_setHooks_15 : decode cX3_setHooks 15 = .ok (.ldc 79, 2) := by decide +kernel
theorem dX3_setHooks_17 : decode cX3_setHooks 17 = .ok (.invokespecial 81, 3) := by decide +kernel
theorem dX3_setHooks_20 : decode cX3_setHooks 20 = .ok (.athrow, 1) := by decide +kernel
theorem dX3_setHooks_21 : decode cX3_setHooks 21 = .ok (.aload_n 0, 1) := by decide +kernel
theorem dX3_setHooks_22 : decode cX3_setHooks 22 = .ok (.getfield 43, 3) := by decide +kernel
theorem dX3_setHooks_25 : decode cX3_setHooks 25 = .ok (.istore_n 2, 1) := by decide +kernel
theorem dX3_setHooks_26 : decode cX3_setHooks 26 = .ok (.aload_n 0, 1) := by decide +kernel
theorem dX3_setHooks_27 : decode cX3_setHooks 27 = .ok (.iload_n 1, 1) := by decide +kernel
theorem dX3_setHooks_28 : decode cX3_setHooks 28 = .ok (.putfield 43, 3) := by decide +kernel
theorem dX3_setHooks_31 : decode cX3_setHooks 31 = .ok (.aload_n 0, 1) := by decide +kernel
theorem dX3_setHooks_32 : decode cX3_setHooks 32 = .ok (.invokevirtual 46, 3) := by decide +kernel
theorem dX3_setHooks_35 : decode cX3_setHooks 35 = .ok (.iload_n 2, 1) := by decide +kernel
theorem dX3_setHooks_36 : decode cX3_setHooks 36 = .ok (.ireturn, 1) := by decide +kernel
theorem dX3_deed_0 : decode cX3_deed 0 = .ok (.aload_n 0, 1) := by decide +kernel
theorem dX3_deed_1 : decode cX3_deed 1 = .ok (.iload_n 1, 1) := by decide +kernel
theorem dX3_deed_2 : decode cX3_deed 2 = .ok (.invokevirtual 84, 3) := by decide +kernel
theorem dX3_deed_5 : decode cX3_deed 5 = .ok (.iload_n 2, 1) := by decide +kernel
theorem dX3_deed_6 : decode cX3_deed 6 = .ok (.tableswitch 126 0 6 #[42, 52, 62, 72, 82, 100, 113], 42) := by decide +kernel
theorem dX3_deed_48 : decode cX3_deed 48 = .ok (.aload_n 0, 1) := by decide +kernel
theorem dX3_deed_49 : decode cX3_deed 49 = .ok (.getfield 10, 3) := by decide +kernel
theorem dX3_deed_52 : decode cX3_deed 52 = .ok (.getfield 87, 3) := by decide +kernel
theorem dX3_deed_55 : decode cX3_deed 55 = .ok (.iload_n 1, 1) := by decide +kernel
theorem dX3_deed_56 : decode cX3_deed 56 = .ok (.iaload, 1) := by decide +kernel
theorem dX3_deed_57 : decode cX3_deed 57 = .ok (.ireturn, 1) := by decide +kernel
theorem dX3_deed_58 : decode cX3_deed 58 = .ok (.aload_n 0, 1) := by decide +kernel
theorem dX3_deed_59 : decode cX3_deed 59 = .ok (.getfield 10, 3) := by decide +kernel
theorem dX3_deed_62 : decode cX3_deed 62 = .ok (.getfield 91, 3) := by decide +kernel
theorem dX3_deed_65 : decode cX3_deed 65 = .ok (.iload_n 1, 1) := by decide +kernel
theorem dX3_deed_66 : decode cX3_deed 66 = .ok (.iaload, 1) := by decide +kernel
theorem dX3_deed_67 : decode cX3_deed 67 = .ok (.ireturn, 1) := by decide +kernel
theorem dX3_deed_68 : decode cX3_deed 68 = .ok (.aload_n 0, 1) := by decide +kernel
theorem dX3_deed_69 : decode cX3_deed 69 = .ok (.getfield 10, 3) := by decide +kernel
theorem dX3_deed_72 : decode cX3_deed 72 = .ok (.getfield 94, 3) := by decide +kernel
theorem dX3_deed_75 : decode cX3_deed 75 = .ok (.iload_n 1, 1) := by decide +kernel
theorem dX3_deed_76 : decode cX3_deed 76 = .ok (.iaload, 1) := by decide +kernel
theorem dX3_deed_77 : decode cX3_deed 77 = .ok (.ireturn, 1) := by decide +kernel
theorem dX3_deed_78 : decode cX3_deed 78 = .ok (.aload_n 0, 1) := by decide +kernel
theorem dX3_deed_79 : decode cX3_deed 79 = .ok (.getfield 10, 3) := by decide +kernel
theorem dX3_deed_82 : decode cX3_deed 82 = .ok (.getfield 97, 3) := by decide +kernel
theorem dX3_deed_85 : decode cX3_deed 85 = .ok (.iload_n 1, 1) := by decide +kernel
theorem dX3_deed_86 : decode cX3_deed 86 = .ok (.iaload, 1) := by decide +kernel
theorem dX3_deed_87 : decode cX3_deed 87 = .ok (.ireturn, 1) := by decide +kernel
theorem dX3_deed_88 : decode cX3_deed 88 = .ok (.aload_n 0, 1) := by decide +kernel
theorem dX3_deed_89 : decode cX3_deed 89 = .ok (.getfield 10, 3) := by decide +kernel
theorem dX3_deed_92 : decode cX3_deed 92 = .ok (.getfield 100, 3) := by decide +kernel
theorem dX3_deed_95 : decode cX3_deed 95 = .ok (.iload_n 1, 1) := by decide +kernel
theorem dX3_deed_96 : decode cX3_deed 96 = .ok (.baload, 1) := by decide +kernel
theorem dX3_deed_97 : decode cX3_deed 97 = .ok (.ifCond .eq 7, 3) := by decide +kernel
theorem dX3_deed_100 : decode cX3_deed 100 = .ok (.iconst 1, 1) := by decide +kernel
theorem dX3_deed_101 : decode cX3_deed 101 = .ok (.goto 4, 3) := by decide +kernel
theorem dX3_deed_104 : decode cX3_deed 104 = .ok (.iconst 0, 1) := by decide +kernel
theorem dX3_deed_105 : decode cX3_deed 105 = .ok (.ireturn, 1) := by decide +kernel
theorem dX3_deed_106 : decode cX3_deed 106 = .ok (.aload_n 0, 1) := by decide +kernel
theorem dX3_deed_107 : decode cX3_deed 107 = .ok (.getfield 19, 3) := by decide +kernel
theorem dX3_deed_110 : decode cX3_deed 110 = .ok (.getfield 104, 3) := by decide +kernel
theorem dX3_deed_113 : decode cX3_deed 113 = .ok (.iload_n 1, 1) := by decide +kernel
theorem dX3_deed_114 : decode cX3_deed 114 = .ok (.iaload, 1) := by decide +kernel
theorem dX3_deed_115 : decode cX3_deed 115 = .ok (.invokestatic 107, 3) := by decide +kernel
theorem dX3_deed_118 : decode cX3_deed 118 = .ok (.ireturn, 1) := by decide +kernel
theorem dX3_deed_119 : decode cX3_deed 119 = .ok (.aload_n 0, 1) := by decide +kernel
theorem dX3_deed_120 : decode cX3_deed 120 = .ok (.getfield 19, 3) := by decide +kernel
theorem dX3_deed_123 : decode cX3_deed 123 = .ok (.getfield 112, 3) := by decide +kernel
theorem dX3_deed_126 : decode cX3_deed 126 = .ok (.iload_n 1, 1) := by decide +kernel
theorem dX3_deed_127 : decode cX3_deed 127 = .ok (.iaload, 1) := by decide +kernel
theorem dX3_deed_128 : decode cX3_deed 128 = .ok (.invokestatic 107, 3) := by decide +kernel
theorem dX3_deed_131 : decode cX3_deed 131 = .ok (.ireturn, 1) := by decide +kernel
theorem dX3_deed_132 : decode cX3_deed 132 = .ok (.new 115, 3) := by decide +kernel
theorem dX3_deed_135 : decode cX3_deed 135 = .ok (.dup, 1) := by decide +kernel
theorem dX3_deed_136 : decode cX3_deed 136 = .ok (.ldc 117, 2) := by decide +kernel
theorem dX3_deed_138 : decode cX3_deed 138 = .ok (.invokespecial 119, 3) := by decide +kernel
theorem dX3_deed_141 : decode cX3_deed 141 = .ok (.athrow, 1) := by decide +kernel
theorem dX3_lives_0 : decode cX3_lives 0 = .ok (.iload_n 1, 1) := by decide +kernel
theorem dX3_lives_1 : decode cX3_lives 1 = .ok (.invokestatic 49, 3) := by decide +kernel
theorem dX3_lives_4 : decode cX3_lives 4 = .ok (.aload_n 0, 1) := by decide +kernel
theorem dX3_lives_5 : decode cX3_lives 5 = .ok (.iload_n 2, 1) := by decide +kernel
theorem dX3_lives_6 : decode cX3_lives 6 = .ok (.invokevirtual 84, 3) := by decide +kernel
theorem dX3_lives_9 : decode cX3_lives 9 = .ok (.aload_n 0, 1) := by decide +kernel
theorem dX3_lives_10 : decode cX3_lives 10 = .ok (.getfield 19, 3) := by decide +kernel
theorem dX3_lives_13 : decode cX3_lives 13 = .ok (.getfield 104, 3) := by decide +kernel
theorem dX3_lives_16 : decode cX3_lives 16 = .ok (.iload_n 2, 1) := by decide +kernel
theorem dX3_lives_17 : decode cX3_lives 17 = .ok (.iaload, 1) := by decide +kernel
theorem dX3_lives_18 : decode cX3_lives 18 = .ok (.iload_n 1, 1) := by decide +kernel
theorem dX3_lives_19 : decode cX3_lives 19 = .ok (.invokestatic 69, 3) := by decide +kernel
theorem dX3_lives_22 : decode cX3_lives 22 = .ok (.ireturn, 1) := by decide +kernel
theorem dX3_clash_0 : decode cX3_clash 0 = .ok (.iload_n 1, 1) := by decide +kernel
theorem dX3_clash_1 : decode cX3_clash 1 = .ok (.invokestatic 49, 3) := by decide +kernel
theorem dX3_clash_4 : decode cX3_clash 4 = .ok (.iload_n 2, 1) := by decide +kernel
theorem dX3_clash_5 : decode cX3_clash 5 = .ok (.invokestatic 49, 3) := by decide +kernel
theorem dX3_clash_8 : decode cX3_clash 8 = .ok (.aload_n 0, 1) := by decide +kernel
theorem dX3_clash_9 : decode cX3_clash 9 = .ok (.getfield 19, 3) := by decide +kernel
theorem dX3_clash_12 : decode cX3_clash 12 = .ok (.getfield 120, 3) := by decide +kernel
theorem dX3_clash_15 : decode cX3_clash 15 = .ok (.iload_n 1, 1) := by decide +kernel
theorem dX3_clash_16 : decode cX3_clash 16 = .ok (.iaload, 1) := by decide +kernel
theorem dX3_clash_17 : decode cX3_clash 17 = .ok (.iload_n 2, 1) := by decide +kernel
theorem dX3_clash_18 : decode cX3_clash 18 = .ok (.invokestatic 69, 3) := by decide +kernel
theorem dX3_clash_21 : decode cX3_clash 21 = .ok (.ireturn, 1) := by decide +kernel
theorem dX3_pot_0 : decode cX3_pot 0 = .ok (.iload_n 1, 1) := by decide +kernel
theorem dX3_pot_1 : decode cX3_pot 1 = .ok (.invokestatic 49, 3) := by decide +kernel
theorem dX3_pot_4 : decode cX3_pot 4 = .ok (.iload_n 2, 1) := by decide +kernel
theorem dX3_pot_5 : decode cX3_pot 5 = .ok (.tableswitch 122 0 5 #[39, 59, 69, 82, 92, 102], 39) := by decide +kernel
theorem dX3_pot_44 : decode cX3_pot 44 = .ok (.aload_n 0, 1) := by decide +kernel
theorem dX3_pot_45 : decode cX3_pot 45 = .ok (.getfield 19, 3) := by decide +kernel
theorem dX3_pot_48 : decode cX3_pot 48 = .ok (.getfield 123, 3) := by decide +kernel
theorem dX3_pot_51 : decode cX3_pot 51 = .ok (.iload_n 1, 1) := by decide +kernel
theorem dX3_pot_52 : decode cX3_pot 52 = .ok (.invokestatic 69, 3) := by decide +kernel
theorem dX3_pot_55 : decode cX3_pot 55 = .ok (.ifCond .eq 7, 3) := by decide +kernel
theorem dX3_pot_58 : decode cX3_pot 58 = .ok (.iconst 1, 1) := by decide +kernel
theorem dX3_pot_59 : decode cX3_pot 59 = .ok (.goto 4, 3) := by decide +kernel
theorem dX3_pot_62 : decode cX3_pot 62 = .ok (.iconst 0, 1) := by decide +kernel
theorem dX3_pot_63 : decode cX3_pot 63 = .ok (.ireturn, 1) := by decide +kernel
theorem dX3_pot_64 : decode cX3_pot 64 = .ok (.aload_n 0, 1) := by decide +kernel
theorem dX3_pot_65 : decode cX3_pot 65 = .ok (.getfield 19, 3) := by decide +kernel
theorem dX3_pot_68 : decode cX3_pot 68 = .ok (.getfield 126, 3) := by decide +kernel
theorem dX3_pot_71 : decode cX3_pot 71 = .ok (.iload_n 1, 1) := by decide +kernel
theorem dX3_pot_72 : decode cX3_pot 72 = .ok (.iaload, 1) := by decide +kernel
theorem dX3_pot_73 : decode cX3_pot 73 = .ok (.ireturn, 1) := by decide +kernel
theorem dX3_pot_74 : decode cX3_pot 74 = .ok (.aload_n 0, 1) := by decide +kernel
theorem dX3_pot_75 : decode cX3_pot 75 = .ok (.getfield 19, 3) := by decide +kernel
theorem dX3_pot_78 : decode cX3_pot 78 = .ok (.getfield 120, 3) := by decide +kernel
theorem dX3_pot_81 : decode cX3_pot 81 = .ok (.iload_n 1, 1) := by decide +kernel
theorem dX3_pot_82 : decode cX3_pot 82 = .ok (.iaload, 1) := by decide +kernel
theorem dX3_pot_83 : decode cX3_pot 83 = .ok (.invokestatic 107, 3) := by decide +kernel
theorem dX3_pot_86 : decode cX3_pot 86 = .ok (.ireturn, 1) := by decide +kernel
theorem dX3_pot_87 : decode cX3_pot 87 = .ok (.aload_n 0, 1) := by decide +kernel
theorem dX3_pot_88 : decode cX3_pot 88 = .ok (.getfield 26, 3) := by decide +kernel
theorem dX3_pot_91 : decode cX3_pot 91 = .ok (.getfield 129, 3) := by decide +kernel
theorem dX3_pot_94 : decode cX3_pot 94 = .ok (.iload_n 1, 1) := by decide +kernel
theorem dX3_pot_95 : decode cX3_pot 95 = .ok (.iaload, 1) := by decide +kernel
theorem dX3_pot_96 : decode cX3_pot 96 = .ok (.ireturn, 1) := by decide +kernel
theorem dX3_pot_97 : decode cX3_pot 97 = .ok (.aload_n 0, 1) := by decide +kernel
theorem dX3_pot_98 : decode cX3_pot 98 = .ok (.getfield 26, 3) := by decide +kernel
theorem dX3_pot_101 : decode cX3_pot 101 = .ok (.getfield 132, 3) := by decide +kernel
theorem dX3_pot_104 : decode cX3_pot 104 = .ok (.iload_n 1, 1) := by decide +kernel
theorem dX3_pot_105 : decode cX3_pot 105 = .ok (.iaload, 1) := by decide +kernel
theorem dX3_pot_106 : decode cX3_pot 106 = .ok (.ireturn, 1) := by decide +kernel
theorem dX3_pot_107 : decode cX3_pot 107 = .ok (.aload_n 0, 1) := by decide +kernel
theorem dX3_pot_108 : decode cX3_pot 108 = .ok (.getfield 26, 3) := by decide +kernel
theorem dX3_pot_111 : decode cX3_pot 111 = .ok (.getfield 135, 3) := by decide +kernel
theorem dX3_pot_114 : decode cX3_pot 114 = .ok (.iload_n 1, 1) := by decide +kernel
theorem dX3_pot_115 : decode cX3_pot 115 = .ok (.invokestatic 69, 3) := by decide +kernel
theorem dX3_pot_118 : decode cX3_pot 118 = .ok (.ifCond .eq 7, 3) := by decide +kernel
theorem dX3_pot_121 : decode cX3_pot 121 = .ok (.iconst 1, 1) := by decide +kernel
theorem dX3_pot_122 : decode cX3_pot 122 = .ok (.goto 4, 3) := by decide +kernel
theorem dX3_pot_125 : decode cX3_pot 125 = .ok (.iconst 0, 1) := by decide +kernel
theorem dX3_pot_126 : decode cX3_pot 126 = .ok (.ireturn, 1) := by decide +kernel
theorem dX3_pot_127 : decode cX3_pot 127 = .ok (.new 115, 3) := by decide +kernel
theorem dX3_pot_130 : decode cX3_pot 130 = .ok (.dup, 1) := by decide +kernel
theorem dX3_pot_131 : decode cX3_pot 131 = .ok (.ldc 138, 2) := by decide +kernel
theorem dX3_pot_133 : decode cX3_pot 133 = .ok (.invokespecial 119, 3) := by decide +kernel
theorem dX3_pot_136 : decode cX3_pot 136 = .ok (.athrow, 1) := by decide +kernel
theorem dX3_count_0 : decode cX3_count 0 = .ok (.iload_n 1, 1) := by decide +kernel
theorem dX3_count_1 : decode cX3_count 1 = .ok (.tableswitch 136 0 9 #[55, 63, 68, 79, 87, 98, 106, 111, 116, 131], 55) := by decide +kernel
theorem dX3_count_56 : decode cX3_count 56 = .ok (.aload_n 0, 1) := by decide +kernel
theorem dX3_count_57 : decode cX3_count 57 = .ok (.getfield 10, 3) := by decide +kernel
theorem dX3_count_60 : decode cX3_count 60 = .ok (.getfield 66, 3) := by decide +kernel
theorem dX3_count_63 : decode cX3_count 63 = .ok (.ireturn, 1) := by decide +kernel
theorem dX3_count_64 : decode cX3_count 64 = .ok (.aload_n 0, 1) := by decide +kernel
theorem dX3_count_65 : decode cX3_count 65 = .ok (.getfield 43, 3) := by decide +kernel
theorem dX3_count_68 : decode cX3_count 68 = .ok (.ireturn, 1) := by decide +kernel
theorem dX3_count_69 : decode cX3_count 69 = .ok (.aload_n 0, 1) := by decide +kernel
theorem dX3_count_70 : decode cX3_count 70 = .ok (.getfield 19, 3) := by decide +kernel
theorem dX3_count_73 : decode cX3_count 73 = .ok (.getfield 123, 3) := by decide +kernel
theorem dX3_count_76 : decode cX3_count 76 = .ok (.invokestatic 107, 3) := by decide +kernel
theorem dX3_count_79 : decode cX3_count 79 = .ok (.ireturn, 1) := by decide +kernel
theorem dX3_count_80 : decode cX3_count 80 = .ok (.aload_n 0, 1) := by decide +kernel
theorem dX3_count_81 : decode cX3_count 81 = .ok (.getfield 19, 3) := by decide +kernel
theorem dX3_count_84 : decode cX3_count 84 = .ok (.invokevirtual 140, 3) := by decide +kernel
theorem dX3_count_87 : decode cX3_count 87 = .ok (.ireturn, 1) := by decide +kernel
theorem dX3_count_88 : decode cX3_count 88 = .ok (.aload_n 0, 1) := by decide +kernel
theorem dX3_count_89 : decode cX3_count 89 = .ok (.getfield 26, 3) := by decide +kernel
theorem dX3_count_92 : decode cX3_count 92 = .ok (.getfield 135, 3) := by decide +kernel
theorem dX3_count_95 : decode cX3_count 95 = .ok (.invokestatic 107, 3) := by decide +kernel
theorem dX3_count_98 : decode cX3_count 98 = .ok (.ireturn, 1) := by decide +kernel
theorem dX3_count_99 : decode cX3_count 99 = .ok (.aload_n 0, 1) := by decide +kernel
theorem dX3_count_100 : decode cX3_count 100 = .ok (.getfield 26, 3) := by decide +kernel
theorem dX3_count_103 : decode cX3_count 103 = .ok (.invokevirtual 144, 3) := by decide +kernel
theorem dX3_count_106 : decode cX3_count 106 = .ok (.ireturn, 1) := by decide +kernel
theorem dX3_count_107 : decode cX3_count 107 = .ok (.aload_n 0, 1) := by decide +kernel
theorem dX3_count_108 : decode cX3_count 108 = .ok (.invokevirtual 147, 3) := by decide +kernel
theorem dX3_count_111 : decode cX3_count 111 = .ok (.ireturn, 1) := by decide +kernel
theorem dX3_count_112 : decode cX3_count 112 = .ok (.aload_n 0, 1) := by decide +kernel
theorem dX3_count_113 : decode cX3_count 113 = .ok (.invokevirtual 150, 3) := by decide +kernel
theorem dX3_count_116 : decode cX3_count 116 = .ok (.ireturn, 1) := by decide +kernel
theorem dX3_count_117 : decode cX3_count 117 = .ok (.aload_n 0, 1) := by decide +kernel
theorem dX3_count_118 : decode cX3_count 118 = .ok (.getfield 19, 3) := by decide +kernel
theorem dX3_count_121 : decode cX3_count 121 = .ok (.aload_n 0, 1) := by decide +kernel
theorem dX3_count_122 : decode cX3_count 122 = .ok (.getfield 26, 3) := by decide +kernel
theorem dX3_count_125 : decode cX3_count 125 = .ok (.getfield 135, 3) := by decide +kernel
theorem dX3_count_128 : decode cX3_count 128 = .ok (.invokevirtual 153, 3) := by decide +kernel
theorem dX3_count_131 : decode cX3_count 131 = .ok (.ireturn, 1) := by decide +kernel
theorem dX3_count_132 : decode cX3_count 132 = .ok (.aload_n 0, 1) := by decide +kernel
theorem dX3_count_133 : decode cX3_count 133 = .ok (.invokevirtual 156, 3) := by decide +kernel
theorem dX3_count_136 : decode cX3_count 136 = .ok (.ireturn, 1) := by decide +kernel
theorem dX3_count_137 : decode cX3_count 137 = .ok (.new 115, 3) := by decide +kernel
theorem dX3_count_140 : decode cX3_count 140 = .ok (.dup, 1) := by decide +kernel
theorem dX3_count_141 : decode cX3_count 141 = .ok (.ldc 159, 2) := by decide +kernel
theorem dX3_count_143 : decode cX3_count 143 = .ok (.invokespecial 119, 3) := by decide +kernel
theorem dX3_count_146 : decode cX3_count 146 = .ok (.athrow, 1) := by decide +kernel
theorem dX3_hangs_0 : decode cX3_hangs 0 = .ok (.iload_n 1, 1) := by decide +kernel
theorem dX3_hangs_1 : decode cX3_hangs 1 = .ok (.ifCond .lt 11, 3) := by decide +kernel
theorem dX3_hangs_4 : decode cX3_hangs 4 = .ok (.iload_n 1, 1) := by decide +kernel
theorem dX3_hangs_5 : decode cX3_hangs 5 = .ok (.aload_n 0, 1) := by decide +kernel
theorem dX3_hangs_6 : decode cX3_hangs 6 = .ok (.getfield 43, 3) := by decide +kernel
theorem dX3_hangs_9 : decode cX3_hangs 9 = .ok (.if_icmp .lt 13, 3) := by decide +kernel
theorem dX3_hangs_12 : decode cX3_hangs 12 = .ok (.new 115, 3) := by decide +kernel
theorem dX3_hangs_15 : decode cX3_hangs 15 = .ok (.dup, 1) := by decide +kernel
theorem dX3_hangs_16 : decode cX3_hangs 16 = .ok (.ldc 161, 2) := by decide +kernel
theorem dX3_hangs_18 : decode cX3_hangs 18 = .ok (.invokespecial 119, 3) := by decide +kernel
theorem dX3_hangs_21 : decode cX3_hangs 21 = .ok (.athrow, 1) := by decide +kernel
theorem dX3_hangs_22 : decode cX3_hangs 22 = .ok (.aload_n 0, 1) := by decide +kernel
theorem dX3_hangs_23 : decode cX3_hangs 23 = .ok (.getfield 26, 3) := by decide +kernel
theorem dX3_hangs_26 : decode cX3_hangs 26 = .ok (.getfield 163, 3) := by decide +kernel
theorem dX3_hangs_29 : decode cX3_hangs 29 = .ok (.iload_n 1, 1) := by decide +kernel
theorem dX3_hangs_30 : decode cX3_hangs 30 = .ok (.iaload, 1) := by decide +kernel
theorem dX3_hangs_31 : decode cX3_hangs 31 = .ok (.invokestatic 107, 3) := by decide +kernel
theorem dX3_hangs_34 : decode cX3_hangs 34 = .ok (.ireturn, 1) := by decide +kernel
theorem dX3_crowd_0 : decode cX3_crowd 0 = .ok (.aload_n 0, 1) := by decide +kernel
theorem dX3_crowd_1 : decode cX3_crowd 1 = .ok (.getfield 19, 3) := by decide +kernel
theorem dX3_crowd_4 : decode cX3_crowd 4 = .ok (.getfield 166, 3) := by decide +kernel
theorem dX3_crowd_7 : decode cX3_crowd 7 = .ok (.invokestatic 107, 3) := by decide +kernel
theorem dX3_crowd_10 : decode cX3_crowd 10 = .ok (.istore_n 1, 1) := by decide +kernel
theorem dX3_crowd_11 : decode cX3_crowd 11 = .ok (.iconst 0, 1) := by decide +kernel
theorem dX3_crowd_12 : decode cX3_crowd 12 = .ok (.istore_n 2, 1) := by decide +kernel
theorem dX3_crowd_13 : decode cX3_crowd 13 = .ok (.iload_n 2, 1) := by decide +kernel
theorem dX3_crowd_14 : decode cX3_crowd 14 = .ok (.aload_n 0, 1) := by decide +kernel
theorem dX3_crowd_15 : decode cX3_crowd 15 = .ok (.getfield 10, 3) := by decide +kernel
theorem dX3_crowd_18 : decode cX3_crowd 18 = .ok (.getfield 66, 3) := by decide +kernel
theorem dX3_crowd_21 : decode cX3_crowd 21 = .ok (.if_icmp .ge 26, 3) := by decide +kernel
theorem dX3_crowd_24 : decode cX3_crowd 24 = .ok (.iload_n 1, 1) := by decide +kernel
theorem dX3_crowd_25 : decode cX3_crowd 25 = .ok (.aload_n 0, 1) := by decide +kernel
theorem dX3_crowd_26 : decode cX3_crowd 26 = .ok (.getfield 19, 3) := by decide +kernel
theorem dX3_crowd_29 : decode cX3_crowd 29 = .ok (.getfield 104, 3) := by decide +kernel
theorem dX3_crowd_32 : decode cX3_crowd 32 = .ok (.iload_n 2, 1) := by decide +kernel
theorem dX3_crowd_33 : decode cX3_crowd 33 = .ok (.iaload, 1) := by decide +kernel
theorem dX3_crowd_34 : decode cX3_crowd 34 = .ok (.invokestatic 107, 3) := by decide +kernel
theorem dX3_crowd_37 : decode cX3_crowd 37 = .ok (.invokestatic 169, 3) := by decide +kernel
theorem dX3_crowd_40 : decode cX3_crowd 40 = .ok (.istore_n 1, 1) := by decide +kernel
theorem dX3_crowd_41 : decode cX3_crowd 41 = .ok (.iinc 2 1, 3) := by decide +kernel
theorem dX3_crowd_44 : decode cX3_crowd 44 = .ok (.goto (-31), 3) := by decide +kernel
theorem dX3_crowd_47 : decode cX3_crowd 47 = .ok (.iload_n 1, 1) := by decide +kernel
theorem dX3_crowd_48 : decode cX3_crowd 48 = .ok (.ireturn, 1) := by decide +kernel
theorem dX3_would_0 : decode cX3_would 0 = .ok (.iload_n 1, 1) := by decide +kernel
theorem dX3_would_1 : decode cX3_would 1 = .ok (.iconst 1, 1) := by decide +kernel
theorem dX3_would_2 : decode cX3_would 2 = .ok (.if_icmp .lt 9, 3) := by decide +kernel
theorem dX3_would_5 : decode cX3_would 5 = .ok (.iload_n 1, 1) := by decide +kernel
theorem dX3_would_6 : decode cX3_would 6 = .ok (.bipush 16, 2) := by decide +kernel
theorem dX3_would_8 : decode cX3_would 8 = .ok (.if_icmp .le 13, 3) := by decide +kernel
theorem dX3_would_11 : decode cX3_would 11 = .ok (.new 77, 3) := by decide +kernel
theorem dX3_would_14 : decode cX3_would 14 = .ok (.dup, 1) := by decide +kernel
theorem dX3_would_15 : decode cX3_would 15 = .ok (.ldc 175, 2) := by decide +kernel
theorem dX3_would_17 : decode cX3_would 17 = .ok (.invokespecial 81, 3) := by decide +kernel
theorem dX3_would_20 : decode cX3_would 20 = .ok (.athrow, 1) := by decide +kernel
theorem dX3_would_21 : decode cX3_would 21 = .ok (.aload_n 0, 1) := by decide +kernel
theorem dX3_would_22 : decode cX3_would 22 = .ok (.iload_n 1, 1) := by decide +kernel
theorem dX3_would_23 : decode cX3_would 23 = .ok (.invokevirtual 177, 3) := by decide +kernel
theorem dX3_would_26 : decode cX3_would 26 = .ok (.ireturn, 1) := by decide +kernel
theorem dX3_fewest_0 : decode cX3_fewest 0 = .ok (.aload_n 0, 1) := by decide +kernel
theorem dX3_fewest_1 : decode cX3_fewest 1 = .ok (.getfield 19, 3) := by decide +kernel
theorem dX3_fewest_4 : decode cX3_fewest 4 = .ok (.getfield 123, 3) := by decide +kernel
theorem dX3_fewest_7 : decode cX3_fewest 7 = .ok (.ifCond .ne 5, 3) := by decide +kernel
theorem dX3_fewest_10 : decode cX3_fewest 10 = .ok (.iconst 0, 1) := by decide +kernel
theorem dX3_fewest_11 : decode cX3_fewest 11 = .ok (.ireturn, 1) := by decide +kernel
theorem dX3_fewest_12 : decode cX3_fewest 12 = .ok (.iconst 1, 1) := by decide +kernel
theorem dX3_fewest_13 : decode cX3_fewest 13 = .ok (.istore_n 1, 1) := by decide +kernel
theorem dX3_fewest_14 : decode cX3_fewest 14 = .ok (.iload_n 1, 1) := by decide +kernel
theorem dX3_fewest_15 : decode cX3_fewest 15 = .ok (.bipush 16, 2) := by decide +kernel
theorem dX3_fewest_17 : decode cX3_fewest 17 = .ok (.if_icmp .ge 19, 3) := by decide +kernel
theorem dX3_fewest_20 : decode cX3_fewest 20 = .ok (.aload_n 0, 1) := by decide +kernel
theorem dX3_fewest_21 : decode cX3_fewest 21 = .ok (.iload_n 1, 1) := by decide +kernel
theorem dX3_fewest_22 : decode cX3_fewest 22 = .ok (.invokevirtual 177, 3) := by decide +kernel
theorem dX3_fewest_25 : decode cX3_fewest 25 = .ok (.ifCond .ne 5, 3) := by decide +kernel
theorem dX3_fewest_28 : decode cX3_fewest 28 = .ok (.iload_n 1, 1) := by decide +kernel
theorem dX3_fewest_29 : decode cX3_fewest 29 = .ok (.ireturn, 1) := by decide +kernel
theorem dX3_fewest_30 : decode cX3_fewest 30 = .ok (.iinc 1 1, 3) := by decide +kernel
theorem dX3_fewest_33 : decode cX3_fewest 33 = .ok (.goto (-19), 3) := by decide +kernel
theorem dX3_fewest_36 : decode cX3_fewest 36 = .ok (.bipush 16, 2) := by decide +kernel
theorem dX3_fewest_38 : decode cX3_fewest 38 = .ok (.ireturn, 1) := by decide +kernel
theorem dX3_advise_0 : decode cX3_advise 0 = .ok (.iconst (-1), 1) := by decide +kernel
theorem dX3_advise_1 : decode cX3_advise 1 = .ok (.istore_n 1, 1) := by decide +kernel
theorem dX3_advise_2 : decode cX3_advise 2 = .ok (.iconst 0, 1) := by decide +kernel
theorem dX3_advise_3 : decode cX3_advise 3 = .ok (.istore_n 2, 1) := by decide +kernel
theorem dX3_advise_4 : decode cX3_advise 4 = .ok (.iconst 0, 1) := by decide +kernel
theorem dX3_advise_5 : decode cX3_advise 5 = .ok (.istore_n 3, 1) := by decide +kernel
theorem dX3_advise_6 : decode cX3_advise 6 = .ok (.iload_n 3, 1) := by decide +kernel
theorem dX3_advise_7 : decode cX3_advise 7 = .ok (.aload_n 0, 1) := by decide +kernel
theorem dX3_advise_8 : decode cX3_advise 8 = .ok (.getfield 10, 3) := by decide +kernel
theorem dX3_advise_11 : decode cX3_advise 11 = .ok (.getfield 66, 3) := by decide +kernel
theorem dX3_advise_14 : decode cX3_advise 14 = .ok (.if_icmp .ge 32, 3) := by decide +kernel
theorem dX3_advise_17 : decode cX3_advise 17 = .ok (.aload_n 0, 1) := by decide +kernel
theorem dX3_advise_18 : decode cX3_advise 18 = .ok (.iload_n 3, 1) := by decide +kernel
theorem dX3_advise_19 : decode cX3_advise 19 = .ok (.invokevirtual 180, 3) := by decide +kernel
theorem dX3_advise_22 : decode cX3_advise 22 = .ok (.istore 4, 2) := by decide +kernel
theorem dX3_advise_24 : decode cX3_advise 24 = .ok (.iload_n 1, 1) := by decide +kernel
theorem dX3_advise_25 : decode cX3_advise 25 = .ok (.iconst (-1), 1) := by decide +kernel
theorem dX3_advise_26 : decode cX3_advise 26 = .ok (.if_icmp .eq 9, 3) := by decide +kernel
theorem dX3_advise_29 : decode cX3_advise 29 = .ok (.iload 4, 2) := by decide +kernel
theorem dX3_advise_31 : decode cX3_advise 31 = .ok (.iload_n 2, 1) := by decide +kernel
theorem dX3_advise_32 : decode cX3_advise 32 = .ok (.if_icmp .ge 8, 3) := by decide +kernel
theorem dX3_advise_35 : decode cX3_advise 35 = .ok (.iload_n 3, 1) := by decide +kernel
theorem dX3_advise_36 : decode cX3_advise 36 = .ok (.istore_n 1, 1) := by decide +kernel
theorem dX3_advise_37 : decode cX3_advise 37 = .ok (.iload 4, 2) := by decide +kernel
theorem dX3_advise_39 : decode cX3_advise 39 = .ok (.istore_n 2, 1) := by decide +kernel
theorem dX3_advise_40 : decode cX3_advise 40 = .ok (.iinc 3 1, 3) := by decide +kernel
theorem dX3_advise_43 : decode cX3_advise 43 = .ok (.goto (-37), 3) := by decide +kernel
theorem dX3_advise_46 : decode cX3_advise 46 = .ok (.iload_n 1, 1) := by decide +kernel
theorem dX3_advise_47 : decode cX3_advise 47 = .ok (.ireturn, 1) := by decide +kernel
theorem dX3_mean_0 : decode cX3_mean 0 = .ok (.aload_n 0, 1) := by decide +kernel
theorem dX3_mean_1 : decode cX3_mean 1 = .ok (.getfield 10, 3) := by decide +kernel
theorem dX3_mean_4 : decode cX3_mean 4 = .ok (.getfield 66, 3) := by decide +kernel
theorem dX3_mean_7 : decode cX3_mean 7 = .ok (.ifCond .ne 5, 3) := by decide +kernel
theorem dX3_mean_10 : decode cX3_mean 10 = .ok (.dconst 0, 1) := by decide +kernel
theorem dX3_mean_11 : decode cX3_mean 11 = .ok (.dreturn, 1) := by decide +kernel
theorem dX3_mean_12 : decode cX3_mean 12 = .ok (.iconst 0, 1) := by decide +kernel
theorem dX3_mean_13 : decode cX3_mean 13 = .ok (.istore_n 1, 1) := by decide +kernel
theorem dX3_mean_14 : decode cX3_mean 14 = .ok (.iconst 0, 1) := by decide +kernel
theorem dX3_mean_15 : decode cX3_mean 15 = .ok (.istore_n 2, 1) := by decide +kernel
theorem dX3_mean_16 : decode cX3_mean 16 = .ok (.iload_n 2, 1) := by decide +kernel
theorem dX3_mean_17 : decode cX3_mean 17 = .ok (.aload_n 0, 1) := by decide +kernel
theorem dX3_mean_18 : decode cX3_mean 18 = .ok (.getfield 10, 3) := by decide +kernel
theorem dX3_mean_21 : decode cX3_mean 21 = .ok (.getfield 66, 3) := by decide +kernel
theorem dX3_mean_24 : decode cX3_mean 24 = .ok (.if_icmp .ge 24, 3) := by decide +kernel
theorem dX3_mean_27 : decode cX3_mean 27 = .ok (.iload_n 1, 1) := by decide +kernel
theorem dX3_mean_28 : decode cX3_mean 28 = .ok (.aload_n 0, 1) := by decide +kernel
theorem dX3_mean_29 : decode cX3_mean 29 = .ok (.getfield 19, 3) := by decide +kernel
theorem dX3_mean_32 : decode cX3_mean 32 = .ok (.getfield 104, 3) := by decide +kernel
theorem dX3_mean_35 : decode cX3_mean 35 = .ok (.iload_n 2, 1) := by decide +kernel
theorem dX3_mean_36 : decode cX3_mean 36 = .ok (.iaload, 1) := by decide +kernel
theorem dX3_mean_37 : decode cX3_mean 37 = .ok (.invokestatic 107, 3) := by decide +kernel
theorem dX3_mean_40 : decode cX3_mean 40 = .ok (.iadd, 1) := by decide +kernel
theorem dX3_mean_41 : decode cX3_mean 41 = .ok (.istore_n 1, 1) := by decide +kernel
theorem dX3_mean_42 : decode cX3_mean 42 = .ok (.iinc 2 1, 3) := by decide +kernel
theorem dX3_mean_45 : decode cX3_mean 45 = .ok (.goto (-29), 3) := by decide +kernel
theorem dX3_mean_48 : decode cX3_mean 48 = .ok (.iload_n 1, 1) := by decide +kernel
theorem dX3_mean_49 : decode cX3_mean 49 = .ok (.i2d, 1) := by decide +kernel
theorem dX3_mean_50 : decode cX3_mean 50 = .ok (.aload_n 0, 1) := by decide +kernel
theorem dX3_mean_51 : decode cX3_mean 51 = .ok (.getfield 10, 3) := by decide +kernel
theorem dX3_mean_54 : decode cX3_mean 54 = .ok (.getfield 66, 3) := by decide +kernel
theorem dX3_mean_57 : decode cX3_mean 57 = .ok (.i2d, 1) := by decide +kernel
theorem dX3_mean_58 : decode cX3_mean 58 = .ok (.ddiv, 1) := by decide +kernel
theorem dX3_mean_59 : decode cX3_mean 59 = .ok (.dreturn, 1) := by decide +kernel
theorem dX3_digest_0 : decode cX3_digest 0 = .ok (.ldc2_w 183, 3) := by decide +kernel
theorem dX3_digest_3 : decode cX3_digest 3 = .ok (.lstore_n 1, 1) := by decide +kernel
theorem dX3_digest_4 : decode cX3_digest 4 = .ok (.iconst 0, 1) := by decide +kernel
theorem dX3_digest_5 : decode cX3_digest 5 = .ok (.istore_n 3, 1) := by decide +kernel
theorem dX3_digest_6 : decode cX3_digest 6 = .ok (.iload_n 3, 1) := by decide +kernel
theorem dX3_digest_7 : decode cX3_digest 7 = .ok (.bipush 10, 2) := by decide +kernel
theorem dX3_digest_9 : decode cX3_digest 9 = .ok (.if_icmp .ge 20, 3) := by decide +kernel
theorem dX3_digest_12 : decode cX3_digest 12 = .ok (.lload_n 1, 1) := by decide +kernel
theorem dX3_digest_13 : decode cX3_digest 13 = .ok (.aload_n 0, 1) := by decide +kernel
theorem dX3_digest_14 : decode cX3_digest 14 = .ok (.iload_n 3, 1) := by decide +kernel
theorem dX3_digest_15 : decode cX3_digest 15 = .ok (.invokevirtual 185, 3) := by decide +kernel
theorem dX3_digest_18 : decode cX3_digest 18 = .ok (.i2l, 1) := by decide +kernel
theorem dX3_digest_19 : decode cX3_digest 19 = .ok (.invokestatic 188, 3) := by decide +kernel
theorem dX3_digest_22 : decode cX3_digest 22 = .ok (.lstore_n 1, 1) := by decide +kernel
theorem dX3_digest_23 : decode cX3_digest 23 = .ok (.iinc 3 1, 3) := by decide +kernel
theorem dX3_digest_26 : decode cX3_digest 26 = .ok (.goto (-20), 3) := by decide +kernel
theorem dX3_digest_29 : decode cX3_digest 29 = .ok (.iconst 0, 1) := by decide +kernel
theorem dX3_digest_30 : decode cX3_digest 30 = .ok (.istore_n 3, 1) := by decide +kernel
theorem dX3_digest_31 : decode cX3_digest 31 = .ok (.iload_n 3, 1) := by decide +kernel
theorem dX3_digest_32 : decode cX3_digest 32 = .ok (.aload_n 0, 1) := by decide +kernel
theorem dX3_digest_33 : decode cX3_digest 33 = .ok (.getfield 10, 3) := by decide +kernel
theorem dX3_digest_36 : decode cX3_digest 36 = .ok (.getfield 66, 3) := by decide +kernel
theorem dX3_digest_39 : decode cX3_digest 39 = .ok (.if_icmp .ge 38, 3) := by decide +kernel
theorem dX3_digest_42 : decode cX3_digest 42 = .ok (.iconst 0, 1) := by decide +kernel
theorem dX3_digest_43 : decode cX3_digest 43 = .ok (.istore 4, 2) := by decide +kernel
theorem dX3_digest_45 : decode cX3_digest 45 = .ok (.iload 4, 2) := by decide +kernel
theorem dX3_digest_47 : decode cX3_digest 47 = .ok (.bipush 7, 2) := by decide +kernel
theorem dX3_digest_49 : decode cX3_digest 49 = .ok (.if_icmp .ge 22, 3) := by decide +kernel
theorem dX3_digest_52 : decode cX3_digest 52 = .ok (.lload_n 1, 1) := by decide +kernel
theorem dX3_digest_53 : decode cX3_digest 53 = .ok (.aload_n 0, 1) := by decide +kernel
theorem dX3_digest_54 : decode cX3_digest 54 = .ok (.iload_n 3, 1) := by decide +kernel
theorem dX3_digest_55 : decode cX3_digest 55 = .ok (.iload 4, 2) := by decide +kernel
theorem dX3_digest_57 : decode cX3_digest 57 = .ok (.invokevirtual 192, 3) := by decide +kernel
theorem dX3_digest_60 : decode cX3_digest 60 = .ok (.i2l, 1) := by decide +kernel
theorem dX3_digest_61 : decode cX3_digest 61 = .ok (.invokestatic 188, 3) := by decide +kernel
theorem dX3_digest_64 : decode cX3_digest 64 = .ok (.lstore_n 1, 1) := by decide +kernel
theorem dX3_digest_65 : decode cX3_digest 65 = .ok (.iinc 4 1, 3) := by decide +kernel
theorem dX3_digest_68 : decode cX3_digest 68 = .ok (.goto (-23), 3) := by decide +kernel
theorem dX3_digest_71 : decode cX3_digest 71 = .ok (.iinc 3 1, 3) := by decide +kernel
theorem dX3_digest_74 : decode cX3_digest 74 = .ok (.goto (-43), 3) := by decide +kernel
theorem dX3_digest_77 : decode cX3_digest 77 = .ok (.iconst 0, 1) := by decide +kernel
theorem dX3_digest_78 : decode cX3_digest 78 = .ok (.istore_n 3, 1) := by decide +kernel
theorem dX3_digest_79 : decode cX3_digest 79 = .ok (.iload_n 3, 1) := by decide +kernel
theorem dX3_digest_80 : decode cX3_digest 80 = .ok (.bipush 16, 2) := by decide +kernel
theorem dX3_digest_82 : decode cX3_digest 82 = .ok (.if_icmp .ge 74, 3) := by decide +kernel
theorem dX3_digest_85 : decode cX3_digest 85 = .ok (.iconst 0, 1) := by decide +kernel
theorem dX3_digest_86 : decode cX3_digest 86 = .ok (.istore 4, 2) := by decide +kernel
theorem dX3_digest_88 : decode cX3_digest 88 = .ok (.iload 4, 2) := by decide +kernel
theorem dX3_digest_90 : decode cX3_digest 90 = .ok (.bipush 6, 2) := by decide +kernel
theorem dX3_digest_92 : decode cX3_digest 92 = .ok (.if_icmp .ge 22, 3) := by decide +kernel
theorem dX3_digest_95 : decode cX3_digest 95 = .ok (.lload_n 1, 1) := by decide +kernel
theorem dX3_digest_96 : decode cX3_digest 96 = .ok (.aload_n 0, 1) := by decide +kernel
theorem dX3_digest_97 : decode cX3_digest 97 = .ok (.iload_n 3, 1) := by decide +kernel
theorem dX3_digest_98 : decode cX3_digest 98 = .ok (.iload 4, 2) := by decide +kernel
theorem dX3_digest_100 : decode cX3_digest 100 = .ok (.invokevirtual 195, 3) := by decide +kernel
theorem dX3_digest_103 : decode cX3_digest 103 = .ok (.i2l, 1) := by decide +kernel
theorem dX3_digest_104 : decode cX3_digest 104 = .ok (.invokestatic 188, 3) := by decide +kernel
theorem dX3_digest_107 : decode cX3_digest 107 = .ok (.lstore_n 1, 1) := by decide +kernel
theorem dX3_digest_108 : decode cX3_digest 108 = .ok (.iinc 4 1, 3) := by decide +kernel
theorem dX3_digest_111 : decode cX3_digest 111 = .ok (.goto (-23), 3) := by decide +kernel
theorem dX3_digest_114 : decode cX3_digest 114 = .ok (.lload_n 1, 1) := by decide +kernel
theorem dX3_digest_115 : decode cX3_digest 115 = .ok (.aload_n 0, 1) := by decide +kernel
theorem dX3_digest_116 : decode cX3_digest 116 = .ok (.getfield 39, 3) := by decide +kernel
theorem dX3_digest_119 : decode cX3_digest 119 = .ok (.iload_n 3, 1) := by decide +kernel
theorem dX3_digest_120 : decode cX3_digest 120 = .ok (.invokestatic 69, 3) := by decide +kernel
theorem dX3_digest_123 : decode cX3_digest 123 = .ok (.ifCond .eq 7, 3) := by decide +kernel
theorem dX3_digest_126 : decode cX3_digest 126 = .ok (.lconst 1, 1) := by decide +kernel
theorem dX3_digest_127 : decode cX3_digest 127 = .ok (.goto 4, 3) := by decide +kernel
theorem dX3_digest_130 : decode cX3_digest 130 = .ok (.lconst 0, 1) := by decide +kernel
theorem dX3_digest_131 : decode cX3_digest 131 = .ok (.invokestatic 188, 3) := by decide +kernel
theorem dX3_digest_134 : decode cX3_digest 134 = .ok (.lstore_n 1, 1) := by decide +kernel
theorem dX3_digest_135 : decode cX3_digest 135 = .ok (.lload_n 1, 1) := by decide +kernel
theorem dX3_digest_136 : decode cX3_digest 136 = .ok (.aload_n 0, 1) := by decide +kernel
theorem dX3_digest_137 : decode cX3_digest 137 = .ok (.getfield 19, 3) := by decide +kernel
theorem dX3_digest_140 : decode cX3_digest 140 = .ok (.getfield 120, 3) := by decide +kernel
theorem dX3_digest_143 : decode cX3_digest 143 = .ok (.iload_n 3, 1) := by decide +kernel
theorem dX3_digest_144 : decode cX3_digest 144 = .ok (.iaload, 1) := by decide +kernel
theorem dX3_digest_145 : decode cX3_digest 145 = .ok (.i2l, 1) := by decide +kernel
theorem dX3_digest_146 : decode cX3_digest 146 = .ok (.invokestatic 188, 3) := by decide +kernel
theorem dX3_digest_149 : decode cX3_digest 149 = .ok (.lstore_n 1, 1) := by decide +kernel
theorem dX3_digest_150 : decode cX3_digest 150 = .ok (.iinc 3 1, 3) := by decide +kernel
theorem dX3_digest_153 : decode cX3_digest 153 = .ok (.goto (-74), 3) := by decide +kernel
theorem dX3_digest_156 : decode cX3_digest 156 = .ok (.lload_n 1, 1) := by decide +kernel
theorem dX3_digest_157 : decode cX3_digest 157 = .ok (.lreturn, 1) := by decide +kernel
theorem dX3_digested_0 : decode cX3_digested 0 = .ok (.lload_n 0, 1) := by decide +kernel
theorem dX3_digested_1 : decode cX3_digested 1 = .ok (.ldc2_w 198, 3) := by decide +kernel
theorem dX3_digested_4 : decode cX3_digested 4 = .ok (.lmul, 1) := by decide +kernel
theorem dX3_digested_5 : decode cX3_digested 5 = .ok (.lload_n 2, 1) := by decide +kernel
theorem dX3_digested_6 : decode cX3_digested 6 = .ok (.ladd, 1) := by decide +kernel
theorem dX3_digested_7 : decode cX3_digested 7 = .ok (.lreturn, 1) := by decide +kernel
theorem dX3_settle_0 : decode cX3_settle 0 = .ok (.aload_n 0, 1) := by decide +kernel
theorem dX3_settle_1 : decode cX3_settle 1 = .ok (.getfield 19, 3) := by decide +kernel
theorem dX3_settle_4 : decode cX3_settle 4 = .ok (.aload_n 0, 1) := by decide +kernel
theorem dX3_settle_5 : decode cX3_settle 5 = .ok (.getfield 10, 3) := by decide +kernel
theorem dX3_settle_8 : decode cX3_settle 8 = .ok (.aload_n 0, 1) := by decide +kernel
theorem dX3_settle_9 : decode cX3_settle 9 = .ok (.getfield 39, 3) := by decide +kernel
theorem dX3_settle_12 : decode cX3_settle 12 = .ok (.invokevirtual 200, 3) := by decide +kernel
theorem dX3_settle_15 : decode cX3_settle 15 = .ok (.aload_n 0, 1) := by decide +kernel
theorem dX3_settle_16 : decode cX3_settle 16 = .ok (.getfield 26, 3) := by decide +kernel
theorem dX3_settle_19 : decode cX3_settle 19 = .ok (.aload_n 0, 1) := by decide +kernel
theorem dX3_settle_20 : decode cX3_settle 20 = .ok (.getfield 19, 3) := by decide +kernel
theorem dX3_settle_23 : decode cX3_settle 23 = .ok (.aload_n 0, 1) := by decide +kernel
theorem dX3_settle_24 : decode cX3_settle 24 = .ok (.getfield 43, 3) := by decide +kernel
theorem dX3_settle_27 : decode cX3_settle 27 = .ok (.invokevirtual 204, 3) := by decide +kernel
theorem dX3_settle_30 : decode cX3_settle 30 = .ok (.return_, 1) := by decide +kernel
theorem dX3_floorWith_0 : decode cX3_floorWith 0 = .ok (.aload_n 0, 1) := by decide +kernel
theorem dX3_floorWith_1 : decode cX3_floorWith 1 = .ok (.getfield 36, 3) := by decide +kernel
theorem dX3_floorWith_4 : decode cX3_floorWith 4 = .ok (.aload_n 0, 1) := by decide +kernel
theorem dX3_floorWith_5 : decode cX3_floorWith 5 = .ok (.getfield 19, 3) := by decide +kernel
theorem dX3_floorWith_8 : decode cX3_floorWith 8 = .ok (.iload_n 1, 1) := by decide +kernel
theorem dX3_floorWith_9 : decode cX3_floorWith 9 = .ok (.invokevirtual 204, 3) := by decide +kernel
theorem dX3_floorWith_12 : decode cX3_floorWith 12 = .ok (.aload_n 0, 1) := by decide +kernel
theorem dX3_floorWith_13 : decode cX3_floorWith 13 = .ok (.getfield 36, 3) := by decide +kernel
theorem dX3_floorWith_16 : decode cX3_floorWith 16 = .ok (.getfield 135, 3) := by decide +kernel
theorem dX3_floorWith_19 : decode cX3_floorWith 19 = .ok (.invokestatic 107, 3) := by decide +kernel
theorem dX3_floorWith_22 : decode cX3_floorWith 22 = .ok (.ireturn, 1) := by decide +kernel
theorem dX3_floorCostWithout_0 : decode cX3_floorCostWithout 0 = .ok (.aload_n 0, 1) := by decide +kernel
theorem dX3_floorCostWithout_1 : decode cX3_floorCostWithout 1 = .ok (.getfield 30, 3) := by decide +kernel
theorem dX3_floorCostWithout_4 : decode cX3_floorCostWithout 4 = .ok (.aload_n 0, 1) := by decide +kernel
theorem dX3_floorCostWithout_5 : decode cX3_floorCostWithout 5 = .ok (.getfield 10, 3) := by decide +kernel
theorem dX3_floorCostWithout_8 : decode cX3_floorCostWithout 8 = .ok (.invokevirtual 207, 3) := by decide +kernel
theorem dX3_floorCostWithout_11 : decode cX3_floorCostWithout 11 = .ok (.aload_n 0, 1) := by decide +kernel
theorem dX3_floorCostWithout_12 : decode cX3_floorCostWithout 12 = .ok (.getfield 30, 3) := by decide +kernel
theorem dX3_floorCostWithout_15 : decode cX3_floorCostWithout 15 = .ok (.iload_n 1, 1) := by decide +kernel
theorem dX3_floorCostWithout_16 : decode cX3_floorCostWithout 16 = .ok (.invokevirtual 63, 3) := by decide +kernel
theorem dX3_floorCostWithout_19 : decode cX3_floorCostWithout 19 = .ok (.aload_n 0, 1) := by decide +kernel
theorem dX3_floorCostWithout_20 : decode cX3_floorCostWithout 20 = .ok (.getfield 33, 3) := by decide +kernel
theorem dX3_floorCostWithout_23 : decode cX3_floorCostWithout 23 = .ok (.aload_n 0, 1) := by decide +kernel
theorem dX3_floorCostWithout_24 : decode cX3_floorCostWithout 24 = .ok (.getfield 30, 3) := by decide +kernel
theorem dX3_floorCostWithout_27 : decode cX3_floorCostWithout 27 = .ok (.aload_n 0, 1) := by decide +kernel
theorem dX3_floorCostWithout_28 : decode cX3_floorCostWithout 28 = .ok (.getfield 39, 3) := by decide +kernel
theorem dX3_floorCostWithout_31 : decode cX3_floorCostWithout 31 = .ok (.invokevirtual 200, 3) := by decide +kernel
theorem dX3_floorCostWithout_34 : decode cX3_floorCostWithout 34 = .ok (.aload_n 0, 1) := by decide +kernel
theorem dX3_floorCostWithout_35 : decode cX3_floorCostWithout 35 = .ok (.getfield 36, 3) := by decide +kernel
theorem dX3_floorCostWithout_38 : decode cX3_floorCostWithout 38 = .ok (.aload_n 0, 1) := by decide +kernel
theorem dX3_floorCostWithout_39 : decode cX3_floorCostWithout 39 = .ok (.getfield 33, 3) := by decide +kernel
theorem dX3_floorCostWithout_42 : decode cX3_floorCostWithout 42 = .ok (.aload_n 0, 1) := by decide +kernel
theorem dX3_floorCostWithout_43 : decode cX3_floorCostWithout 43 = .ok (.getfield 43, 3) := by decide +kernel
theorem dX3_floorCostWithout_46 : decode cX3_floorCostWithout 46 = .ok (.invokevirtual 204, 3) := by decide +kernel
theorem dX3_floorCostWithout_49 : decode cX3_floorCostWithout 49 = .ok (.aload_n 0, 1) := by decide +kernel
theorem dX3_floorCostWithout_50 : decode cX3_floorCostWithout 50 = .ok (.getfield 33, 3) := by decide +kernel
theorem dX3_floorCostWithout_53 : decode cX3_floorCostWithout 53 = .ok (.aload_n 0, 1) := by decide +kernel
theorem dX3_floorCostWithout_54 : decode cX3_floorCostWithout 54 = .ok (.getfield 36, 3) := by decide +kernel
theorem dX3_floorCostWithout_57 : decode cX3_floorCostWithout 57 = .ok (.getfield 135, 3) := by decide +kernel
theorem dX3_floorCostWithout_60 : decode cX3_floorCostWithout 60 = .ok (.invokevirtual 153, 3) := by decide +kernel
theorem dX3_floorCostWithout_63 : decode cX3_floorCostWithout 63 = .ok (.ireturn, 1) := by decide +kernel
theorem dX3_pourings_0 : decode cX3_pourings 0 = .ok (.iconst 0, 1) := by decide +kernel
theorem dX3_pourings_1 : decode cX3_pourings 1 = .ok (.istore_n 1, 1) := by decide +kernel
theorem dX3_pourings_2 : decode cX3_pourings 2 = .ok (.iconst 0, 1) := by decide +kernel
theorem dX3_pourings_3 : decode cX3_pourings 3 = .ok (.istore_n 2, 1) := by decide +kernel
theorem dX3_pourings_4 : decode cX3_pourings 4 = .ok (.iload_n 2, 1) := by decide +kernel
theorem dX3_pourings_5 : decode cX3_pourings 5 = .ok (.aload_n 0, 1) := by decide +kernel
theorem dX3_pourings_6 : decode cX3_pourings 6 = .ok (.getfield 10, 3) := by decide +kernel
theorem dX3_pourings_9 : decode cX3_pourings 9 = .ok (.getfield 66, 3) := by decide +kernel
theorem dX3_pourings_12 : decode cX3_pourings 12 = .ok (.if_icmp .ge 24, 3) := by decide +kernel
theorem dX3_pourings_15 : decode cX3_pourings 15 = .ok (.aload_n 0, 1) := by decide +kernel
theorem dX3_pourings_16 : decode cX3_pourings 16 = .ok (.getfield 10, 3) := by decide +kernel
theorem dX3_pourings_19 : decode cX3_pourings 19 = .ok (.getfield 100, 3) := by decide +kernel
theorem dX3_pourings_22 : decode cX3_pourings 22 = .ok (.iload_n 2, 1) := by decide +kernel
theorem dX3_pourings_23 : decode cX3_pourings 23 = .ok (.baload, 1) := by decide +kernel
theorem dX3_pourings_24 : decode cX3_pourings 24 = .ok (.ifCond .eq 6, 3) := by decide +kernel
theorem dX3_pourings_27 : decode cX3_pourings 27 = .ok (.iinc 1 1, 3) := by decide +kernel
theorem dX3_pourings_30 : decode cX3_pourings 30 = .ok (.iinc 2 1, 3) := by decide +kernel
theorem dX3_pourings_33 : decode cX3_pourings 33 = .ok (.goto (-29), 3) := by decide +kernel
theorem dX3_pourings_36 : decode cX3_pourings 36 = .ok (.iload_n 1, 1) := by decide +kernel
theorem dX3_pourings_37 : decode cX3_pourings 37 = .ok (.ireturn, 1) := by decide +kernel
theorem dX3_pouringsSpared_0 : decode cX3_pouringsSpared 0 = .ok (.iconst 0, 1) := by decide +kernel
theorem dX3_pouringsSpared_1 : decode cX3_pouringsSpared 1 = .ok (.istore_n 1, 1) := by decide +kernel
theorem dX3_pouringsSpared_2 : decode cX3_pouringsSpared 2 = .ok (.iconst 0, 1) := by decide +kernel
theorem dX3_pouringsSpared_3 : decode cX3_pouringsSpared 3 = .ok (.istore_n 2, 1) := by decide +kernel
theorem dX3_pouringsSpared_4 : decode cX3_pouringsSpared 4 = .ok (.iload_n 2, 1) := by decide +kernel
theorem dX3_pouringsSpared_5 : decode cX3_pouringsSpared 5 = .ok (.aload_n 0, 1) := by decide +kernel
theorem dX3_pouringsSpared_6 : decode cX3_pouringsSpared 6 = .ok (.getfield 10, 3) := by decide +kernel
theorem dX3_pouringsSpared_9 : decode cX3_pouringsSpared 9 = .ok (.getfield 66, 3) := by decide +kernel
theorem dX3_pouringsSpared_12 : decode cX3_pouringsSpared 12 = .ok (.if_icmp .ge 20, 3) := by decide +kernel
theorem dX3_pouringsSpared_15 : decode cX3_pouringsSpared 15 = .ok (.aload_n 0, 1) := by decide +kernel
theorem dX3_pouringsSpared_16 : decode cX3_pouringsSpared 16 = .ok (.iload_n 2, 1) := by decide +kernel
theorem dX3_pouringsSpared_17 : decode cX3_pouringsSpared 17 = .ok (.invokevirtual 211, 3) := by decide +kernel
theorem dX3_pouringsSpared_20 : decode cX3_pouringsSpared 20 = .ok (.ifCond .eq 6, 3) := by decide +kernel
theorem dX3_pouringsSpared_23 : decode cX3_pouringsSpared 23 = .ok (.iinc 1 1, 3) := by decide +kernel
theorem dX3_pouringsSpared_26 : decode cX3_pouringsSpared 26 = .ok (.iinc 2 1, 3) := by decide +kernel
theorem dX3_pouringsSpared_29 : decode cX3_pouringsSpared 29 = .ok (.goto (-25), 3) := by decide +kernel
theorem dX3_pouringsSpared_32 : decode cX3_pouringsSpared 32 = .ok (.iload_n 1, 1) := by decide +kernel
theorem dX3_pouringsSpared_33 : decode cX3_pouringsSpared 33 = .ok (.ireturn, 1) := by decide +kernel
theorem dX3_weightsNotSpared_0 : decode cX3_weightsNotSpared 0 = .ok (.iconst 0, 1) := by decide +kernel
theorem dX3_weightsNotSpared_1 : decode cX3_weightsNotSpared 1 = .ok (.istore_n 1, 1) := by decide +kernel
theorem dX3_weightsNotSpared_2 : decode cX3_weightsNotSpared 2 = .ok (.iconst 0, 1) := by decide +kernel
theorem dX3_weightsNotSpared_3 : decode cX3_weightsNotSpared 3 = .ok (.istore_n 2, 1) := by decide +kernel
theorem dX3_weightsNotSpared_4 : decode cX3_weightsNotSpared 4 = .ok (.iload_n 2, 1) := by decide +kernel
theorem dX3_weightsNotSpared_5 : decode cX3_weightsNotSpared 5 = .ok (.aload_n 0, 1) := by decide +kernel
theorem dX3_weightsNotSpared_6 : decode cX3_weightsNotSpared 6 = .ok (.getfield 10, 3) := by decide +kernel
theorem dX3_weightsNotSpared_9 : decode cX3_weightsNotSpared 9 = .ok (.getfield 66, 3) := by decide +kernel
theorem dX3_weightsNotSpared_12 : decode cX3_weightsNotSpared 12 = .ok (.if_icmp .ge 29, 3) := by decide +kernel
theorem dX3_weightsNotSpared_15 : decode cX3_weightsNotSpared 15 = .ok (.aload_n 0, 1) := by decide +kernel
theorem dX3_weightsNotSpared_16 : decode cX3_weightsNotSpared 16 = .ok (.iload_n 2, 1) := by decide +kernel
theorem dX3_weightsNotSpared_17 : decode cX3_weightsNotSpared 17 = .ok (.invokevirtual 211, 3) := by decide +kernel
theorem dX3_weightsNotSpared_20 : decode cX3_weightsNotSpared 20 = .ok (.ifCond .ne 15, 3) := by decide +kernel
theorem dX3_weightsNotSpared_23 : decode cX3_weightsNotSpared 23 = .ok (.iload_n 1, 1) := by decide +kernel
theorem dX3_weightsNotSpared_24 : decode cX3_weightsNotSpared 24 = .ok (.aload_n 0, 1) := by decide +kernel
theorem dX3_weightsNotSpared_25 : decode cX3_weightsNotSpared 25 = .ok (.getfield 10, 3) := by decide +kernel
theorem dX3_weightsNotSpared_28 : decode cX3_weightsNotSpared 28 = .ok (.getfield 97, 3) := by decide +kernel
theorem dX3_weightsNotSpared_31 : decode cX3_weightsNotSpared 31 = .ok (.iload_n 2, 1) := by decide +kernel
theorem dX3_weightsNotSpared_32 : decode cX3_weightsNotSpared 32 = .ok (.iaload, 1) := by decide +kernel
theorem dX3_weightsNotSpared_33 : decode cX3_weightsNotSpared 33 = .ok (.iadd, 1) := by decide +kernel
theorem dX3_weightsNotSpared_34 : decode cX3_weightsNotSpared 34 = .ok (.istore_n 1, 1) := by decide +kernel
theorem dX3_weightsNotSpared_35 : decode cX3_weightsNotSpared 35 = .ok (.iinc 2 1, 3) := by decide +kernel
theorem dX3_weightsNotSpared_38 : decode cX3_weightsNotSpared 38 = .ok (.goto (-34), 3) := by decide +kernel
theorem dX3_weightsNotSpared_41 : decode cX3_weightsNotSpared 41 = .ok (.iload_n 1, 1) := by decide +kernel
theorem dX3_weightsNotSpared_42 : decode cX3_weightsNotSpared 42 = .ok (.ireturn, 1) := by decide +kernel
theorem dX3_isSpared_0 : decode cX3_isSpared 0 = .ok (.aload_n 0, 1) := by decide +kernel
theorem dX3_isSpared_1 : decode cX3_isSpared 1 = .ok (.getfield 10, 3) := by decide +kernel
theorem dX3_isSpared_4 : decode cX3_isSpared 4 = .ok (.getfield 100, 3) := by decide +kernel
theorem dX3_isSpared_7 : decode cX3_isSpared 7 = .ok (.iload_n 1, 1) := by decide +kernel
theorem dX3_isSpared_8 : decode cX3_isSpared 8 = .ok (.baload, 1) := by decide +kernel
theorem dX3_isSpared_9 : decode cX3_isSpared 9 = .ok (.ifCond .eq 35, 3) := by decide +kernel
theorem dX3_isSpared_12 : decode cX3_isSpared 12 = .ok (.aload_n 0, 1) := by decide +kernel
theorem dX3_isSpared_13 : decode cX3_isSpared 13 = .ok (.getfield 26, 3) := by decide +kernel
theorem dX3_isSpared_16 : decode cX3_isSpared 16 = .ok (.aload_n 0, 1) := by decide +kernel
theorem dX3_isSpared_17 : decode cX3_isSpared 17 = .ok (.getfield 10, 3) := by decide +kernel
theorem dX3_isSpared_20 : decode cX3_isSpared 20 = .ok (.getfield 87, 3) := by decide +kernel
theorem dX3_isSpared_23 : decode cX3_isSpared 23 = .ok (.iload_n 1, 1) := by decide +kernel
theorem dX3_isSpared_24 : decode cX3_isSpared 24 = .ok (.iaload, 1) := by decide +kernel
theorem dX3_isSpared_25 : decode cX3_isSpared 25 = .ok (.aload_n 0, 1) := by decide +kernel
theorem dX3_isSpared_26 : decode cX3_isSpared 26 = .ok (.getfield 10, 3) := by decide +kernel
theorem dX3_isSpared_29 : decode cX3_isSpared 29 = .ok (.getfield 91, 3) := by decide +kernel
theorem dX3_isSpared_32 : decode cX3_isSpared 32 = .ok (.iload_n 1, 1) := by decide +kernel
theorem dX3_isSpared_33 : decode cX3_isSpared 33 = .ok (.iaload, 1) := by decide +kernel
theorem dX3_isSpared_34 : decode cX3_isSpared 34 = .ok (.invokevirtual 215, 3) := by decide +kernel
theorem dX3_isSpared_37 : decode cX3_isSpared 37 = .ok (.ifCond .eq 7, 3) := by decide +kernel
theorem dX3_isSpared_40 : decode cX3_isSpared 40 = .ok (.iconst 1, 1) := by decide +kernel
theorem dX3_isSpared_41 : decode cX3_isSpared 41 = .ok (.goto 4, 3) := by decide +kernel
theorem dX3_isSpared_44 : decode cX3_isSpared 44 = .ok (.iconst 0, 1) := by decide +kernel
theorem dX3_isSpared_45 : decode cX3_isSpared 45 = .ok (.ireturn, 1) := by decide +kernel
theorem dX3_requireDeed_0 : decode cX3_requireDeed 0 = .ok (.iload_n 1, 1) := by decide +kernel
theorem dX3_requireDeed_1 : decode cX3_requireDeed 1 = .ok (.ifCond .lt 14, 3) := by decide +kernel
theorem dX3_requireDeed_4 : decode cX3_requireDeed 4 = .ok (.iload_n 1, 1) := by decide +kernel
theorem dX3_requireDeed_5 : decode cX3_requireDeed 5 = .ok (.aload_n 0, 1) := by decide +kernel
theorem dX3_requireDeed_6 : decode cX3_requireDeed 6 = .ok (.getfield 10, 3) := by decide +kernel
theorem dX3_requireDeed_9 : decode cX3_requireDeed 9 = .ok (.getfield 66, 3) := by decide +kernel
theorem dX3_requireDeed_12 : decode cX3_requireDeed 12 = .ok (.if_icmp .lt 13, 3) := by decide +kernel
theorem dX3_requireDeed_15 : decode cX3_requireDeed 15 = .ok (.new 115, 3) := by decide +kernel
theorem dX3_requireDeed_18 : decode cX3_requireDeed 18 = .ok (.dup, 1) := by decide +kernel
theorem dX3_requireDeed_19 : decode cX3_requireDeed 19 = .ok (.ldc 218, 2) := by decide +kernel
theorem dX3_requireDeed_21 : decode cX3_requireDeed 21 = .ok (.invokespecial 119, 3) := by decide +kernel
theorem dX3_requireDeed_24 : decode cX3_requireDeed 24 = .ok (.athrow, 1) := by decide +kernel
theorem dX3_requireDeed_25 : decode cX3_requireDeed 25 = .ok (.return_, 1) := by decide +kernel
theorem dX3_requirePot_0 : decode cX3_requirePot 0 = .ok (.iload_n 0, 1) := by decide +kernel
theorem dX3_requirePot_1 : decode cX3_requirePot 1 = .ok (.invokestatic 220, 3) := by decide +kernel
theorem dX3_requirePot_4 : decode cX3_requirePot 4 = .ok (.ifCond .ne 13, 3) := by decide +kernel
theorem dX3_requirePot_7 : decode cX3_requirePot 7 = .ok (.new 115, 3) := by decide +kernel
theorem dX3_requirePot_10 : decode cX3_requirePot 10 = .ok (.dup, 1) := by decide +kernel
theorem dX3_requirePot_11 : decode cX3_requirePot 11 = .ok (.ldc 223, 2) := by decide +kernel
theorem dX3_requirePot_13 : decode cX3_requirePot 13 = .ok (.invokespecial 119, 3) := by decide +kernel
theorem dX3_requirePot_16 : decode cX3_requirePot 16 = .ok (.athrow, 1) := by decide +kernel
theorem dX3_requirePot_17 : decode cX3_requirePot 17 = .ok (.return_, 1) := by decide +kernel
theorem dX3_requirePotOrNone_0 : decode cX3_requirePotOrNone 0 = .ok (.iload_n 0, 1) := by decide +kernel
theorem dX3_requirePotOrNone_1 : decode cX3_requirePotOrNone 1 = .ok (.iconst (-1), 1) := by decide +kernel
theorem dX3_requirePotOrNone_2 : decode cX3_requirePotOrNone 2 = .ok (.if_icmp .eq 20, 3) := by decide +kernel
theorem dX3_requirePotOrNone_5 : decode cX3_requirePotOrNone 5 = .ok (.iload_n 0, 1) := by decide +kernel
theorem dX3_requirePotOrNone_6 : decode cX3_requirePotOrNone 6 = .ok (.invokestatic 220, 3) := by decide +kernel
theorem dX3_requirePotOrNone_9 : decode cX3_requirePotOrNone 9 = .ok (.ifCond .ne 13, 3) := by decide +kernel
theorem dX3_requirePotOrNone_12 : decode cX3_requirePotOrNone 12 = .ok (.new 115, 3) := by decide +kernel
theorem dX3_requirePotOrNone_15 : decode cX3_requirePotOrNone 15 = .ok (.dup, 1) := by decide +kernel
theorem dX3_requirePotOrNone_16 : decode cX3_requirePotOrNone 16 = .ok (.ldc 225, 2) := by decide +kernel
theorem dX3_requirePotOrNone_18 : decode cX3_requirePotOrNone 18 = .ok (.invokespecial 119, 3) := by decide +kernel
theorem dX3_requirePotOrNone_21 : decode cX3_requirePotOrNone 21 = .ok (.athrow, 1) := by decide +kernel
theorem dX3_requirePotOrNone_22 : decode cX3_requirePotOrNone 22 = .ok (.return_, 1) := by decide +kernel
theorem dX3_requireWeight_0 : decode cX3_requireWeight 0 = .ok (.iload_n 0, 1) := by decide +kernel
theorem dX3_requireWeight_1 : decode cX3_requireWeight 1 = .ok (.iconst 1, 1) := by decide +kernel
theorem dX3_requireWeight_2 : decode cX3_requireWeight 2 = .ok (.if_icmp .lt 9, 3) := by decide +kernel
theorem dX3_requireWeight_5 : decode cX3_requireWeight 5 = .ok (.iload_n 0, 1) := by decide +kernel
theorem dX3_requireWeight_6 : decode cX3_requireWeight 6 = .ok (.bipush 9, 2) := by decide +kernel
theorem dX3_requireWeight_8 : decode cX3_requireWeight 8 = .ok (.if_icmp .le 13, 3) := by decide +kernel
theorem dX3_requireWeight_11 : decode cX3_requireWeight 11 = .ok (.new 77, 3) := by decide +kernel
theorem dX3_requireWeight_14 : decode cX3_requireWeight 14 = .ok (.dup, 1) := by decide +kernel
theorem dX3_requireWeight_15 : decode cX3_requireWeight 15 = .ok (.ldc 227, 2) := by decide +kernel
theorem dX3_requireWeight_17 : decode cX3_requireWeight 17 = .ok (.invokespecial 81, 3) := by decide +kernel
theorem dX3_requireWeight_20 : decode cX3_requireWeight 20 = .ok (.athrow, 1) := by decide +kernel
theorem dX3_requireWeight_21 : decode cX3_requireWeight 21 = .ok (.return_, 1) := by decide +kernel
theorem dX3_isPot_0 : decode cX3_isPot 0 = .ok (.iload_n 0, 1) := by decide +kernel
theorem dX3_isPot_1 : decode cX3_isPot 1 = .ok (.ifCond .lt 13, 3) := by decide +kernel
theorem dX3_isPot_4 : decode cX3_isPot 4 = .ok (.iload_n 0, 1) := by decide +kernel
theorem dX3_isPot_5 : decode cX3_isPot 5 = .ok (.bipush 16, 2) := by decide +kernel
theorem dX3_isPot_7 : decode cX3_isPot 7 = .ok (.if_icmp .ge 7, 3) := by decide +kernel
theorem dX3_isPot_10 : decode cX3_isPot 10 = .ok (.iconst 1, 1) := by decide +kernel
theorem dX3_isPot_11 : decode cX3_isPot 11 = .ok (.goto 4, 3) := by decide +kernel
theorem dX3_isPot_14 : decode cX3_isPot 14 = .ok (.iconst 0, 1) := by decide +kernel
theorem dX3_isPot_15 : decode cX3_isPot 15 = .ok (.ireturn, 1) := by decide +kernel
theorem dX3_bit_0 : decode cX3_bit 0 = .ok (.iload_n 0, 1) := by decide +kernel
theorem dX3_bit_1 : decode cX3_bit 1 = .ok (.invokestatic 220, 3) := by decide +kernel
theorem dX3_bit_4 : decode cX3_bit 4 = .ok (.ifCond .eq 9, 3) := by decide +kernel
theorem dX3_bit_7 : decode cX3_bit 7 = .ok (.iconst 1, 1) := by decide +kernel
theorem dX3_bit_8 : decode cX3_bit 8 = .ok (.iload_n 0, 1) := by decide +kernel
theorem dX3_bit_9 : decode cX3_bit 9 = .ok (.ishl, 1) := by decide +kernel
theorem dX3_bit_10 : decode cX3_bit 10 = .ok (.goto 4, 3) := by decide +kernel
theorem dX3_bit_13 : decode cX3_bit 13 = .ok (.iconst 0, 1) := by decide +kernel
theorem dX3_bit_14 : decode cX3_bit 14 = .ok (.ireturn, 1) := by decide +kernel
theorem dX3_has_0 : decode cX3_has 0 = .ok (.iload_n 1, 1) := by decide +kernel
theorem dX3_has_1 : decode cX3_has 1 = .ok (.invokestatic 220, 3) := by decide +kernel
theorem dX3_has_4 : decode cX3_has 4 = .ok (.ifCond .eq 15, 3) := by decide +kernel
theorem dX3_has_7 : decode cX3_has 7 = .ok (.iload_n 0, 1) := by decide +kernel
theorem dX3_has_8 : decode cX3_has 8 = .ok (.iload_n 1, 1) := by decide +kernel
theorem dX3_has_9 : decode cX3_has 9 = .ok (.ishr, 1) := by decide +kernel
theorem dX3_has_10 : decode cX3_has 10 = .ok (.iconst 1, 1) := by decide +kernel
theorem dX3_has_11 : decode cX3_has 11 = .ok (.iand, 1) := by decide +kernel
theorem dX3_has_12 : decode cX3_has 12 = .ok (.ifCond .eq 7, 3) := by decide +kernel
theorem dX3_has_15 : decode cX3_has 15 = .ok (.iconst 1, 1) := by decide +kernel
theorem dX3_has_16 : decode cX3_has 16 = .ok (.goto 4, 3) := by decide +kernel
theorem dX3_has_19 : decode cX3_has 19 = .ok (.iconst 0, 1) := by decide +kernel
theorem dX3_has_20 : decode cX3_has 20 = .ok (.ireturn, 1) := by decide +kernel
theorem dJ6_bitCount_0f7a4_0 : decode cJ6_bitCount_0f7a4 0 = .ok (.iload_n 0, 1) := by decide +kernel
theorem dJ6_bitCount_0f7a4_1 : decode cJ6_bitCount_0f7a4 1 = .ok (.iload_n 0, 1) := by decide +kernel
theorem dJ6_bitCount_0f7a4_2 : decode cJ6_bitCount_0f7a4 2 = .ok (.iconst 1, 1) := by decide +kernel
theorem dJ6_bitCount_0f7a4_3 : decode cJ6_bitCount_0f7a4 3 = .ok (.iushr, 1) := by decide +kernel
theorem dJ6_bitCount_0f7a4_4 : decode cJ6_bitCount_0f7a4 4 = .ok (.ldc_w 265, 3) := by decide +kernel
theorem dJ6_bitCount_0f7a4_7 : decode cJ6_bitCount_0f7a4 7 = .ok (.iand, 1) := by decide +kernel
theorem dJ6_bitCount_0f7a4_8 : decode cJ6_bitCount_0f7a4 8 = .ok (.isub, 1) := by decide +kernel
theorem dJ6_bitCount_0f7a4_9 : decode cJ6_bitCount_0f7a4 9 = .ok (.istore_n 0, 1) := by decide +kernel
theorem dJ6_bitCount_0f7a4_10 : decode cJ6_bitCount_0f7a4 10 = .ok (.iload_n 0, 1) := by decide +kernel
theorem dJ6_bitCount_0f7a4_11 : decode cJ6_bitCount_0f7a4 11 = .ok (.ldc_w 266, 3) := by decide +kernel
theorem dJ6_bitCount_0f7a4_14 : decode cJ6_bitCount_0f7a4 14 = .ok (.iand, 1) := by decide +kernel
theorem dJ6_bitCount_0f7a4_15 : decode cJ6_bitCount_0f7a4 15 = .ok (.iload_n 0, 1) := by decide +kernel
theorem dJ6_bitCount_0f7a4_16 : decode cJ6_bitCount_0f7a4 16 = .ok (.iconst 2, 1) := by decide +kernel
theorem dJ6_bitCount_0f7a4_17 : decode cJ6_bitCount_0f7a4 17 = .ok (.iushr, 1) := by decide +kernel
theorem dJ6_bitCount_0f7a4_18 : decode cJ6_bitCount_0f7a4 18 = .ok (.ldc_w 266, 3) := by decide +kernel
theorem dJ6_bitCount_0f7a4_21 : decode cJ6_bitCount_0f7a4 21 = .ok (.iand, 1) := by decide +kernel
theorem dJ6_bitCount_0f7a4_22 : decode cJ6_bitCount_0f7a4 22 = .ok (.iadd, 1) := by decide +kernel
theorem dJ6_bitCount_0f7a4_23 : decode cJ6_bitCount_0f7a4 23 = .ok (.istore_n 0, 1) := by decide +kernel
theorem dJ6_bitCount_0f7a4_24 : decode cJ6_bitCount_0f7a4 24 = .ok (.iload_n 0, 1) := by decide +kernel
theorem dJ6_bitCount_0f7a4_25 : decode cJ6_bitCount_0f7a4 25 = .ok (.iload_n 0, 1) := by decide +kernel
theorem dJ6_bitCount_0f7a4_26 : decode cJ6_bitCount_0f7a4 26 = .ok (.iconst 4, 1) := by decide +kernel
theorem dJ6_bitCount_0f7a4_27 : decode cJ6_bitCount_0f7a4 27 = .ok (.iushr, 1) := by decide +kernel
theorem dJ6_bitCount_0f7a4_28 : decode cJ6_bitCount_0f7a4 28 = .ok (.iadd, 1) := by decide +kernel
theorem dJ6_bitCount_0f7a4_29 : decode cJ6_bitCount_0f7a4 29 = .ok (.ldc_w 267, 3) := by decide +kernel
theorem dJ6_bitCount_0f7a4_32 : decode cJ6_bitCount_0f7a4 32 = .ok (.iand, 1) := by decide +kernel
theorem dJ6_bitCount_0f7a4_33 : decode cJ6_bitCount_0f7a4 33 = .ok (.istore_n 0, 1) := by decide +kernel
theorem dJ6_bitCount_0f7a4_34 : decode cJ6_bitCount_0f7a4 34 = .ok (.iload_n 0, 1) := by decide +kernel
theorem dJ6_bitCount_0f7a4_35 : decode cJ6_bitCount_0f7a4 35 = .ok (.iload_n 0, 1) := by decide +kernel
theorem dJ6_bitCount_0f7a4_36 : decode cJ6_bitCount_0f7a4 36 = .ok (.bipush 8, 2) := by decide +kernel
theorem dJ6_bitCount_0f7a4_38 : decode cJ6_bitCount_0f7a4 38 = .ok (.iushr, 1) := by decide +kernel
theorem dJ6_bitCount_0f7a4_39 : decode cJ6_bitCount_0f7a4 39 = .ok (.iadd, 1) := by decide +kernel
theorem dJ6_bitCount_0f7a4_40 : decode cJ6_bitCount_0f7a4 40 = .ok (.istore_n 0, 1) := by decide +kernel
theorem dJ6_bitCount_0f7a4_41 : decode cJ6_bitCount_0f7a4 41 = .ok (.iload_n 0, 1) := by decide +kernel
theorem dJ6_bitCount_0f7a4_42 : decode cJ6_bitCount_0f7a4 42 = .ok (.iload_n 0, 1) := by decide +kernel
theorem dJ6_bitCount_0f7a4_43 : decode cJ6_bitCount_0f7a4 43 = .ok (.bipush 16, 2) := by decide +kernel
theorem dJ6_bitCount_0f7a4_45 : decode cJ6_bitCount_0f7a4 45 = .ok (.iushr, 1) := by decide +kernel
theorem dJ6_bitCount_0f7a4_46 : decode cJ6_bitCount_0f7a4 46 = .ok (.iadd, 1) := by decide +kernel
theorem dJ6_bitCount_0f7a4_47 : decode cJ6_bitCount_0f7a4 47 = .ok (.istore_n 0, 1) := by decide +kernel
theorem dJ6_bitCount_0f7a4_48 : decode cJ6_bitCount_0f7a4 48 = .ok (.iload_n 0, 1) := by decide +kernel
theorem dJ6_bitCount_0f7a4_49 : decode cJ6_bitCount_0f7a4 49 = .ok (.bipush 63, 2) := by decide +kernel
theorem dJ6_bitCount_0f7a4_51 : decode cJ6_bitCount_0f7a4 51 = .ok (.iand, 1) := by decide +kernel
theorem dJ6_bitCount_0f7a4_52 : decode cJ6_bitCount_0f7a4 52 = .ok (.ireturn, 1) := by decide +kernel
theorem dJ9_max_7cf53_0 : decode cJ9_max_7cf53 0 = .ok (.iload_n 0, 1) := by decide +kernel
theorem dJ9_max_7cf53_1 : decode cJ9_max_7cf53 1 = .ok (.iload_n 1, 1) := by decide +kernel
theorem dJ9_max_7cf53_2 : decode cJ9_max_7cf53 2 = .ok (.if_icmp .lt 7, 3) := by decide +kernel
theorem dJ9_max_7cf53_5 : decode cJ9_max_7cf53 5 = .ok (.iload_n 0, 1) := by decide +kernel
theorem dJ9_max_7cf53_6 : decode cJ9_max_7cf53 6 = .ok (.goto 4, 3) := by decide +kernel
theorem dJ9_max_7cf53_9 : decode cJ9_max_7cf53 9 = .ok (.iload_n 1, 1) := by decide +kernel
theorem dJ9_max_7cf53_10 : decode cJ9_max_7cf53 10 = .ok (.ireturn, 1) := by decide +kernel
theorem dJ7_fill_53178_0 : decode cJ7_fill_53178 0 = .ok (.iconst 0, 1) := by decide +kernel
theorem dJ7_fill_53178_1 : decode cJ7_fill_53178 1 = .ok (.istore_n 2, 1) := by decide +kernel
theorem dJ7_fill_53178_2 : decode cJ7_fill_53178 2 = .ok (.aload_n 0, 1) := by decide +kernel
theorem dJ7_fill_53178_3 : decode cJ7_fill_53178 3 = .ok (.arraylength, 1) := by decide +kernel
theorem dJ7_fill_53178_4 : decode cJ7_fill_53178 4 = .ok (.istore_n 3, 1) := by decide +kernel
theorem dJ7_fill_53178_5 : decode cJ7_fill_53178 5 = .ok (.iload_n 2, 1) := by decide +kernel
theorem dJ7_fill_53178_6 : decode cJ7_fill_53178 6 = .ok (.iload_n 3, 1) := by decide +kernel
theorem dJ7_fill_53178_7 : decode cJ7_fill_53178 7 = .ok (.if_icmp .ge 13, 3) := by decide +kernel
theorem dJ7_fill_53178_10 : decode cJ7_fill_53178 10 = .ok (.aload_n 0, 1) := by decide +kernel
theorem dJ7_fill_53178_11 : decode cJ7_fill_53178 11 = .ok (.iload_n 2, 1) := by decide +kernel
theorem dJ7_fill_53178_12 : decode cJ7_fill_53178 12 = .ok (.iload_n 1, 1) := by decide +kernel
theorem dJ7_fill_53178_13 : decode cJ7_fill_53178 13 = .ok (.iastore, 1) := by decide +kernel
theorem dJ7_fill_53178_14 : decode cJ7_fill_53178 14 = .ok (.iinc 2 1, 3) := by decide +kernel
theorem dJ7_fill_53178_17 : decode cJ7_fill_53178 17 = .ok (.goto (-12), 3) := by decide +kernel
theorem dJ7_fill_53178_20 : decode cJ7_fill_53178 20 = .ok (.return_, 1) := by decide +kernel
theorem dL_cook_0 : decode cL_cook 0 = .ok (.aload 5, 2) := by decide +kernel
theorem dL_cook_2 : decode cL_cook 2 = .ok (.iconst 0, 1) := by decide +kernel
theorem dL_cook_3 : decode cL_cook 3 = .ok (.aload_n 0, 1) := by decide +kernel
theorem dL_cook_4 : decode cL_cook 4 = .ok (.iload_n 1, 1) := by decide +kernel
theorem dL_cook_5 : decode cL_cook 5 = .ok (.iload_n 2, 1) := by decide +kernel
theorem dL_cook_6 : decode cL_cook 6 = .ok (.iload_n 3, 1) := by decide +kernel
theorem dL_cook_7 : decode cL_cook 7 = .ok (.iload 4, 2) := by decide +kernel
theorem dL_cook_9 : decode cL_cook 9 = .ok (.invokevirtual 7, 3) := by decide +kernel
theorem dL_cook_12 : decode cL_cook 12 = .ok (.i2l, 1) := by decide +kernel
theorem dL_cook_13 : decode cL_cook 13 = .ok (.lastore, 1) := by decide +kernel
theorem dL_cook_14 : decode cL_cook 14 = .ok (.goto 15, 3) := by decide +kernel
theorem dL_cook_17 : decode cL_cook 17 = .ok (.astore 6, 2) := by decide +kernel
theorem dL_cook_19 : decode cL_cook 19 = .ok (.iconst 1, 1) := by decide +kernel
theorem dL_cook_20 : decode cL_cook 20 = .ok (.ireturn, 1) := by decide +kernel
theorem dL_cook_21 : decode cL_cook 21 = .ok (.astore 6, 2) := by decide +kernel
theorem dL_cook_23 : decode cL_cook 23 = .ok (.iconst 2, 1) := by decide +kernel
theorem dL_cook_24 : decode cL_cook 24 = .ok (.ireturn, 1) := by decide +kernel
theorem dL_cook_25 : decode cL_cook 25 = .ok (.astore 6, 2) := by decide +kernel
theorem dL_cook_27 : decode cL_cook 27 = .ok (.iconst 3, 1) := by decide +kernel
theorem dL_cook_28 : decode cL_cook 28 = .ok (.ireturn, 1) := by decide +kernel
theorem dL_cook_29 : decode cL_cook 29 = .ok (.iconst 0, 1) := by decide +kernel
theorem dL_cook_30 : decode cL_cook 30 = .ok (.ireturn, 1) := by decide +kernel
theorem dL_pour_0 : decode cL_pour 0 = .ok (.aload 4, 2) := by decide +kernel
theorem dL_pour_2 : decode cL_pour 2 = .ok (.iconst 0, 1) := by decide +kernel
theorem dL_pour_3 : decode cL_pour 3 = .ok (.aload_n 0, 1) := by decide +kernel
theorem dL_pour_4 : decode cL_pour 4 = .ok (.iload_n 1, 1) := by decide +kernel
theorem dL_pour_5 : decode cL_pour 5 = .ok (.iload_n 2, 1) := by decide +kernel
theorem dL_pour_6 : decode cL_pour 6 = .ok (.iload_n 3, 1) := by decide +kernel
theorem dL_pour_7 : decode cL_pour 7 = .ok (.invokevirtual 19, 3) := by decide +kernel
theorem dL_pour_10 : decode cL_pour 10 = .ok (.i2l, 1) := by decide +kernel
theorem dL_pour_11 : decode cL_pour 11 = .ok (.lastore, 1) := by decide +kernel
theorem dL_pour_12 : decode cL_pour 12 = .ok (.goto 15, 3) := by decide +kernel
theorem dL_pour_15 : decode cL_pour 15 = .ok (.astore 5, 2) := by decide +kernel
theorem dL_pour_17 : decode cL_pour 17 = .ok (.iconst 1, 1) := by decide +kernel
theorem dL_pour_18 : decode cL_pour 18 = .ok (.ireturn, 1) := by decide +kernel
theorem dL_pour_19 : decode cL_pour 19 = .ok (.astore 5, 2) := by decide +kernel
theorem dL_pour_21 : decode cL_pour 21 = .ok (.iconst 2, 1) := by decide +kernel
theorem dL_pour_22 : decode cL_pour 22 = .ok (.ireturn, 1) := by decide +kernel
theorem dL_pour_23 : decode cL_pour 23 = .ok (.astore 5, 2) := by decide +kernel
theorem dL_pour_25 : decode cL_pour 25 = .ok (.iconst 3, 1) := by decide +kernel
theorem dL_pour_26 : decode cL_pour 26 = .ok (.ireturn, 1) := by decide +kernel
theorem dL_pour_27 : decode cL_pour 27 = .ok (.iconst 0, 1) := by decide +kernel
theorem dL_pour_28 : decode cL_pour 28 = .ok (.ireturn, 1) := by decide +kernel
theorem dL_drop_0 : decode cL_drop 0 = .ok (.aload_n 2, 1) := by decide +kernel
theorem dL_drop_1 : decode cL_drop 1 = .ok (.iconst 0, 1) := by decide +kernel
theorem dL_drop_2 : decode cL_drop 2 = .ok (.aload_n 0, 1) := by decide +kernel
theorem dL_drop_3 : decode cL_drop 3 = .ok (.iload_n 1, 1) := by decide +kernel
theorem dL_drop_4 : decode cL_drop 4 = .ok (.invokevirtual 23, 3) := by decide +kernel
theorem dL_drop_7 : decode cL_drop 7 = .ok (.i2l, 1) := by decide +kernel
theorem dL_drop_8 : decode cL_drop 8 = .ok (.lastore, 1) := by decide +kernel
theorem dL_drop_9 : decode cL_drop 9 = .ok (.goto 6, 3) := by decide +kernel
theorem dL_drop_12 : decode cL_drop 12 = .ok (.astore_n 3, 1) := by decide +kernel
theorem dL_drop_13 : decode cL_drop 13 = .ok (.iconst 1, 1) := by decide +kernel
theorem dL_drop_14 : decode cL_drop 14 = .ok (.ireturn, 1) := by decide +kernel
theorem dL_drop_15 : decode cL_drop 15 = .ok (.iconst 0, 1) := by decide +kernel
theorem dL_drop_16 : decode cL_drop 16 = .ok (.ireturn, 1) := by decide +kernel
theorem dL_want_0 : decode cL_want 0 = .ok (.aload_n 3, 1) := by decide +kernel
theorem dL_want_1 : decode cL_want 1 = .ok (.iconst 0, 1) := by decide +kernel
theorem dL_want_2 : decode cL_want 2 = .ok (.aload_n 0, 1) := by decide +kernel
theorem dL_want_3 : decode cL_want 3 = .ok (.iload_n 1, 1) := by decide +kernel
theorem dL_want_4 : decode cL_want 4 = .ok (.iload_n 2, 1) := by decide +kernel
theorem dL_want_5 : decode cL_want 5 = .ok (.invokevirtual 27, 3) := by decide +kernel
theorem dL_want_8 : decode cL_want 8 = .ok (.ifCond .eq 7, 3) := by decide +kernel
theorem dL_want_11 : decode cL_want 11 = .ok (.lconst 1, 1) := by decide +kernel
theorem dL_want_12 : decode cL_want 12 = .ok (.goto 4, 3) := by decide +kernel
theorem dL_want_15 : decode cL_want 15 = .ok (.lconst 0, 1) := by decide +kernel
theorem dL_want_16 : decode cL_want 16 = .ok (.lastore, 1) := by decide +kernel
theorem dL_want_17 : decode cL_want 17 = .ok (.goto 7, 3) := by decide +kernel
theorem dL_want_20 : decode cL_want 20 = .ok (.astore 4, 2) := by decide +kernel
theorem dL_want_22 : decode cL_want 22 = .ok (.iconst 1, 1) := by decide +kernel
theorem dL_want_23 : decode cL_want 23 = .ok (.ireturn, 1) := by decide +kernel
theorem dL_want_24 : decode cL_want 24 = .ok (.iconst 0, 1) := by decide +kernel
theorem dL_want_25 : decode cL_want 25 = .ok (.ireturn, 1) := by decide +kernel
theorem dL_setHooks_0 : decode cL_setHooks 0 = .ok (.aload_n 2, 1) := by decide +kernel
theorem dL_setHooks_1 : decode cL_setHooks 1 = .ok (.iconst 0, 1) := by decide +kernel
theorem dL_setHooks_2 : decode cL_setHooks 2 = .ok (.aload_n 0, 1) := by decide +kernel
theorem dL_setHooks_3 : decode cL_setHooks 3 = .ok (.iload_n 1, 1) := by decide +kernel
theorem dL_setHooks_4 : decode cL_setHooks 4 = .ok (.invokevirtual 31, 3) := by decide +kernel
theorem dL_setHooks_7 : decode cL_setHooks 7 = .ok (.i2l, 1) := by decide +kernel
theorem dL_setHooks_8 : decode cL_setHooks 8 = .ok (.lastore, 1) := by decide +kernel
theorem dL_setHooks_9 : decode cL_setHooks 9 = .ok (.goto 6, 3) := by decide +kernel
theorem dL_setHooks_12 : decode cL_setHooks 12 = .ok (.astore_n 3, 1) := by decide +kernel
theorem dL_setHooks_13 : decode cL_setHooks 13 = .ok (.iconst 1, 1) := by decide +kernel
theorem dL_setHooks_14 : decode cL_setHooks 14 = .ok (.ireturn, 1) := by decide +kernel
theorem dL_setHooks_15 : decode cL_setHooks 15 = .ok (.iconst 0, 1) := by decide +kernel
theorem dL_setHooks_16 : decode cL_setHooks 16 = .ok (.ireturn, 1) := by decide +kernel
theorem dL_deed_0 : decode cL_deed 0 = .ok (.aload_n 3, 1) := by decide +kernel
theorem dL_deed_1 : decode cL_deed 1 = .ok (.iconst 0, 1) := by decide +kernel
theorem dL_deed_2 : decode cL_deed 2 = .ok (.aload_n 0, 1) := by decide +kernel
theorem dL_deed_3 : decode cL_deed 3 = .ok (.iload_n 1, 1) := by decide +kernel
theorem dL_deed_4 : decode cL_deed 4 = .ok (.iload_n 2, 1) := by decide +kernel
theorem dL_deed_5 : decode cL_deed 5 = .ok (.invokevirtual 34, 3) := by decide +kernel
theorem dL_deed_8 : decode cL_deed 8 = .ok (.i2l, 1) := by decide +kernel
theorem dL_deed_9 : decode cL_deed 9 = .ok (.lastore, 1) := by decide +kernel
theorem dL_deed_10 : decode cL_deed 10 = .ok (.goto 7, 3) := by decide +kernel
theorem dL_deed_13 : decode cL_deed 13 = .ok (.astore 4, 2) := by decide +kernel
theorem dL_deed_15 : decode cL_deed 15 = .ok (.iconst 1, 1) := by decide +kernel
theorem dL_deed_16 : decode cL_deed 16 = .ok (.ireturn, 1) := by decide +kernel
theorem dL_deed_17 : decode cL_deed 17 = .ok (.iconst 0, 1) := by decide +kernel
theorem dL_deed_18 : decode cL_deed 18 = .ok (.ireturn, 1) := by decide +kernel
theorem dL_lives_0 : decode cL_lives 0 = .ok (.aload_n 3, 1) := by decide +kernel
theorem dL_lives_1 : decode cL_lives 1 = .ok (.iconst 0, 1) := by decide +kernel
theorem dL_lives_2 : decode cL_lives 2 = .ok (.aload_n 0, 1) := by decide +kernel
theorem dL_lives_3 : decode cL_lives 3 = .ok (.iload_n 1, 1) := by decide +kernel
theorem dL_lives_4 : decode cL_lives 4 = .ok (.iload_n 2, 1) := by decide +kernel
theorem dL_lives_5 : decode cL_lives 5 = .ok (.invokevirtual 38, 3) := by decide +kernel
theorem dL_lives_8 : decode cL_lives 8 = .ok (.ifCond .eq 7, 3) := by decide +kernel
theorem dL_lives_11 : decode cL_lives 11 = .ok (.lconst 1, 1) := by decide +kernel
theorem dL_lives_12 : decode cL_lives 12 = .ok (.goto 4, 3) := by decide +kernel
theorem dL_lives_15 : decode cL_lives 15 = .ok (.lconst 0, 1) := by decide +kernel
theorem dL_lives_16 : decode cL_lives 16 = .ok (.lastore, 1) := by decide +kernel
theorem dL_lives_17 : decode cL_lives 17 = .ok (.goto 7, 3) := by decide +kernel
theorem dL_lives_20 : decode cL_lives 20 = .ok (.astore 4, 2) := by decide +kernel
theorem dL_lives_22 : decode cL_lives 22 = .ok (.iconst 1, 1) := by decide +kernel
theorem dL_lives_23 : decode cL_lives 23 = .ok (.ireturn, 1) := by decide +kernel
theorem dL_lives_24 : decode cL_lives 24 = .ok (.iconst 0, 1) := by decide +kernel
theorem dL_lives_25 : decode cL_lives 25 = .ok (.ireturn, 1) := by decide +kernel
theorem dL_clash_0 : decode cL_clash 0 = .ok (.aload_n 3, 1) := by decide +kernel
theorem dL_clash_1 : decode cL_clash 1 = .ok (.iconst 0, 1) := by decide +kernel
theorem dL_clash_2 : decode cL_clash 2 = .ok (.aload_n 0, 1) := by decide +kernel
theorem dL_clash_3 : decode cL_clash 3 = .ok (.iload_n 1, 1) := by decide +kernel
theorem dL_clash_4 : decode cL_clash 4 = .ok (.iload_n 2, 1) := by decide +kernel
theorem dL_clash_5 : decode cL_clash 5 = .ok (.invokevirtual 42, 3) := by decide +kernel
theorem dL_clash_8 : decode cL_clash 8 = .ok (.ifCond .eq 7, 3) := by decide +kernel
theorem dL_clash_11 : decode cL_clash 11 = .ok (.lconst 1, 1) := by decide +kernel
theorem dL_clash_12 : decode cL_clash 12 = .ok (.goto 4, 3) := by decide +kernel
theorem dL_clash_15 : decode cL_clash 15 = .ok (.lconst 0, 1) := by decide +kernel
theorem dL_clash_16 : decode cL_clash 16 = .ok (.lastore, 1) := by decide +kernel
theorem dL_clash_17 : decode cL_clash 17 = .ok (.goto 7, 3) := by decide +kernel
theorem dL_clash_20 : decode cL_clash 20 = .ok (.astore 4, 2) := by decide +kernel
theorem dL_clash_22 : decode cL_clash 22 = .ok (.iconst 1, 1) := by decide +kernel
theorem dL_clash_23 : decode cL_clash 23 = .ok (.ireturn, 1) := by decide +kernel
theorem dL_clash_24 : decode cL_clash 24 = .ok (.iconst 0, 1) := by decide +kernel
theorem dL_clash_25 : decode cL_clash 25 = .ok (.ireturn, 1) := by decide +kernel
theorem dL_pot_0 : decode cL_pot 0 = .ok (.aload_n 3, 1) := by decide +kernel
theorem dL_pot_1 : decode cL_pot 1 = .ok (.iconst 0, 1) := by decide +kernel
theorem dL_pot_2 : decode cL_pot 2 = .ok (.aload_n 0, 1) := by decide +kernel
theorem dL_pot_3 : decode cL_pot 3 = .ok (.iload_n 1, 1) := by decide +kernel
theorem dL_pot_4 : decode cL_pot 4 = .ok (.iload_n 2, 1) := by decide +kernel
theorem dL_pot_5 : decode cL_pot 5 = .ok (.invokevirtual 45, 3) := by decide +kernel
theorem dL_pot_8 : decode cL_pot 8 = .ok (.i2l, 1) := by decide +kernel
theorem dL_pot_9 : decode cL_pot 9 = .ok (.lastore, 1) := by decide +kernel
theorem dL_pot_10 : decode cL_pot 10 = .ok (.goto 7, 3) := by decide +kernel
theorem dL_pot_13 : decode cL_pot 13 = .ok (.astore 4, 2) := by decide +kernel
theorem dL_pot_15 : decode cL_pot 15 = .ok (.iconst 1, 1) := by decide +kernel
theorem dL_pot_16 : decode cL_pot 16 = .ok (.ireturn, 1) := by decide +kernel
theorem dL_pot_17 : decode cL_pot 17 = .ok (.iconst 0, 1) := by decide +kernel
theorem dL_pot_18 : decode cL_pot 18 = .ok (.ireturn, 1) := by decide +kernel
theorem dL_count_0 : decode cL_count 0 = .ok (.aload_n 2, 1) := by decide +kernel
theorem dL_count_1 : decode cL_count 1 = .ok (.iconst 0, 1) := by decide +kernel
theorem dL_count_2 : decode cL_count 2 = .ok (.aload_n 0, 1) := by decide +kernel
theorem dL_count_3 : decode cL_count 3 = .ok (.iload_n 1, 1) := by decide +kernel
theorem dL_count_4 : decode cL_count 4 = .ok (.invokevirtual 48, 3) := by decide +kernel
theorem dL_count_7 : decode cL_count 7 = .ok (.i2l, 1) := by decide +kernel
theorem dL_count_8 : decode cL_count 8 = .ok (.lastore, 1) := by decide +kernel
theorem dL_count_9 : decode cL_count 9 = .ok (.goto 6, 3) := by decide +kernel
theorem dL_count_12 : decode cL_count 12 = .ok (.astore_n 3, 1) := by decide +kernel
theorem dL_count_13 : decode cL_count 13 = .ok (.iconst 1, 1) := by decide +kernel
theorem dL_count_14 : decode cL_count 14 = .ok (.ireturn, 1) := by decide +kernel
theorem dL_count_15 : decode cL_count 15 = .ok (.iconst 0, 1) := by decide +kernel
theorem dL_count_16 : decode cL_count 16 = .ok (.ireturn, 1) := by decide +kernel
theorem dL_hangs_0 : decode cL_hangs 0 = .ok (.aload_n 2, 1) := by decide +kernel
theorem dL_hangs_1 : decode cL_hangs 1 = .ok (.iconst 0, 1) := by decide +kernel
theorem dL_hangs_2 : decode cL_hangs 2 = .ok (.aload_n 0, 1) := by decide +kernel
theorem dL_hangs_3 : decode cL_hangs 3 = .ok (.iload_n 1, 1) := by decide +kernel
theorem dL_hangs_4 : decode cL_hangs 4 = .ok (.invokevirtual 51, 3) := by decide +kernel
theorem dL_hangs_7 : decode cL_hangs 7 = .ok (.i2l, 1) := by decide +kernel
theorem dL_hangs_8 : decode cL_hangs 8 = .ok (.lastore, 1) := by decide +kernel
theorem dL_hangs_9 : decode cL_hangs 9 = .ok (.goto 6, 3) := by decide +kernel
theorem dL_hangs_12 : decode cL_hangs 12 = .ok (.astore_n 3, 1) := by decide +kernel
theorem dL_hangs_13 : decode cL_hangs 13 = .ok (.iconst 1, 1) := by decide +kernel
theorem dL_hangs_14 : decode cL_hangs 14 = .ok (.ireturn, 1) := by decide +kernel
theorem dL_hangs_15 : decode cL_hangs 15 = .ok (.iconst 0, 1) := by decide +kernel
theorem dL_hangs_16 : decode cL_hangs 16 = .ok (.ireturn, 1) := by decide +kernel
theorem dL_would_0 : decode cL_would 0 = .ok (.aload_n 2, 1) := by decide +kernel
theorem dL_would_1 : decode cL_would 1 = .ok (.iconst 0, 1) := by decide +kernel
theorem dL_would_2 : decode cL_would 2 = .ok (.aload_n 0, 1) := by decide +kernel
theorem dL_would_3 : decode cL_would 3 = .ok (.iload_n 1, 1) := by decide +kernel
theorem dL_would_4 : decode cL_would 4 = .ok (.invokevirtual 54, 3) := by decide +kernel
theorem dL_would_7 : decode cL_would 7 = .ok (.i2l, 1) := by decide +kernel
theorem dL_would_8 : decode cL_would 8 = .ok (.lastore, 1) := by decide +kernel
theorem dL_would_9 : decode cL_would 9 = .ok (.goto 6, 3) := by decide +kernel
theorem dL_would_12 : decode cL_would 12 = .ok (.astore_n 3, 1) := by decide +kernel
theorem dL_would_13 : decode cL_would 13 = .ok (.iconst 1, 1) := by decide +kernel
theorem dL_would_14 : decode cL_would 14 = .ok (.ireturn, 1) := by decide +kernel
theorem dL_would_15 : decode cL_would 15 = .ok (.iconst 0, 1) := by decide +kernel
theorem dL_would_16 : decode cL_would 16 = .ok (.ireturn, 1) := by decide +kernel
end
section
theorem dX4_init_0 : decode cX4_init 0 = .ok (.aload_n 0, 1) := by decide +kernel
theorem dX4_init_1 : decode cX4_init 1 = .ok (.invokespecial 1, 3) := by decide +kernel
theorem dX4_init_4 : decode cX4_init 4 = .ok (.aload_n 0, 1) := by decide +kernel
theorem dX4_init_5 : decode cX4_init 5 = .ok (.iconst 3, 1) := by decide +kernel
theorem dX4_init_6 : decode cX4_init 6 = .ok (.putfield 7, 3) := by decide +kernel
theorem dX4_init_9 : decode cX4_init 9 = .ok (.aload_n 0, 1) := by decide +kernel
theorem dX4_init_10 : decode cX4_init 10 = .ok (.bipush 30, 2) := by decide +kernel
theorem dX4_init_12 : decode cX4_init 12 = .ok (.newarray .int, 2) := by decide +kernel
theorem dX4_init_14 : decode cX4_init 14 = .ok (.putfield 13, 3) := by decide +kernel
theorem dX4_init_17 : decode cX4_init 17 = .ok (.aload_n 0, 1) := by decide +kernel
theorem dX4_init_18 : decode cX4_init 18 = .ok (.bipush 30, 2) := by decide +kernel
theorem dX4_init_20 : decode cX4_init 20 = .ok (.newarray .int, 2) := by decide +kernel
theorem dX4_init_22 : decode cX4_init 22 = .ok (.putfield 17, 3) := by decide +kernel
theorem dX4_init_25 : decode cX4_init 25 = .ok (.aload_n 0, 1) := by decide +kernel
theorem dX4_init_26 : decode cX4_init 26 = .ok (.bipush 30, 2) := by decide +kernel
theorem dX4_init_28 : decode cX4_init 28 = .ok (.newarray .int, 2) := by decide +kernel
theorem dX4_init_30 : decode cX4_init 30 = .ok (.putfield 20, 3) := by decide +kernel
theorem dX4_init_33 : decode cX4_init 33 = .ok (.aload_n 0, 1) := by decide +kernel
theorem dX4_init_34 : decode cX4_init 34 = .ok (.bipush 30, 2) := by decide +kernel
theorem dX4_init_36 : decode cX4_init 36 = .ok (.newarray .int, 2) := by decide +kernel
theorem dX4_init_38 : decode cX4_init 38 = .ok (.putfield 23, 3) := by decide +kernel
theorem dX4_init_41 : decode cX4_init 41 = .ok (.aload_n 0, 1) := by decide +kernel
theorem dX4_init_42 : decode cX4_init 42 = .ok (.bipush 30, 2) := by decide +kernel
theorem dX4_init_44 : decode cX4_init 44 = .ok (.newarray .int, 2) := by decide +kernel
theorem dX4_init_46 : decode cX4_init 46 = .ok (.putfield 26, 3) := by decide +kernel
theorem dX4_init_49 : decode cX4_init 49 = .ok (.aload_n 0, 1) := by decide +kernel
theorem dX4_init_50 : decode cX4_init 50 = .ok (.iconst (-1), 1) := by decide +kernel
theorem dX4_init_51 : decode cX4_init 51 = .ok (.putfield 29, 3) := by decide +kernel
theorem dX4_init_54 : decode cX4_init 54 = .ok (.aload_n 0, 1) := by decide +kernel
theorem dX4_init_55 : decode cX4_init 55 = .ok (.bipush 30, 2) := by decide +kernel
theorem dX4_init_57 : decode cX4_init 57 = .ok (.newarray .int, 2) := by decide +kernel
theorem dX4_init_59 : decode cX4_init 59 = .ok (.putfield 32, 3) := by decide +kernel
theorem dX4_init_62 : decode cX4_init 62 = .ok (.aload_n 0, 1) := by decide +kernel
theorem dX4_init_63 : decode cX4_init 63 = .ok (.bipush 16, 2) := by decide +kernel
theorem dX4_init_65 : decode cX4_init 65 = .ok (.newarray .int, 2) := by decide +kernel
theorem dX4_init_67 : decode cX4_init 67 = .ok (.putfield 35, 3) := by decide +kernel
theorem dX4_init_70 : decode cX4_init 70 = .ok (.aload_n 0, 1) := by decide +kernel
theorem dX4_init_71 : decode cX4_init 71 = .ok (.bipush 16, 2) := by decide +kernel
theorem dX4_init_73 : decode cX4_init 73 = .ok (.newarray .int, 2) := by decide +kernel
theorem dX4_init_75 : decode cX4_init 75 = .ok (.putfield 38, 3) := by decide +kernel
theorem dX4_init_78 : decode cX4_init 78 = .ok (.aload_n 0, 1) := by decide +kernel
theorem dX4_init_79 : decode cX4_init 79 = .ok (.bipush 16, 2) := by decide +kernel
theorem dX4_init_81 : decode cX4_init 81 = .ok (.newarray .int, 2) := by decide +kernel
theorem dX4_init_83 : decode cX4_init 83 = .ok (.putfield 41, 3) := by decide +kernel
theorem dX4_init_86 : decode cX4_init 86 = .ok (.aload_n 0, 1) := by decide +kernel
theorem dX4_init_87 : decode cX4_init 87 = .ok (.bipush 16, 2) := by decide +kernel
theorem dX4_init_89 : decode cX4_init 89 = .ok (.newarray .int, 2) := by decide +kernel
theorem dX4_init_91 : decode cX4_init 91 = .ok (.putfield 44, 3) := by decide +kernel
theorem dX4_init_94 : decode cX4_init 94 = .ok (.aload_n 0, 1) := by decide +kernel
theorem dX4_init_95 : decode cX4_init 95 = .ok (.bipush 16, 2) := by decide +kernel
theorem dX4_init_97 : decode cX4_init 97 = .ok (.newarray .int, 2) := by decide +kernel
theorem dX4_init_99 : decode cX4_init 99 = .ok (.putfield 47, 3) := by decide +kernel
theorem dX4_init_102 : decode cX4_init 102 = .ok (.return_, 1) := by decide +kernel
theorem dX4_thrown_0 : decode cX4_thrown 0 = .ok (.aload_n 0, 1) := by decide +kernel
theorem dX4_thrown_1 : decode cX4_thrown 1 = .ok (.getfield 50, 3) := by decide +kernel
theorem dX4_thrown_4 : decode cX4_thrown 4 = .ok (.ireturn, 1) := by decide +kernel
theorem dX4_no_0 : decode cX4_no 0 = .ok (.aload_n 0, 1) := by decide +kernel
theorem dX4_no_1 : decode cX4_no 1 = .ok (.iload_n 1, 1) := by decide +kernel
theorem dX4_no_2 : decode cX4_no 2 = .ok (.putfield 50, 3) := by decide +kernel
theorem dX4_no_5 : decode cX4_no 5 = .ok (.iconst 0, 1) := by decide +kernel
theorem dX4_no_6 : decode cX4_no 6 = .ok (.ireturn, 1) := by decide +kernel
theorem dX4_isIn_0 : decode cX4_isIn 0 = .ok (.iload_n 0, 1) := by decide +kernel
theorem dX4_isIn_1 : decode cX4_isIn 1 = .ok (.iload_n 1, 1) := by decide +kernel
theorem dX4_isIn_2 : decode cX4_isIn 2 = .ok (.if_icmp .lt 12, 3) := by decide +kernel
theorem dX4_isIn_5 : decode cX4_isIn 5 = .ok (.iload_n 0, 1) := by decide +kernel
theorem dX4_isIn_6 : decode cX4_isIn 6 = .ok (.iload_n 2, 1) := by decide +kernel
theorem dX4_isIn_7 : decode cX4_isIn 7 = .ok (.if_icmp .gt 7, 3) := by decide +kernel
theorem dX4_isIn_10 : decode cX4_isIn 10 = .ok (.iconst 1, 1) := by decide +kernel
theorem dX4_isIn_11 : decode cX4_isIn 11 = .ok (.goto 4, 3) := by decide +kernel
theorem dX4_isIn_14 : decode cX4_isIn 14 = .ok (.iconst 0, 1) := by decide +kernel
theorem dX4_isIn_15 : decode cX4_isIn 15 = .ok (.ireturn, 1) := by decide +kernel
theorem dX4_isPot_0 : decode cX4_isPot 0 = .ok (.iload_n 0, 1) := by decide +kernel
theorem dX4_isPot_1 : decode cX4_isPot 1 = .ok (.iconst 0, 1) := by decide +kernel
theorem dX4_isPot_2 : decode cX4_isPot 2 = .ok (.bipush 15, 2) := by decide +kernel
theorem dX4_isPot_4 : decode cX4_isPot 4 = .ok (.invokestatic 53, 3) := by decide +kernel
theorem dX4_isPot_7 : decode cX4_isPot 7 = .ok (.ireturn, 1) := by decide +kernel
theorem dX4_isDeed_0 : decode cX4_isDeed 0 = .ok (.iload_n 1, 1) := by decide +kernel
theorem dX4_isDeed_1 : decode cX4_isDeed 1 = .ok (.iconst 0, 1) := by decide +kernel
theorem dX4_isDeed_2 : decode cX4_isDeed 2 = .ok (.aload_n 0, 1) := by decide +kernel
theorem dX4_isDeed_3 : decode cX4_isDeed 3 = .ok (.getfield 57, 3) := by decide +kernel
theorem dX4_isDeed_6 : decode cX4_isDeed 6 = .ok (.iconst 1, 1) := by decide +kernel
theorem dX4_isDeed_7 : decode cX4_isDeed 7 = .ok (.isub, 1) := by decide +kernel
theorem dX4_isDeed_8 : decode cX4_isDeed 8 = .ok (.invokestatic 53, 3) := by decide +kernel
theorem dX4_isDeed_11 : decode cX4_isDeed 11 = .ok (.ireturn, 1) := by decide +kernel
theorem dX4_has_0 : decode cX4_has 0 = .ok (.iload_n 0, 1) := by decide +kernel
theorem dX4_has_1 : decode cX4_has 1 = .ok (.iload_n 1, 1) := by decide +kernel
theorem dX4_has_2 : decode cX4_has 2 = .ok (.ishr, 1) := by decide +kernel
theorem dX4_has_3 : decode cX4_has 3 = .ok (.iconst 1, 1) := by decide +kernel
theorem dX4_has_4 : decode cX4_has 4 = .ok (.iand, 1) := by decide +kernel
theorem dX4_has_5 : decode cX4_has 5 = .ok (.iconst 1, 1) := by decide +kernel
theorem dX4_has_6 : decode cX4_has 6 = .ok (.if_icmp .ne 7, 3) := by decide +kernel
theorem dX4_has_9 : decode cX4_has 9 = .ok (.iconst 1, 1) := by decide +kernel
theorem dX4_has_10 : decode cX4_has 10 = .ok (.goto 4, 3) := by decide +kernel
theorem dX4_has_13 : decode cX4_has 13 = .ok (.iconst 0, 1) := by decide +kernel
theorem dX4_has_14 : decode cX4_has 14 = .ok (.ireturn, 1) := by decide +kernel
theorem dX4_bit_0 : decode cX4_bit 0 = .ok (.iload_n 0, 1) := by decide +kernel
theorem dX4_bit_1 : decode cX4_bit 1 = .ok (.iconst (-1), 1) := by decide +kernel
theorem dX4_bit_2 : decode cX4_bit 2 = .ok (.if_icmp .ne 7, 3) := by decide +kernel
theorem dX4_bit_5 : decode cX4_bit 5 = .ok (.iconst 0, 1) := by decide +kernel
theorem dX4_bit_6 : decode cX4_bit 6 = .ok (.goto 6, 3) := by decide +kernel
theorem dX4_bit_9 : decode cX4_bit 9 = .ok (.iconst 1, 1) := by decide +kernel
theorem dX4_bit_10 : decode cX4_bit 10 = .ok (.iload_n 0, 1) := by decide +kernel
theorem dX4_bit_11 : decode cX4_bit 11 = .ok (.ishl, 1) := by decide +kernel
theorem dX4_bit_12 : decode cX4_bit 12 = .ok (.ireturn, 1) := by decide +kernel
theorem dX4_uses_0 : decode cX4_uses 0 = .ok (.aload_n 0, 1) := by decide +kernel
theorem dX4_uses_1 : decode cX4_uses 1 = .ok (.getfield 17, 3) := by decide +kernel
theorem dX4_uses_4 : decode cX4_uses 4 = .ok (.iload_n 1, 1) := by decide +kernel
theorem dX4_uses_5 : decode cX4_uses 5 = .ok (.iaload, 1) := by decide +kernel
theorem dX4_uses_6 : decode cX4_uses 6 = .ok (.invokestatic 60, 3) := by decide +kernel
theorem dX4_uses_9 : decode cX4_uses 9 = .ok (.aload_n 0, 1) := by decide +kernel
theorem dX4_uses_10 : decode cX4_uses 10 = .ok (.getfield 20, 3) := by decide +kernel
theorem dX4_uses_13 : decode cX4_uses 13 = .ok (.iload_n 1, 1) := by decide +kernel
theorem dX4_uses_14 : decode cX4_uses 14 = .ok (.iaload, 1) := by decide +kernel
theorem dX4_uses_15 : decode cX4_uses 15 = .ok (.invokestatic 60, 3) := by decide +kernel
theorem dX4_uses_18 : decode cX4_uses 18 = .ok (.ior, 1) := by decide +kernel
theorem dX4_uses_19 : decode cX4_uses 19 = .ok (.ireturn, 1) := by decide +kernel
theorem dX4_live_0 : decode cX4_live 0 = .ok (.aload_n 0, 1) := by decide +kernel
theorem dX4_live_1 : decode cX4_live 1 = .ok (.getfield 64, 3) := by decide +kernel
theorem dX4_live_4 : decode cX4_live 4 = .ok (.istore_n 1, 1) := by decide +kernel
theorem dX4_live_5 : decode cX4_live 5 = .ok (.aload_n 0, 1) := by decide +kernel
theorem dX4_live_6 : decode cX4_live 6 = .ok (.aload_n 0, 1) := by decide +kernel
theorem dX4_live_7 : decode cX4_live 7 = .ok (.getfield 64, 3) := by decide +kernel
theorem dX4_live_10 : decode cX4_live 10 = .ok (.putfield 67, 3) := by decide +kernel
theorem dX4_live_13 : decode cX4_live 13 = .ok (.aload_n 0, 1) := by decide +kernel
theorem dX4_live_14 : decode cX4_live 14 = .ok (.getfield 57, 3) := by decide +kernel
theorem dX4_live_17 : decode cX4_live 17 = .ok (.iconst 1, 1) := by decide +kernel
theorem dX4_live_18 : decode cX4_live 18 = .ok (.isub, 1) := by decide +kernel
theorem dX4_live_19 : decode cX4_live 19 = .ok (.istore_n 2, 1) := by decide +kernel
theorem dX4_live_20 : decode cX4_live 20 = .ok (.iload_n 2, 1) := by decide +kernel
theorem dX4_live_21 : decode cX4_live 21 = .ok (.ifCond .lt 71, 3) := by decide +kernel
theorem dX4_live_24 : decode cX4_live 24 = .ok (.aload_n 0, 1) := by decide +kernel
theorem dX4_live_25 : decode cX4_live 25 = .ok (.getfield 32, 3) := by decide +kernel
theorem dX4_live_28 : decode cX4_live 28 = .ok (.iload_n 2, 1) := by decide +kernel
theorem dX4_live_29 : decode cX4_live 29 = .ok (.iload_n 1, 1) := by decide +kernel
theorem dX4_live_30 : decode cX4_live 30 = .ok (.iastore, 1) := by decide +kernel
theorem dX4_live_31 : decode cX4_live 31 = .ok (.iload_n 2, 1) := by decide +kernel
theorem dX4_live_32 : decode cX4_live 32 = .ok (.aload_n 0, 1) := by decide +kernel
theorem dX4_live_33 : decode cX4_live 33 = .ok (.getfield 29, 3) := by decide +kernel
theorem dX4_live_36 : decode cX4_live 36 = .ok (.if_icmp .ne 6, 3) := by decide +kernel
theorem dX4_live_39 : decode cX4_live 39 = .ok (.goto 47, 3) := by decide +kernel
theorem dX4_live_42 : decode cX4_live 42 = .ok (.aload_n 0, 1) := by decide +kernel
theorem dX4_live_43 : decode cX4_live 43 = .ok (.dup, 1) := by decide +kernel
theorem dX4_live_44 : decode cX4_live 44 = .ok (.getfield 67, 3) := by decide +kernel
theorem dX4_live_47 : decode cX4_live 47 = .ok (.aload_n 0, 1) := by decide +kernel
theorem dX4_live_48 : decode cX4_live 48 = .ok (.iload_n 2, 1) := by decide +kernel
theorem dX4_live_49 : decode cX4_live 49 = .ok (.invokevirtual 70, 3) := by decide +kernel
theorem dX4_live_52 : decode cX4_live 52 = .ok (.aload_n 0, 1) := by decide +kernel
theorem dX4_live_53 : decode cX4_live 53 = .ok (.getfield 13, 3) := by decide +kernel
theorem dX4_live_56 : decode cX4_live 56 = .ok (.iload_n 2, 1) := by decide +kernel
theorem dX4_live_57 : decode cX4_live 57 = .ok (.iaload, 1) := by decide +kernel
theorem dX4_live_58 : decode cX4_live 58 = .ok (.invokestatic 60, 3) := by decide +kernel
theorem dX4_live_61 : decode cX4_live 61 = .ok (.ior, 1) := by decide +kernel
theorem dX4_live_62 : decode cX4_live 62 = .ok (.ior, 1) := by decide +kernel
theorem dX4_live_63 : decode cX4_live 63 = .ok (.putfield 67, 3) := by decide +kernel
theorem dX4_live_66 : decode cX4_live 66 = .ok (.aload_n 0, 1) := by decide +kernel
theorem dX4_live_67 : decode cX4_live 67 = .ok (.iload_n 2, 1) := by decide +kernel
theorem dX4_live_68 : decode cX4_live 68 = .ok (.invokevirtual 70, 3) := by decide +kernel
theorem dX4_live_71 : decode cX4_live 71 = .ok (.iload_n 1, 1) := by decide +kernel
theorem dX4_live_72 : decode cX4_live 72 = .ok (.aload_n 0, 1) := by decide +kernel
theorem dX4_live_73 : decode cX4_live 73 = .ok (.getfield 13, 3) := by decide +kernel
theorem dX4_live_76 : decode cX4_live 76 = .ok (.iload_n 2, 1) := by decide +kernel
theorem dX4_live_77 : decode cX4_live 77 = .ok (.iaload, 1) := by decide +kernel
theorem dX4_live_78 : decode cX4_live 78 = .ok (.invokestatic 60, 3) := by decide +kernel
theorem dX4_live_81 : decode cX4_live 81 = .ok (.iconst (-1), 1) := by decide +kernel
theorem dX4_live_82 : decode cX4_live 82 = .ok (.ixor, 1) := by decide +kernel
theorem dX4_live_83 : decode cX4_live 83 = .ok (.iand, 1) := by decide +kernel
theorem dX4_live_84 : decode cX4_live 84 = .ok (.ior, 1) := by decide +kernel
theorem dX4_live_85 : decode cX4_live 85 = .ok (.istore_n 1, 1) := by decide +kernel
theorem dX4_live_86 : decode cX4_live 86 = .ok (.iinc 2 (-1), 3) := by decide +kernel
theorem dX4_live_89 : decode cX4_live 89 = .ok (.goto (-69), 3) := by decide +kernel
theorem dX4_live_92 : decode cX4_live 92 = .ok (.aload_n 0, 1) := by decide +kernel
theorem dX4_live_93 : decode cX4_live 93 = .ok (.iload_n 1, 1) := by decide +kernel
theorem dX4_live_94 : decode cX4_live 94 = .ok (.putfield 73, 3) := by decide +kernel
theorem dX4_live_97 : decode cX4_live 97 = .ok (.return_, 1) := by decide +kernel
theorem dX4_clashAll_0 : decode cX4_clashAll 0 = .ok (.iconst 0, 1) := by decide +kernel
theorem dX4_clashAll_1 : decode cX4_clashAll 1 = .ok (.istore_n 3, 1) := by decide +kernel
theorem dX4_clashAll_2 : decode cX4_clashAll 2 = .ok (.iload_n 3, 1) := by decide +kernel
theorem dX4_clashAll_3 : decode cX4_clashAll 3 = .ok (.bipush 16, 2) := by decide +kernel
theorem dX4_clashAll_5 : decode cX4_clashAll 5 = .ok (.if_icmp .ge 51, 3) := by decide +kernel
theorem dX4_clashAll_8 : decode cX4_clashAll 8 = .ok (.iload_n 3, 1) := by decide +kernel
theorem dX4_clashAll_9 : decode cX4_clashAll 9 = .ok (.iload_n 1, 1) := by decide +kernel
theorem dX4_clashAll_10 : decode cX4_clashAll 10 = .ok (.if_icmp .eq 40, 3) := by decide +kernel
theorem dX4_clashAll_13 : decode cX4_clashAll 13 = .ok (.iload_n 2, 1) := by decide +kernel
theorem dX4_clashAll_14 : decode cX4_clashAll 14 = .ok (.iload_n 3, 1) := by decide +kernel
theorem dX4_clashAll_15 : decode cX4_clashAll 15 = .ok (.invokestatic 76, 3) := by decide +kernel
theorem dX4_clashAll_18 : decode cX4_clashAll 18 = .ok (.ifCond .ne 6, 3) := by decide +kernel
theorem dX4_clashAll_21 : decode cX4_clashAll 21 = .ok (.goto 29, 3) := by decide +kernel
theorem dX4_clashAll_24 : decode cX4_clashAll 24 = .ok (.aload_n 0, 1) := by decide +kernel
theorem dX4_clashAll_25 : decode cX4_clashAll 25 = .ok (.getfield 35, 3) := by decide +kernel
theorem dX4_clashAll_28 : decode cX4_clashAll 28 = .ok (.iload_n 1, 1) := by decide +kernel
theorem dX4_clashAll_29 : decode cX4_clashAll 29 = .ok (.dup2, 1) := by decide +kernel
theorem dX4_clashAll_30 : decode cX4_clashAll 30 = .ok (.iaload, 1) := by decide +kernel
theorem dX4_clashAll_31 : decode cX4_clashAll 31 = .ok (.iload_n 3, 1) := by decide +kernel
theorem dX4_clashAll_32 : decode cX4_clashAll 32 = .ok (.invokestatic 60, 3) := by decide +kernel
theorem dX4_clashAll_35 : decode cX4_clashAll 35 = .ok (.ior, 1) := by decide +kernel
theorem dX4_clashAll_36 : decode cX4_clashAll 36 = .ok (.iastore, 1) := by decide +kernel
theorem dX4_clashAll_37 : decode cX4_clashAll 37 = .ok (.aload_n 0, 1) := by decide +kernel
theorem dX4_clashAll_38 : decode cX4_clashAll 38 = .ok (.getfield 35, 3) := by decide +kernel
theorem dX4_clashAll_41 : decode cX4_clashAll 41 = .ok (.iload_n 3, 1) := by decide +kernel
theorem dX4_clashAll_42 : decode cX4_clashAll 42 = .ok (.dup2, 1) := by decide +kernel
theorem dX4_clashAll_43 : decode cX4_clashAll 43 = .ok (.iaload, 1) := by decide +kernel
theorem dX4_clashAll_44 : decode cX4_clashAll 44 = .ok (.iload_n 1, 1) := by decide +kernel
theorem dX4_clashAll_45 : decode cX4_clashAll 45 = .ok (.invokestatic 60, 3) := by decide +kernel
theorem dX4_clashAll_48 : decode cX4_clashAll 48 = .ok (.ior, 1) := by decide +kernel
theorem dX4_clashAll_49 : decode cX4_clashAll 49 = .ok (.iastore, 1) := by decide +kernel
theorem dX4_clashAll_50 : decode cX4_clashAll 50 = .ok (.iinc 3 1, 3) := by decide +kernel
theorem dX4_clashAll_53 : decode cX4_clashAll 53 = .ok (.goto (-51), 3) := by decide +kernel
theorem dX4_clashAll_56 : decode cX4_clashAll 56 = .ok (.return_, 1) := by decide +kernel
theorem dX4_add_0 : decode cX4_add 0 = .ok (.iload_n 1, 1) := by decide +kernel
theorem dX4_add_1 : decode cX4_add 1 = .ok (.iconst (-1), 1) := by decide +kernel
theorem dX4_add_2 : decode cX4_add 2 = .ok (.if_icmp .eq 13, 3) := by decide +kernel
theorem dX4_add_5 : decode cX4_add 5 = .ok (.aload_n 0, 1) := by decide +kernel
theorem dX4_add_6 : decode cX4_add 6 = .ok (.getfield 38, 3) := by decide +kernel
theorem dX4_add_9 : decode cX4_add 9 = .ok (.iload_n 1, 1) := by decide +kernel
theorem dX4_add_10 : decode cX4_add 10 = .ok (.dup2, 1) := by decide +kernel
theorem dX4_add_11 : decode cX4_add 11 = .ok (.iaload, 1) := by decide +kernel
theorem dX4_add_12 : decode cX4_add 12 = .ok (.iload_n 2, 1) := by decide +kernel
theorem dX4_add_13 : decode cX4_add 13 = .ok (.iadd, 1) := by decide +kernel
theorem dX4_add_14 : decode cX4_add 14 = .ok (.iastore, 1) := by decide +kernel
theorem dX4_add_15 : decode cX4_add 15 = .ok (.return_, 1) := by decide +kernel
theorem dX4_look_0 : decode cX4_look 0 = .ok (.aload_n 0, 1) := by decide +kernel
theorem dX4_look_1 : decode cX4_look 1 = .ok (.invokevirtual 80, 3) := by decide +kernel
theorem dX4_look_4 : decode cX4_look 4 = .ok (.iconst 0, 1) := by decide +kernel
theorem dX4_look_5 : decode cX4_look 5 = .ok (.istore_n 1, 1) := by decide +kernel
theorem dX4_look_6 : decode cX4_look 6 = .ok (.iload_n 1, 1) := by decide +kernel
theorem dX4_look_7 : decode cX4_look 7 = .ok (.bipush 16, 2) := by decide +kernel
theorem dX4_look_9 : decode cX4_look 9 = .ok (.if_icmp .ge 23, 3) := by decide +kernel
theorem dX4_look_12 : decode cX4_look 12 = .ok (.aload_n 0, 1) := by decide +kernel
theorem dX4_look_13 : decode cX4_look 13 = .ok (.getfield 35, 3) := by decide +kernel
theorem dX4_look_16 : decode cX4_look 16 = .ok (.iload_n 1, 1) := by decide +kernel
theorem dX4_look_17 : decode cX4_look 17 = .ok (.iconst 0, 1) := by decide +kernel
theorem dX4_look_18 : decode cX4_look 18 = .ok (.iastore, 1) := by decide +kernel
theorem dX4_look_19 : decode cX4_look 19 = .ok (.aload_n 0, 1) := by decide +kernel
theorem dX4_look_20 : decode cX4_look 20 = .ok (.getfield 38, 3) := by decide +kernel
theorem dX4_look_23 : decode cX4_look 23 = .ok (.iload_n 1, 1) := by decide +kernel
theorem dX4_look_24 : decode cX4_look 24 = .ok (.iconst 0, 1) := by decide +kernel
theorem dX4_look_25 : decode cX4_look 25 = .ok (.iastore, 1) := by decide +kernel
theorem dX4_look_26 : decode cX4_look 26 = .ok (.iinc 1 1, 3) := by decide +kernel
theorem dX4_look_29 : decode cX4_look 29 = .ok (.goto (-23), 3) := by decide +kernel
theorem dX4_look_32 : decode cX4_look 32 = .ok (.iconst 0, 1) := by decide +kernel
theorem dX4_look_33 : decode cX4_look 33 = .ok (.istore_n 1, 1) := by decide +kernel
theorem dX4_look_34 : decode cX4_look 34 = .ok (.iload_n 1, 1) := by decide +kernel
theorem dX4_look_35 : decode cX4_look 35 = .ok (.aload_n 0, 1) := by decide +kernel
theorem dX4_look_36 : decode cX4_look 36 = .ok (.getfield 57, 3) := by decide +kernel
theorem dX4_look_39 : decode cX4_look 39 = .ok (.if_icmp .ge 115, 3) := by decide +kernel
theorem dX4_look_42 : decode cX4_look 42 = .ok (.iload_n 1, 1) := by decide +kernel
theorem dX4_look_43 : decode cX4_look 43 = .ok (.aload_n 0, 1) := by decide +kernel
theorem dX4_look_44 : decode cX4_look 44 = .ok (.getfield 29, 3) := by decide +kernel
theorem dX4_look_47 : decode cX4_look 47 = .ok (.if_icmp .ne 6, 3) := by decide +kernel
theorem dX4_look_50 : decode cX4_look 50 = .ok (.goto 98, 3) := by decide +kernel
theorem dX4_look_53 : decode cX4_look 53 = .ok (.aload_n 0, 1) := by decide +kernel
theorem dX4_look_54 : decode cX4_look 54 = .ok (.aload_n 0, 1) := by decide +kernel
theorem dX4_look_55 : decode cX4_look 55 = .ok (.getfield 13, 3) := by decide +kernel
theorem dX4_look_58 : decode cX4_look 58 = .ok (.iload_n 1, 1) := by decide +kernel
theorem dX4_look_59 : decode cX4_look 59 = .ok (.iaload, 1) := by decide +kernel
theorem dX4_look_60 : decode cX4_look 60 = .ok (.aload_n 0, 1) := by decide +kernel
theorem dX4_look_61 : decode cX4_look 61 = .ok (.getfield 26, 3) := by decide +kernel
theorem dX4_look_64 : decode cX4_look 64 = .ok (.iload_n 1, 1) := by decide +kernel
theorem dX4_look_65 : decode cX4_look 65 = .ok (.iaload, 1) := by decide +kernel
theorem dX4_look_66 : decode cX4_look 66 = .ok (.iconst 1, 1) := by decide +kernel
theorem dX4_look_67 : decode cX4_look 67 = .ok (.if_icmp .ne 24, 3) := by decide +kernel
theorem dX4_look_70 : decode cX4_look 70 = .ok (.aload_n 0, 1) := by decide +kernel
theorem dX4_look_71 : decode cX4_look 71 = .ok (.getfield 32, 3) := by decide +kernel
theorem dX4_look_74 : decode cX4_look 74 = .ok (.iload_n 1, 1) := by decide +kernel
theorem dX4_look_75 : decode cX4_look 75 = .ok (.iaload, 1) := by decide +kernel
theorem dX4_look_76 : decode cX4_look 76 = .ok (.aload_n 0, 1) := by decide +kernel
theorem dX4_look_77 : decode cX4_look 77 = .ok (.getfield 17, 3) := by decide +kernel
theorem dX4_look_80 : decode cX4_look 80 = .ok (.iload_n 1, 1) := by decide +kernel
theorem dX4_look_81 : decode cX4_look 81 = .ok (.iaload, 1) := by decide +kernel
theorem dX4_look_82 : decode cX4_look 82 = .ok (.invokestatic 60, 3) := by decide +kernel
theorem dX4_look_85 : decode cX4_look 85 = .ok (.iconst (-1), 1) := by decide +kernel
theorem dX4_look_86 : decode cX4_look 86 = .ok (.ixor, 1) := by decide +kernel
theorem dX4_look_87 : decode cX4_look 87 = .ok (.iand, 1) := by decide +kernel
theorem dX4_look_88 : decode cX4_look 88 = .ok (.goto 9, 3) := by decide +kernel
theorem dX4_look_91 : decode cX4_look 91 = .ok (.aload_n 0, 1) := by decide +kernel
theorem dX4_look_92 : decode cX4_look 92 = .ok (.getfield 32, 3) := by decide +kernel
theorem dX4_look_95 : decode cX4_look 95 = .ok (.iload_n 1, 1) := by decide +kernel
theorem dX4_look_96 : decode cX4_look 96 = .ok (.iaload, 1) := by decide +kernel
theorem dX4_look_97 : decode cX4_look 97 = .ok (.invokevirtual 83, 3) := by decide +kernel
theorem dX4_look_100 : decode cX4_look 100 = .ok (.aload_n 0, 1) := by decide +kernel
theorem dX4_look_101 : decode cX4_look 101 = .ok (.aload_n 0, 1) := by decide +kernel
theorem dX4_look_102 : decode cX4_look 102 = .ok (.getfield 13, 3) := by decide +kernel
theorem dX4_look_105 : decode cX4_look 105 = .ok (.iload_n 1, 1) := by decide +kernel
theorem dX4_look_106 : decode cX4_look 106 = .ok (.iaload, 1) := by decide +kernel
theorem dX4_look_107 : decode cX4_look 107 = .ok (.aload_n 0, 1) := by decide +kernel
theorem dX4_look_108 : decode cX4_look 108 = .ok (.getfield 23, 3) := by decide +kernel
theorem dX4_look_111 : decode cX4_look 111 = .ok (.iload_n 1, 1) := by decide +kernel
theorem dX4_look_112 : decode cX4_look 112 = .ok (.iaload, 1) := by decide +kernel
theorem dX4_look_113 : decode cX4_look 113 = .ok (.invokevirtual 87, 3) := by decide +kernel
theorem dX4_look_116 : decode cX4_look 116 = .ok (.aload_n 0, 1) := by decide +kernel
theorem dX4_look_117 : decode cX4_look 117 = .ok (.aload_n 0, 1) := by decide +kernel
theorem dX4_look_118 : decode cX4_look 118 = .ok (.getfield 17, 3) := by decide +kernel
theorem dX4_look_121 : decode cX4_look 121 = .ok (.iload_n 1, 1) := by decide +kernel
theorem dX4_look_122 : decode cX4_look 122 = .ok (.iaload, 1) := by decide +kernel
theorem dX4_look_123 : decode cX4_look 123 = .ok (.aload_n 0, 1) := by decide +kernel
theorem dX4_look_124 : decode cX4_look 124 = .ok (.getfield 23, 3) := by decide +kernel
theorem dX4_look_127 : decode cX4_look 127 = .ok (.iload_n 1, 1) := by decide +kernel
theorem dX4_look_128 : decode cX4_look 128 = .ok (.iaload, 1) := by decide +kernel
theorem dX4_look_129 : decode cX4_look 129 = .ok (.invokevirtual 87, 3) := by decide +kernel
theorem dX4_look_132 : decode cX4_look 132 = .ok (.aload_n 0, 1) := by decide +kernel
theorem dX4_look_133 : decode cX4_look 133 = .ok (.aload_n 0, 1) := by decide +kernel
theorem dX4_look_134 : decode cX4_look 134 = .ok (.getfield 20, 3) := by decide +kernel
theorem dX4_look_137 : decode cX4_look 137 = .ok (.iload_n 1, 1) := by decide +kernel
theorem dX4_look_138 : decode cX4_look 138 = .ok (.iaload, 1) := by decide +kernel
theorem dX4_look_139 : decode cX4_look 139 = .ok (.aload_n 0, 1) := by decide +kernel
theorem dX4_look_140 : decode cX4_look 140 = .ok (.getfield 23, 3) := by decide +kernel
theorem dX4_look_143 : decode cX4_look 143 = .ok (.iload_n 1, 1) := by decide +kernel
theorem dX4_look_144 : decode cX4_look 144 = .ok (.iaload, 1) := by decide +kernel
theorem dX4_look_145 : decode cX4_look 145 = .ok (.invokevirtual 87, 3) := by decide +kernel
theorem dX4_look_148 : decode cX4_look 148 = .ok (.iinc 1 1, 3) := by decide +kernel
theorem dX4_look_151 : decode cX4_look 151 = .ok (.goto (-117), 3) := by decide +kernel
theorem dX4_look_154 : decode cX4_look 154 = .ok (.iconst 0, 1) := by decide +kernel
theorem dX4_look_155 : decode cX4_look 155 = .ok (.istore_n 1, 1) := by decide +kernel
theorem dX4_look_156 : decode cX4_look 156 = .ok (.iload_n 1, 1) := by decide +kernel
theorem dX4_look_157 : decode cX4_look 157 = .ok (.bipush 16, 2) := by decide +kernel
theorem dX4_look_159 : decode cX4_look 159 = .ok (.if_icmp .ge 29, 3) := by decide +kernel
theorem dX4_look_162 : decode cX4_look 162 = .ok (.aload_n 0, 1) := by decide +kernel
theorem dX4_look_163 : decode cX4_look 163 = .ok (.getfield 73, 3) := by decide +kernel
theorem dX4_look_166 : decode cX4_look 166 = .ok (.iload_n 1, 1) := by decide +kernel
theorem dX4_look_167 : decode cX4_look 167 = .ok (.invokestatic 76, 3) := by decide +kernel
theorem dX4_look_170 : decode cX4_look 170 = .ok (.ifCond .eq 12, 3) := by decide +kernel
theorem dX4_look_173 : decode cX4_look 173 = .ok (.aload_n 0, 1) := by decide +kernel
theorem dX4_look_174 : decode cX4_look 174 = .ok (.iload_n 1, 1) := by decide +kernel
theorem dX4_look_175 : decode cX4_look 175 = .ok (.aload_n 0, 1) := by decide +kernel
theorem dX4_look_176 : decode cX4_look 176 = .ok (.getfield 73, 3) := by decide +kernel
theorem dX4_look_179 : decode cX4_look 179 = .ok (.invokevirtual 83, 3) := by decide +kernel
theorem dX4_look_182 : decode cX4_look 182 = .ok (.iinc 1 1, 3) := by decide +kernel
theorem dX4_look_185 : decode cX4_look 185 = .ok (.goto (-29), 3) := by decide +kernel
theorem dX4_look_188 : decode cX4_look 188 = .ok (.return_, 1) := by decide +kernel
theorem dX4_next_0 : decode cX4_next 0 = .ok (.iconst (-1), 1) := by decide +kernel
theorem dX4_next_1 : decode cX4_next 1 = .ok (.istore_n 3, 1) := by decide +kernel
theorem dX4_next_2 : decode cX4_next 2 = .ok (.bipush 15, 2) := by decide +kernel
theorem dX4_next_4 : decode cX4_next 4 = .ok (.istore 4, 2) := by decide +kernel
theorem dX4_next_6 : decode cX4_next 6 = .ok (.iload 4, 2) := by decide +kernel
theorem dX4_next_8 : decode cX4_next 8 = .ok (.ifCond .lt 37, 3) := by decide +kernel
theorem dX4_next_11 : decode cX4_next 11 = .ok (.iload_n 1, 1) := by decide +kernel
theorem dX4_next_12 : decode cX4_next 12 = .ok (.iload 4, 2) := by decide +kernel
theorem dX4_next_14 : decode cX4_next 14 = .ok (.invokestatic 76, 3) := by decide +kernel
theorem dX4_next_17 : decode cX4_next 17 = .ok (.ifCond .eq 22, 3) := by decide +kernel
theorem dX4_next_20 : decode cX4_next 20 = .ok (.aload_n 0, 1) := by decide +kernel
theorem dX4_next_21 : decode cX4_next 21 = .ok (.getfield 35, 3) := by decide +kernel
theorem dX4_next_24 : decode cX4_next 24 = .ok (.iload 4, 2) := by decide +kernel
theorem dX4_next_26 : decode cX4_next 26 = .ok (.iaload, 1) := by decide +kernel
theorem dX4_next_27 : decode cX4_next 27 = .ok (.iload_n 1, 1) := by decide +kernel
theorem dX4_next_28 : decode cX4_next 28 = .ok (.iand, 1) := by decide +kernel
theorem dX4_next_29 : decode cX4_next 29 = .ok (.invokestatic 90, 3) := by decide +kernel
theorem dX4_next_32 : decode cX4_next 32 = .ok (.iload_n 2, 1) := by decide +kernel
theorem dX4_next_33 : decode cX4_next 33 = .ok (.if_icmp .ge 6, 3) := by decide +kernel
theorem dX4_next_36 : decode cX4_next 36 = .ok (.iload 4, 2) := by decide +kernel
theorem dX4_next_38 : decode cX4_next 38 = .ok (.istore_n 3, 1) := by decide +kernel
theorem dX4_next_39 : decode cX4_next 39 = .ok (.iinc 4 (-1), 3) := by decide +kernel
theorem dX4_next_42 : decode cX4_next 42 = .ok (.goto (-36), 3) := by decide +kernel
theorem dX4_next_45 : decode cX4_next 45 = .ok (.iload_n 3, 1) := by decide +kernel
theorem dX4_next_46 : decode cX4_next 46 = .ok (.iconst (-1), 1) := by decide +kernel
theorem dX4_next_47 : decode cX4_next 47 = .ok (.if_icmp .eq 5, 3) := by decide +kernel
theorem dX4_next_50 : decode cX4_next 50 = .ok (.iload_n 3, 1) := by decide +kernel
theorem dX4_next_51 : decode cX4_next 51 = .ok (.ireturn, 1) := by decide +kernel
theorem dX4_next_52 : decode cX4_next 52 = .ok (.bipush 15, 2) := by decide +kernel
theorem dX4_next_54 : decode cX4_next 54 = .ok (.istore 4, 2) := by decide +kernel
theorem dX4_next_56 : decode cX4_next 56 = .ok (.iload 4, 2) := by decide +kernel
theorem dX4_next_58 : decode cX4_next 58 = .ok (.ifCond .lt 70, 3) := by decide +kernel
theorem dX4_next_61 : decode cX4_next 61 = .ok (.iload_n 1, 1) := by decide +kernel
theorem dX4_next_62 : decode cX4_next 62 = .ok (.iload 4, 2) := by decide +kernel
theorem dX4_next_64 : decode cX4_next 64 = .ok (.invokestatic 76, 3) := by decide +kernel
theorem dX4_next_67 : decode cX4_next 67 = .ok (.ifCond .ne 6, 3) := by decide +kernel
theorem dX4_next_70 : decode cX4_next 70 = .ok (.goto 52, 3) := by decide +kernel
theorem dX4_next_73 : decode cX4_next 73 = .ok (.iload_n 3, 1) := by decide +kernel
theorem dX4_next_74 : decode cX4_next 74 = .ok (.iconst (-1), 1) := by decide +kernel
theorem dX4_next_75 : decode cX4_next 75 = .ok (.if_icmp .eq 44, 3) := by decide +kernel
theorem dX4_next_78 : decode cX4_next 78 = .ok (.aload_n 0, 1) := by decide +kernel
theorem dX4_next_79 : decode cX4_next 79 = .ok (.getfield 38, 3) := by decide +kernel
theorem dX4_next_82 : decode cX4_next 82 = .ok (.iload 4, 2) := by decide +kernel
theorem dX4_next_84 : decode cX4_next 84 = .ok (.iaload, 1) := by decide +kernel
theorem dX4_next_85 : decode cX4_next 85 = .ok (.aload_n 0, 1) := by decide +kernel
theorem dX4_next_86 : decode cX4_next 86 = .ok (.getfield 35, 3) := by decide +kernel
theorem dX4_next_89 : decode cX4_next 89 = .ok (.iload_n 3, 1) := by decide +kernel
theorem dX4_next_90 : decode cX4_next 90 = .ok (.iaload, 1) := by decide +kernel
theorem dX4_next_91 : decode cX4_next 91 = .ok (.iload_n 1, 1) := by decide +kernel
theorem dX4_next_92 : decode cX4_next 92 = .ok (.iand, 1) := by decide +kernel
theorem dX4_next_93 : decode cX4_next 93 = .ok (.invokestatic 90, 3) := by decide +kernel
theorem dX4_next_96 : decode cX4_next 96 = .ok (.imul, 1) := by decide +kernel
theorem dX4_next_97 : decode cX4_next 97 = .ok (.aload_n 0, 1) := by decide +kernel
theorem dX4_next_98 : decode cX4_next 98 = .ok (.getfield 38, 3) := by decide +kernel
theorem dX4_next_101 : decode cX4_next 101 = .ok (.iload_n 3, 1) := by decide +kernel
theorem dX4_next_102 : decode cX4_next 102 = .ok (.iaload, 1) := by decide +kernel
theorem dX4_next_103 : decode cX4_next 103 = .ok (.aload_n 0, 1) := by decide +kernel
theorem dX4_next_104 : decode cX4_next 104 = .ok (.getfield 35, 3) := by decide +kernel
theorem dX4_next_107 : decode cX4_next 107 = .ok (.iload 4, 2) := by decide +kernel
theorem dX4_next_109 : decode cX4_next 109 = .ok (.iaload, 1) := by decide +kernel
theorem dX4_next_110 : decode cX4_next 110 = .ok (.iload_n 1, 1) := by decide +kernel
theorem dX4_next_111 : decode cX4_next 111 = .ok (.iand, 1) := by decide +kernel
theorem dX4_next_112 : decode cX4_next 112 = .ok (.invokestatic 90, 3) := by decide +kernel
theorem dX4_next_115 : decode cX4_next 115 = .ok (.imul, 1) := by decide +kernel
theorem dX4_next_116 : decode cX4_next 116 = .ok (.if_icmp .gt 6, 3) := by decide +kernel
theorem dX4_next_119 : decode cX4_next 119 = .ok (.iload 4, 2) := by decide +kernel
theorem dX4_next_121 : decode cX4_next 121 = .ok (.istore_n 3, 1) := by decide +kernel
theorem dX4_next_122 : decode cX4_next 122 = .ok (.iinc 4 (-1), 3) := by decide +kernel
theorem dX4_next_125 : decode cX4_next 125 = .ok (.goto (-69), 3) := by decide +kernel
theorem dX4_next_128 : decode cX4_next 128 = .ok (.iload_n 3, 1) := by decide +kernel
theorem dX4_next_129 : decode cX4_next 129 = .ok (.ireturn, 1) := by decide +kernel
theorem dX4_isFree_0 : decode cX4_isFree 0 = .ok (.iconst 0, 1) := by decide +kernel
theorem dX4_isFree_1 : decode cX4_isFree 1 = .ok (.istore_n 3, 1) := by decide +kernel
theorem dX4_isFree_2 : decode cX4_isFree 2 = .ok (.iload_n 3, 1) := by decide +kernel
theorem dX4_isFree_3 : decode cX4_isFree 3 = .ok (.bipush 16, 2) := by decide +kernel
theorem dX4_isFree_5 : decode cX4_isFree 5 = .ok (.if_icmp .ge 34, 3) := by decide +kernel
theorem dX4_isFree_8 : decode cX4_isFree 8 = .ok (.aload_n 0, 1) := by decide +kernel
theorem dX4_isFree_9 : decode cX4_isFree 9 = .ok (.getfield 35, 3) := by decide +kernel
theorem dX4_isFree_12 : decode cX4_isFree 12 = .ok (.iload_n 1, 1) := by decide +kernel
theorem dX4_isFree_13 : decode cX4_isFree 13 = .ok (.iaload, 1) := by decide +kernel
theorem dX4_isFree_14 : decode cX4_isFree 14 = .ok (.iload_n 3, 1) := by decide +kernel
theorem dX4_isFree_15 : decode cX4_isFree 15 = .ok (.invokestatic 76, 3) := by decide +kernel
theorem dX4_isFree_18 : decode cX4_isFree 18 = .ok (.ifCond .eq 15, 3) := by decide +kernel
theorem dX4_isFree_21 : decode cX4_isFree 21 = .ok (.aload_n 0, 1) := by decide +kernel
theorem dX4_isFree_22 : decode cX4_isFree 22 = .ok (.getfield 47, 3) := by decide +kernel
theorem dX4_isFree_25 : decode cX4_isFree 25 = .ok (.iload_n 3, 1) := by decide +kernel
theorem dX4_isFree_26 : decode cX4_isFree 26 = .ok (.iaload, 1) := by decide +kernel
theorem dX4_isFree_27 : decode cX4_isFree 27 = .ok (.iload_n 2, 1) := by decide +kernel
theorem dX4_isFree_28 : decode cX4_isFree 28 = .ok (.if_icmp .ne 5, 3) := by decide +kernel
theorem dX4_isFree_31 : decode cX4_isFree 31 = .ok (.iconst 0, 1) := by decide +kernel
theorem dX4_isFree_32 : decode cX4_isFree 32 = .ok (.ireturn, 1) := by decide +kernel
theorem dX4_isFree_33 : decode cX4_isFree 33 = .ok (.iinc 3 1, 3) := by decide +kernel
theorem dX4_isFree_36 : decode cX4_isFree 36 = .ok (.goto (-34), 3) := by decide +kernel
theorem dX4_isFree_39 : decode cX4_isFree 39 = .ok (.iconst 1, 1) := by decide +kernel
theorem dX4_isFree_40 : decode cX4_isFree 40 = .ok (.ireturn, 1) := by decide +kernel
theorem dX4_isPoured_0 : decode cX4_isPoured 0 = .ok (.iconst 0, 1) := by decide +kernel
theorem dX4_isPoured_1 : decode cX4_isPoured 1 = .ok (.istore_n 3, 1) := by decide +kernel
theorem dX4_isPoured_2 : decode cX4_isPoured 2 = .ok (.iload_n 3, 1) := by decide +kernel
theorem dX4_isPoured_3 : decode cX4_isPoured 3 = .ok (.aload_n 0, 1) := by decide +kernel
theorem dX4_isPoured_4 : decode cX4_isPoured 4 = .ok (.getfield 57, 3) := by decide +kernel
theorem dX4_isPoured_7 : decode cX4_isPoured 7 = .ok (.if_icmp .ge 69, 3) := by decide +kernel
theorem dX4_isPoured_10 : decode cX4_isPoured 10 = .ok (.iload_n 3, 1) := by decide +kernel
theorem dX4_isPoured_11 : decode cX4_isPoured 11 = .ok (.aload_n 0, 1) := by decide +kernel
theorem dX4_isPoured_12 : decode cX4_isPoured 12 = .ok (.getfield 29, 3) := by decide +kernel
theorem dX4_isPoured_15 : decode cX4_isPoured 15 = .ok (.if_icmp .eq 55, 3) := by decide +kernel
theorem dX4_isPoured_18 : decode cX4_isPoured 18 = .ok (.aload_n 0, 1) := by decide +kernel
theorem dX4_isPoured_19 : decode cX4_isPoured 19 = .ok (.getfield 26, 3) := by decide +kernel
theorem dX4_isPoured_22 : decode cX4_isPoured 22 = .ok (.iload_n 3, 1) := by decide +kernel
theorem dX4_isPoured_23 : decode cX4_isPoured 23 = .ok (.iaload, 1) := by decide +kernel
theorem dX4_isPoured_24 : decode cX4_isPoured 24 = .ok (.iconst 1, 1) := by decide +kernel
theorem dX4_isPoured_25 : decode cX4_isPoured 25 = .ok (.if_icmp .ne 45, 3) := by decide +kernel
theorem dX4_isPoured_28 : decode cX4_isPoured 28 = .ok (.aload_n 0, 1) := by decide +kernel
theorem dX4_isPoured_29 : decode cX4_isPoured 29 = .ok (.getfield 13, 3) := by decide +kernel
theorem dX4_isPoured_32 : decode cX4_isPoured 32 = .ok (.iload_n 3, 1) := by decide +kernel
theorem dX4_isPoured_33 : decode cX4_isPoured 33 = .ok (.iaload, 1) := by decide +kernel
theorem dX4_isPoured_34 : decode cX4_isPoured 34 = .ok (.iload_n 1, 1) := by decide +kernel
theorem dX4_isPoured_35 : decode cX4_isPoured 35 = .ok (.if_icmp .ne 13, 3) := by decide +kernel
theorem dX4_isPoured_38 : decode cX4_isPoured 38 = .ok (.aload_n 0, 1) := by decide +kernel
theorem dX4_isPoured_39 : decode cX4_isPoured 39 = .ok (.getfield 17, 3) := by decide +kernel
theorem dX4_isPoured_42 : decode cX4_isPoured 42 = .ok (.iload_n 3, 1) := by decide +kernel
theorem dX4_isPoured_43 : decode cX4_isPoured 43 = .ok (.iaload, 1) := by decide +kernel
theorem dX4_isPoured_44 : decode cX4_isPoured 44 = .ok (.iload_n 2, 1) := by decide +kernel
theorem dX4_isPoured_45 : decode cX4_isPoured 45 = .ok (.if_icmp .eq 23, 3) := by decide +kernel
theorem dX4_isPoured_48 : decode cX4_isPoured 48 = .ok (.aload_n 0, 1) := by decide +kernel
theorem dX4_isPoured_49 : decode cX4_isPoured 49 = .ok (.getfield 13, 3) := by decide +kernel
theorem dX4_isPoured_52 : decode cX4_isPoured 52 = .ok (.iload_n 3, 1) := by decide +kernel
theorem dX4_isPoured_53 : decode cX4_isPoured 53 = .ok (.iaload, 1) := by decide +kernel
theorem dX4_isPoured_54 : decode cX4_isPoured 54 = .ok (.iload_n 2, 1) := by decide +kernel
theorem dX4_isPoured_55 : decode cX4_isPoured 55 = .ok (.if_icmp .ne 15, 3) := by decide +kernel
theorem dX4_isPoured_58 : decode cX4_isPoured 58 = .ok (.aload_n 0, 1) := by decide +kernel
theorem dX4_isPoured_59 : decode cX4_isPoured 59 = .ok (.getfield 17, 3) := by decide +kernel
theorem dX4_isPoured_62 : decode cX4_isPoured 62 = .ok (.iload_n 3, 1) := by decide +kernel
theorem dX4_isPoured_63 : decode cX4_isPoured 63 = .ok (.iaload, 1) := by decide +kernel
theorem dX4_isPoured_64 : decode cX4_isPoured 64 = .ok (.iload_n 1, 1) := by decide +kernel
theorem dX4_isPoured_65 : decode cX4_isPoured 65 = .ok (.if_icmp .ne 5, 3) := by decide +kernel
theorem dX4_isPoured_68 : decode cX4_isPoured 68 = .ok (.iconst 1, 1) := by decide +kernel
theorem dX4_isPoured_69 : decode cX4_isPoured 69 = .ok (.ireturn, 1) := by decide +kernel
theorem dX4_isPoured_70 : decode cX4_isPoured 70 = .ok (.iinc 3 1, 3) := by decide +kernel
theorem dX4_isPoured_73 : decode cX4_isPoured 73 = .ok (.goto (-71), 3) := by decide +kernel
theorem dX4_isPoured_76 : decode cX4_isPoured 76 = .ok (.iconst 0, 1) := by decide +kernel
theorem dX4_isPoured_77 : decode cX4_isPoured 77 = .ok (.ireturn, 1) := by decide +kernel
theorem dX4_hookFor_0 : decode cX4_hookFor 0 = .ok (.iconst 0, 1) := by decide +kernel
theorem dX4_hookFor_1 : decode cX4_hookFor 1 = .ok (.istore_n 3, 1) := by decide +kernel
theorem dX4_hookFor_2 : decode cX4_hookFor 2 = .ok (.iload_n 3, 1) := by decide +kernel
theorem dX4_hookFor_3 : decode cX4_hookFor 3 = .ok (.bipush 16, 2) := by decide +kernel
theorem dX4_hookFor_5 : decode cX4_hookFor 5 = .ok (.if_icmp .ge 54, 3) := by decide +kernel
theorem dX4_hookFor_8 : decode cX4_hookFor 8 = .ok (.iload_n 3, 1) := by decide +kernel
theorem dX4_hookFor_9 : decode cX4_hookFor 9 = .ok (.iload_n 1, 1) := by decide +kernel
theorem dX4_hookFor_10 : decode cX4_hookFor 10 = .ok (.if_icmp .eq 43, 3) := by decide +kernel
theorem dX4_hookFor_13 : decode cX4_hookFor 13 = .ok (.aload_n 0, 1) := by decide +kernel
theorem dX4_hookFor_14 : decode cX4_hookFor 14 = .ok (.getfield 47, 3) := by decide +kernel
theorem dX4_hookFor_17 : decode cX4_hookFor 17 = .ok (.iload_n 3, 1) := by decide +kernel
theorem dX4_hookFor_18 : decode cX4_hookFor 18 = .ok (.iaload, 1) := by decide +kernel
theorem dX4_hookFor_19 : decode cX4_hookFor 19 = .ok (.iconst (-1), 1) := by decide +kernel
theorem dX4_hookFor_20 : decode cX4_hookFor 20 = .ok (.if_icmp .eq 33, 3) := by decide +kernel
theorem dX4_hookFor_23 : decode cX4_hookFor 23 = .ok (.aload_n 0, 1) := by decide +kernel
theorem dX4_hookFor_24 : decode cX4_hookFor 24 = .ok (.iload_n 1, 1) := by decide +kernel
theorem dX4_hookFor_25 : decode cX4_hookFor 25 = .ok (.iload_n 3, 1) := by decide +kernel
theorem dX4_hookFor_26 : decode cX4_hookFor 26 = .ok (.invokevirtual 95, 3) := by decide +kernel
theorem dX4_hookFor_29 : decode cX4_hookFor 29 = .ok (.ifCond .eq 24, 3) := by decide +kernel
theorem dX4_hookFor_32 : decode cX4_hookFor 32 = .ok (.aload_n 0, 1) := by decide +kernel
theorem dX4_hookFor_33 : decode cX4_hookFor 33 = .ok (.iload_n 1, 1) := by decide +kernel
theorem dX4_hookFor_34 : decode cX4_hookFor 34 = .ok (.aload_n 0, 1) := by decide +kernel
theorem dX4_hookFor_35 : decode cX4_hookFor 35 = .ok (.getfield 47, 3) := by decide +kernel
theorem dX4_hookFor_38 : decode cX4_hookFor 38 = .ok (.iload_n 3, 1) := by decide +kernel
theorem dX4_hookFor_39 : decode cX4_hookFor 39 = .ok (.iaload, 1) := by decide +kernel
theorem dX4_hookFor_40 : decode cX4_hookFor 40 = .ok (.invokevirtual 98, 3) := by decide +kernel
theorem dX4_hookFor_43 : decode cX4_hookFor 43 = .ok (.ifCond .eq 10, 3) := by decide +kernel
theorem dX4_hookFor_46 : decode cX4_hookFor 46 = .ok (.aload_n 0, 1) := by decide +kernel
theorem dX4_hookFor_47 : decode cX4_hookFor 47 = .ok (.getfield 47, 3) := by decide +kernel
theorem dX4_hookFor_50 : decode cX4_hookFor 50 = .ok (.iload_n 3, 1) := by decide +kernel
theorem dX4_hookFor_51 : decode cX4_hookFor 51 = .ok (.iaload, 1) := by decide +kernel
theorem dX4_hookFor_52 : decode cX4_hookFor 52 = .ok (.ireturn, 1) := by decide +kernel
theorem dX4_hookFor_53 : decode cX4_hookFor 53 = .ok (.iinc 3 1, 3) := by decide +kernel
theorem dX4_hookFor_56 : decode cX4_hookFor 56 = .ok (.goto (-54), 3) := by decide +kernel
theorem dX4_hookFor_59 : decode cX4_hookFor 59 = .ok (.iconst 0, 1) := by decide +kernel
theorem dX4_hookFor_60 : decode cX4_hookFor 60 = .ok (.istore_n 3, 1) := by decide +kernel
theorem dX4_hookFor_61 : decode cX4_hookFor 61 = .ok (.iload_n 3, 1) := by decide +kernel
theorem dX4_hookFor_62 : decode cX4_hookFor 62 = .ok (.iload_n 2, 1) := by decide +kernel
theorem dX4_hookFor_63 : decode cX4_hookFor 63 = .ok (.if_icmp .ge 20, 3) := by decide +kernel
theorem dX4_hookFor_66 : decode cX4_hookFor 66 = .ok (.aload_n 0, 1) := by decide +kernel
theorem dX4_hookFor_67 : decode cX4_hookFor 67 = .ok (.iload_n 1, 1) := by decide +kernel
theorem dX4_hookFor_68 : decode cX4_hookFor 68 = .ok (.iload_n 3, 1) := by decide +kernel
theorem dX4_hookFor_69 : decode cX4_hookFor 69 = .ok (.invokevirtual 98, 3) := by decide +kernel
theorem dX4_hookFor_72 : decode cX4_hookFor 72 = .ok (.ifCond .eq 5, 3) := by decide +kernel
theorem dX4_hookFor_75 : decode cX4_hookFor 75 = .ok (.iload_n 3, 1) := by decide +kernel
theorem dX4_hookFor_76 : decode cX4_hookFor 76 = .ok (.ireturn, 1) := by decide +kernel
theorem dX4_hookFor_77 : decode cX4_hookFor 77 = .ok (.iinc 3 1, 3) := by decide +kernel
theorem dX4_hookFor_80 : decode cX4_hookFor 80 = .ok (.goto (-19), 3) := by decide +kernel
theorem dX4_hookFor_83 : decode cX4_hookFor 83 = .ok (.iconst (-1), 1) := by decide +kernel
theorem dX4_hookFor_84 : decode cX4_hookFor 84 = .ok (.ireturn, 1) := by decide +kernel
theorem dX4_hang_0 : decode cX4_hang 0 = .ok (.aload_n 0, 1) := by decide +kernel
theorem dX4_hang_1 : decode cX4_hang 1 = .ok (.getfield 67, 3) := by decide +kernel
theorem dX4_hang_4 : decode cX4_hang 4 = .ok (.istore_n 2, 1) := by decide +kernel
theorem dX4_hang_5 : decode cX4_hang 5 = .ok (.iconst 0, 1) := by decide +kernel
theorem dX4_hang_6 : decode cX4_hang 6 = .ok (.istore_n 3, 1) := by decide +kernel
theorem dX4_hang_7 : decode cX4_hang 7 = .ok (.iconst 0, 1) := by decide +kernel
theorem dX4_hang_8 : decode cX4_hang 8 = .ok (.istore 4, 2) := by decide +kernel
theorem dX4_hang_10 : decode cX4_hang 10 = .ok (.iload 4, 2) := by decide +kernel
theorem dX4_hang_12 : decode cX4_hang 12 = .ok (.bipush 16, 2) := by decide +kernel
theorem dX4_hang_14 : decode cX4_hang 14 = .ok (.if_icmp .ge 25, 3) := by decide +kernel
theorem dX4_hang_17 : decode cX4_hang 17 = .ok (.aload_n 0, 1) := by decide +kernel
theorem dX4_hang_18 : decode cX4_hang 18 = .ok (.getfield 41, 3) := by decide +kernel
theorem dX4_hang_21 : decode cX4_hang 21 = .ok (.iload 4, 2) := by decide +kernel
theorem dX4_hang_23 : decode cX4_hang 23 = .ok (.iconst (-1), 1) := by decide +kernel
theorem dX4_hang_24 : decode cX4_hang 24 = .ok (.iastore, 1) := by decide +kernel
theorem dX4_hang_25 : decode cX4_hang 25 = .ok (.aload_n 0, 1) := by decide +kernel
theorem dX4_hang_26 : decode cX4_hang 26 = .ok (.getfield 47, 3) := by decide +kernel
theorem dX4_hang_29 : decode cX4_hang 29 = .ok (.iload 4, 2) := by decide +kernel
theorem dX4_hang_31 : decode cX4_hang 31 = .ok (.iconst (-1), 1) := by decide +kernel
theorem dX4_hang_32 : decode cX4_hang 32 = .ok (.iastore, 1) := by decide +kernel
theorem dX4_hang_33 : decode cX4_hang 33 = .ok (.iinc 4 1, 3) := by decide +kernel
theorem dX4_hang_36 : decode cX4_hang 36 = .ok (.goto (-26), 3) := by decide +kernel
theorem dX4_hang_39 : decode cX4_hang 39 = .ok (.iload_n 2, 1) := by decide +kernel
theorem dX4_hang_40 : decode cX4_hang 40 = .ok (.ifCond .eq 43, 3) := by decide +kernel
theorem dX4_hang_43 : decode cX4_hang 43 = .ok (.aload_n 0, 1) := by decide +kernel
theorem dX4_hang_44 : decode cX4_hang 44 = .ok (.iload_n 2, 1) := by decide +kernel
theorem dX4_hang_45 : decode cX4_hang 45 = .ok (.iload_n 1, 1) := by decide +kernel
theorem dX4_hang_46 : decode cX4_hang 46 = .ok (.invokevirtual 101, 3) := by decide +kernel
theorem dX4_hang_49 : decode cX4_hang 49 = .ok (.istore 4, 2) := by decide +kernel
theorem dX4_hang_51 : decode cX4_hang 51 = .ok (.aload_n 0, 1) := by decide +kernel
theorem dX4_hang_52 : decode cX4_hang 52 = .ok (.getfield 44, 3) := by decide +kernel
theorem dX4_hang_55 : decode cX4_hang 55 = .ok (.iload_n 3, 1) := by decide +kernel
theorem dX4_hang_56 : decode cX4_hang 56 = .ok (.iload 4, 2) := by decide +kernel
theorem dX4_hang_58 : decode cX4_hang 58 = .ok (.iastore, 1) := by decide +kernel
theorem dX4_hang_59 : decode cX4_hang 59 = .ok (.aload_n 0, 1) := by decide +kernel
theorem dX4_hang_60 : decode cX4_hang 60 = .ok (.getfield 41, 3) := by decide +kernel
theorem dX4_hang_63 : decode cX4_hang 63 = .ok (.iload 4, 2) := by decide +kernel
theorem dX4_hang_65 : decode cX4_hang 65 = .ok (.iload_n 3, 1) := by decide +kernel
theorem dX4_hang_66 : decode cX4_hang 66 = .ok (.iastore, 1) := by decide +kernel
theorem dX4_hang_67 : decode cX4_hang 67 = .ok (.iinc 3 1, 3) := by decide +kernel
theorem dX4_hang_70 : decode cX4_hang 70 = .ok (.iload_n 2, 1) := by decide +kernel
theorem dX4_hang_71 : decode cX4_hang 71 = .ok (.iload 4, 2) := by decide +kernel
theorem dX4_hang_73 : decode cX4_hang 73 = .ok (.invokestatic 60, 3) := by decide +kernel
theorem dX4_hang_76 : decode cX4_hang 76 = .ok (.iconst (-1), 1) := by decide +kernel
theorem dX4_hang_77 : decode cX4_hang 77 = .ok (.ixor, 1) := by decide +kernel
theorem dX4_hang_78 : decode cX4_hang 78 = .ok (.iand, 1) := by decide +kernel
theorem dX4_hang_79 : decode cX4_hang 79 = .ok (.istore_n 2, 1) := by decide +kernel
theorem dX4_hang_80 : decode cX4_hang 80 = .ok (.goto (-41), 3) := by decide +kernel
theorem dX4_hang_83 : decode cX4_hang 83 = .ok (.iload_n 3, 1) := by decide +kernel
theorem dX4_hang_84 : decode cX4_hang 84 = .ok (.iconst 1, 1) := by decide +kernel
theorem dX4_hang_85 : decode cX4_hang 85 = .ok (.isub, 1) := by decide +kernel
theorem dX4_hang_86 : decode cX4_hang 86 = .ok (.istore 4, 2) := by decide +kernel
theorem dX4_hang_88 : decode cX4_hang 88 = .ok (.iload 4, 2) := by decide +kernel
theorem dX4_hang_90 : decode cX4_hang 90 = .ok (.ifCond .lt 33, 3) := by decide +kernel
theorem dX4_hang_93 : decode cX4_hang 93 = .ok (.aload_n 0, 1) := by decide +kernel
theorem dX4_hang_94 : decode cX4_hang 94 = .ok (.getfield 47, 3) := by decide +kernel
theorem dX4_hang_97 : decode cX4_hang 97 = .ok (.aload_n 0, 1) := by decide +kernel
theorem dX4_hang_98 : decode cX4_hang 98 = .ok (.getfield 44, 3) := by decide +kernel
theorem dX4_hang_101 : decode cX4_hang 101 = .ok (.iload 4, 2) := by decide +kernel
theorem dX4_hang_103 : decode cX4_hang 103 = .ok (.iaload, 1) := by decide +kernel
theorem dX4_hang_104 : decode cX4_hang 104 = .ok (.aload_n 0, 1) := by decide +kernel
theorem dX4_hang_105 : decode cX4_hang 105 = .ok (.aload_n 0, 1) := by decide +kernel
theorem dX4_hang_106 : decode cX4_hang 106 = .ok (.getfield 44, 3) := by decide +kernel
theorem dX4_hang_109 : decode cX4_hang 109 = .ok (.iload 4, 2) := by decide +kernel
theorem dX4_hang_111 : decode cX4_hang 111 = .ok (.iaload, 1) := by decide +kernel
theorem dX4_hang_112 : decode cX4_hang 112 = .ok (.iload_n 1, 1) := by decide +kernel
theorem dX4_hang_113 : decode cX4_hang 113 = .ok (.invokevirtual 105, 3) := by decide +kernel
theorem dX4_hang_116 : decode cX4_hang 116 = .ok (.iastore, 1) := by decide +kernel
theorem dX4_hang_117 : decode cX4_hang 117 = .ok (.iinc 4 (-1), 3) := by decide +kernel
theorem dX4_hang_120 : decode cX4_hang 120 = .ok (.goto (-32), 3) := by decide +kernel
theorem dX4_hang_123 : decode cX4_hang 123 = .ok (.return_, 1) := by decide +kernel
theorem dX4_lookAll_0 : decode cX4_lookAll 0 = .ok (.aload_n 0, 1) := by decide +kernel
theorem dX4_lookAll_1 : decode cX4_lookAll 1 = .ok (.invokevirtual 108, 3) := by decide +kernel
theorem dX4_lookAll_4 : decode cX4_lookAll 4 = .ok (.aload_n 0, 1) := by decide +kernel
theorem dX4_lookAll_5 : decode cX4_lookAll 5 = .ok (.aload_n 0, 1) := by decide +kernel
theorem dX4_lookAll_6 : decode cX4_lookAll 6 = .ok (.getfield 7, 3) := by decide +kernel
theorem dX4_lookAll_9 : decode cX4_lookAll 9 = .ok (.invokevirtual 111, 3) := by decide +kernel
theorem dX4_lookAll_12 : decode cX4_lookAll 12 = .ok (.return_, 1) := by decide +kernel
theorem dX4_isFloor_0 : decode cX4_isFloor 0 = .ok (.aload_n 0, 1) := by decide +kernel
theorem dX4_isFloor_1 : decode cX4_isFloor 1 = .ok (.getfield 67, 3) := by decide +kernel
theorem dX4_isFloor_4 : decode cX4_isFloor 4 = .ok (.iload_n 1, 1) := by decide +kernel
theorem dX4_isFloor_5 : decode cX4_isFloor 5 = .ok (.invokestatic 76, 3) := by decide +kernel
theorem dX4_isFloor_8 : decode cX4_isFloor 8 = .ok (.ifCond .eq 17, 3) := by decide +kernel
theorem dX4_isFloor_11 : decode cX4_isFloor 11 = .ok (.aload_n 0, 1) := by decide +kernel
theorem dX4_isFloor_12 : decode cX4_isFloor 12 = .ok (.getfield 47, 3) := by decide +kernel
theorem dX4_isFloor_15 : decode cX4_isFloor 15 = .ok (.iload_n 1, 1) := by decide +kernel
theorem dX4_isFloor_16 : decode cX4_isFloor 16 = .ok (.iaload, 1) := by decide +kernel
theorem dX4_isFloor_17 : decode cX4_isFloor 17 = .ok (.iconst (-1), 1) := by decide +kernel
theorem dX4_isFloor_18 : decode cX4_isFloor 18 = .ok (.if_icmp .ne 7, 3) := by decide +kernel
theorem dX4_isFloor_21 : decode cX4_isFloor 21 = .ok (.iconst 1, 1) := by decide +kernel
theorem dX4_isFloor_22 : decode cX4_isFloor 22 = .ok (.goto 4, 3) := by decide +kernel
theorem dX4_isFloor_25 : decode cX4_isFloor 25 = .ok (.iconst 0, 1) := by decide +kernel
theorem dX4_isFloor_26 : decode cX4_isFloor 26 = .ok (.ireturn, 1) := by decide +kernel
theorem dX4_floor_0 : decode cX4_floor 0 = .ok (.iconst 0, 1) := by decide +kernel
theorem dX4_floor_1 : decode cX4_floor 1 = .ok (.istore_n 1, 1) := by decide +kernel
theorem dX4_floor_2 : decode cX4_floor 2 = .ok (.iconst 0, 1) := by decide +kernel
theorem dX4_floor_3 : decode cX4_floor 3 = .ok (.istore_n 2, 1) := by decide +kernel
theorem dX4_floor_4 : decode cX4_floor 4 = .ok (.iload_n 2, 1) := by decide +kernel
theorem dX4_floor_5 : decode cX4_floor 5 = .ok (.bipush 16, 2) := by decide +kernel
theorem dX4_floor_7 : decode cX4_floor 7 = .ok (.if_icmp .ge 25, 3) := by decide +kernel
theorem dX4_floor_10 : decode cX4_floor 10 = .ok (.iload_n 1, 1) := by decide +kernel
theorem dX4_floor_11 : decode cX4_floor 11 = .ok (.aload_n 0, 1) := by decide +kernel
theorem dX4_floor_12 : decode cX4_floor 12 = .ok (.iload_n 2, 1) := by decide +kernel
theorem dX4_floor_13 : decode cX4_floor 13 = .ok (.invokevirtual 115, 3) := by decide +kernel
theorem dX4_floor_16 : decode cX4_floor 16 = .ok (.ifCond .eq 7, 3) := by decide +kernel
theorem dX4_floor_19 : decode cX4_floor 19 = .ok (.iconst 1, 1) := by decide +kernel
theorem dX4_floor_20 : decode cX4_floor 20 = .ok (.goto 4, 3) := by decide +kernel
theorem dX4_floor_23 : decode cX4_floor 23 = .ok (.iconst 0, 1) := by decide +kernel
theorem dX4_floor_24 : decode cX4_floor 24 = .ok (.iadd, 1) := by decide +kernel
theorem dX4_floor_25 : decode cX4_floor 25 = .ok (.istore_n 1, 1) := by decide +kernel
theorem dX4_floor_26 : decode cX4_floor 26 = .ok (.iinc 2 1, 3) := by decide +kernel
theorem dX4_floor_29 : decode cX4_floor 29 = .ok (.goto (-25), 3) := by decide +kernel
theorem dX4_floor_32 : decode cX4_floor 32 = .ok (.iload_n 1, 1) := by decide +kernel
theorem dX4_floor_33 : decode cX4_floor 33 = .ok (.ireturn, 1) := by decide +kernel
theorem dX4_floorCost_0 : decode cX4_floorCost 0 = .ok (.iconst 0, 1) := by decide +kernel
theorem dX4_floorCost_1 : decode cX4_floorCost 1 = .ok (.istore_n 1, 1) := by decide +kernel
theorem dX4_floorCost_2 : decode cX4_floorCost 2 = .ok (.iconst 0, 1) := by decide +kernel
theorem dX4_floorCost_3 : decode cX4_floorCost 3 = .ok (.istore_n 2, 1) := by decide +kernel
theorem dX4_floorCost_4 : decode cX4_floorCost 4 = .ok (.iload_n 2, 1) := by decide +kernel
theorem dX4_floorCost_5 : decode cX4_floorCost 5 = .ok (.bipush 16, 2) := by decide +kernel
theorem dX4_floorCost_7 : decode cX4_floorCost 7 = .ok (.if_icmp .ge 30, 3) := by decide +kernel
theorem dX4_floorCost_10 : decode cX4_floorCost 10 = .ok (.iload_n 1, 1) := by decide +kernel
theorem dX4_floorCost_11 : decode cX4_floorCost 11 = .ok (.aload_n 0, 1) := by decide +kernel
theorem dX4_floorCost_12 : decode cX4_floorCost 12 = .ok (.iload_n 2, 1) := by decide +kernel
theorem dX4_floorCost_13 : decode cX4_floorCost 13 = .ok (.invokevirtual 115, 3) := by decide +kernel
theorem dX4_floorCost_16 : decode cX4_floorCost 16 = .ok (.ifCond .eq 12, 3) := by decide +kernel
theorem dX4_floorCost_19 : decode cX4_floorCost 19 = .ok (.aload_n 0, 1) := by decide +kernel
theorem dX4_floorCost_20 : decode cX4_floorCost 20 = .ok (.getfield 38, 3) := by decide +kernel
theorem dX4_floorCost_23 : decode cX4_floorCost 23 = .ok (.iload_n 2, 1) := by decide +kernel
theorem dX4_floorCost_24 : decode cX4_floorCost 24 = .ok (.iaload, 1) := by decide +kernel
theorem dX4_floorCost_25 : decode cX4_floorCost 25 = .ok (.goto 4, 3) := by decide +kernel
theorem dX4_floorCost_28 : decode cX4_floorCost 28 = .ok (.iconst 0, 1) := by decide +kernel
theorem dX4_floorCost_29 : decode cX4_floorCost 29 = .ok (.iadd, 1) := by decide +kernel
theorem dX4_floorCost_30 : decode cX4_floorCost 30 = .ok (.istore_n 1, 1) := by decide +kernel
theorem dX4_floorCost_31 : decode cX4_floorCost 31 = .ok (.iinc 2 1, 3) := by decide +kernel
theorem dX4_floorCost_34 : decode cX4_floorCost 34 = .ok (.goto (-30), 3) := by decide +kernel
theorem dX4_floorCost_37 : decode cX4_floorCost 37 = .ok (.iload_n 1, 1) := by decide +kernel
theorem dX4_floorCost_38 : decode cX4_floorCost 38 = .ok (.ireturn, 1) := by decide +kernel
theorem dX4_isSpared_0 : decode cX4_isSpared 0 = .ok (.aload_n 0, 1) := by decide +kernel
theorem dX4_isSpared_1 : decode cX4_isSpared 1 = .ok (.getfield 26, 3) := by decide +kernel
theorem dX4_isSpared_4 : decode cX4_isSpared 4 = .ok (.iload_n 1, 1) := by decide +kernel
theorem dX4_isSpared_5 : decode cX4_isSpared 5 = .ok (.iaload, 1) := by decide +kernel
theorem dX4_isSpared_6 : decode cX4_isSpared 6 = .ok (.iconst 1, 1) := by decide +kernel
theorem dX4_isSpared_7 : decode cX4_isSpared 7 = .ok (.if_icmp .ne 47, 3) := by decide +kernel
theorem dX4_isSpared_10 : decode cX4_isSpared 10 = .ok (.aload_n 0, 1) := by decide +kernel
theorem dX4_isSpared_11 : decode cX4_isSpared 11 = .ok (.getfield 47, 3) := by decide +kernel
theorem dX4_isSpared_14 : decode cX4_isSpared 14 = .ok (.aload_n 0, 1) := by decide +kernel
theorem dX4_isSpared_15 : decode cX4_isSpared 15 = .ok (.getfield 13, 3) := by decide +kernel
theorem dX4_isSpared_18 : decode cX4_isSpared 18 = .ok (.iload_n 1, 1) := by decide +kernel
theorem dX4_isSpared_19 : decode cX4_isSpared 19 = .ok (.iaload, 1) := by decide +kernel
theorem dX4_isSpared_20 : decode cX4_isSpared 20 = .ok (.iaload, 1) := by decide +kernel
theorem dX4_isSpared_21 : decode cX4_isSpared 21 = .ok (.iconst (-1), 1) := by decide +kernel
theorem dX4_isSpared_22 : decode cX4_isSpared 22 = .ok (.if_icmp .eq 32, 3) := by decide +kernel
theorem dX4_isSpared_25 : decode cX4_isSpared 25 = .ok (.aload_n 0, 1) := by decide +kernel
theorem dX4_isSpared_26 : decode cX4_isSpared 26 = .ok (.getfield 47, 3) := by decide +kernel
theorem dX4_isSpared_29 : decode cX4_isSpared 29 = .ok (.aload_n 0, 1) := by decide +kernel
theorem dX4_isSpared_30 : decode cX4_isSpared 30 = .ok (.getfield 13, 3) := by decide +kernel
theorem dX4_isSpared_33 : decode cX4_isSpared 33 = .ok (.iload_n 1, 1) := by decide +kernel
theorem dX4_isSpared_34 : decode cX4_isSpared 34 = .ok (.iaload, 1) := by decide +kernel
theorem dX4_isSpared_35 : decode cX4_isSpared 35 = .ok (.iaload, 1) := by decide +kernel
theorem dX4_isSpared_36 : decode cX4_isSpared 36 = .ok (.aload_n 0, 1) := by decide +kernel
theorem dX4_isSpared_37 : decode cX4_isSpared 37 = .ok (.getfield 47, 3) := by decide +kernel
theorem dX4_isSpared_40 : decode cX4_isSpared 40 = .ok (.aload_n 0, 1) := by decide +kernel
theorem dX4_isSpared_41 : decode cX4_isSpared 41 = .ok (.getfield 17, 3) := by decide +kernel
theorem dX4_isSpared_44 : decode cX4_isSpared 44 = .ok (.iload_n 1, 1) := by decide +kernel
theorem dX4_isSpared_45 : decode cX4_isSpared 45 = .ok (.iaload, 1) := by decide +kernel
theorem dX4_isSpared_46 : decode cX4_isSpared 46 = .ok (.iaload, 1) := by decide +kernel
theorem dX4_isSpared_47 : decode cX4_isSpared 47 = .ok (.if_icmp .ne 7, 3) := by decide +kernel
theorem dX4_isSpared_50 : decode cX4_isSpared 50 = .ok (.iconst 1, 1) := by decide +kernel
theorem dX4_isSpared_51 : decode cX4_isSpared 51 = .ok (.goto 4, 3) := by decide +kernel
theorem dX4_isSpared_54 : decode cX4_isSpared 54 = .ok (.iconst 0, 1) := by decide +kernel
theorem dX4_isSpared_55 : decode cX4_isSpared 55 = .ok (.ireturn, 1) := by decide +kernel
theorem dX4_isPotOrNone_0 : decode cX4_isPotOrNone 0 = .ok (.iload_n 0, 1) := by decide +kernel
theorem dX4_isPotOrNone_1 : decode cX4_isPotOrNone 1 = .ok (.iconst (-1), 1) := by decide +kernel
theorem dX4_isPotOrNone_2 : decode cX4_isPotOrNone 2 = .ok (.bipush 15, 2) := by decide +kernel
theorem dX4_isPotOrNone_4 : decode cX4_isPotOrNone 4 = .ok (.invokestatic 53, 3) := by decide +kernel
theorem dX4_isPotOrNone_7 : decode cX4_isPotOrNone 7 = .ok (.ireturn, 1) := by decide +kernel
theorem dX4_add__0 : decode cX4_add_ 0 = .ok (.iload 4, 2) := by decide +kernel
theorem dX4_add__2 : decode cX4_add_ 2 = .ok (.iconst 1, 1) := by decide +kernel
theorem dX4_add__3 : decode cX4_add_ 3 = .ok (.bipush 9, 2) := by decide +kernel
theorem dX4_add__5 : decode cX4_add_ 5 = .ok (.invokestatic 53, 3) := by decide +kernel
theorem dX4_add__8 : decode cX4_add_ 8 = .ok (.ifCond .ne 9, 3) := by decide +kernel
theorem dX4_add__11 : decode cX4_add_ 11 = .ok (.aload_n 0, 1) := by decide +kernel
theorem dX4_add__12 : decode cX4_add_ 12 = .ok (.iconst 2, 1) := by decide +kernel
theorem dX4_add__13 : decode cX4_add_ 13 = .ok (.invokevirtual 119, 3) := by decide +kernel
theorem dX4_add__16 : decode cX4_add_ 16 = .ok (.ireturn, 1) := by decide +kernel
theorem dX4_add__17 : decode cX4_add_ 17 = .ok (.aload_n 0, 1) := by decide +kernel
theorem dX4_add__18 : decode cX4_add_ 18 = .ok (.getfield 57, 3) := by decide +kernel
theorem dX4_add__21 : decode cX4_add_ 21 = .ok (.bipush 30, 2) := by decide +kernel
theorem dX4_add__23 : decode cX4_add_ 23 = .ok (.if_icmp .ne 9, 3) := by decide +kernel
theorem dX4_add__26 : decode cX4_add_ 26 = .ok (.aload_n 0, 1) := by decide +kernel
theorem dX4_add__27 : decode cX4_add_ 27 = .ok (.iconst 3, 1) := by decide +kernel
theorem dX4_add__28 : decode cX4_add_ 28 = .ok (.invokevirtual 119, 3) := by decide +kernel
theorem dX4_add__31 : decode cX4_add_ 31 = .ok (.ireturn, 1) := by decide +kernel
theorem dX4_add__32 : decode cX4_add_ 32 = .ok (.aload_n 0, 1) := by decide +kernel
theorem dX4_add__33 : decode cX4_add_ 33 = .ok (.getfield 13, 3) := by decide +kernel
theorem dX4_add__36 : decode cX4_add_ 36 = .ok (.aload_n 0, 1) := by decide +kernel
theorem dX4_add__37 : decode cX4_add_ 37 = .ok (.getfield 57, 3) := by decide +kernel
theorem dX4_add__40 : decode cX4_add_ 40 = .ok (.iload_n 1, 1) := by decide +kernel
theorem dX4_add__41 : decode cX4_add_ 41 = .ok (.iastore, 1) := by decide +kernel
theorem dX4_add__42 : decode cX4_add_ 42 = .ok (.aload_n 0, 1) := by decide +kernel
theorem dX4_add__43 : decode cX4_add_ 43 = .ok (.getfield 17, 3) := by decide +kernel
theorem dX4_add__46 : decode cX4_add_ 46 = .ok (.aload_n 0, 1) := by decide +kernel
theorem dX4_add__47 : decode cX4_add_ 47 = .ok (.getfield 57, 3) := by decide +kernel
theorem dX4_add__50 : decode cX4_add_ 50 = .ok (.iload_n 2, 1) := by decide +kernel
theorem dX4_add__51 : decode cX4_add_ 51 = .ok (.iastore, 1) := by decide +kernel
theorem dX4_add__52 : decode cX4_add_ 52 = .ok (.aload_n 0, 1) := by decide +kernel
theorem dX4_add__53 : decode cX4_add_ 53 = .ok (.getfield 20, 3) := by decide +kernel
theorem dX4_add__56 : decode cX4_add_ 56 = .ok (.aload_n 0, 1) := by decide +kernel
theorem dX4_add__57 : decode cX4_add_ 57 = .ok (.getfield 57, 3) := by decide +kernel
theorem dX4_add__60 : decode cX4_add_ 60 = .ok (.iload_n 3, 1) := by decide +kernel
theorem dX4_add__61 : decode cX4_add_ 61 = .ok (.iastore, 1) := by decide +kernel
theorem dX4_add__62 : decode cX4_add_ 62 = .ok (.aload_n 0, 1) := by decide +kernel
theorem dX4_add__63 : decode cX4_add_ 63 = .ok (.getfield 23, 3) := by decide +kernel
theorem dX4_add__66 : decode cX4_add_ 66 = .ok (.aload_n 0, 1) := by decide +kernel
theorem dX4_add__67 : decode cX4_add_ 67 = .ok (.getfield 57, 3) := by decide +kernel
theorem dX4_add__70 : decode cX4_add_ 70 = .ok (.iload 4, 2) := by decide +kernel
theorem dX4_add__72 : decode cX4_add_ 72 = .ok (.iastore, 1) := by decide +kernel
theorem dX4_add__73 : decode cX4_add_ 73 = .ok (.aload_n 0, 1) := by decide +kernel
theorem dX4_add__74 : decode cX4_add_ 74 = .ok (.getfield 26, 3) := by decide +kernel
theorem dX4_add__77 : decode cX4_add_ 77 = .ok (.aload_n 0, 1) := by decide +kernel
theorem dX4_add__78 : decode cX4_add_ 78 = .ok (.getfield 57, 3) := by decide +kernel
theorem dX4_add__81 : decode cX4_add_ 81 = .ok (.iload 5, 2) := by decide +kernel
theorem dX4_add__83 : decode cX4_add_ 83 = .ok (.iastore, 1) := by decide +kernel
theorem dX4_add__84 : decode cX4_add_ 84 = .ok (.aload_n 0, 1) := by decide +kernel
theorem dX4_add__85 : decode cX4_add_ 85 = .ok (.dup, 1) := by decide +kernel
theorem dX4_add__86 : decode cX4_add_ 86 = .ok (.getfield 57, 3) := by decide +kernel
theorem dX4_add__89 : decode cX4_add_ 89 = .ok (.iconst 1, 1) := by decide +kernel
theorem dX4_add__90 : decode cX4_add_ 90 = .ok (.iadd, 1) := by decide +kernel
theorem dX4_add__91 : decode cX4_add_ 91 = .ok (.putfield 57, 3) := by decide +kernel
theorem dX4_add__94 : decode cX4_add_ 94 = .ok (.aload_n 0, 1) := by decide +kernel
theorem dX4_add__95 : decode cX4_add_ 95 = .ok (.getfield 57, 3) := by decide +kernel
theorem dX4_add__98 : decode cX4_add_ 98 = .ok (.iconst 1, 1) := by decide +kernel
theorem dX4_add__99 : decode cX4_add_ 99 = .ok (.isub, 1) := by decide +kernel
theorem dX4_add__100 : decode cX4_add_ 100 = .ok (.ireturn, 1) := by decide +kernel
theorem dX4_cook_0 : decode cX4_cook 0 = .ok (.aload_n 0, 1) := by decide +kernel
theorem dX4_cook_1 : decode cX4_cook 1 = .ok (.iconst 0, 1) := by decide +kernel
theorem dX4_cook_2 : decode cX4_cook 2 = .ok (.putfield 50, 3) := by decide +kernel
theorem dX4_cook_5 : decode cX4_cook 5 = .ok (.iload_n 1, 1) := by decide +kernel
theorem dX4_cook_6 : decode cX4_cook 6 = .ok (.invokestatic 122, 3) := by decide +kernel
theorem dX4_cook_9 : decode cX4_cook 9 = .ok (.ifCond .eq 30, 3) := by decide +kernel
theorem dX4_cook_12 : decode cX4_cook 12 = .ok (.iload_n 2, 1) := by decide +kernel
theorem dX4_cook_13 : decode cX4_cook 13 = .ok (.invokestatic 125, 3) := by decide +kernel
theorem dX4_cook_16 : decode cX4_cook 16 = .ok (.ifCond .eq 23, 3) := by decide +kernel
theorem dX4_cook_19 : decode cX4_cook 19 = .ok (.iload_n 3, 1) := by decide +kernel
theorem dX4_cook_20 : decode cX4_cook 20 = .ok (.invokestatic 125, 3) := by decide +kernel
theorem dX4_cook_23 : decode cX4_cook 23 = .ok (.ifCond .eq 16, 3) := by decide +kernel
theorem dX4_cook_26 : decode cX4_cook 26 = .ok (.aload_n 0, 1) := by decide +kernel
theorem dX4_cook_27 : decode cX4_cook 27 = .ok (.iload_n 1, 1) := by decide +kernel
theorem dX4_cook_28 : decode cX4_cook 28 = .ok (.iload_n 2, 1) := by decide +kernel
theorem dX4_cook_29 : decode cX4_cook 29 = .ok (.iload_n 3, 1) := by decide +kernel
theorem dX4_cook_30 : decode cX4_cook 30 = .ok (.iload 4, 2) := by decide +kernel
theorem dX4_cook_32 : decode cX4_cook 32 = .ok (.iconst 0, 1) := by decide +kernel
theorem dX4_cook_33 : decode cX4_cook 33 = .ok (.invokevirtual 128, 3) := by decide +kernel
theorem dX4_cook_36 : decode cX4_cook 36 = .ok (.goto 8, 3) := by decide +kernel
theorem dX4_cook_39 : decode cX4_cook 39 = .ok (.aload_n 0, 1) := by decide +kernel
theorem dX4_cook_40 : decode cX4_cook 40 = .ok (.iconst 1, 1) := by decide +kernel
theorem dX4_cook_41 : decode cX4_cook 41 = .ok (.invokevirtual 119, 3) := by decide +kernel
theorem dX4_cook_44 : decode cX4_cook 44 = .ok (.ireturn, 1) := by decide +kernel
theorem dX4_pour_0 : decode cX4_pour 0 = .ok (.aload_n 0, 1) := by decide +kernel
theorem dX4_pour_1 : decode cX4_pour 1 = .ok (.iconst 0, 1) := by decide +kernel
theorem dX4_pour_2 : decode cX4_pour 2 = .ok (.putfield 50, 3) := by decide +kernel
theorem dX4_pour_5 : decode cX4_pour 5 = .ok (.iload_n 1, 1) := by decide +kernel
theorem dX4_pour_6 : decode cX4_pour 6 = .ok (.invokestatic 122, 3) := by decide +kernel
theorem dX4_pour_9 : decode cX4_pour 9 = .ok (.ifCond .eq 22, 3) := by decide +kernel
theorem dX4_pour_12 : decode cX4_pour 12 = .ok (.iload_n 2, 1) := by decide +kernel
theorem dX4_pour_13 : decode cX4_pour 13 = .ok (.invokestatic 122, 3) := by decide +kernel
theorem dX4_pour_16 : decode cX4_pour 16 = .ok (.ifCond .eq 15, 3) := by decide +kernel
theorem dX4_pour_19 : decode cX4_pour 19 = .ok (.aload_n 0, 1) := by decide +kernel
theorem dX4_pour_20 : decode cX4_pour 20 = .ok (.iload_n 1, 1) := by decide +kernel
theorem dX4_pour_21 : decode cX4_pour 21 = .ok (.iload_n 2, 1) := by decide +kernel
theorem dX4_pour_22 : decode cX4_pour 22 = .ok (.iconst (-1), 1) := by decide +kernel
theorem dX4_pour_23 : decode cX4_pour 23 = .ok (.iload_n 3, 1) := by decide +kernel
theorem dX4_pour_24 : decode cX4_pour 24 = .ok (.iconst 1, 1) := by decide +kernel
theorem dX4_pour_25 : decode cX4_pour 25 = .ok (.invokevirtual 128, 3) := by decide +kernel
theorem dX4_pour_28 : decode cX4_pour 28 = .ok (.goto 8, 3) := by decide +kernel
theorem dX4_pour_31 : decode cX4_pour 31 = .ok (.aload_n 0, 1) := by decide +kernel
theorem dX4_pour_32 : decode cX4_pour 32 = .ok (.iconst 1, 1) := by decide +kernel
theorem dX4_pour_33 : decode cX4_pour 33 = .ok (.invokevirtual 119, 3) := by decide +kernel
theorem dX4_pour_36 : decode cX4_pour 36 = .ok (.ireturn, 1) := by decide +kernel
theorem dX4_moveUp_0 : decode cX4_moveUp 0 = .ok (.iload_n 1, 1) := by decide +kernel
theorem dX4_moveUp_1 : decode cX4_moveUp 1 = .ok (.istore_n 3, 1) := by decide +kernel
theorem dX4_moveUp_2 : decode cX4_moveUp 2 = .ok (.iload_n 3, 1) := by decide +kernel
theorem dX4_moveUp_3 : decode cX4_moveUp 3 = .ok (.iload_n 2, 1) := by decide +kernel
theorem dX4_moveUp_4 : decode cX4_moveUp 4 = .ok (.if_icmp .ge 17, 3) := by decide +kernel
theorem dX4_moveUp_7 : decode cX4_moveUp 7 = .ok (.aload_n 0, 1) := by decide +kernel
theorem dX4_moveUp_8 : decode cX4_moveUp 8 = .ok (.iload_n 3, 1) := by decide +kernel
theorem dX4_moveUp_9 : decode cX4_moveUp 9 = .ok (.aload_n 0, 1) := by decide +kernel
theorem dX4_moveUp_10 : decode cX4_moveUp 10 = .ok (.iload_n 3, 1) := by decide +kernel
theorem dX4_moveUp_11 : decode cX4_moveUp 11 = .ok (.iconst 1, 1) := by decide +kernel
theorem dX4_moveUp_12 : decode cX4_moveUp 12 = .ok (.iadd, 1) := by decide +kernel
theorem dX4_moveUp_13 : decode cX4_moveUp 13 = .ok (.iaload, 1) := by decide +kernel
theorem dX4_moveUp_14 : decode cX4_moveUp 14 = .ok (.iastore, 1) := by decide +kernel
theorem dX4_moveUp_15 : decode cX4_moveUp 15 = .ok (.iinc 3 1, 3) := by decide +kernel
theorem dX4_moveUp_18 : decode cX4_moveUp 18 = .ok (.goto (-16), 3) := by decide +kernel
theorem dX4_moveUp_21 : decode cX4_moveUp 21 = .ok (.return_, 1) := by decide +kernel
theorem dX4_drop_0 : decode cX4_drop 0 = .ok (.aload_n 0, 1) := by decide +kernel
theorem dX4_drop_1 : decode cX4_drop 1 = .ok (.iconst 0, 1) := by decide +kernel
theorem dX4_drop_2 : decode cX4_drop 2 = .ok (.putfield 50, 3) := by decide +kernel
theorem dX4_drop_5 : decode cX4_drop 5 = .ok (.aload_n 0, 1) := by decide +kernel
theorem dX4_drop_6 : decode cX4_drop 6 = .ok (.iload_n 1, 1) := by decide +kernel
theorem dX4_drop_7 : decode cX4_drop 7 = .ok (.invokevirtual 131, 3) := by decide +kernel
theorem dX4_drop_10 : decode cX4_drop 10 = .ok (.ifCond .ne 9, 3) := by decide +kernel
theorem dX4_drop_13 : decode cX4_drop 13 = .ok (.aload_n 0, 1) := by decide +kernel
theorem dX4_drop_14 : decode cX4_drop 14 = .ok (.iconst 1, 1) := by decide +kernel
theorem dX4_drop_15 : decode cX4_drop 15 = .ok (.invokevirtual 119, 3) := by decide +kernel
theorem dX4_drop_18 : decode cX4_drop 18 = .ok (.ireturn, 1) := by decide +kernel
theorem dX4_drop_19 : decode cX4_drop 19 = .ok (.aload_n 0, 1) := by decide +kernel
theorem dX4_drop_20 : decode cX4_drop 20 = .ok (.dup, 1) := by decide +kernel
theorem dX4_drop_21 : decode cX4_drop 21 = .ok (.getfield 57, 3) := by decide +kernel
theorem dX4_drop_24 : decode cX4_drop 24 = .ok (.iconst 1, 1) := by decide +kernel
theorem dX4_drop_25 : decode cX4_drop 25 = .ok (.isub, 1) := by decide +kernel
theorem dX4_drop_26 : decode cX4_drop 26 = .ok (.putfield 57, 3) := by decide +kernel
theorem dX4_drop_29 : decode cX4_drop 29 = .ok (.aload_n 0, 1) := by decide +kernel
theorem dX4_drop_30 : decode cX4_drop 30 = .ok (.getfield 13, 3) := by decide +kernel
theorem dX4_drop_33 : decode cX4_drop 33 = .ok (.iload_n 1, 1) := by decide +kernel
theorem dX4_drop_34 : decode cX4_drop 34 = .ok (.aload_n 0, 1) := by decide +kernel
theorem dX4_drop_35 : decode cX4_drop 35 = .ok (.getfield 57, 3) := by decide +kernel
theorem dX4_drop_38 : decode cX4_drop 38 = .ok (.invokestatic 134, 3) := by decide +kernel
theorem dX4_drop_41 : decode cX4_drop 41 = .ok (.aload_n 0, 1) := by decide +kernel
theorem dX4_drop_42 : decode cX4_drop 42 = .ok (.getfield 17, 3) := by decide +kernel
theorem dX4_drop_45 : decode cX4_drop 45 = .ok (.iload_n 1, 1) := by decide +kernel
theorem dX4_drop_46 : decode cX4_drop 46 = .ok (.aload_n 0, 1) := by decide +kernel
theorem dX4_drop_47 : decode cX4_drop 47 = .ok (.getfield 57, 3) := by decide +kernel
theorem dX4_drop_50 : decode cX4_drop 50 = .ok (.invokestatic 134, 3) := by decide +kernel
theorem dX4_drop_53 : decode cX4_drop 53 = .ok (.aload_n 0, 1) := by decide +kernel
theorem dX4_drop_54 : decode cX4_drop 54 = .ok (.getfield 20, 3) := by decide +kernel
theorem dX4_drop_57 : decode cX4_drop 57 = .ok (.iload_n 1, 1) := by decide +kernel
theorem dX4_drop_58 : decode cX4_drop 58 = .ok (.aload_n 0, 1) := by decide +kernel
theorem dX4_drop_59 : decode cX4_drop 59 = .ok (.getfield 57, 3) := by decide +kernel
theorem dX4_drop_62 : decode cX4_drop 62 = .ok (.invokestatic 134, 3) := by decide +kernel
theorem dX4_drop_65 : decode cX4_drop 65 = .ok (.aload_n 0, 1) := by decide +kernel
theorem dX4_drop_66 : decode cX4_drop 66 = .ok (.getfield 23, 3) := by decide +kernel
theorem dX4_drop_69 : decode cX4_drop 69 = .ok (.iload_n 1, 1) := by decide +kernel
theorem dX4_drop_70 : decode cX4_drop 70 = .ok (.aload_n 0, 1) := by decide +kernel
theorem dX4_drop_71 : decode cX4_drop 71 = .ok (.getfield 57, 3) := by decide +kernel
theorem dX4_drop_74 : decode cX4_drop 74 = .ok (.invokestatic 134, 3) := by decide +kernel
theorem dX4_drop_77 : decode cX4_drop 77 = .ok (.aload_n 0, 1) := by decide +kernel
theorem dX4_drop_78 : decode cX4_drop 78 = .ok (.getfield 26, 3) := by decide +kernel
theorem dX4_drop_81 : decode cX4_drop 81 = .ok (.iload_n 1, 1) := by decide +kernel
theorem dX4_drop_82 : decode cX4_drop 82 = .ok (.aload_n 0, 1) := by decide +kernel
theorem dX4_drop_83 : decode cX4_drop 83 = .ok (.getfield 57, 3) := by decide +kernel
theorem dX4_drop_86 : decode cX4_drop 86 = .ok (.invokestatic 134, 3) := by decide +kernel
theorem dX4_drop_89 : decode cX4_drop 89 = .ok (.aload_n 0, 1) := by decide +kernel
theorem dX4_drop_90 : decode cX4_drop 90 = .ok (.getfield 57, 3) := by decide +kernel
theorem dX4_drop_93 : decode cX4_drop 93 = .ok (.ireturn, 1) := by decide +kernel
theorem dX4_want_0 : decode cX4_want 0 = .ok (.aload_n 0, 1) := by decide +kernel
theorem dX4_want_1 : decode cX4_want 1 = .ok (.iload_n 1, 1) := by decide +kernel
theorem dX4_want_2 : decode cX4_want 2 = .ok (.invokestatic 122, 3) := by decide +kernel
theorem dX4_want_5 : decode cX4_want 5 = .ok (.ifCond .eq 7, 3) := by decide +kernel
theorem dX4_want_8 : decode cX4_want 8 = .ok (.iconst 0, 1) := by decide +kernel
theorem dX4_want_9 : decode cX4_want 9 = .ok (.goto 4, 3) := by decide +kernel
theorem dX4_want_12 : decode cX4_want 12 = .ok (.iconst 1, 1) := by decide +kernel
theorem dX4_want_13 : decode cX4_want 13 = .ok (.putfield 50, 3) := by decide +kernel
theorem dX4_want_16 : decode cX4_want 16 = .ok (.aload_n 0, 1) := by decide +kernel
theorem dX4_want_17 : decode cX4_want 17 = .ok (.getfield 50, 3) := by decide +kernel
theorem dX4_want_20 : decode cX4_want 20 = .ok (.ifCond .eq 5, 3) := by decide +kernel
theorem dX4_want_23 : decode cX4_want 23 = .ok (.iconst 0, 1) := by decide +kernel
theorem dX4_want_24 : decode cX4_want 24 = .ok (.ireturn, 1) := by decide +kernel
theorem dX4_want_25 : decode cX4_want 25 = .ok (.aload_n 0, 1) := by decide +kernel
theorem dX4_want_26 : decode cX4_want 26 = .ok (.getfield 64, 3) := by decide +kernel
theorem dX4_want_29 : decode cX4_want 29 = .ok (.iload_n 1, 1) := by decide +kernel
theorem dX4_want_30 : decode cX4_want 30 = .ok (.invokestatic 76, 3) := by decide +kernel
theorem dX4_want_33 : decode cX4_want 33 = .ok (.istore_n 3, 1) := by decide +kernel
theorem dX4_want_34 : decode cX4_want 34 = .ok (.iload_n 3, 1) := by decide +kernel
theorem dX4_want_35 : decode cX4_want 35 = .ok (.iload_n 2, 1) := by decide +kernel
theorem dX4_want_36 : decode cX4_want 36 = .ok (.if_icmp .eq 16, 3) := by decide +kernel
theorem dX4_want_39 : decode cX4_want 39 = .ok (.aload_n 0, 1) := by decide +kernel
theorem dX4_want_40 : decode cX4_want 40 = .ok (.dup, 1) := by decide +kernel
theorem dX4_want_41 : decode cX4_want 41 = .ok (.getfield 64, 3) := by decide +kernel
theorem dX4_want_44 : decode cX4_want 44 = .ok (.iload_n 1, 1) := by decide +kernel
theorem dX4_want_45 : decode cX4_want 45 = .ok (.invokestatic 60, 3) := by decide +kernel
theorem dX4_want_48 : decode cX4_want 48 = .ok (.ixor, 1) := by decide +kernel
theorem dX4_want_49 : decode cX4_want 49 = .ok (.putfield 64, 3) := by decide +kernel
theorem dX4_want_52 : decode cX4_want 52 = .ok (.iload_n 3, 1) := by decide +kernel
theorem dX4_want_53 : decode cX4_want 53 = .ok (.ireturn, 1) := by decide +kernel
theorem dX4_setHooks_0 : decode cX4_setHooks 0 = .ok (.aload_n 0, 1) := by decide +kernel
theorem dX4_setHooks_1 : decode cX4_setHooks 1 = .ok (.iconst 0, 1) := by decide +kernel
theorem dX4_setHooks_2 : decode cX4_setHooks 2 = .ok (.putfield 50, 3) := by decide +kernel
theorem dX4_setHooks_5 : decode cX4_setHooks 5 = .ok (.iload_n 1, 1) := by decide +kernel
theorem dX4_setHooks_6 : decode cX4_setHooks 6 = .ok (.iconst 1, 1) := by decide +kernel
theorem dX4_setHooks_7 : decode cX4_setHooks 7 = .ok (.bipush 8, 2) := by decide +kernel
theorem dX4_setHooks_9 : decode cX4_setHooks 9 = .ok (.invokestatic 53, 3) := by decide +kernel
theorem dX4_setHooks_12 : decode cX4_setHooks 12 = .ok (.ifCond .ne 9, 3) := by decide +kernel
theorem dX4_setHooks_15 : decode cX4_setHooks 15 = .ok (.aload_n 0, 1) := by decide +kernel
theorem dX4_setHooks_16 : decode cX4_setHooks 16 = .ok (.iconst 1, 1) := by decide +kernel
theorem dX4_setHooks_17 : decode cX4_setHooks 17 = .ok (.invokevirtual 119, 3) := by decide +kernel
theorem dX4_setHooks_20 : decode cX4_setHooks 20 = .ok (.ireturn, 1) := by decide +kernel
theorem dX4_setHooks_21 : decode cX4_setHooks 21 = .ok (.aload_n 0, 1) := by decide +kernel
theorem dX4_setHooks_22 : decode cX4_setHooks 22 = .ok (.getfield 7, 3) := by decide +kernel
theorem dX4_setHooks_25 : decode cX4_setHooks 25 = .ok (.istore_n 2, 1) := by decide +kernel
theorem dX4_setHooks_26 : decode cX4_setHooks 26 = .ok (.aload_n 0, 1) := by decide +kernel
theorem dX4_setHooks_27 : decode cX4_setHooks 27 = .ok (.iload_n 1, 1) := by decide +kernel
theorem dX4_setHooks_28 : decode cX4_setHooks 28 = .ok (.putfield 7, 3) := by decide +kernel
theorem dX4_setHooks_31 : decode cX4_setHooks 31 = .ok (.iload_n 2, 1) := by decide +kernel
theorem dX4_setHooks_32 : decode cX4_setHooks 32 = .ok (.ireturn, 1) := by decide +kernel
theorem dX4_aheadOf_0 : decode cX4_aheadOf 0 = .ok (.iload_n 1, 1) := by decide +kernel
theorem dX4_aheadOf_1 : decode cX4_aheadOf 1 = .ok (.ifCond .ne 10, 3) := by decide +kernel
theorem dX4_aheadOf_4 : decode cX4_aheadOf 4 = .ok (.aload_n 0, 1) := by decide +kernel
theorem dX4_aheadOf_5 : decode cX4_aheadOf 5 = .ok (.getfield 73, 3) := by decide +kernel
theorem dX4_aheadOf_8 : decode cX4_aheadOf 8 = .ok (.goto 11, 3) := by decide +kernel
theorem dX4_aheadOf_11 : decode cX4_aheadOf 11 = .ok (.aload_n 0, 1) := by decide +kernel
theorem dX4_aheadOf_12 : decode cX4_aheadOf 12 = .ok (.getfield 32, 3) := by decide +kernel
theorem dX4_aheadOf_15 : decode cX4_aheadOf 15 = .ok (.iload_n 1, 1) := by decide +kernel
theorem dX4_aheadOf_16 : decode cX4_aheadOf 16 = .ok (.iconst 1, 1) := by decide +kernel
theorem dX4_aheadOf_17 : decode cX4_aheadOf 17 = .ok (.isub, 1) := by decide +kernel
theorem dX4_aheadOf_18 : decode cX4_aheadOf 18 = .ok (.iaload, 1) := by decide +kernel
theorem dX4_aheadOf_19 : decode cX4_aheadOf 19 = .ok (.ireturn, 1) := by decide +kernel
theorem dX4_deedTold_0 : decode cX4_deedTold 0 = .ok (.iload_n 2, 1) := by decide +kernel
theorem dX4_deedTold_1 : decode cX4_deedTold 1 = .ok (.tableswitch 84 0 5 #[39, 46, 53, 60, 67, 74], 39) := by decide +kernel
theorem dX4_deedTold_40 : decode cX4_deedTold 40 = .ok (.aload_n 0, 1) := by decide +kernel
theorem dX4_deedTold_41 : decode cX4_deedTold 41 = .ok (.getfield 13, 3) := by decide +kernel
theorem dX4_deedTold_44 : decode cX4_deedTold 44 = .ok (.iload_n 1, 1) := by decide +kernel
theorem dX4_deedTold_45 : decode cX4_deedTold 45 = .ok (.iaload, 1) := by decide +kernel
theorem dX4_deedTold_46 : decode cX4_deedTold 46 = .ok (.ireturn, 1) := by decide +kernel
theorem dX4_deedTold_47 : decode cX4_deedTold 47 = .ok (.aload_n 0, 1) := by decide +kernel
theorem dX4_deedTold_48 : decode cX4_deedTold 48 = .ok (.getfield 17, 3) := by decide +kernel
theorem dX4_deedTold_51 : decode cX4_deedTold 51 = .ok (.iload_n 1, 1) := by decide +kernel
theorem dX4_deedTold_52 : decode cX4_deedTold 52 = .ok (.iaload, 1) := by decide +kernel
theorem dX4_deedTold_53 : decode cX4_deedTold 53 = .ok (.ireturn, 1) := by decide +kernel
theorem dX4_deedTold_54 : decode cX4_deedTold 54 = .ok (.aload_n 0, 1) := by decide +kernel
theorem dX4_deedTold_55 : decode cX4_deedTold 55 = .ok (.getfield 20, 3) := by decide +kernel
theorem dX4_deedTold_58 : decode cX4_deedTold 58 = .ok (.iload_n 1, 1) := by decide +kernel
theorem dX4_deedTold_59 : decode cX4_deedTold 59 = .ok (.iaload, 1) := by decide +kernel
theorem dX4_deedTold_60 : decode cX4_deedTold 60 = .ok (.ireturn, 1) := by decide +kernel
theorem dX4_deedTold_61 : decode cX4_deedTold 61 = .ok (.aload_n 0, 1) := by decide +kernel
theorem dX4_deedTold_62 : decode cX4_deedTold 62 = .ok (.getfield 23, 3) := by decide +kernel
theorem dX4_deedTold_65 : decode cX4_deedTold 65 = .ok (.iload_n 1, 1) := by decide +kernel
theorem dX4_deedTold_66 : decode cX4_deedTold 66 = .ok (.iaload, 1) := by decide +kernel
theorem dX4_deedTold_67 : decode cX4_deedTold 67 = .ok (.ireturn, 1) := by decide +kernel
theorem dX4_deedTold_68 : decode cX4_deedTold 68 = .ok (.aload_n 0, 1) := by decide +kernel
theorem dX4_deedTold_69 : decode cX4_deedTold 69 = .ok (.getfield 26, 3) := by decide +kernel
theorem dX4_deedTold_72 : decode cX4_deedTold 72 = .ok (.iload_n 1, 1) := by decide +kernel
theorem dX4_deedTold_73 : decode cX4_deedTold 73 = .ok (.iaload, 1) := by decide +kernel
theorem dX4_deedTold_74 : decode cX4_deedTold 74 = .ok (.ireturn, 1) := by decide +kernel
theorem dX4_deedTold_75 : decode cX4_deedTold 75 = .ok (.aload_n 0, 1) := by decide +kernel
theorem dX4_deedTold_76 : decode cX4_deedTold 76 = .ok (.getfield 32, 3) := by decide +kernel
theorem dX4_deedTold_79 : decode cX4_deedTold 79 = .ok (.iload_n 1, 1) := by decide +kernel
theorem dX4_deedTold_80 : decode cX4_deedTold 80 = .ok (.iaload, 1) := by decide +kernel
theorem dX4_deedTold_81 : decode cX4_deedTold 81 = .ok (.invokestatic 90, 3) := by decide +kernel
theorem dX4_deedTold_84 : decode cX4_deedTold 84 = .ok (.ireturn, 1) := by decide +kernel
theorem dX4_deedTold_85 : decode cX4_deedTold 85 = .ok (.aload_n 0, 1) := by decide +kernel
theorem dX4_deedTold_86 : decode cX4_deedTold 86 = .ok (.iload_n 1, 1) := by decide +kernel
theorem dX4_deedTold_87 : decode cX4_deedTold 87 = .ok (.invokevirtual 138, 3) := by decide +kernel
theorem dX4_deedTold_90 : decode cX4_deedTold 90 = .ok (.invokestatic 90, 3) := by decide +kernel
theorem dX4_deedTold_93 : decode cX4_deedTold 93 = .ok (.ireturn, 1) := by decide +kernel
theorem dX4_deed_0 : decode cX4_deed 0 = .ok (.aload_n 0, 1) := by decide +kernel
theorem dX4_deed_1 : decode cX4_deed 1 = .ok (.iconst 0, 1) := by decide +kernel
theorem dX4_deed_2 : decode cX4_deed 2 = .ok (.putfield 50, 3) := by decide +kernel
theorem dX4_deed_5 : decode cX4_deed 5 = .ok (.aload_n 0, 1) := by decide +kernel
theorem dX4_deed_6 : decode cX4_deed 6 = .ok (.iload_n 1, 1) := by decide +kernel
theorem dX4_deed_7 : decode cX4_deed 7 = .ok (.invokevirtual 131, 3) := by decide +kernel
theorem dX4_deed_10 : decode cX4_deed 10 = .ok (.ifCond .eq 13, 3) := by decide +kernel
theorem dX4_deed_13 : decode cX4_deed 13 = .ok (.iload_n 2, 1) := by decide +kernel
theorem dX4_deed_14 : decode cX4_deed 14 = .ok (.iconst 0, 1) := by decide +kernel
theorem dX4_deed_15 : decode cX4_deed 15 = .ok (.bipush 6, 2) := by decide +kernel
theorem dX4_deed_17 : decode cX4_deed 17 = .ok (.invokestatic 53, 3) := by decide +kernel
theorem dX4_deed_20 : decode cX4_deed 20 = .ok (.ifCond .ne 9, 3) := by decide +kernel
theorem dX4_deed_23 : decode cX4_deed 23 = .ok (.aload_n 0, 1) := by decide +kernel
theorem dX4_deed_24 : decode cX4_deed 24 = .ok (.iconst 1, 1) := by decide +kernel
theorem dX4_deed_25 : decode cX4_deed 25 = .ok (.invokevirtual 119, 3) := by decide +kernel
theorem dX4_deed_28 : decode cX4_deed 28 = .ok (.ireturn, 1) := by decide +kernel
theorem dX4_deed_29 : decode cX4_deed 29 = .ok (.aload_n 0, 1) := by decide +kernel
theorem dX4_deed_30 : decode cX4_deed 30 = .ok (.invokevirtual 80, 3) := by decide +kernel
theorem dX4_deed_33 : decode cX4_deed 33 = .ok (.aload_n 0, 1) := by decide +kernel
theorem dX4_deed_34 : decode cX4_deed 34 = .ok (.iload_n 1, 1) := by decide +kernel
theorem dX4_deed_35 : decode cX4_deed 35 = .ok (.iload_n 2, 1) := by decide +kernel
theorem dX4_deed_36 : decode cX4_deed 36 = .ok (.invokevirtual 141, 3) := by decide +kernel
theorem dX4_deed_39 : decode cX4_deed 39 = .ok (.ireturn, 1) := by decide +kernel
theorem dX4_lives_0 : decode cX4_lives 0 = .ok (.aload_n 0, 1) := by decide +kernel
theorem dX4_lives_1 : decode cX4_lives 1 = .ok (.iload_n 1, 1) := by decide +kernel
theorem dX4_lives_2 : decode cX4_lives 2 = .ok (.invokestatic 122, 3) := by decide +kernel
theorem dX4_lives_5 : decode cX4_lives 5 = .ok (.ifCond .eq 15, 3) := by decide +kernel
theorem dX4_lives_8 : decode cX4_lives 8 = .ok (.aload_n 0, 1) := by decide +kernel
theorem dX4_lives_9 : decode cX4_lives 9 = .ok (.iload_n 2, 1) := by decide +kernel
theorem dX4_lives_10 : decode cX4_lives 10 = .ok (.invokevirtual 131, 3) := by decide +kernel
theorem dX4_lives_13 : decode cX4_lives 13 = .ok (.ifCond .eq 7, 3) := by decide +kernel
theorem dX4_lives_16 : decode cX4_lives 16 = .ok (.iconst 0, 1) := by decide +kernel
theorem dX4_lives_17 : decode cX4_lives 17 = .ok (.goto 4, 3) := by decide +kernel
theorem dX4_lives_20 : decode cX4_lives 20 = .ok (.iconst 1, 1) := by decide +kernel
theorem dX4_lives_21 : decode cX4_lives 21 = .ok (.putfield 50, 3) := by decide +kernel
theorem dX4_lives_24 : decode cX4_lives 24 = .ok (.aload_n 0, 1) := by decide +kernel
theorem dX4_lives_25 : decode cX4_lives 25 = .ok (.getfield 50, 3) := by decide +kernel
theorem dX4_lives_28 : decode cX4_lives 28 = .ok (.ifCond .eq 5, 3) := by decide +kernel
theorem dX4_lives_31 : decode cX4_lives 31 = .ok (.iconst 0, 1) := by decide +kernel
theorem dX4_lives_32 : decode cX4_lives 32 = .ok (.ireturn, 1) := by decide +kernel
theorem dX4_lives_33 : decode cX4_lives 33 = .ok (.aload_n 0, 1) := by decide +kernel
theorem dX4_lives_34 : decode cX4_lives 34 = .ok (.invokevirtual 80, 3) := by decide +kernel
theorem dX4_lives_37 : decode cX4_lives 37 = .ok (.aload_n 0, 1) := by decide +kernel
theorem dX4_lives_38 : decode cX4_lives 38 = .ok (.getfield 32, 3) := by decide +kernel
theorem dX4_lives_41 : decode cX4_lives 41 = .ok (.iload_n 2, 1) := by decide +kernel
theorem dX4_lives_42 : decode cX4_lives 42 = .ok (.iaload, 1) := by decide +kernel
theorem dX4_lives_43 : decode cX4_lives 43 = .ok (.iload_n 1, 1) := by decide +kernel
theorem dX4_lives_44 : decode cX4_lives 44 = .ok (.invokestatic 76, 3) := by decide +kernel
theorem dX4_lives_47 : decode cX4_lives 47 = .ok (.ireturn, 1) := by decide +kernel
theorem dX4_clash_0 : decode cX4_clash 0 = .ok (.aload_n 0, 1) := by decide +kernel
theorem dX4_clash_1 : decode cX4_clash 1 = .ok (.iload_n 1, 1) := by decide +kernel
theorem dX4_clash_2 : decode cX4_clash 2 = .ok (.invokestatic 122, 3) := by decide +kernel
theorem dX4_clash_5 : decode cX4_clash 5 = .ok (.ifCond .eq 14, 3) := by decide +kernel
theorem dX4_clash_8 : decode cX4_clash 8 = .ok (.iload_n 2, 1) := by decide +kernel
theorem dX4_clash_9 : decode cX4_clash 9 = .ok (.invokestatic 122, 3) := by decide +kernel
theorem dX4_clash_12 : decode cX4_clash 12 = .ok (.ifCond .eq 7, 3) := by decide +kernel
theorem dX4_clash_15 : decode cX4_clash 15 = .ok (.iconst 0, 1) := by decide +kernel
theorem dX4_clash_16 : decode cX4_clash 16 = .ok (.goto 4, 3) := by decide +kernel
theorem dX4_clash_19 : decode cX4_clash 19 = .ok (.iconst 1, 1) := by decide +kernel
theorem dX4_clash_20 : decode cX4_clash 20 = .ok (.putfield 50, 3) := by decide +kernel
theorem dX4_clash_23 : decode cX4_clash 23 = .ok (.aload_n 0, 1) := by decide +kernel
theorem dX4_clash_24 : decode cX4_clash 24 = .ok (.getfield 50, 3) := by decide +kernel
theorem dX4_clash_27 : decode cX4_clash 27 = .ok (.ifCond .eq 5, 3) := by decide +kernel
theorem dX4_clash_30 : decode cX4_clash 30 = .ok (.iconst 0, 1) := by decide +kernel
theorem dX4_clash_31 : decode cX4_clash 31 = .ok (.ireturn, 1) := by decide +kernel
theorem dX4_clash_32 : decode cX4_clash 32 = .ok (.aload_n 0, 1) := by decide +kernel
theorem dX4_clash_33 : decode cX4_clash 33 = .ok (.invokevirtual 108, 3) := by decide +kernel
theorem dX4_clash_36 : decode cX4_clash 36 = .ok (.aload_n 0, 1) := by decide +kernel
theorem dX4_clash_37 : decode cX4_clash 37 = .ok (.getfield 35, 3) := by decide +kernel
theorem dX4_clash_40 : decode cX4_clash 40 = .ok (.iload_n 1, 1) := by decide +kernel
theorem dX4_clash_41 : decode cX4_clash 41 = .ok (.iaload, 1) := by decide +kernel
theorem dX4_clash_42 : decode cX4_clash 42 = .ok (.iload_n 2, 1) := by decide +kernel
theorem dX4_clash_43 : decode cX4_clash 43 = .ok (.invokestatic 76, 3) := by decide +kernel
theorem dX4_clash_46 : decode cX4_clash 46 = .ok (.ireturn, 1) := by decide +kernel
theorem dX4_potTold_0 : decode cX4_potTold 0 = .ok (.iload_n 2, 1) := by decide +kernel
theorem dX4_potTold_1 : decode cX4_potTold 1 = .ok (.tableswitch 83 0 4 #[35, 52, 59, 69, 76], 35) := by decide +kernel
theorem dX4_potTold_36 : decode cX4_potTold 36 = .ok (.aload_n 0, 1) := by decide +kernel
theorem dX4_potTold_37 : decode cX4_potTold 37 = .ok (.getfield 67, 3) := by decide +kernel
theorem dX4_potTold_40 : decode cX4_potTold 40 = .ok (.iload_n 1, 1) := by decide +kernel
theorem dX4_potTold_41 : decode cX4_potTold 41 = .ok (.invokestatic 76, 3) := by decide +kernel
theorem dX4_potTold_44 : decode cX4_potTold 44 = .ok (.ifCond .eq 7, 3) := by decide +kernel
theorem dX4_potTold_47 : decode cX4_potTold 47 = .ok (.iconst 1, 1) := by decide +kernel
theorem dX4_potTold_48 : decode cX4_potTold 48 = .ok (.goto 4, 3) := by decide +kernel
theorem dX4_potTold_51 : decode cX4_potTold 51 = .ok (.iconst 0, 1) := by decide +kernel
theorem dX4_potTold_52 : decode cX4_potTold 52 = .ok (.ireturn, 1) := by decide +kernel
theorem dX4_potTold_53 : decode cX4_potTold 53 = .ok (.aload_n 0, 1) := by decide +kernel
theorem dX4_potTold_54 : decode cX4_potTold 54 = .ok (.getfield 38, 3) := by decide +kernel
theorem dX4_potTold_57 : decode cX4_potTold 57 = .ok (.iload_n 1, 1) := by decide +kernel
theorem dX4_potTold_58 : decode cX4_potTold 58 = .ok (.iaload, 1) := by decide +kernel
theorem dX4_potTold_59 : decode cX4_potTold 59 = .ok (.ireturn, 1) := by decide +kernel
theorem dX4_potTold_60 : decode cX4_potTold 60 = .ok (.aload_n 0, 1) := by decide +kernel
theorem dX4_potTold_61 : decode cX4_potTold 61 = .ok (.getfield 35, 3) := by decide +kernel
theorem dX4_potTold_64 : decode cX4_potTold 64 = .ok (.iload_n 1, 1) := by decide +kernel
theorem dX4_potTold_65 : decode cX4_potTold 65 = .ok (.iaload, 1) := by decide +kernel
theorem dX4_potTold_66 : decode cX4_potTold 66 = .ok (.invokestatic 90, 3) := by decide +kernel
theorem dX4_potTold_69 : decode cX4_potTold 69 = .ok (.ireturn, 1) := by decide +kernel
theorem dX4_potTold_70 : decode cX4_potTold 70 = .ok (.aload_n 0, 1) := by decide +kernel
theorem dX4_potTold_71 : decode cX4_potTold 71 = .ok (.getfield 47, 3) := by decide +kernel
theorem dX4_potTold_74 : decode cX4_potTold 74 = .ok (.iload_n 1, 1) := by decide +kernel
theorem dX4_potTold_75 : decode cX4_potTold 75 = .ok (.iaload, 1) := by decide +kernel
theorem dX4_potTold_76 : decode cX4_potTold 76 = .ok (.ireturn, 1) := by decide +kernel
theorem dX4_potTold_77 : decode cX4_potTold 77 = .ok (.aload_n 0, 1) := by decide +kernel
theorem dX4_potTold_78 : decode cX4_potTold 78 = .ok (.getfield 41, 3) := by decide +kernel
theorem dX4_potTold_81 : decode cX4_potTold 81 = .ok (.iload_n 1, 1) := by decide +kernel
theorem dX4_potTold_82 : decode cX4_potTold 82 = .ok (.iaload, 1) := by decide +kernel
theorem dX4_potTold_83 : decode cX4_potTold 83 = .ok (.ireturn, 1) := by decide +kernel
theorem dX4_potTold_84 : decode cX4_potTold 84 = .ok (.aload_n 0, 1) := by decide +kernel
theorem dX4_potTold_85 : decode cX4_potTold 85 = .ok (.iload_n 1, 1) := by decide +kernel
theorem dX4_potTold_86 : decode cX4_potTold 86 = .ok (.invokevirtual 115, 3) := by decide +kernel
theorem dX4_potTold_89 : decode cX4_potTold 89 = .ok (.ifCond .eq 7, 3) := by decide +kernel
theorem dX4_potTold_92 : decode cX4_potTold 92 = .ok (.iconst 1, 1) := by decide +kernel
theorem dX4_potTold_93 : decode cX4_potTold 93 = .ok (.goto 4, 3) := by decide +kernel
theorem dX4_potTold_96 : decode cX4_potTold 96 = .ok (.iconst 0, 1) := by decide +kernel
theorem dX4_potTold_97 : decode cX4_potTold 97 = .ok (.ireturn, 1) := by decide +kernel
theorem dX4_pot_0 : decode cX4_pot 0 = .ok (.aload_n 0, 1) := by decide +kernel
theorem dX4_pot_1 : decode cX4_pot 1 = .ok (.iconst 0, 1) := by decide +kernel
theorem dX4_pot_2 : decode cX4_pot 2 = .ok (.putfield 50, 3) := by decide +kernel
theorem dX4_pot_5 : decode cX4_pot 5 = .ok (.iload_n 1, 1) := by decide +kernel
theorem dX4_pot_6 : decode cX4_pot 6 = .ok (.invokestatic 122, 3) := by decide +kernel
theorem dX4_pot_9 : decode cX4_pot 9 = .ok (.ifCond .eq 12, 3) := by decide +kernel
theorem dX4_pot_12 : decode cX4_pot 12 = .ok (.iload_n 2, 1) := by decide +kernel
theorem dX4_pot_13 : decode cX4_pot 13 = .ok (.iconst 0, 1) := by decide +kernel
theorem dX4_pot_14 : decode cX4_pot 14 = .ok (.iconst 5, 1) := by decide +kernel
theorem dX4_pot_15 : decode cX4_pot 15 = .ok (.invokestatic 53, 3) := by decide +kernel
theorem dX4_pot_18 : decode cX4_pot 18 = .ok (.ifCond .ne 9, 3) := by decide +kernel
theorem dX4_pot_21 : decode cX4_pot 21 = .ok (.aload_n 0, 1) := by decide +kernel
theorem dX4_pot_22 : decode cX4_pot 22 = .ok (.iconst 1, 1) := by decide +kernel
theorem dX4_pot_23 : decode cX4_pot 23 = .ok (.invokevirtual 119, 3) := by decide +kernel
theorem dX4_pot_26 : decode cX4_pot 26 = .ok (.ireturn, 1) := by decide +kernel
theorem dX4_pot_27 : decode cX4_pot 27 = .ok (.aload_n 0, 1) := by decide +kernel
theorem dX4_pot_28 : decode cX4_pot 28 = .ok (.invokevirtual 144, 3) := by decide +kernel
theorem dX4_pot_31 : decode cX4_pot 31 = .ok (.aload_n 0, 1) := by decide +kernel
theorem dX4_pot_32 : decode cX4_pot 32 = .ok (.iload_n 1, 1) := by decide +kernel
theorem dX4_pot_33 : decode cX4_pot 33 = .ok (.iload_n 2, 1) := by decide +kernel
theorem dX4_pot_34 : decode cX4_pot 34 = .ok (.invokevirtual 147, 3) := by decide +kernel
theorem dX4_pot_37 : decode cX4_pot 37 = .ok (.ireturn, 1) := by decide +kernel
theorem dX4_pairs_0 : decode cX4_pairs 0 = .ok (.iconst 0, 1) := by decide +kernel
theorem dX4_pairs_1 : decode cX4_pairs 1 = .ok (.istore_n 1, 1) := by decide +kernel
theorem dX4_pairs_2 : decode cX4_pairs 2 = .ok (.iconst 0, 1) := by decide +kernel
theorem dX4_pairs_3 : decode cX4_pairs 3 = .ok (.istore_n 2, 1) := by decide +kernel
theorem dX4_pairs_4 : decode cX4_pairs 4 = .ok (.iload_n 2, 1) := by decide +kernel
theorem dX4_pairs_5 : decode cX4_pairs 5 = .ok (.bipush 16, 2) := by decide +kernel
theorem dX4_pairs_7 : decode cX4_pairs 7 = .ok (.if_icmp .ge 21, 3) := by decide +kernel
theorem dX4_pairs_10 : decode cX4_pairs 10 = .ok (.iload_n 1, 1) := by decide +kernel
theorem dX4_pairs_11 : decode cX4_pairs 11 = .ok (.aload_n 0, 1) := by decide +kernel
theorem dX4_pairs_12 : decode cX4_pairs 12 = .ok (.getfield 35, 3) := by decide +kernel
theorem dX4_pairs_15 : decode cX4_pairs 15 = .ok (.iload_n 2, 1) := by decide +kernel
theorem dX4_pairs_16 : decode cX4_pairs 16 = .ok (.iaload, 1) := by decide +kernel
theorem dX4_pairs_17 : decode cX4_pairs 17 = .ok (.invokestatic 90, 3) := by decide +kernel
theorem dX4_pairs_20 : decode cX4_pairs 20 = .ok (.iadd, 1) := by decide +kernel
theorem dX4_pairs_21 : decode cX4_pairs 21 = .ok (.istore_n 1, 1) := by decide +kernel
theorem dX4_pairs_22 : decode cX4_pairs 22 = .ok (.iinc 2 1, 3) := by decide +kernel
theorem dX4_pairs_25 : decode cX4_pairs 25 = .ok (.goto (-21), 3) := by decide +kernel
theorem dX4_pairs_28 : decode cX4_pairs 28 = .ok (.iload_n 1, 1) := by decide +kernel
theorem dX4_pairs_29 : decode cX4_pairs 29 = .ok (.iconst 2, 1) := by decide +kernel
theorem dX4_pairs_30 : decode cX4_pairs 30 = .ok (.idiv, 1) := by decide +kernel
theorem dX4_pairs_31 : decode cX4_pairs 31 = .ok (.ireturn, 1) := by decide +kernel
theorem dX4_hangAt_0 : decode cX4_hangAt 0 = .ok (.iconst 0, 1) := by decide +kernel
theorem dX4_hangAt_1 : decode cX4_hangAt 1 = .ok (.istore_n 2, 1) := by decide +kernel
theorem dX4_hangAt_2 : decode cX4_hangAt 2 = .ok (.iconst 0, 1) := by decide +kernel
theorem dX4_hangAt_3 : decode cX4_hangAt 3 = .ok (.istore_n 3, 1) := by decide +kernel
theorem dX4_hangAt_4 : decode cX4_hangAt 4 = .ok (.iload_n 3, 1) := by decide +kernel
theorem dX4_hangAt_5 : decode cX4_hangAt 5 = .ok (.bipush 16, 2) := by decide +kernel
theorem dX4_hangAt_7 : decode cX4_hangAt 7 = .ok (.if_icmp .ge 27, 3) := by decide +kernel
theorem dX4_hangAt_10 : decode cX4_hangAt 10 = .ok (.iload_n 2, 1) := by decide +kernel
theorem dX4_hangAt_11 : decode cX4_hangAt 11 = .ok (.aload_n 0, 1) := by decide +kernel
theorem dX4_hangAt_12 : decode cX4_hangAt 12 = .ok (.getfield 47, 3) := by decide +kernel
theorem dX4_hangAt_15 : decode cX4_hangAt 15 = .ok (.iload_n 3, 1) := by decide +kernel
theorem dX4_hangAt_16 : decode cX4_hangAt 16 = .ok (.iaload, 1) := by decide +kernel
theorem dX4_hangAt_17 : decode cX4_hangAt 17 = .ok (.iload_n 1, 1) := by decide +kernel
theorem dX4_hangAt_18 : decode cX4_hangAt 18 = .ok (.if_icmp .ne 7, 3) := by decide +kernel
theorem dX4_hangAt_21 : decode cX4_hangAt 21 = .ok (.iconst 1, 1) := by decide +kernel
theorem dX4_hangAt_22 : decode cX4_hangAt 22 = .ok (.goto 4, 3) := by decide +kernel
theorem dX4_hangAt_25 : decode cX4_hangAt 25 = .ok (.iconst 0, 1) := by decide +kernel
theorem dX4_hangAt_26 : decode cX4_hangAt 26 = .ok (.iadd, 1) := by decide +kernel
theorem dX4_hangAt_27 : decode cX4_hangAt 27 = .ok (.istore_n 2, 1) := by decide +kernel
theorem dX4_hangAt_28 : decode cX4_hangAt 28 = .ok (.iinc 3 1, 3) := by decide +kernel
theorem dX4_hangAt_31 : decode cX4_hangAt 31 = .ok (.goto (-27), 3) := by decide +kernel
theorem dX4_hangAt_34 : decode cX4_hangAt 34 = .ok (.iload_n 2, 1) := by decide +kernel
theorem dX4_hangAt_35 : decode cX4_hangAt 35 = .ok (.ireturn, 1) := by decide +kernel
theorem dX4_usedHooks_0 : decode cX4_usedHooks 0 = .ok (.iconst 0, 1) := by decide +kernel
theorem dX4_usedHooks_1 : decode cX4_usedHooks 1 = .ok (.istore_n 1, 1) := by decide +kernel
theorem dX4_usedHooks_2 : decode cX4_usedHooks 2 = .ok (.iconst 0, 1) := by decide +kernel
theorem dX4_usedHooks_3 : decode cX4_usedHooks 3 = .ok (.istore_n 2, 1) := by decide +kernel
theorem dX4_usedHooks_4 : decode cX4_usedHooks 4 = .ok (.iload_n 2, 1) := by decide +kernel
theorem dX4_usedHooks_5 : decode cX4_usedHooks 5 = .ok (.aload_n 0, 1) := by decide +kernel
theorem dX4_usedHooks_6 : decode cX4_usedHooks 6 = .ok (.getfield 7, 3) := by decide +kernel
theorem dX4_usedHooks_9 : decode cX4_usedHooks 9 = .ok (.if_icmp .ge 25, 3) := by decide +kernel
theorem dX4_usedHooks_12 : decode cX4_usedHooks 12 = .ok (.iload_n 1, 1) := by decide +kernel
theorem dX4_usedHooks_13 : decode cX4_usedHooks 13 = .ok (.aload_n 0, 1) := by decide +kernel
theorem dX4_usedHooks_14 : decode cX4_usedHooks 14 = .ok (.iload_n 2, 1) := by decide +kernel
theorem dX4_usedHooks_15 : decode cX4_usedHooks 15 = .ok (.invokevirtual 150, 3) := by decide +kernel
theorem dX4_usedHooks_18 : decode cX4_usedHooks 18 = .ok (.ifCond .le 7, 3) := by decide +kernel
theorem dX4_usedHooks_21 : decode cX4_usedHooks 21 = .ok (.iconst 1, 1) := by decide +kernel
theorem dX4_usedHooks_22 : decode cX4_usedHooks 22 = .ok (.goto 4, 3) := by decide +kernel
theorem dX4_usedHooks_25 : decode cX4_usedHooks 25 = .ok (.iconst 0, 1) := by decide +kernel
theorem dX4_usedHooks_26 : decode cX4_usedHooks 26 = .ok (.iadd, 1) := by decide +kernel
theorem dX4_usedHooks_27 : decode cX4_usedHooks 27 = .ok (.istore_n 1, 1) := by decide +kernel
theorem dX4_usedHooks_28 : decode cX4_usedHooks 28 = .ok (.iinc 2 1, 3) := by decide +kernel
theorem dX4_usedHooks_31 : decode cX4_usedHooks 31 = .ok (.goto (-27), 3) := by decide +kernel
theorem dX4_usedHooks_34 : decode cX4_usedHooks 34 = .ok (.iload_n 1, 1) := by decide +kernel
theorem dX4_usedHooks_35 : decode cX4_usedHooks 35 = .ok (.ireturn, 1) := by decide +kernel
theorem dX4_pourings_0 : decode cX4_pourings 0 = .ok (.iconst 0, 1) := by decide +kernel
theorem dX4_pourings_1 : decode cX4_pourings 1 = .ok (.istore_n 2, 1) := by decide +kernel
theorem dX4_pourings_2 : decode cX4_pourings 2 = .ok (.iconst 0, 1) := by decide +kernel
theorem dX4_pourings_3 : decode cX4_pourings 3 = .ok (.istore_n 3, 1) := by decide +kernel
theorem dX4_pourings_4 : decode cX4_pourings 4 = .ok (.iload_n 3, 1) := by decide +kernel
theorem dX4_pourings_5 : decode cX4_pourings 5 = .ok (.aload_n 0, 1) := by decide +kernel
theorem dX4_pourings_6 : decode cX4_pourings 6 = .ok (.getfield 57, 3) := by decide +kernel
theorem dX4_pourings_9 : decode cX4_pourings 9 = .ok (.if_icmp .ge 39, 3) := by decide +kernel
theorem dX4_pourings_12 : decode cX4_pourings 12 = .ok (.iload_n 2, 1) := by decide +kernel
theorem dX4_pourings_13 : decode cX4_pourings 13 = .ok (.aload_n 0, 1) := by decide +kernel
theorem dX4_pourings_14 : decode cX4_pourings 14 = .ok (.getfield 26, 3) := by decide +kernel
theorem dX4_pourings_17 : decode cX4_pourings 17 = .ok (.iload_n 3, 1) := by decide +kernel
theorem dX4_pourings_18 : decode cX4_pourings 18 = .ok (.iaload, 1) := by decide +kernel
theorem dX4_pourings_19 : decode cX4_pourings 19 = .ok (.iconst 1, 1) := by decide +kernel
theorem dX4_pourings_20 : decode cX4_pourings 20 = .ok (.if_icmp .ne 19, 3) := by decide +kernel
theorem dX4_pourings_23 : decode cX4_pourings 23 = .ok (.iload_n 1, 1) := by decide +kernel
theorem dX4_pourings_24 : decode cX4_pourings 24 = .ok (.ifCond .eq 11, 3) := by decide +kernel
theorem dX4_pourings_27 : decode cX4_pourings 27 = .ok (.aload_n 0, 1) := by decide +kernel
theorem dX4_pourings_28 : decode cX4_pourings 28 = .ok (.iload_n 3, 1) := by decide +kernel
theorem dX4_pourings_29 : decode cX4_pourings 29 = .ok (.invokevirtual 153, 3) := by decide +kernel
theorem dX4_pourings_32 : decode cX4_pourings 32 = .ok (.ifCond .eq 7, 3) := by decide +kernel
theorem dX4_pourings_35 : decode cX4_pourings 35 = .ok (.iconst 1, 1) := by decide +kernel
theorem dX4_pourings_36 : decode cX4_pourings 36 = .ok (.goto 4, 3) := by decide +kernel
theorem dX4_pourings_39 : decode cX4_pourings 39 = .ok (.iconst 0, 1) := by decide +kernel
theorem dX4_pourings_40 : decode cX4_pourings 40 = .ok (.iadd, 1) := by decide +kernel
theorem dX4_pourings_41 : decode cX4_pourings 41 = .ok (.istore_n 2, 1) := by decide +kernel
theorem dX4_pourings_42 : decode cX4_pourings 42 = .ok (.iinc 3 1, 3) := by decide +kernel
theorem dX4_pourings_45 : decode cX4_pourings 45 = .ok (.goto (-41), 3) := by decide +kernel
theorem dX4_pourings_48 : decode cX4_pourings 48 = .ok (.iload_n 2, 1) := by decide +kernel
theorem dX4_pourings_49 : decode cX4_pourings 49 = .ok (.ireturn, 1) := by decide +kernel
theorem dX4_weights_0 : decode cX4_weights 0 = .ok (.iconst 0, 1) := by decide +kernel
theorem dX4_weights_1 : decode cX4_weights 1 = .ok (.istore_n 1, 1) := by decide +kernel
theorem dX4_weights_2 : decode cX4_weights 2 = .ok (.iconst 0, 1) := by decide +kernel
theorem dX4_weights_3 : decode cX4_weights 3 = .ok (.istore_n 2, 1) := by decide +kernel
theorem dX4_weights_4 : decode cX4_weights 4 = .ok (.iload_n 2, 1) := by decide +kernel
theorem dX4_weights_5 : decode cX4_weights 5 = .ok (.aload_n 0, 1) := by decide +kernel
theorem dX4_weights_6 : decode cX4_weights 6 = .ok (.getfield 57, 3) := by decide +kernel
theorem dX4_weights_9 : decode cX4_weights 9 = .ok (.if_icmp .ge 30, 3) := by decide +kernel
theorem dX4_weights_12 : decode cX4_weights 12 = .ok (.iload_n 1, 1) := by decide +kernel
theorem dX4_weights_13 : decode cX4_weights 13 = .ok (.aload_n 0, 1) := by decide +kernel
theorem dX4_weights_14 : decode cX4_weights 14 = .ok (.iload_n 2, 1) := by decide +kernel
theorem dX4_weights_15 : decode cX4_weights 15 = .ok (.invokevirtual 153, 3) := by decide +kernel
theorem dX4_weights_18 : decode cX4_weights 18 = .ok (.ifCond .eq 7, 3) := by decide +kernel
theorem dX4_weights_21 : decode cX4_weights 21 = .ok (.iconst 0, 1) := by decide +kernel
theorem dX4_weights_22 : decode cX4_weights 22 = .ok (.goto 9, 3) := by decide +kernel
theorem dX4_weights_25 : decode cX4_weights 25 = .ok (.aload_n 0, 1) := by decide +kernel
theorem dX4_weights_26 : decode cX4_weights 26 = .ok (.getfield 23, 3) := by decide +kernel
theorem dX4_weights_29 : decode cX4_weights 29 = .ok (.iload_n 2, 1) := by decide +kernel
theorem dX4_weights_30 : decode cX4_weights 30 = .ok (.iaload, 1) := by decide +kernel
theorem dX4_weights_31 : decode cX4_weights 31 = .ok (.iadd, 1) := by decide +kernel
theorem dX4_weights_32 : decode cX4_weights 32 = .ok (.istore_n 1, 1) := by decide +kernel
theorem dX4_weights_33 : decode cX4_weights 33 = .ok (.iinc 2 1, 3) := by decide +kernel
theorem dX4_weights_36 : decode cX4_weights 36 = .ok (.goto (-32), 3) := by decide +kernel
theorem dX4_weights_39 : decode cX4_weights 39 = .ok (.iload_n 1, 1) := by decide +kernel
theorem dX4_weights_40 : decode cX4_weights 40 = .ok (.ireturn, 1) := by decide +kernel
theorem dX4_counted_0 : decode cX4_counted 0 = .ok (.iload_n 1, 1) := by decide +kernel
theorem dX4_counted_1 : decode cX4_counted 1 = .ok (.tableswitch 101 0 8 #[51, 56, 61, 69, 74, 79, 84, 90, 96], 51) := by decide +kernel
theorem dX4_counted_52 : decode cX4_counted 52 = .ok (.aload_n 0, 1) := by decide +kernel
theorem dX4_counted_53 : decode cX4_counted 53 = .ok (.getfield 57, 3) := by decide +kernel
theorem dX4_counted_56 : decode cX4_counted 56 = .ok (.ireturn, 1) := by decide +kernel
theorem dX4_counted_57 : decode cX4_counted 57 = .ok (.aload_n 0, 1) := by decide +kernel
theorem dX4_counted_58 : decode cX4_counted 58 = .ok (.getfield 7, 3) := by decide +kernel
theorem dX4_counted_61 : decode cX4_counted 61 = .ok (.ireturn, 1) := by decide +kernel
theorem dX4_counted_62 : decode cX4_counted 62 = .ok (.aload_n 0, 1) := by decide +kernel
theorem dX4_counted_63 : decode cX4_counted 63 = .ok (.getfield 67, 3) := by decide +kernel
theorem dX4_counted_66 : decode cX4_counted 66 = .ok (.invokestatic 90, 3) := by decide +kernel
theorem dX4_counted_69 : decode cX4_counted 69 = .ok (.ireturn, 1) := by decide +kernel
theorem dX4_counted_70 : decode cX4_counted 70 = .ok (.aload_n 0, 1) := by decide +kernel
theorem dX4_counted_71 : decode cX4_counted 71 = .ok (.invokevirtual 156, 3) := by decide +kernel
theorem dX4_counted_74 : decode cX4_counted 74 = .ok (.ireturn, 1) := by decide +kernel
theorem dX4_counted_75 : decode cX4_counted 75 = .ok (.aload_n 0, 1) := by decide +kernel
theorem dX4_counted_76 : decode cX4_counted 76 = .ok (.invokevirtual 160, 3) := by decide +kernel
theorem dX4_counted_79 : decode cX4_counted 79 = .ok (.ireturn, 1) := by decide +kernel
theorem dX4_counted_80 : decode cX4_counted 80 = .ok (.aload_n 0, 1) := by decide +kernel
theorem dX4_counted_81 : decode cX4_counted 81 = .ok (.invokevirtual 163, 3) := by decide +kernel
theorem dX4_counted_84 : decode cX4_counted 84 = .ok (.ireturn, 1) := by decide +kernel
theorem dX4_counted_85 : decode cX4_counted 85 = .ok (.aload_n 0, 1) := by decide +kernel
theorem dX4_counted_86 : decode cX4_counted 86 = .ok (.iconst 0, 1) := by decide +kernel
theorem dX4_counted_87 : decode cX4_counted 87 = .ok (.invokevirtual 166, 3) := by decide +kernel
theorem dX4_counted_90 : decode cX4_counted 90 = .ok (.ireturn, 1) := by decide +kernel
theorem dX4_counted_91 : decode cX4_counted 91 = .ok (.aload_n 0, 1) := by decide +kernel
theorem dX4_counted_92 : decode cX4_counted 92 = .ok (.iconst 1, 1) := by decide +kernel
theorem dX4_counted_93 : decode cX4_counted 93 = .ok (.invokevirtual 166, 3) := by decide +kernel
theorem dX4_counted_96 : decode cX4_counted 96 = .ok (.ireturn, 1) := by decide +kernel
theorem dX4_counted_97 : decode cX4_counted 97 = .ok (.aload_n 0, 1) := by decide +kernel
theorem dX4_counted_98 : decode cX4_counted 98 = .ok (.invokevirtual 170, 3) := by decide +kernel
theorem dX4_counted_101 : decode cX4_counted 101 = .ok (.ireturn, 1) := by decide +kernel
theorem dX4_counted_102 : decode cX4_counted 102 = .ok (.aload_n 0, 1) := by decide +kernel
theorem dX4_counted_103 : decode cX4_counted 103 = .ok (.invokevirtual 173, 3) := by decide +kernel
theorem dX4_counted_106 : decode cX4_counted 106 = .ok (.ireturn, 1) := by decide +kernel
theorem dX4_count_0 : decode cX4_count 0 = .ok (.aload_n 0, 1) := by decide +kernel
theorem dX4_count_1 : decode cX4_count 1 = .ok (.iconst 0, 1) := by decide +kernel
theorem dX4_count_2 : decode cX4_count 2 = .ok (.putfield 50, 3) := by decide +kernel
theorem dX4_count_5 : decode cX4_count 5 = .ok (.iload_n 1, 1) := by decide +kernel
theorem dX4_count_6 : decode cX4_count 6 = .ok (.iconst 0, 1) := by decide +kernel
theorem dX4_count_7 : decode cX4_count 7 = .ok (.bipush 9, 2) := by decide +kernel
theorem dX4_count_9 : decode cX4_count 9 = .ok (.invokestatic 53, 3) := by decide +kernel
theorem dX4_count_12 : decode cX4_count 12 = .ok (.ifCond .ne 9, 3) := by decide +kernel
theorem dX4_count_15 : decode cX4_count 15 = .ok (.aload_n 0, 1) := by decide +kernel
theorem dX4_count_16 : decode cX4_count 16 = .ok (.iconst 1, 1) := by decide +kernel
theorem dX4_count_17 : decode cX4_count 17 = .ok (.invokevirtual 119, 3) := by decide +kernel
theorem dX4_count_20 : decode cX4_count 20 = .ok (.ireturn, 1) := by decide +kernel
theorem dX4_count_21 : decode cX4_count 21 = .ok (.aload_n 0, 1) := by decide +kernel
theorem dX4_count_22 : decode cX4_count 22 = .ok (.invokevirtual 144, 3) := by decide +kernel
theorem dX4_count_25 : decode cX4_count 25 = .ok (.aload_n 0, 1) := by decide +kernel
theorem dX4_count_26 : decode cX4_count 26 = .ok (.iload_n 1, 1) := by decide +kernel
theorem dX4_count_27 : decode cX4_count 27 = .ok (.invokevirtual 176, 3) := by decide +kernel
theorem dX4_count_30 : decode cX4_count 30 = .ok (.ireturn, 1) := by decide +kernel
theorem dX4_hangs_0 : decode cX4_hangs 0 = .ok (.aload_n 0, 1) := by decide +kernel
theorem dX4_hangs_1 : decode cX4_hangs 1 = .ok (.iconst 0, 1) := by decide +kernel
theorem dX4_hangs_2 : decode cX4_hangs 2 = .ok (.putfield 50, 3) := by decide +kernel
theorem dX4_hangs_5 : decode cX4_hangs 5 = .ok (.iload_n 1, 1) := by decide +kernel
theorem dX4_hangs_6 : decode cX4_hangs 6 = .ok (.iconst 0, 1) := by decide +kernel
theorem dX4_hangs_7 : decode cX4_hangs 7 = .ok (.aload_n 0, 1) := by decide +kernel
theorem dX4_hangs_8 : decode cX4_hangs 8 = .ok (.getfield 7, 3) := by decide +kernel
theorem dX4_hangs_11 : decode cX4_hangs 11 = .ok (.iconst 1, 1) := by decide +kernel
theorem dX4_hangs_12 : decode cX4_hangs 12 = .ok (.isub, 1) := by decide +kernel
theorem dX4_hangs_13 : decode cX4_hangs 13 = .ok (.invokestatic 53, 3) := by decide +kernel
theorem dX4_hangs_16 : decode cX4_hangs 16 = .ok (.ifCond .ne 9, 3) := by decide +kernel
theorem dX4_hangs_19 : decode cX4_hangs 19 = .ok (.aload_n 0, 1) := by decide +kernel
theorem dX4_hangs_20 : decode cX4_hangs 20 = .ok (.iconst 1, 1) := by decide +kernel
theorem dX4_hangs_21 : decode cX4_hangs 21 = .ok (.invokevirtual 119, 3) := by decide +kernel
theorem dX4_hangs_24 : decode cX4_hangs 24 = .ok (.ireturn, 1) := by decide +kernel
theorem dX4_hangs_25 : decode cX4_hangs 25 = .ok (.aload_n 0, 1) := by decide +kernel
theorem dX4_hangs_26 : decode cX4_hangs 26 = .ok (.invokevirtual 144, 3) := by decide +kernel
theorem dX4_hangs_29 : decode cX4_hangs 29 = .ok (.aload_n 0, 1) := by decide +kernel
theorem dX4_hangs_30 : decode cX4_hangs 30 = .ok (.iload_n 1, 1) := by decide +kernel
theorem dX4_hangs_31 : decode cX4_hangs 31 = .ok (.invokevirtual 150, 3) := by decide +kernel
theorem dX4_hangs_34 : decode cX4_hangs 34 = .ok (.ireturn, 1) := by decide +kernel
theorem dX4_crowd_0 : decode cX4_crowd 0 = .ok (.aload_n 0, 1) := by decide +kernel
theorem dX4_crowd_1 : decode cX4_crowd 1 = .ok (.iconst 0, 1) := by decide +kernel
theorem dX4_crowd_2 : decode cX4_crowd 2 = .ok (.putfield 50, 3) := by decide +kernel
theorem dX4_crowd_5 : decode cX4_crowd 5 = .ok (.aload_n 0, 1) := by decide +kernel
theorem dX4_crowd_6 : decode cX4_crowd 6 = .ok (.invokevirtual 80, 3) := by decide +kernel
theorem dX4_crowd_9 : decode cX4_crowd 9 = .ok (.aload_n 0, 1) := by decide +kernel
theorem dX4_crowd_10 : decode cX4_crowd 10 = .ok (.getfield 73, 3) := by decide +kernel
theorem dX4_crowd_13 : decode cX4_crowd 13 = .ok (.invokestatic 90, 3) := by decide +kernel
theorem dX4_crowd_16 : decode cX4_crowd 16 = .ok (.istore_n 1, 1) := by decide +kernel
theorem dX4_crowd_17 : decode cX4_crowd 17 = .ok (.iconst 0, 1) := by decide +kernel
theorem dX4_crowd_18 : decode cX4_crowd 18 = .ok (.istore_n 2, 1) := by decide +kernel
theorem dX4_crowd_19 : decode cX4_crowd 19 = .ok (.iload_n 2, 1) := by decide +kernel
theorem dX4_crowd_20 : decode cX4_crowd 20 = .ok (.aload_n 0, 1) := by decide +kernel
theorem dX4_crowd_21 : decode cX4_crowd 21 = .ok (.getfield 57, 3) := by decide +kernel
theorem dX4_crowd_24 : decode cX4_crowd 24 = .ok (.if_icmp .ge 23, 3) := by decide +kernel
theorem dX4_crowd_27 : decode cX4_crowd 27 = .ok (.iload_n 1, 1) := by decide +kernel
theorem dX4_crowd_28 : decode cX4_crowd 28 = .ok (.aload_n 0, 1) := by decide +kernel
theorem dX4_crowd_29 : decode cX4_crowd 29 = .ok (.getfield 32, 3) := by decide +kernel
theorem dX4_crowd_32 : decode cX4_crowd 32 = .ok (.iload_n 2, 1) := by decide +kernel
theorem dX4_crowd_33 : decode cX4_crowd 33 = .ok (.iaload, 1) := by decide +kernel
theorem dX4_crowd_34 : decode cX4_crowd 34 = .ok (.invokestatic 90, 3) := by decide +kernel
theorem dX4_crowd_37 : decode cX4_crowd 37 = .ok (.invokestatic 179, 3) := by decide +kernel
theorem dX4_crowd_40 : decode cX4_crowd 40 = .ok (.istore_n 1, 1) := by decide +kernel
theorem dX4_crowd_41 : decode cX4_crowd 41 = .ok (.iinc 2 1, 3) := by decide +kernel
theorem dX4_crowd_44 : decode cX4_crowd 44 = .ok (.goto (-25), 3) := by decide +kernel
theorem dX4_crowd_47 : decode cX4_crowd 47 = .ok (.iload_n 1, 1) := by decide +kernel
theorem dX4_crowd_48 : decode cX4_crowd 48 = .ok (.ireturn, 1) := by decide +kernel
theorem dX4_would_0 : decode cX4_would 0 = .ok (.aload_n 0, 1) := by decide +kernel
theorem dX4_would_1 : decode cX4_would 1 = .ok (.iconst 0, 1) := by decide +kernel
theorem dX4_would_2 : decode cX4_would 2 = .ok (.putfield 50, 3) := by decide +kernel
theorem dX4_would_5 : decode cX4_would 5 = .ok (.iload_n 1, 1) := by decide +kernel
theorem dX4_would_6 : decode cX4_would 6 = .ok (.iconst 1, 1) := by decide +kernel
theorem dX4_would_7 : decode cX4_would 7 = .ok (.bipush 16, 2) := by decide +kernel
theorem dX4_would_9 : decode cX4_would 9 = .ok (.invokestatic 53, 3) := by decide +kernel
theorem dX4_would_12 : decode cX4_would 12 = .ok (.ifCond .ne 9, 3) := by decide +kernel
theorem dX4_would_15 : decode cX4_would 15 = .ok (.aload_n 0, 1) := by decide +kernel
theorem dX4_would_16 : decode cX4_would 16 = .ok (.iconst 1, 1) := by decide +kernel
theorem dX4_would_17 : decode cX4_would 17 = .ok (.invokevirtual 119, 3) := by decide +kernel
theorem dX4_would_20 : decode cX4_would 20 = .ok (.ireturn, 1) := by decide +kernel
theorem dX4_would_21 : decode cX4_would 21 = .ok (.aload_n 0, 1) := by decide +kernel
theorem dX4_would_22 : decode cX4_would 22 = .ok (.invokevirtual 108, 3) := by decide +kernel
theorem dX4_would_25 : decode cX4_would 25 = .ok (.aload_n 0, 1) := by decide +kernel
theorem dX4_would_26 : decode cX4_would 26 = .ok (.iload_n 1, 1) := by decide +kernel
theorem dX4_would_27 : decode cX4_would 27 = .ok (.invokevirtual 111, 3) := by decide +kernel
theorem dX4_would_30 : decode cX4_would 30 = .ok (.aload_n 0, 1) := by decide +kernel
theorem dX4_would_31 : decode cX4_would 31 = .ok (.invokevirtual 160, 3) := by decide +kernel
theorem dX4_would_34 : decode cX4_would 34 = .ok (.ireturn, 1) := by decide +kernel
theorem dX4_fewest_0 : decode cX4_fewest 0 = .ok (.aload_n 0, 1) := by decide +kernel
theorem dX4_fewest_1 : decode cX4_fewest 1 = .ok (.iconst 0, 1) := by decide +kernel
theorem dX4_fewest_2 : decode cX4_fewest 2 = .ok (.putfield 50, 3) := by decide +kernel
theorem dX4_fewest_5 : decode cX4_fewest 5 = .ok (.aload_n 0, 1) := by decide +kernel
theorem dX4_fewest_6 : decode cX4_fewest 6 = .ok (.invokevirtual 108, 3) := by decide +kernel
theorem dX4_fewest_9 : decode cX4_fewest 9 = .ok (.aload_n 0, 1) := by decide +kernel
theorem dX4_fewest_10 : decode cX4_fewest 10 = .ok (.getfield 67, 3) := by decide +kernel
theorem dX4_fewest_13 : decode cX4_fewest 13 = .ok (.ifCond .ne 5, 3) := by decide +kernel
theorem dX4_fewest_16 : decode cX4_fewest 16 = .ok (.iconst 0, 1) := by decide +kernel
theorem dX4_fewest_17 : decode cX4_fewest 17 = .ok (.ireturn, 1) := by decide +kernel
theorem dX4_fewest_18 : decode cX4_fewest 18 = .ok (.iconst 0, 1) := by decide +kernel
theorem dX4_fewest_19 : decode cX4_fewest 19 = .ok (.istore_n 1, 1) := by decide +kernel
theorem dX4_fewest_20 : decode cX4_fewest 20 = .ok (.iinc 1 1, 3) := by decide +kernel
theorem dX4_fewest_23 : decode cX4_fewest 23 = .ok (.aload_n 0, 1) := by decide +kernel
theorem dX4_fewest_24 : decode cX4_fewest 24 = .ok (.iload_n 1, 1) := by decide +kernel
theorem dX4_fewest_25 : decode cX4_fewest 25 = .ok (.invokevirtual 111, 3) := by decide +kernel
theorem dX4_fewest_28 : decode cX4_fewest 28 = .ok (.aload_n 0, 1) := by decide +kernel
theorem dX4_fewest_29 : decode cX4_fewest 29 = .ok (.invokevirtual 160, 3) := by decide +kernel
theorem dX4_fewest_32 : decode cX4_fewest 32 = .ok (.ifCond .gt (-12), 3) := by decide +kernel
theorem dX4_fewest_35 : decode cX4_fewest 35 = .ok (.iload_n 1, 1) := by decide +kernel
theorem dX4_fewest_36 : decode cX4_fewest 36 = .ok (.ireturn, 1) := by decide +kernel
theorem dX4_advise_0 : decode cX4_advise 0 = .ok (.aload_n 0, 1) := by decide +kernel
theorem dX4_advise_1 : decode cX4_advise 1 = .ok (.iconst 0, 1) := by decide +kernel
theorem dX4_advise_2 : decode cX4_advise 2 = .ok (.putfield 50, 3) := by decide +kernel
theorem dX4_advise_5 : decode cX4_advise 5 = .ok (.iconst (-1), 1) := by decide +kernel
theorem dX4_advise_6 : decode cX4_advise 6 = .ok (.istore_n 1, 1) := by decide +kernel
theorem dX4_advise_7 : decode cX4_advise 7 = .ok (.iconst 0, 1) := by decide +kernel
theorem dX4_advise_8 : decode cX4_advise 8 = .ok (.istore_n 2, 1) := by decide +kernel
theorem dX4_advise_9 : decode cX4_advise 9 = .ok (.iconst 0, 1) := by decide +kernel
theorem dX4_advise_10 : decode cX4_advise 10 = .ok (.istore_n 3, 1) := by decide +kernel
theorem dX4_advise_11 : decode cX4_advise 11 = .ok (.iload_n 3, 1) := by decide +kernel
theorem dX4_advise_12 : decode cX4_advise 12 = .ok (.aload_n 0, 1) := by decide +kernel
theorem dX4_advise_13 : decode cX4_advise 13 = .ok (.getfield 57, 3) := by decide +kernel
theorem dX4_advise_16 : decode cX4_advise 16 = .ok (.if_icmp .ge 43, 3) := by decide +kernel
theorem dX4_advise_19 : decode cX4_advise 19 = .ok (.aload_n 0, 1) := by decide +kernel
theorem dX4_advise_20 : decode cX4_advise 20 = .ok (.iload_n 3, 1) := by decide +kernel
theorem dX4_advise_21 : decode cX4_advise 21 = .ok (.putfield 29, 3) := by decide +kernel
theorem dX4_advise_24 : decode cX4_advise 24 = .ok (.aload_n 0, 1) := by decide +kernel
theorem dX4_advise_25 : decode cX4_advise 25 = .ok (.invokevirtual 144, 3) := by decide +kernel
theorem dX4_advise_28 : decode cX4_advise 28 = .ok (.aload_n 0, 1) := by decide +kernel
theorem dX4_advise_29 : decode cX4_advise 29 = .ok (.invokevirtual 170, 3) := by decide +kernel
theorem dX4_advise_32 : decode cX4_advise 32 = .ok (.istore 4, 2) := by decide +kernel
theorem dX4_advise_34 : decode cX4_advise 34 = .ok (.iload_n 1, 1) := by decide +kernel
theorem dX4_advise_35 : decode cX4_advise 35 = .ok (.iconst (-1), 1) := by decide +kernel
theorem dX4_advise_36 : decode cX4_advise 36 = .ok (.if_icmp .eq 12, 3) := by decide +kernel
theorem dX4_advise_39 : decode cX4_advise 39 = .ok (.iload 4, 2) := by decide +kernel
theorem dX4_advise_41 : decode cX4_advise 41 = .ok (.iload_n 2, 1) := by decide +kernel
theorem dX4_advise_42 : decode cX4_advise 42 = .ok (.if_icmp .lt 6, 3) := by decide +kernel
theorem dX4_advise_45 : decode cX4_advise 45 = .ok (.goto 8, 3) := by decide +kernel
theorem dX4_advise_48 : decode cX4_advise 48 = .ok (.iload_n 3, 1) := by decide +kernel
theorem dX4_advise_49 : decode cX4_advise 49 = .ok (.istore_n 1, 1) := by decide +kernel
theorem dX4_advise_50 : decode cX4_advise 50 = .ok (.iload 4, 2) := by decide +kernel
theorem dX4_advise_52 : decode cX4_advise 52 = .ok (.istore_n 2, 1) := by decide +kernel
theorem dX4_advise_53 : decode cX4_advise 53 = .ok (.iinc 3 1, 3) := by decide +kernel
theorem dX4_advise_56 : decode cX4_advise 56 = .ok (.goto (-45), 3) := by decide +kernel
theorem dX4_advise_59 : decode cX4_advise 59 = .ok (.aload_n 0, 1) := by decide +kernel
theorem dX4_advise_60 : decode cX4_advise 60 = .ok (.iconst (-1), 1) := by decide +kernel
theorem dX4_advise_61 : decode cX4_advise 61 = .ok (.putfield 29, 3) := by decide +kernel
theorem dX4_advise_64 : decode cX4_advise 64 = .ok (.iload_n 1, 1) := by decide +kernel
theorem dX4_advise_65 : decode cX4_advise 65 = .ok (.ireturn, 1) := by decide +kernel
theorem dX4_mean_0 : decode cX4_mean 0 = .ok (.aload_n 0, 1) := by decide +kernel
theorem dX4_mean_1 : decode cX4_mean 1 = .ok (.iconst 0, 1) := by decide +kernel
theorem dX4_mean_2 : decode cX4_mean 2 = .ok (.putfield 50, 3) := by decide +kernel
theorem dX4_mean_5 : decode cX4_mean 5 = .ok (.aload_n 0, 1) := by decide +kernel
theorem dX4_mean_6 : decode cX4_mean 6 = .ok (.invokevirtual 80, 3) := by decide +kernel
theorem dX4_mean_9 : decode cX4_mean 9 = .ok (.iconst 0, 1) := by decide +kernel
theorem dX4_mean_10 : decode cX4_mean 10 = .ok (.istore_n 1, 1) := by decide +kernel
theorem dX4_mean_11 : decode cX4_mean 11 = .ok (.iconst 0, 1) := by decide +kernel
theorem dX4_mean_12 : decode cX4_mean 12 = .ok (.istore_n 2, 1) := by decide +kernel
theorem dX4_mean_13 : decode cX4_mean 13 = .ok (.iload_n 2, 1) := by decide +kernel
theorem dX4_mean_14 : decode cX4_mean 14 = .ok (.aload_n 0, 1) := by decide +kernel
theorem dX4_mean_15 : decode cX4_mean 15 = .ok (.getfield 57, 3) := by decide +kernel
theorem dX4_mean_18 : decode cX4_mean 18 = .ok (.if_icmp .ge 21, 3) := by decide +kernel
theorem dX4_mean_21 : decode cX4_mean 21 = .ok (.iload_n 1, 1) := by decide +kernel
theorem dX4_mean_22 : decode cX4_mean 22 = .ok (.aload_n 0, 1) := by decide +kernel
theorem dX4_mean_23 : decode cX4_mean 23 = .ok (.getfield 32, 3) := by decide +kernel
theorem dX4_mean_26 : decode cX4_mean 26 = .ok (.iload_n 2, 1) := by decide +kernel
theorem dX4_mean_27 : decode cX4_mean 27 = .ok (.iaload, 1) := by decide +kernel
theorem dX4_mean_28 : decode cX4_mean 28 = .ok (.invokestatic 90, 3) := by decide +kernel
theorem dX4_mean_31 : decode cX4_mean 31 = .ok (.iadd, 1) := by decide +kernel
theorem dX4_mean_32 : decode cX4_mean 32 = .ok (.istore_n 1, 1) := by decide +kernel
theorem dX4_mean_33 : decode cX4_mean 33 = .ok (.iinc 2 1, 3) := by decide +kernel
theorem dX4_mean_36 : decode cX4_mean 36 = .ok (.goto (-23), 3) := by decide +kernel
theorem dX4_mean_39 : decode cX4_mean 39 = .ok (.aload_n 0, 1) := by decide +kernel
theorem dX4_mean_40 : decode cX4_mean 40 = .ok (.getfield 57, 3) := by decide +kernel
theorem dX4_mean_43 : decode cX4_mean 43 = .ok (.ifCond .ne 7, 3) := by decide +kernel
theorem dX4_mean_46 : decode cX4_mean 46 = .ok (.dconst 0, 1) := by decide +kernel
theorem dX4_mean_47 : decode cX4_mean 47 = .ok (.goto 11, 3) := by decide +kernel
theorem dX4_mean_50 : decode cX4_mean 50 = .ok (.iload_n 1, 1) := by decide +kernel
theorem dX4_mean_51 : decode cX4_mean 51 = .ok (.i2d, 1) := by decide +kernel
theorem dX4_mean_52 : decode cX4_mean 52 = .ok (.aload_n 0, 1) := by decide +kernel
theorem dX4_mean_53 : decode cX4_mean 53 = .ok (.getfield 57, 3) := by decide +kernel
theorem dX4_mean_56 : decode cX4_mean 56 = .ok (.i2d, 1) := by decide +kernel
theorem dX4_mean_57 : decode cX4_mean 57 = .ok (.ddiv, 1) := by decide +kernel
theorem dX4_mean_58 : decode cX4_mean 58 = .ok (.dreturn, 1) := by decide +kernel
theorem dX4_digest_0 : decode cX4_digest 0 = .ok (.aload_n 0, 1) := by decide +kernel
theorem dX4_digest_1 : decode cX4_digest 1 = .ok (.iconst 0, 1) := by decide +kernel
theorem dX4_digest_2 : decode cX4_digest 2 = .ok (.putfield 50, 3) := by decide +kernel
theorem dX4_digest_5 : decode cX4_digest 5 = .ok (.aload_n 0, 1) := by decide +kernel
theorem dX4_digest_6 : decode cX4_digest 6 = .ok (.invokevirtual 144, 3) := by decide +kernel
theorem dX4_digest_9 : decode cX4_digest 9 = .ok (.ldc2_w 184, 3) := by decide +kernel
theorem dX4_digest_12 : decode cX4_digest 12 = .ok (.lstore_n 1, 1) := by decide +kernel
theorem dX4_digest_13 : decode cX4_digest 13 = .ok (.iconst 0, 1) := by decide +kernel
theorem dX4_digest_14 : decode cX4_digest 14 = .ok (.istore_n 3, 1) := by decide +kernel
theorem dX4_digest_15 : decode cX4_digest 15 = .ok (.iload_n 3, 1) := by decide +kernel
theorem dX4_digest_16 : decode cX4_digest 16 = .ok (.bipush 10, 2) := by decide +kernel
theorem dX4_digest_18 : decode cX4_digest 18 = .ok (.if_icmp .ge 22, 3) := by decide +kernel
theorem dX4_digest_21 : decode cX4_digest 21 = .ok (.lload_n 1, 1) := by decide +kernel
theorem dX4_digest_22 : decode cX4_digest 22 = .ok (.ldc2_w 186, 3) := by decide +kernel
theorem dX4_digest_25 : decode cX4_digest 25 = .ok (.lmul, 1) := by decide +kernel
theorem dX4_digest_26 : decode cX4_digest 26 = .ok (.aload_n 0, 1) := by decide +kernel
theorem dX4_digest_27 : decode cX4_digest 27 = .ok (.iload_n 3, 1) := by decide +kernel
theorem dX4_digest_28 : decode cX4_digest 28 = .ok (.invokevirtual 176, 3) := by decide +kernel
theorem dX4_digest_31 : decode cX4_digest 31 = .ok (.i2l, 1) := by decide +kernel
theorem dX4_digest_32 : decode cX4_digest 32 = .ok (.ladd, 1) := by decide +kernel
theorem dX4_digest_33 : decode cX4_digest 33 = .ok (.lstore_n 1, 1) := by decide +kernel
theorem dX4_digest_34 : decode cX4_digest 34 = .ok (.iinc 3 1, 3) := by decide +kernel
theorem dX4_digest_37 : decode cX4_digest 37 = .ok (.goto (-22), 3) := by decide +kernel
theorem dX4_digest_40 : decode cX4_digest 40 = .ok (.iconst 0, 1) := by decide +kernel
theorem dX4_digest_41 : decode cX4_digest 41 = .ok (.istore_n 3, 1) := by decide +kernel
theorem dX4_digest_42 : decode cX4_digest 42 = .ok (.iload_n 3, 1) := by decide +kernel
theorem dX4_digest_43 : decode cX4_digest 43 = .ok (.aload_n 0, 1) := by decide +kernel
theorem dX4_digest_44 : decode cX4_digest 44 = .ok (.getfield 57, 3) := by decide +kernel
theorem dX4_digest_47 : decode cX4_digest 47 = .ok (.if_icmp .ge 40, 3) := by decide +kernel
theorem dX4_digest_50 : decode cX4_digest 50 = .ok (.iconst 0, 1) := by decide +kernel
theorem dX4_digest_51 : decode cX4_digest 51 = .ok (.istore 4, 2) := by decide +kernel
theorem dX4_digest_53 : decode cX4_digest 53 = .ok (.iload 4, 2) := by decide +kernel
theorem dX4_digest_55 : decode cX4_digest 55 = .ok (.bipush 7, 2) := by decide +kernel
theorem dX4_digest_57 : decode cX4_digest 57 = .ok (.if_icmp .ge 24, 3) := by decide +kernel
theorem dX4_digest_60 : decode cX4_digest 60 = .ok (.lload_n 1, 1) := by decide +kernel
theorem dX4_digest_61 : decode cX4_digest 61 = .ok (.ldc2_w 186, 3) := by decide +kernel
theorem dX4_digest_64 : decode cX4_digest 64 = .ok (.lmul, 1) := by decide +kernel
theorem dX4_digest_65 : decode cX4_digest 65 = .ok (.aload_n 0, 1) := by decide +kernel
theorem dX4_digest_66 : decode cX4_digest 66 = .ok (.iload_n 3, 1) := by decide +kernel
theorem dX4_digest_67 : decode cX4_digest 67 = .ok (.iload 4, 2) := by decide +kernel
theorem dX4_digest_69 : decode cX4_digest 69 = .ok (.invokevirtual 141, 3) := by decide +kernel
theorem dX4_digest_72 : decode cX4_digest 72 = .ok (.i2l, 1) := by decide +kernel
theorem dX4_digest_73 : decode cX4_digest 73 = .ok (.ladd, 1) := by decide +kernel
theorem dX4_digest_74 : decode cX4_digest 74 = .ok (.lstore_n 1, 1) := by decide +kernel
theorem dX4_digest_75 : decode cX4_digest 75 = .ok (.iinc 4 1, 3) := by decide +kernel
theorem dX4_digest_78 : decode cX4_digest 78 = .ok (.goto (-25), 3) := by decide +kernel
theorem dX4_digest_81 : decode cX4_digest 81 = .ok (.iinc 3 1, 3) := by decide +kernel
theorem dX4_digest_84 : decode cX4_digest 84 = .ok (.goto (-42), 3) := by decide +kernel
theorem dX4_digest_87 : decode cX4_digest 87 = .ok (.iconst 0, 1) := by decide +kernel
theorem dX4_digest_88 : decode cX4_digest 88 = .ok (.istore_n 3, 1) := by decide +kernel
theorem dX4_digest_89 : decode cX4_digest 89 = .ok (.iload_n 3, 1) := by decide +kernel
theorem dX4_digest_90 : decode cX4_digest 90 = .ok (.bipush 16, 2) := by decide +kernel
theorem dX4_digest_92 : decode cX4_digest 92 = .ok (.if_icmp .ge 76, 3) := by decide +kernel
theorem dX4_digest_95 : decode cX4_digest 95 = .ok (.iconst 0, 1) := by decide +kernel
theorem dX4_digest_96 : decode cX4_digest 96 = .ok (.istore 4, 2) := by decide +kernel
theorem dX4_digest_98 : decode cX4_digest 98 = .ok (.iload 4, 2) := by decide +kernel
theorem dX4_digest_100 : decode cX4_digest 100 = .ok (.bipush 6, 2) := by decide +kernel
theorem dX4_digest_102 : decode cX4_digest 102 = .ok (.if_icmp .ge 24, 3) := by decide +kernel
theorem dX4_digest_105 : decode cX4_digest 105 = .ok (.lload_n 1, 1) := by decide +kernel
theorem dX4_digest_106 : decode cX4_digest 106 = .ok (.ldc2_w 186, 3) := by decide +kernel
theorem dX4_digest_109 : decode cX4_digest 109 = .ok (.lmul, 1) := by decide +kernel
theorem dX4_digest_110 : decode cX4_digest 110 = .ok (.aload_n 0, 1) := by decide +kernel
theorem dX4_digest_111 : decode cX4_digest 111 = .ok (.iload_n 3, 1) := by decide +kernel
theorem dX4_digest_112 : decode cX4_digest 112 = .ok (.iload 4, 2) := by decide +kernel
theorem dX4_digest_114 : decode cX4_digest 114 = .ok (.invokevirtual 147, 3) := by decide +kernel
theorem dX4_digest_117 : decode cX4_digest 117 = .ok (.i2l, 1) := by decide +kernel
theorem dX4_digest_118 : decode cX4_digest 118 = .ok (.ladd, 1) := by decide +kernel
theorem dX4_digest_119 : decode cX4_digest 119 = .ok (.lstore_n 1, 1) := by decide +kernel
theorem dX4_digest_120 : decode cX4_digest 120 = .ok (.iinc 4 1, 3) := by decide +kernel
theorem dX4_digest_123 : decode cX4_digest 123 = .ok (.goto (-25), 3) := by decide +kernel
theorem dX4_digest_126 : decode cX4_digest 126 = .ok (.lload_n 1, 1) := by decide +kernel
theorem dX4_digest_127 : decode cX4_digest 127 = .ok (.ldc2_w 186, 3) := by decide +kernel
theorem dX4_digest_130 : decode cX4_digest 130 = .ok (.lmul, 1) := by decide +kernel
theorem dX4_digest_131 : decode cX4_digest 131 = .ok (.aload_n 0, 1) := by decide +kernel
theorem dX4_digest_132 : decode cX4_digest 132 = .ok (.getfield 64, 3) := by decide +kernel
theorem dX4_digest_135 : decode cX4_digest 135 = .ok (.iload_n 3, 1) := by decide +kernel
theorem dX4_digest_136 : decode cX4_digest 136 = .ok (.invokestatic 76, 3) := by decide +kernel
theorem dX4_digest_139 : decode cX4_digest 139 = .ok (.ifCond .eq 7, 3) := by decide +kernel
theorem dX4_digest_142 : decode cX4_digest 142 = .ok (.iconst 1, 1) := by decide +kernel
theorem dX4_digest_143 : decode cX4_digest 143 = .ok (.goto 4, 3) := by decide +kernel
theorem dX4_digest_146 : decode cX4_digest 146 = .ok (.iconst 0, 1) := by decide +kernel
theorem dX4_digest_147 : decode cX4_digest 147 = .ok (.i2l, 1) := by decide +kernel
theorem dX4_digest_148 : decode cX4_digest 148 = .ok (.ladd, 1) := by decide +kernel
theorem dX4_digest_149 : decode cX4_digest 149 = .ok (.ldc2_w 186, 3) := by decide +kernel
theorem dX4_digest_152 : decode cX4_digest 152 = .ok (.lmul, 1) := by decide +kernel
theorem dX4_digest_153 : decode cX4_digest 153 = .ok (.aload_n 0, 1) := by decide +kernel
theorem dX4_digest_154 : decode cX4_digest 154 = .ok (.getfield 35, 3) := by decide +kernel
theorem dX4_digest_157 : decode cX4_digest 157 = .ok (.iload_n 3, 1) := by decide +kernel
theorem dX4_digest_158 : decode cX4_digest 158 = .ok (.iaload, 1) := by decide +kernel
theorem dX4_digest_159 : decode cX4_digest 159 = .ok (.i2l, 1) := by decide +kernel
theorem dX4_digest_160 : decode cX4_digest 160 = .ok (.ladd, 1) := by decide +kernel
theorem dX4_digest_161 : decode cX4_digest 161 = .ok (.lstore_n 1, 1) := by decide +kernel
theorem dX4_digest_162 : decode cX4_digest 162 = .ok (.iinc 3 1, 3) := by decide +kernel
theorem dX4_digest_165 : decode cX4_digest 165 = .ok (.goto (-76), 3) := by decide +kernel
theorem dX4_digest_168 : decode cX4_digest 168 = .ok (.lload_n 1, 1) := by decide +kernel
theorem dX4_digest_169 : decode cX4_digest 169 = .ok (.lreturn, 1) := by decide +kernel
end
section
theorem dL_law_0 : decode cL_law 0 = .ok (.new 8, 3) := by decide +kernel
theorem dL_law_3 : decode cL_law 3 = .ok (.dup, 1) := by decide +kernel
theorem dL_law_4 : decode cL_law 4 = .ok (.invokespecial 57, 3) := by decide +kernel
theorem dL_law_7 : decode cL_law 7 = .ok (.astore_n 1, 1) := by decide +kernel
theorem dL_law_8 : decode cL_law 8 = .ok (.new 58, 3) := by decide +kernel
theorem dL_law_11 : decode cL_law 11 = .ok (.dup, 1) := by decide +kernel
theorem dL_law_12 : decode cL_law 12 = .ok (.invokespecial 60, 3) := by decide +kernel
theorem dL_law_15 : decode cL_law 15 = .ok (.astore_n 2, 1) := by decide +kernel
theorem dL_law_16 : decode cL_law 16 = .ok (.iconst 1, 1) := by decide +kernel
theorem dL_law_17 : decode cL_law 17 = .ok (.newarray .long, 2) := by decide +kernel
theorem dL_law_19 : decode cL_law 19 = .ok (.astore_n 3, 1) := by decide +kernel
theorem dL_law_20 : decode cL_law 20 = .ok (.iconst 0, 1) := by decide +kernel
theorem dL_law_21 : decode cL_law 21 = .ok (.istore 4, 2) := by decide +kernel
theorem dL_law_23 : decode cL_law 23 = .ok (.iload 4, 2) := by decide +kernel
theorem dL_law_25 : decode cL_law 25 = .ok (.aload_n 0, 1) := by decide +kernel
theorem dL_law_26 : decode cL_law 26 = .ok (.arraylength, 1) := by decide +kernel
theorem dL_law_27 : decode cL_law 27 = .ok (.iconst 5, 1) := by decide +kernel
theorem dL_law_28 : decode cL_law 28 = .ok (.isub, 1) := by decide +kernel
theorem dL_law_29 : decode cL_law 29 = .ok (.if_icmp .gt 1020, 3) := by decide +kernel
theorem dL_law_32 : decode cL_law 32 = .ok (.aload_n 0, 1) := by decide +kernel
theorem dL_law_33 : decode cL_law 33 = .ok (.iload 4, 2) := by decide +kernel
theorem dL_law_35 : decode cL_law 35 = .ok (.iaload, 1) := by decide +kernel
theorem dL_law_36 : decode cL_law 36 = .ok (.bipush 31, 2) := by decide +kernel
theorem dL_law_38 : decode cL_law 38 = .ok (.iand, 1) := by decide +kernel
theorem dL_law_39 : decode cL_law 39 = .ok (.tableswitch 1004 0 16 #[81, 173, 253, 309, 400, 456, 524, 599, 674, 742, 798, 854, 867, 923, 936, 949, 990], 81) := by decide +kernel
theorem dL_law_120 : decode cL_law 120 = .ok (.aload_n 1, 1) := by decide +kernel
theorem dL_law_121 : decode cL_law 121 = .ok (.aload_n 0, 1) := by decide +kernel
theorem dL_law_122 : decode cL_law 122 = .ok (.iload 4, 2) := by decide +kernel
theorem dL_law_124 : decode cL_law 124 = .ok (.iconst 1, 1) := by decide +kernel
theorem dL_law_125 : decode cL_law 125 = .ok (.iadd, 1) := by decide +kernel
theorem dL_law_126 : decode cL_law 126 = .ok (.iaload, 1) := by decide +kernel
theorem dL_law_127 : decode cL_law 127 = .ok (.aload_n 0, 1) := by decide +kernel
theorem dL_law_128 : decode cL_law 128 = .ok (.iload 4, 2) := by decide +kernel
theorem dL_law_130 : decode cL_law 130 = .ok (.iconst 2, 1) := by decide +kernel
theorem dL_law_131 : decode cL_law 131 = .ok (.iadd, 1) := by decide +kernel
theorem dL_law_132 : decode cL_law 132 = .ok (.iaload, 1) := by decide +kernel
theorem dL_law_133 : decode cL_law 133 = .ok (.aload_n 0, 1) := by decide +kernel
theorem dL_law_134 : decode cL_law 134 = .ok (.iload 4, 2) := by decide +kernel
theorem dL_law_136 : decode cL_law 136 = .ok (.iconst 3, 1) := by decide +kernel
theorem dL_law_137 : decode cL_law 137 = .ok (.iadd, 1) := by decide +kernel
theorem dL_law_138 : decode cL_law 138 = .ok (.iaload, 1) := by decide +kernel
theorem dL_law_139 : decode cL_law 139 = .ok (.aload_n 0, 1) := by decide +kernel
theorem dL_law_140 : decode cL_law 140 = .ok (.iload 4, 2) := by decide +kernel
theorem dL_law_142 : decode cL_law 142 = .ok (.iconst 4, 1) := by decide +kernel
theorem dL_law_143 : decode cL_law 143 = .ok (.iadd, 1) := by decide +kernel
theorem dL_law_144 : decode cL_law 144 = .ok (.iaload, 1) := by decide +kernel
theorem dL_law_145 : decode cL_law 145 = .ok (.aload_n 3, 1) := by decide +kernel
theorem dL_law_146 : decode cL_law 146 = .ok (.invokestatic 61, 3) := by decide +kernel
theorem dL_law_149 : decode cL_law 149 = .ok (.istore 5, 2) := by decide +kernel
theorem dL_law_151 : decode cL_law 151 = .ok (.aload_n 2, 1) := by decide +kernel
theorem dL_law_152 : decode cL_law 152 = .ok (.aload_n 0, 1) := by decide +kernel
theorem dL_law_153 : decode cL_law 153 = .ok (.iload 4, 2) := by decide +kernel
theorem dL_law_155 : decode cL_law 155 = .ok (.iconst 1, 1) := by decide +kernel
theorem dL_law_156 : decode cL_law 156 = .ok (.iadd, 1) := by decide +kernel
theorem dL_law_157 : decode cL_law 157 = .ok (.iaload, 1) := by decide +kernel
theorem dL_law_158 : decode cL_law 158 = .ok (.aload_n 0, 1) := by decide +kernel
theorem dL_law_159 : decode cL_law 159 = .ok (.iload 4, 2) := by decide +kernel
theorem dL_law_161 : decode cL_law 161 = .ok (.iconst 2, 1) := by decide +kernel
theorem dL_law_162 : decode cL_law 162 = .ok (.iadd, 1) := by decide +kernel
theorem dL_law_163 : decode cL_law 163 = .ok (.iaload, 1) := by decide +kernel
theorem dL_law_164 : decode cL_law 164 = .ok (.aload_n 0, 1) := by decide +kernel
theorem dL_law_165 : decode cL_law 165 = .ok (.iload 4, 2) := by decide +kernel
theorem dL_law_167 : decode cL_law 167 = .ok (.iconst 3, 1) := by decide +kernel
theorem dL_law_168 : decode cL_law 168 = .ok (.iadd, 1) := by decide +kernel
theorem dL_law_169 : decode cL_law 169 = .ok (.iaload, 1) := by decide +kernel
theorem dL_law_170 : decode cL_law 170 = .ok (.aload_n 0, 1) := by decide +kernel
theorem dL_law_171 : decode cL_law 171 = .ok (.iload 4, 2) := by decide +kernel
theorem dL_law_173 : decode cL_law 173 = .ok (.iconst 4, 1) := by decide +kernel
theorem dL_law_174 : decode cL_law 174 = .ok (.iadd, 1) := by decide +kernel
theorem dL_law_175 : decode cL_law 175 = .ok (.iaload, 1) := by decide +kernel
theorem dL_law_176 : decode cL_law 176 = .ok (.invokevirtual 66, 3) := by decide +kernel
theorem dL_law_179 : decode cL_law 179 = .ok (.istore 6, 2) := by decide +kernel
theorem dL_law_181 : decode cL_law 181 = .ok (.aload_n 2, 1) := by decide +kernel
theorem dL_law_182 : decode cL_law 182 = .ok (.invokevirtual 67, 3) := by decide +kernel
theorem dL_law_185 : decode cL_law 185 = .ok (.iload 5, 2) := by decide +kernel
theorem dL_law_187 : decode cL_law 187 = .ok (.if_icmp .eq 5, 3) := by decide +kernel
theorem dL_law_190 : decode cL_law 190 = .ok (.iconst 0, 1) := by decide +kernel
theorem dL_law_191 : decode cL_law 191 = .ok (.ireturn, 1) := by decide +kernel
theorem dL_law_192 : decode cL_law 192 = .ok (.iload 5, 2) := by decide +kernel
theorem dL_law_194 : decode cL_law 194 = .ok (.ifCond .ne 15, 3) := by decide +kernel
theorem dL_law_197 : decode cL_law 197 = .ok (.aload_n 3, 1) := by decide +kernel
theorem dL_law_198 : decode cL_law 198 = .ok (.iconst 0, 1) := by decide +kernel
theorem dL_law_199 : decode cL_law 199 = .ok (.laload, 1) := by decide +kernel
theorem dL_law_200 : decode cL_law 200 = .ok (.iload 6, 2) := by decide +kernel
theorem dL_law_202 : decode cL_law 202 = .ok (.i2l, 1) := by decide +kernel
theorem dL_law_203 : decode cL_law 203 = .ok (.lcmp, 1) := by decide +kernel
theorem dL_law_204 : decode cL_law 204 = .ok (.ifCond .eq 5, 3) := by decide +kernel
theorem dL_law_207 : decode cL_law 207 = .ok (.iconst 0, 1) := by decide +kernel
theorem dL_law_208 : decode cL_law 208 = .ok (.ireturn, 1) := by decide +kernel
theorem dL_law_209 : decode cL_law 209 = .ok (.goto 834, 3) := by decide +kernel
theorem dL_law_212 : decode cL_law 212 = .ok (.aload_n 1, 1) := by decide +kernel
theorem dL_law_213 : decode cL_law 213 = .ok (.aload_n 0, 1) := by decide +kernel
theorem dL_law_214 : decode cL_law 214 = .ok (.iload 4, 2) := by decide +kernel
theorem dL_law_216 : decode cL_law 216 = .ok (.iconst 1, 1) := by decide +kernel
theorem dL_law_217 : decode cL_law 217 = .ok (.iadd, 1) := by decide +kernel
theorem dL_law_218 : decode cL_law 218 = .ok (.iaload, 1) := by decide +kernel
theorem dL_law_219 : decode cL_law 219 = .ok (.aload_n 0, 1) := by decide +kernel
theorem dL_law_220 : decode cL_law 220 = .ok (.iload 4, 2) := by decide +kernel
theorem dL_law_222 : decode cL_law 222 = .ok (.iconst 2, 1) := by decide +kernel
theorem dL_law_223 : decode cL_law 223 = .ok (.iadd, 1) := by decide +kernel
theorem dL_law_224 : decode cL_law 224 = .ok (.iaload, 1) := by decide +kernel
theorem dL_law_225 : decode cL_law 225 = .ok (.aload_n 0, 1) := by decide +kernel
theorem dL_law_226 : decode cL_law 226 = .ok (.iload 4, 2) := by decide +kernel
theorem dL_law_228 : decode cL_law 228 = .ok (.iconst 3, 1) := by decide +kernel
theorem dL_law_229 : decode cL_law 229 = .ok (.iadd, 1) := by decide +kernel
theorem dL_law_230 : decode cL_law 230 = .ok (.iaload, 1) := by decide +kernel
theorem dL_law_231 : decode cL_law 231 = .ok (.aload_n 3, 1) := by decide +kernel
theorem dL_law_232 : decode cL_law 232 = .ok (.invokestatic 71, 3) := by decide +kernel
theorem dL_law_235 : decode cL_law 235 = .ok (.istore 5, 2) := by decide +kernel
theorem dL_law_237 : decode cL_law 237 = .ok (.aload_n 2, 1) := by decide +kernel
theorem dL_law_238 : decode cL_law 238 = .ok (.aload_n 0, 1) := by decide +kernel
theorem dL_law_239 : decode cL_law 239 = .ok (.iload 4, 2) := by decide +kernel
theorem dL_law_241 : decode cL_law 241 = .ok (.iconst 1, 1) := by decide +kernel
theorem dL_law_242 : decode cL_law 242 = .ok (.iadd, 1) := by decide +kernel
theorem dL_law_243 : decode cL_law 243 = .ok (.iaload, 1) := by decide +kernel
theorem dL_law_244 : decode cL_law 244 = .ok (.aload_n 0, 1) := by decide +kernel
theorem dL_law_245 : decode cL_law 245 = .ok (.iload 4, 2) := by decide +kernel
theorem dL_law_247 : decode cL_law 247 = .ok (.iconst 2, 1) := by decide +kernel
theorem dL_law_248 : decode cL_law 248 = .ok (.iadd, 1) := by decide +kernel
theorem dL_law_249 : decode cL_law 249 = .ok (.iaload, 1) := by decide +kernel
theorem dL_law_250 : decode cL_law 250 = .ok (.aload_n 0, 1) := by decide +kernel
theorem dL_law_251 : decode cL_law 251 = .ok (.iload 4, 2) := by decide +kernel
theorem dL_law_253 : decode cL_law 253 = .ok (.iconst 3, 1) := by decide +kernel
theorem dL_law_254 : decode cL_law 254 = .ok (.iadd, 1) := by decide +kernel
theorem dL_law_255 : decode cL_law 255 = .ok (.iaload, 1) := by decide +kernel
theorem dL_law_256 : decode cL_law 256 = .ok (.invokevirtual 74, 3) := by decide +kernel
theorem dL_law_259 : decode cL_law 259 = .ok (.istore 6, 2) := by decide +kernel
theorem dL_law_261 : decode cL_law 261 = .ok (.aload_n 2, 1) := by decide +kernel
theorem dL_law_262 : decode cL_law 262 = .ok (.invokevirtual 67, 3) := by decide +kernel
theorem dL_law_265 : decode cL_law 265 = .ok (.iload 5, 2) := by decide +kernel
theorem dL_law_267 : decode cL_law 267 = .ok (.if_icmp .eq 5, 3) := by decide +kernel
theorem dL_law_270 : decode cL_law 270 = .ok (.iconst 0, 1) := by decide +kernel
theorem dL_law_271 : decode cL_law 271 = .ok (.ireturn, 1) := by decide +kernel
theorem dL_law_272 : decode cL_law 272 = .ok (.iload 5, 2) := by decide +kernel
theorem dL_law_274 : decode cL_law 274 = .ok (.ifCond .ne 15, 3) := by decide +kernel
theorem dL_law_277 : decode cL_law 277 = .ok (.aload_n 3, 1) := by decide +kernel
theorem dL_law_278 : decode cL_law 278 = .ok (.iconst 0, 1) := by decide +kernel
theorem dL_law_279 : decode cL_law 279 = .ok (.laload, 1) := by decide +kernel
theorem dL_law_280 : decode cL_law 280 = .ok (.iload 6, 2) := by decide +kernel
theorem dL_law_282 : decode cL_law 282 = .ok (.i2l, 1) := by decide +kernel
theorem dL_law_283 : decode cL_law 283 = .ok (.lcmp, 1) := by decide +kernel
theorem dL_law_284 : decode cL_law 284 = .ok (.ifCond .eq 5, 3) := by decide +kernel
theorem dL_law_287 : decode cL_law 287 = .ok (.iconst 0, 1) := by decide +kernel
theorem dL_law_288 : decode cL_law 288 = .ok (.ireturn, 1) := by decide +kernel
theorem dL_law_289 : decode cL_law 289 = .ok (.goto 754, 3) := by decide +kernel
theorem dL_law_292 : decode cL_law 292 = .ok (.aload_n 1, 1) := by decide +kernel
theorem dL_law_293 : decode cL_law 293 = .ok (.aload_n 0, 1) := by decide +kernel
theorem dL_law_294 : decode cL_law 294 = .ok (.iload 4, 2) := by decide +kernel
theorem dL_law_296 : decode cL_law 296 = .ok (.iconst 1, 1) := by decide +kernel
theorem dL_law_297 : decode cL_law 297 = .ok (.iadd, 1) := by decide +kernel
theorem dL_law_298 : decode cL_law 298 = .ok (.iaload, 1) := by decide +kernel
theorem dL_law_299 : decode cL_law 299 = .ok (.aload_n 3, 1) := by decide +kernel
theorem dL_law_300 : decode cL_law 300 = .ok (.invokestatic 75, 3) := by decide +kernel
theorem dL_law_303 : decode cL_law 303 = .ok (.istore 5, 2) := by decide +kernel
theorem dL_law_305 : decode cL_law 305 = .ok (.aload_n 2, 1) := by decide +kernel
theorem dL_law_306 : decode cL_law 306 = .ok (.aload_n 0, 1) := by decide +kernel
theorem dL_law_307 : decode cL_law 307 = .ok (.iload 4, 2) := by decide +kernel
theorem dL_law_309 : decode cL_law 309 = .ok (.iconst 1, 1) := by decide +kernel
theorem dL_law_310 : decode cL_law 310 = .ok (.iadd, 1) := by decide +kernel
theorem dL_law_311 : decode cL_law 311 = .ok (.iaload, 1) := by decide +kernel
theorem dL_law_312 : decode cL_law 312 = .ok (.invokevirtual 78, 3) := by decide +kernel
theorem dL_law_315 : decode cL_law 315 = .ok (.istore 6, 2) := by decide +kernel
theorem dL_law_317 : decode cL_law 317 = .ok (.aload_n 2, 1) := by decide +kernel
theorem dL_law_318 : decode cL_law 318 = .ok (.invokevirtual 67, 3) := by decide +kernel
theorem dL_law_321 : decode cL_law 321 = .ok (.iload 5, 2) := by decide +kernel
theorem dL_law_323 : decode cL_law 323 = .ok (.if_icmp .eq 5, 3) := by decide +kernel
theorem dL_law_326 : decode cL_law 326 = .ok (.iconst 0, 1) := by decide +kernel
theorem dL_law_327 : decode cL_law 327 = .ok (.ireturn, 1) := by decide +kernel
theorem dL_law_328 : decode cL_law 328 = .ok (.iload 5, 2) := by decide +kernel
theorem dL_law_330 : decode cL_law 330 = .ok (.ifCond .ne 15, 3) := by decide +kernel
theorem dL_law_333 : decode cL_law 333 = .ok (.aload_n 3, 1) := by decide +kernel
theorem dL_law_334 : decode cL_law 334 = .ok (.iconst 0, 1) := by decide +kernel
theorem dL_law_335 : decode cL_law 335 = .ok (.laload, 1) := by decide +kernel
theorem dL_law_336 : decode cL_law 336 = .ok (.iload 6, 2) := by decide +kernel
theorem dL_law_338 : decode cL_law 338 = .ok (.i2l, 1) := by decide +kernel
theorem dL_law_339 : decode cL_law 339 = .ok (.lcmp, 1) := by decide +kernel
theorem dL_law_340 : decode cL_law 340 = .ok (.ifCond .eq 5, 3) := by decide +kernel
theorem dL_law_343 : decode cL_law 343 = .ok (.iconst 0, 1) := by decide +kernel
theorem dL_law_344 : decode cL_law 344 = .ok (.ireturn, 1) := by decide +kernel
theorem dL_law_345 : decode cL_law 345 = .ok (.goto 698, 3) := by decide +kernel
theorem dL_law_348 : decode cL_law 348 = .ok (.aload_n 1, 1) := by decide +kernel
theorem dL_law_349 : decode cL_law 349 = .ok (.aload_n 0, 1) := by decide +kernel
theorem dL_law_350 : decode cL_law 350 = .ok (.iload 4, 2) := by decide +kernel
theorem dL_law_352 : decode cL_law 352 = .ok (.iconst 1, 1) := by decide +kernel
theorem dL_law_353 : decode cL_law 353 = .ok (.iadd, 1) := by decide +kernel
theorem dL_law_354 : decode cL_law 354 = .ok (.iaload, 1) := by decide +kernel
theorem dL_law_355 : decode cL_law 355 = .ok (.aload_n 0, 1) := by decide +kernel
theorem dL_law_356 : decode cL_law 356 = .ok (.iload 4, 2) := by decide +kernel
theorem dL_law_358 : decode cL_law 358 = .ok (.iconst 2, 1) := by decide +kernel
theorem dL_law_359 : decode cL_law 359 = .ok (.iadd, 1) := by decide +kernel
theorem dL_law_360 : decode cL_law 360 = .ok (.iaload, 1) := by decide +kernel
theorem dL_law_361 : decode cL_law 361 = .ok (.ifCond .eq 7, 3) := by decide +kernel
theorem dL_law_364 : decode cL_law 364 = .ok (.iconst 1, 1) := by decide +kernel
theorem dL_law_365 : decode cL_law 365 = .ok (.goto 4, 3) := by decide +kernel
theorem dL_law_368 : decode cL_law 368 = .ok (.iconst 0, 1) := by decide +kernel
theorem dL_law_369 : decode cL_law 369 = .ok (.aload_n 3, 1) := by decide +kernel
theorem dL_law_370 : decode cL_law 370 = .ok (.invokestatic 79, 3) := by decide +kernel
theorem dL_law_373 : decode cL_law 373 = .ok (.istore 5, 2) := by decide +kernel
theorem dL_law_375 : decode cL_law 375 = .ok (.aload_n 2, 1) := by decide +kernel
theorem dL_law_376 : decode cL_law 376 = .ok (.aload_n 0, 1) := by decide +kernel
theorem dL_law_377 : decode cL_law 377 = .ok (.iload 4, 2) := by decide +kernel
theorem dL_law_379 : decode cL_law 379 = .ok (.iconst 1, 1) := by decide +kernel
theorem dL_law_380 : decode cL_law 380 = .ok (.iadd, 1) := by decide +kernel
theorem dL_law_381 : decode cL_law 381 = .ok (.iaload, 1) := by decide +kernel
theorem dL_law_382 : decode cL_law 382 = .ok (.aload_n 0, 1) := by decide +kernel
theorem dL_law_383 : decode cL_law 383 = .ok (.iload 4, 2) := by decide +kernel
theorem dL_law_385 : decode cL_law 385 = .ok (.iconst 2, 1) := by decide +kernel
theorem dL_law_386 : decode cL_law 386 = .ok (.iadd, 1) := by decide +kernel
theorem dL_law_387 : decode cL_law 387 = .ok (.iaload, 1) := by decide +kernel
theorem dL_law_388 : decode cL_law 388 = .ok (.ifCond .eq 7, 3) := by decide +kernel
theorem dL_law_391 : decode cL_law 391 = .ok (.iconst 1, 1) := by decide +kernel
theorem dL_law_392 : decode cL_law 392 = .ok (.goto 4, 3) := by decide +kernel
theorem dL_law_395 : decode cL_law 395 = .ok (.iconst 0, 1) := by decide +kernel
theorem dL_law_396 : decode cL_law 396 = .ok (.invokevirtual 82, 3) := by decide +kernel
theorem dL_law_399 : decode cL_law 399 = .ok (.istore 6, 2) := by decide +kernel
theorem dL_law_401 : decode cL_law 401 = .ok (.aload_n 2, 1) := by decide +kernel
theorem dL_law_402 : decode cL_law 402 = .ok (.invokevirtual 67, 3) := by decide +kernel
theorem dL_law_405 : decode cL_law 405 = .ok (.iload 5, 2) := by decide +kernel
theorem dL_law_407 : decode cL_law 407 = .ok (.if_icmp .eq 5, 3) := by decide +kernel
theorem dL_law_410 : decode cL_law 410 = .ok (.iconst 0, 1) := by decide +kernel
theorem dL_law_411 : decode cL_law 411 = .ok (.ireturn, 1) := by decide +kernel
theorem dL_law_412 : decode cL_law 412 = .ok (.iload 5, 2) := by decide +kernel
theorem dL_law_414 : decode cL_law 414 = .ok (.ifCond .ne 22, 3) := by decide +kernel
theorem dL_law_417 : decode cL_law 417 = .ok (.aload_n 3, 1) := by decide +kernel
theorem dL_law_418 : decode cL_law 418 = .ok (.iconst 0, 1) := by decide +kernel
theorem dL_law_419 : decode cL_law 419 = .ok (.laload, 1) := by decide +kernel
theorem dL_law_420 : decode cL_law 420 = .ok (.iload 6, 2) := by decide +kernel
theorem dL_law_422 : decode cL_law 422 = .ok (.ifCond .eq 7, 3) := by decide +kernel
theorem dL_law_425 : decode cL_law 425 = .ok (.lconst 1, 1) := by decide +kernel
theorem dL_law_426 : decode cL_law 426 = .ok (.goto 4, 3) := by decide +kernel
theorem dL_law_429 : decode cL_law 429 = .ok (.lconst 0, 1) := by decide +kernel
theorem dL_law_430 : decode cL_law 430 = .ok (.lcmp, 1) := by decide +kernel
theorem dL_law_431 : decode cL_law 431 = .ok (.ifCond .eq 5, 3) := by decide +kernel
theorem dL_law_434 : decode cL_law 434 = .ok (.iconst 0, 1) := by decide +kernel
theorem dL_law_435 : decode cL_law 435 = .ok (.ireturn, 1) := by decide +kernel
theorem dL_law_436 : decode cL_law 436 = .ok (.goto 607, 3) := by decide +kernel
theorem dL_law_439 : decode cL_law 439 = .ok (.aload_n 1, 1) := by decide +kernel
theorem dL_law_440 : decode cL_law 440 = .ok (.aload_n 0, 1) := by decide +kernel
theorem dL_law_441 : decode cL_law 441 = .ok (.iload 4, 2) := by decide +kernel
theorem dL_law_443 : decode cL_law 443 = .ok (.iconst 1, 1) := by decide +kernel
theorem dL_law_444 : decode cL_law 444 = .ok (.iadd, 1) := by decide +kernel
theorem dL_law_445 : decode cL_law 445 = .ok (.iaload, 1) := by decide +kernel
theorem dL_law_446 : decode cL_law 446 = .ok (.aload_n 3, 1) := by decide +kernel
theorem dL_law_447 : decode cL_law 447 = .ok (.invokestatic 83, 3) := by decide +kernel
theorem dL_law_450 : decode cL_law 450 = .ok (.istore 5, 2) := by decide +kernel
theorem dL_law_452 : decode cL_law 452 = .ok (.aload_n 2, 1) := by decide +kernel
theorem dL_law_453 : decode cL_law 453 = .ok (.aload_n 0, 1) := by decide +kernel
theorem dL_law_454 : decode cL_law 454 = .ok (.iload 4, 2) := by decide +kernel
theorem dL_law_456 : decode cL_law 456 = .ok (.iconst 1, 1) := by decide +kernel
theorem dL_law_457 : decode cL_law 457 = .ok (.iadd, 1) := by decide +kernel
theorem dL_law_458 : decode cL_law 458 = .ok (.iaload, 1) := by decide +kernel
theorem dL_law_459 : decode cL_law 459 = .ok (.invokevirtual 85, 3) := by decide +kernel
theorem dL_law_462 : decode cL_law 462 = .ok (.istore 6, 2) := by decide +kernel
theorem dL_law_464 : decode cL_law 464 = .ok (.aload_n 2, 1) := by decide +kernel
theorem dL_law_465 : decode cL_law 465 = .ok (.invokevirtual 67, 3) := by decide +kernel
theorem dL_law_468 : decode cL_law 468 = .ok (.iload 5, 2) := by decide +kernel
theorem dL_law_470 : decode cL_law 470 = .ok (.if_icmp .eq 5, 3) := by decide +kernel
theorem dL_law_473 : decode cL_law 473 = .ok (.iconst 0, 1) := by decide +kernel
theorem dL_law_474 : decode cL_law 474 = .ok (.ireturn, 1) := by decide +kernel
theorem dL_law_475 : decode cL_law 475 = .ok (.iload 5, 2) := by decide +kernel
theorem dL_law_477 : decode cL_law 477 = .ok (.ifCond .ne 15, 3) := by decide +kernel
theorem dL_law_480 : decode cL_law 480 = .ok (.aload_n 3, 1) := by decide +kernel
theorem dL_law_481 : decode cL_law 481 = .ok (.iconst 0, 1) := by decide +kernel
theorem dL_law_482 : decode cL_law 482 = .ok (.laload, 1) := by decide +kernel
theorem dL_law_483 : decode cL_law 483 = .ok (.iload 6, 2) := by decide +kernel
theorem dL_law_485 : decode cL_law 485 = .ok (.i2l, 1) := by decide +kernel
theorem dL_law_486 : decode cL_law 486 = .ok (.lcmp, 1) := by decide +kernel
theorem dL_law_487 : decode cL_law 487 = .ok (.ifCond .eq 5, 3) := by decide +kernel
theorem dL_law_490 : decode cL_law 490 = .ok (.iconst 0, 1) := by decide +kernel
theorem dL_law_491 : decode cL_law 491 = .ok (.ireturn, 1) := by decide +kernel
theorem dL_law_492 : decode cL_law 492 = .ok (.goto 551, 3) := by decide +kernel
theorem dL_law_495 : decode cL_law 495 = .ok (.aload_n 1, 1) := by decide +kernel
theorem dL_law_496 : decode cL_law 496 = .ok (.aload_n 0, 1) := by decide +kernel
theorem dL_law_497 : decode cL_law 497 = .ok (.iload 4, 2) := by decide +kernel
theorem dL_law_499 : decode cL_law 499 = .ok (.iconst 1, 1) := by decide +kernel
theorem dL_law_500 : decode cL_law 500 = .ok (.iadd, 1) := by decide +kernel
theorem dL_law_501 : decode cL_law 501 = .ok (.iaload, 1) := by decide +kernel
theorem dL_law_502 : decode cL_law 502 = .ok (.aload_n 0, 1) := by decide +kernel
theorem dL_law_503 : decode cL_law 503 = .ok (.iload 4, 2) := by decide +kernel
theorem dL_law_505 : decode cL_law 505 = .ok (.iconst 2, 1) := by decide +kernel
theorem dL_law_506 : decode cL_law 506 = .ok (.iadd, 1) := by decide +kernel
theorem dL_law_507 : decode cL_law 507 = .ok (.iaload, 1) := by decide +kernel
theorem dL_law_508 : decode cL_law 508 = .ok (.aload_n 3, 1) := by decide +kernel
theorem dL_law_509 : decode cL_law 509 = .ok (.invokestatic 86, 3) := by decide +kernel
theorem dL_law_512 : decode cL_law 512 = .ok (.istore 5, 2) := by decide +kernel
theorem dL_law_514 : decode cL_law 514 = .ok (.aload_n 2, 1) := by decide +kernel
theorem dL_law_515 : decode cL_law 515 = .ok (.aload_n 0, 1) := by decide +kernel
theorem dL_law_516 : decode cL_law 516 = .ok (.iload 4, 2) := by decide +kernel
theorem dL_law_518 : decode cL_law 518 = .ok (.iconst 1, 1) := by decide +kernel
theorem dL_law_519 : decode cL_law 519 = .ok (.iadd, 1) := by decide +kernel
theorem dL_law_520 : decode cL_law 520 = .ok (.iaload, 1) := by decide +kernel
theorem dL_law_521 : decode cL_law 521 = .ok (.aload_n 0, 1) := by decide +kernel
theorem dL_law_522 : decode cL_law 522 = .ok (.iload 4, 2) := by decide +kernel
theorem dL_law_524 : decode cL_law 524 = .ok (.iconst 2, 1) := by decide +kernel
theorem dL_law_525 : decode cL_law 525 = .ok (.iadd, 1) := by decide +kernel
theorem dL_law_526 : decode cL_law 526 = .ok (.iaload, 1) := by decide +kernel
theorem dL_law_527 : decode cL_law 527 = .ok (.invokevirtual 89, 3) := by decide +kernel
theorem dL_law_530 : decode cL_law 530 = .ok (.istore 6, 2) := by decide +kernel
theorem dL_law_532 : decode cL_law 532 = .ok (.aload_n 2, 1) := by decide +kernel
theorem dL_law_533 : decode cL_law 533 = .ok (.invokevirtual 67, 3) := by decide +kernel
theorem dL_law_536 : decode cL_law 536 = .ok (.iload 5, 2) := by decide +kernel
theorem dL_law_538 : decode cL_law 538 = .ok (.if_icmp .eq 5, 3) := by decide +kernel
theorem dL_law_541 : decode cL_law 541 = .ok (.iconst 0, 1) := by decide +kernel
theorem dL_law_542 : decode cL_law 542 = .ok (.ireturn, 1) := by decide +kernel
theorem dL_law_543 : decode cL_law 543 = .ok (.iload 5, 2) := by decide +kernel
theorem dL_law_545 : decode cL_law 545 = .ok (.ifCond .ne 15, 3) := by decide +kernel
theorem dL_law_548 : decode cL_law 548 = .ok (.aload_n 3, 1) := by decide +kernel
theorem dL_law_549 : decode cL_law 549 = .ok (.iconst 0, 1) := by decide +kernel
theorem dL_law_550 : decode cL_law 550 = .ok (.laload, 1) := by decide +kernel
theorem dL_law_551 : decode cL_law 551 = .ok (.iload 6, 2) := by decide +kernel
theorem dL_law_553 : decode cL_law 553 = .ok (.i2l, 1) := by decide +kernel
theorem dL_law_554 : decode cL_law 554 = .ok (.lcmp, 1) := by decide +kernel
theorem dL_law_555 : decode cL_law 555 = .ok (.ifCond .eq 5, 3) := by decide +kernel
theorem dL_law_558 : decode cL_law 558 = .ok (.iconst 0, 1) := by decide +kernel
theorem dL_law_559 : decode cL_law 559 = .ok (.ireturn, 1) := by decide +kernel
theorem dL_law_560 : decode cL_law 560 = .ok (.goto 483, 3) := by decide +kernel
theorem dL_law_563 : decode cL_law 563 = .ok (.aload_n 1, 1) := by decide +kernel
theorem dL_law_564 : decode cL_law 564 = .ok (.aload_n 0, 1) := by decide +kernel
theorem dL_law_565 : decode cL_law 565 = .ok (.iload 4, 2) := by decide +kernel
theorem dL_law_567 : decode cL_law 567 = .ok (.iconst 1, 1) := by decide +kernel
theorem dL_law_568 : decode cL_law 568 = .ok (.iadd, 1) := by decide +kernel
theorem dL_law_569 : decode cL_law 569 = .ok (.iaload, 1) := by decide +kernel
theorem dL_law_570 : decode cL_law 570 = .ok (.aload_n 0, 1) := by decide +kernel
theorem dL_law_571 : decode cL_law 571 = .ok (.iload 4, 2) := by decide +kernel
theorem dL_law_573 : decode cL_law 573 = .ok (.iconst 2, 1) := by decide +kernel
theorem dL_law_574 : decode cL_law 574 = .ok (.iadd, 1) := by decide +kernel
theorem dL_law_575 : decode cL_law 575 = .ok (.iaload, 1) := by decide +kernel
theorem dL_law_576 : decode cL_law 576 = .ok (.aload_n 3, 1) := by decide +kernel
theorem dL_law_577 : decode cL_law 577 = .ok (.invokestatic 90, 3) := by decide +kernel
theorem dL_law_580 : decode cL_law 580 = .ok (.istore 5, 2) := by decide +kernel
theorem dL_law_582 : decode cL_law 582 = .ok (.aload_n 2, 1) := by decide +kernel
theorem dL_law_583 : decode cL_law 583 = .ok (.aload_n 0, 1) := by decide +kernel
theorem dL_law_584 : decode cL_law 584 = .ok (.iload 4, 2) := by decide +kernel
theorem dL_law_586 : decode cL_law 586 = .ok (.iconst 1, 1) := by decide +kernel
theorem dL_law_587 : decode cL_law 587 = .ok (.iadd, 1) := by decide +kernel
theorem dL_law_588 : decode cL_law 588 = .ok (.iaload, 1) := by decide +kernel
theorem dL_law_589 : decode cL_law 589 = .ok (.aload_n 0, 1) := by decide +kernel
theorem dL_law_590 : decode cL_law 590 = .ok (.iload 4, 2) := by decide +kernel
theorem dL_law_592 : decode cL_law 592 = .ok (.iconst 2, 1) := by decide +kernel
theorem dL_law_593 : decode cL_law 593 = .ok (.iadd, 1) := by decide +kernel
theorem dL_law_594 : decode cL_law 594 = .ok (.iaload, 1) := by decide +kernel
theorem dL_law_595 : decode cL_law 595 = .ok (.invokevirtual 92, 3) := by decide +kernel
theorem dL_law_598 : decode cL_law 598 = .ok (.istore 6, 2) := by decide +kernel
theorem dL_law_600 : decode cL_law 600 = .ok (.aload_n 2, 1) := by decide +kernel
theorem dL_law_601 : decode cL_law 601 = .ok (.invokevirtual 67, 3) := by decide +kernel
theorem dL_law_604 : decode cL_law 604 = .ok (.iload 5, 2) := by decide +kernel
theorem dL_law_606 : decode cL_law 606 = .ok (.if_icmp .eq 5, 3) := by decide +kernel
theorem dL_law_609 : decode cL_law 609 = .ok (.iconst 0, 1) := by decide +kernel
theorem dL_law_610 : decode cL_law 610 = .ok (.ireturn, 1) := by decide +kernel
theorem dL_law_611 : decode cL_law 611 = .ok (.iload 5, 2) := by decide +kernel
theorem dL_law_613 : decode cL_law 613 = .ok (.ifCond .ne 22, 3) := by decide +kernel
theorem dL_law_616 : decode cL_law 616 = .ok (.aload_n 3, 1) := by decide +kernel
theorem dL_law_617 : decode cL_law 617 = .ok (.iconst 0, 1) := by decide +kernel
theorem dL_law_618 : decode cL_law 618 = .ok (.laload, 1) := by decide +kernel
theorem dL_law_619 : decode cL_law 619 = .ok (.iload 6, 2) := by decide +kernel
theorem dL_law_621 : decode cL_law 621 = .ok (.ifCond .eq 7, 3) := by decide +kernel
theorem dL_law_624 : decode cL_law 624 = .ok (.lconst 1, 1) := by decide +kernel
theorem dL_law_625 : decode cL_law 625 = .ok (.goto 4, 3) := by decide +kernel
theorem dL_law_628 : decode cL_law 628 = .ok (.lconst 0, 1) := by decide +kernel
theorem dL_law_629 : decode cL_law 629 = .ok (.lcmp, 1) := by decide +kernel
theorem dL_law_630 : decode cL_law 630 = .ok (.ifCond .eq 5, 3) := by decide +kernel
theorem dL_law_633 : decode cL_law 633 = .ok (.iconst 0, 1) := by decide +kernel
theorem dL_law_634 : decode cL_law 634 = .ok (.ireturn, 1) := by decide +kernel
theorem dL_law_635 : decode cL_law 635 = .ok (.goto 408, 3) := by decide +kernel
theorem dL_law_638 : decode cL_law 638 = .ok (.aload_n 1, 1) := by decide +kernel
theorem dL_law_639 : decode cL_law 639 = .ok (.aload_n 0, 1) := by decide +kernel
theorem dL_law_640 : decode cL_law 640 = .ok (.iload 4, 2) := by decide +kernel
theorem dL_law_642 : decode cL_law 642 = .ok (.iconst 1, 1) := by decide +kernel
theorem dL_law_643 : decode cL_law 643 = .ok (.iadd, 1) := by decide +kernel
theorem dL_law_644 : decode cL_law 644 = .ok (.iaload, 1) := by decide +kernel
theorem dL_law_645 : decode cL_law 645 = .ok (.aload_n 0, 1) := by decide +kernel
theorem dL_law_646 : decode cL_law 646 = .ok (.iload 4, 2) := by decide +kernel
theorem dL_law_648 : decode cL_law 648 = .ok (.iconst 2, 1) := by decide +kernel
theorem dL_law_649 : decode cL_law 649 = .ok (.iadd, 1) := by decide +kernel
theorem dL_law_650 : decode cL_law 650 = .ok (.iaload, 1) := by decide +kernel
theorem dL_law_651 : decode cL_law 651 = .ok (.aload_n 3, 1) := by decide +kernel
theorem dL_law_652 : decode cL_law 652 = .ok (.invokestatic 93, 3) := by decide +kernel
theorem dL_law_655 : decode cL_law 655 = .ok (.istore 5, 2) := by decide +kernel
theorem dL_law_657 : decode cL_law 657 = .ok (.aload_n 2, 1) := by decide +kernel
theorem dL_law_658 : decode cL_law 658 = .ok (.aload_n 0, 1) := by decide +kernel
theorem dL_law_659 : decode cL_law 659 = .ok (.iload 4, 2) := by decide +kernel
theorem dL_law_661 : decode cL_law 661 = .ok (.iconst 1, 1) := by decide +kernel
theorem dL_law_662 : decode cL_law 662 = .ok (.iadd, 1) := by decide +kernel
theorem dL_law_663 : decode cL_law 663 = .ok (.iaload, 1) := by decide +kernel
theorem dL_law_664 : decode cL_law 664 = .ok (.aload_n 0, 1) := by decide +kernel
theorem dL_law_665 : decode cL_law 665 = .ok (.iload 4, 2) := by decide +kernel
theorem dL_law_667 : decode cL_law 667 = .ok (.iconst 2, 1) := by decide +kernel
theorem dL_law_668 : decode cL_law 668 = .ok (.iadd, 1) := by decide +kernel
theorem dL_law_669 : decode cL_law 669 = .ok (.iaload, 1) := by decide +kernel
theorem dL_law_670 : decode cL_law 670 = .ok (.invokevirtual 95, 3) := by decide +kernel
theorem dL_law_673 : decode cL_law 673 = .ok (.istore 6, 2) := by decide +kernel
theorem dL_law_675 : decode cL_law 675 = .ok (.aload_n 2, 1) := by decide +kernel
theorem dL_law_676 : decode cL_law 676 = .ok (.invokevirtual 67, 3) := by decide +kernel
theorem dL_law_679 : decode cL_law 679 = .ok (.iload 5, 2) := by decide +kernel
theorem dL_law_681 : decode cL_law 681 = .ok (.if_icmp .eq 5, 3) := by decide +kernel
theorem dL_law_684 : decode cL_law 684 = .ok (.iconst 0, 1) := by decide +kernel
theorem dL_law_685 : decode cL_law 685 = .ok (.ireturn, 1) := by decide +kernel
theorem dL_law_686 : decode cL_law 686 = .ok (.iload 5, 2) := by decide +kernel
theorem dL_law_688 : decode cL_law 688 = .ok (.ifCond .ne 22, 3) := by decide +kernel
theorem dL_law_691 : decode cL_law 691 = .ok (.aload_n 3, 1) := by decide +kernel
theorem dL_law_692 : decode cL_law 692 = .ok (.iconst 0, 1) := by decide +kernel
theorem dL_law_693 : decode cL_law 693 = .ok (.laload, 1) := by decide +kernel
theorem dL_law_694 : decode cL_law 694 = .ok (.iload 6, 2) := by decide +kernel
theorem dL_law_696 : decode cL_law 696 = .ok (.ifCond .eq 7, 3) := by decide +kernel
theorem dL_law_699 : decode cL_law 699 = .ok (.lconst 1, 1) := by decide +kernel
theorem dL_law_700 : decode cL_law 700 = .ok (.goto 4, 3) := by decide +kernel
theorem dL_law_703 : decode cL_law 703 = .ok (.lconst 0, 1) := by decide +kernel
theorem dL_law_704 : decode cL_law 704 = .ok (.lcmp, 1) := by decide +kernel
theorem dL_law_705 : decode cL_law 705 = .ok (.ifCond .eq 5, 3) := by decide +kernel
theorem dL_law_708 : decode cL_law 708 = .ok (.iconst 0, 1) := by decide +kernel
theorem dL_law_709 : decode cL_law 709 = .ok (.ireturn, 1) := by decide +kernel
theorem dL_law_710 : decode cL_law 710 = .ok (.goto 333, 3) := by decide +kernel
theorem dL_law_713 : decode cL_law 713 = .ok (.aload_n 1, 1) := by decide +kernel
theorem dL_law_714 : decode cL_law 714 = .ok (.aload_n 0, 1) := by decide +kernel
theorem dL_law_715 : decode cL_law 715 = .ok (.iload 4, 2) := by decide +kernel
theorem dL_law_717 : decode cL_law 717 = .ok (.iconst 1, 1) := by decide +kernel
theorem dL_law_718 : decode cL_law 718 = .ok (.iadd, 1) := by decide +kernel
theorem dL_law_719 : decode cL_law 719 = .ok (.iaload, 1) := by decide +kernel
theorem dL_law_720 : decode cL_law 720 = .ok (.aload_n 0, 1) := by decide +kernel
theorem dL_law_721 : decode cL_law 721 = .ok (.iload 4, 2) := by decide +kernel
theorem dL_law_723 : decode cL_law 723 = .ok (.iconst 2, 1) := by decide +kernel
theorem dL_law_724 : decode cL_law 724 = .ok (.iadd, 1) := by decide +kernel
theorem dL_law_725 : decode cL_law 725 = .ok (.iaload, 1) := by decide +kernel
theorem dL_law_726 : decode cL_law 726 = .ok (.aload_n 3, 1) := by decide +kernel
theorem dL_law_727 : decode cL_law 727 = .ok (.invokestatic 96, 3) := by decide +kernel
theorem dL_law_730 : decode cL_law 730 = .ok (.istore 5, 2) := by decide +kernel
theorem dL_law_732 : decode cL_law 732 = .ok (.aload_n 2, 1) := by decide +kernel
theorem dL_law_733 : decode cL_law 733 = .ok (.aload_n 0, 1) := by decide +kernel
theorem dL_law_734 : decode cL_law 734 = .ok (.iload 4, 2) := by decide +kernel
theorem dL_law_736 : decode cL_law 736 = .ok (.iconst 1, 1) := by decide +kernel
theorem dL_law_737 : decode cL_law 737 = .ok (.iadd, 1) := by decide +kernel
theorem dL_law_738 : decode cL_law 738 = .ok (.iaload, 1) := by decide +kernel
theorem dL_law_739 : decode cL_law 739 = .ok (.aload_n 0, 1) := by decide +kernel
theorem dL_law_740 : decode cL_law 740 = .ok (.iload 4, 2) := by decide +kernel
theorem dL_law_742 : decode cL_law 742 = .ok (.iconst 2, 1) := by decide +kernel
theorem dL_law_743 : decode cL_law 743 = .ok (.iadd, 1) := by decide +kernel
theorem dL_law_744 : decode cL_law 744 = .ok (.iaload, 1) := by decide +kernel
theorem dL_law_745 : decode cL_law 745 = .ok (.invokevirtual 98, 3) := by decide +kernel
theorem dL_law_748 : decode cL_law 748 = .ok (.istore 6, 2) := by decide +kernel
theorem dL_law_750 : decode cL_law 750 = .ok (.aload_n 2, 1) := by decide +kernel
theorem dL_law_751 : decode cL_law 751 = .ok (.invokevirtual 67, 3) := by decide +kernel
theorem dL_law_754 : decode cL_law 754 = .ok (.iload 5, 2) := by decide +kernel
theorem dL_law_756 : decode cL_law 756 = .ok (.if_icmp .eq 5, 3) := by decide +kernel
theorem dL_law_759 : decode cL_law 759 = .ok (.iconst 0, 1) := by decide +kernel
theorem dL_law_760 : decode cL_law 760 = .ok (.ireturn, 1) := by decide +kernel
theorem dL_law_761 : decode cL_law 761 = .ok (.iload 5, 2) := by decide +kernel
theorem dL_law_763 : decode cL_law 763 = .ok (.ifCond .ne 15, 3) := by decide +kernel
theorem dL_law_766 : decode cL_law 766 = .ok (.aload_n 3, 1) := by decide +kernel
theorem dL_law_767 : decode cL_law 767 = .ok (.iconst 0, 1) := by decide +kernel
theorem dL_law_768 : decode cL_law 768 = .ok (.laload, 1) := by decide +kernel
theorem dL_law_769 : decode cL_law 769 = .ok (.iload 6, 2) := by decide +kernel
theorem dL_law_771 : decode cL_law 771 = .ok (.i2l, 1) := by decide +kernel
theorem dL_law_772 : decode cL_law 772 = .ok (.lcmp, 1) := by decide +kernel
theorem dL_law_773 : decode cL_law 773 = .ok (.ifCond .eq 5, 3) := by decide +kernel
theorem dL_law_776 : decode cL_law 776 = .ok (.iconst 0, 1) := by decide +kernel
theorem dL_law_777 : decode cL_law 777 = .ok (.ireturn, 1) := by decide +kernel
theorem dL_law_778 : decode cL_law 778 = .ok (.goto 265, 3) := by decide +kernel
theorem dL_law_781 : decode cL_law 781 = .ok (.aload_n 1, 1) := by decide +kernel
theorem dL_law_782 : decode cL_law 782 = .ok (.aload_n 0, 1) := by decide +kernel
theorem dL_law_783 : decode cL_law 783 = .ok (.iload 4, 2) := by decide +kernel
theorem dL_law_785 : decode cL_law 785 = .ok (.iconst 1, 1) := by decide +kernel
theorem dL_law_786 : decode cL_law 786 = .ok (.iadd, 1) := by decide +kernel
theorem dL_law_787 : decode cL_law 787 = .ok (.iaload, 1) := by decide +kernel
theorem dL_law_788 : decode cL_law 788 = .ok (.aload_n 3, 1) := by decide +kernel
theorem dL_law_789 : decode cL_law 789 = .ok (.invokestatic 99, 3) := by decide +kernel
theorem dL_law_792 : decode cL_law 792 = .ok (.istore 5, 2) := by decide +kernel
theorem dL_law_794 : decode cL_law 794 = .ok (.aload_n 2, 1) := by decide +kernel
theorem dL_law_795 : decode cL_law 795 = .ok (.aload_n 0, 1) := by decide +kernel
theorem dL_law_796 : decode cL_law 796 = .ok (.iload 4, 2) := by decide +kernel
theorem dL_law_798 : decode cL_law 798 = .ok (.iconst 1, 1) := by decide +kernel
theorem dL_law_799 : decode cL_law 799 = .ok (.iadd, 1) := by decide +kernel
theorem dL_law_800 : decode cL_law 800 = .ok (.iaload, 1) := by decide +kernel
theorem dL_law_801 : decode cL_law 801 = .ok (.invokevirtual 101, 3) := by decide +kernel
theorem dL_law_804 : decode cL_law 804 = .ok (.istore 6, 2) := by decide +kernel
theorem dL_law_806 : decode cL_law 806 = .ok (.aload_n 2, 1) := by decide +kernel
theorem dL_law_807 : decode cL_law 807 = .ok (.invokevirtual 67, 3) := by decide +kernel
theorem dL_law_810 : decode cL_law 810 = .ok (.iload 5, 2) := by decide +kernel
theorem dL_law_812 : decode cL_law 812 = .ok (.if_icmp .eq 5, 3) := by decide +kernel
theorem dL_law_815 : decode cL_law 815 = .ok (.iconst 0, 1) := by decide +kernel
theorem dL_law_816 : decode cL_law 816 = .ok (.ireturn, 1) := by decide +kernel
theorem dL_law_817 : decode cL_law 817 = .ok (.iload 5, 2) := by decide +kernel
theorem dL_law_819 : decode cL_law 819 = .ok (.ifCond .ne 15, 3) := by decide +kernel
theorem dL_law_822 : decode cL_law 822 = .ok (.aload_n 3, 1) := by decide +kernel
theorem dL_law_823 : decode cL_law 823 = .ok (.iconst 0, 1) := by decide +kernel
theorem dL_law_824 : decode cL_law 824 = .ok (.laload, 1) := by decide +kernel
theorem dL_law_825 : decode cL_law 825 = .ok (.iload 6, 2) := by decide +kernel
theorem dL_law_827 : decode cL_law 827 = .ok (.i2l, 1) := by decide +kernel
theorem dL_law_828 : decode cL_law 828 = .ok (.lcmp, 1) := by decide +kernel
theorem dL_law_829 : decode cL_law 829 = .ok (.ifCond .eq 5, 3) := by decide +kernel
theorem dL_law_832 : decode cL_law 832 = .ok (.iconst 0, 1) := by decide +kernel
theorem dL_law_833 : decode cL_law 833 = .ok (.ireturn, 1) := by decide +kernel
theorem dL_law_834 : decode cL_law 834 = .ok (.goto 209, 3) := by decide +kernel
theorem dL_law_837 : decode cL_law 837 = .ok (.aload_n 1, 1) := by decide +kernel
theorem dL_law_838 : decode cL_law 838 = .ok (.aload_n 0, 1) := by decide +kernel
theorem dL_law_839 : decode cL_law 839 = .ok (.iload 4, 2) := by decide +kernel
theorem dL_law_841 : decode cL_law 841 = .ok (.iconst 1, 1) := by decide +kernel
theorem dL_law_842 : decode cL_law 842 = .ok (.iadd, 1) := by decide +kernel
theorem dL_law_843 : decode cL_law 843 = .ok (.iaload, 1) := by decide +kernel
theorem dL_law_844 : decode cL_law 844 = .ok (.aload_n 3, 1) := by decide +kernel
theorem dL_law_845 : decode cL_law 845 = .ok (.invokestatic 102, 3) := by decide +kernel
theorem dL_law_848 : decode cL_law 848 = .ok (.istore 5, 2) := by decide +kernel
theorem dL_law_850 : decode cL_law 850 = .ok (.aload_n 2, 1) := by decide +kernel
theorem dL_law_851 : decode cL_law 851 = .ok (.aload_n 0, 1) := by decide +kernel
theorem dL_law_852 : decode cL_law 852 = .ok (.iload 4, 2) := by decide +kernel
theorem dL_law_854 : decode cL_law 854 = .ok (.iconst 1, 1) := by decide +kernel
theorem dL_law_855 : decode cL_law 855 = .ok (.iadd, 1) := by decide +kernel
theorem dL_law_856 : decode cL_law 856 = .ok (.iaload, 1) := by decide +kernel
theorem dL_law_857 : decode cL_law 857 = .ok (.invokevirtual 104, 3) := by decide +kernel
theorem dL_law_860 : decode cL_law 860 = .ok (.istore 6, 2) := by decide +kernel
theorem dL_law_862 : decode cL_law 862 = .ok (.aload_n 2, 1) := by decide +kernel
theorem dL_law_863 : decode cL_law 863 = .ok (.invokevirtual 67, 3) := by decide +kernel
theorem dL_law_866 : decode cL_law 866 = .ok (.iload 5, 2) := by decide +kernel
theorem dL_law_868 : decode cL_law 868 = .ok (.if_icmp .eq 5, 3) := by decide +kernel
theorem dL_law_871 : decode cL_law 871 = .ok (.iconst 0, 1) := by decide +kernel
theorem dL_law_872 : decode cL_law 872 = .ok (.ireturn, 1) := by decide +kernel
theorem dL_law_873 : decode cL_law 873 = .ok (.iload 5, 2) := by decide +kernel
theorem dL_law_875 : decode cL_law 875 = .ok (.ifCond .ne 15, 3) := by decide +kernel
theorem dL_law_878 : decode cL_law 878 = .ok (.aload_n 3, 1) := by decide +kernel
theorem dL_law_879 : decode cL_law 879 = .ok (.iconst 0, 1) := by decide +kernel
theorem dL_law_880 : decode cL_law 880 = .ok (.laload, 1) := by decide +kernel
theorem dL_law_881 : decode cL_law 881 = .ok (.iload 6, 2) := by decide +kernel
theorem dL_law_883 : decode cL_law 883 = .ok (.i2l, 1) := by decide +kernel
theorem dL_law_884 : decode cL_law 884 = .ok (.lcmp, 1) := by decide +kernel
theorem dL_law_885 : decode cL_law 885 = .ok (.ifCond .eq 5, 3) := by decide +kernel
theorem dL_law_888 : decode cL_law 888 = .ok (.iconst 0, 1) := by decide +kernel
theorem dL_law_889 : decode cL_law 889 = .ok (.ireturn, 1) := by decide +kernel
theorem dL_law_890 : decode cL_law 890 = .ok (.goto 153, 3) := by decide +kernel
theorem dL_law_893 : decode cL_law 893 = .ok (.aload_n 1, 1) := by decide +kernel
theorem dL_law_894 : decode cL_law 894 = .ok (.invokevirtual 105, 3) := by decide +kernel
theorem dL_law_897 : decode cL_law 897 = .ok (.aload_n 2, 1) := by decide +kernel
theorem dL_law_898 : decode cL_law 898 = .ok (.invokevirtual 108, 3) := by decide +kernel
theorem dL_law_901 : decode cL_law 901 = .ok (.if_icmp .eq 142, 3) := by decide +kernel
theorem dL_law_904 : decode cL_law 904 = .ok (.iconst 0, 1) := by decide +kernel
theorem dL_law_905 : decode cL_law 905 = .ok (.ireturn, 1) := by decide +kernel
theorem dL_law_906 : decode cL_law 906 = .ok (.aload_n 1, 1) := by decide +kernel
theorem dL_law_907 : decode cL_law 907 = .ok (.aload_n 0, 1) := by decide +kernel
theorem dL_law_908 : decode cL_law 908 = .ok (.iload 4, 2) := by decide +kernel
theorem dL_law_910 : decode cL_law 910 = .ok (.iconst 1, 1) := by decide +kernel
theorem dL_law_911 : decode cL_law 911 = .ok (.iadd, 1) := by decide +kernel
theorem dL_law_912 : decode cL_law 912 = .ok (.iaload, 1) := by decide +kernel
theorem dL_law_913 : decode cL_law 913 = .ok (.aload_n 3, 1) := by decide +kernel
theorem dL_law_914 : decode cL_law 914 = .ok (.invokestatic 109, 3) := by decide +kernel
theorem dL_law_917 : decode cL_law 917 = .ok (.istore 5, 2) := by decide +kernel
theorem dL_law_919 : decode cL_law 919 = .ok (.aload_n 2, 1) := by decide +kernel
theorem dL_law_920 : decode cL_law 920 = .ok (.aload_n 0, 1) := by decide +kernel
theorem dL_law_921 : decode cL_law 921 = .ok (.iload 4, 2) := by decide +kernel
theorem dL_law_923 : decode cL_law 923 = .ok (.iconst 1, 1) := by decide +kernel
theorem dL_law_924 : decode cL_law 924 = .ok (.iadd, 1) := by decide +kernel
theorem dL_law_925 : decode cL_law 925 = .ok (.iaload, 1) := by decide +kernel
theorem dL_law_926 : decode cL_law 926 = .ok (.invokevirtual 111, 3) := by decide +kernel
theorem dL_law_929 : decode cL_law 929 = .ok (.istore 6, 2) := by decide +kernel
theorem dL_law_931 : decode cL_law 931 = .ok (.aload_n 2, 1) := by decide +kernel
theorem dL_law_932 : decode cL_law 932 = .ok (.invokevirtual 67, 3) := by decide +kernel
theorem dL_law_935 : decode cL_law 935 = .ok (.iload 5, 2) := by decide +kernel
theorem dL_law_937 : decode cL_law 937 = .ok (.if_icmp .eq 5, 3) := by decide +kernel
theorem dL_law_940 : decode cL_law 940 = .ok (.iconst 0, 1) := by decide +kernel
theorem dL_law_941 : decode cL_law 941 = .ok (.ireturn, 1) := by decide +kernel
theorem dL_law_942 : decode cL_law 942 = .ok (.iload 5, 2) := by decide +kernel
theorem dL_law_944 : decode cL_law 944 = .ok (.ifCond .ne 15, 3) := by decide +kernel
theorem dL_law_947 : decode cL_law 947 = .ok (.aload_n 3, 1) := by decide +kernel
theorem dL_law_948 : decode cL_law 948 = .ok (.iconst 0, 1) := by decide +kernel
theorem dL_law_949 : decode cL_law 949 = .ok (.laload, 1) := by decide +kernel
theorem dL_law_950 : decode cL_law 950 = .ok (.iload 6, 2) := by decide +kernel
theorem dL_law_952 : decode cL_law 952 = .ok (.i2l, 1) := by decide +kernel
theorem dL_law_953 : decode cL_law 953 = .ok (.lcmp, 1) := by decide +kernel
theorem dL_law_954 : decode cL_law 954 = .ok (.ifCond .eq 5, 3) := by decide +kernel
theorem dL_law_957 : decode cL_law 957 = .ok (.iconst 0, 1) := by decide +kernel
theorem dL_law_958 : decode cL_law 958 = .ok (.ireturn, 1) := by decide +kernel
theorem dL_law_959 : decode cL_law 959 = .ok (.goto 84, 3) := by decide +kernel
theorem dL_law_962 : decode cL_law 962 = .ok (.aload_n 1, 1) := by decide +kernel
theorem dL_law_963 : decode cL_law 963 = .ok (.invokevirtual 112, 3) := by decide +kernel
theorem dL_law_966 : decode cL_law 966 = .ok (.aload_n 2, 1) := by decide +kernel
theorem dL_law_967 : decode cL_law 967 = .ok (.invokevirtual 115, 3) := by decide +kernel
theorem dL_law_970 : decode cL_law 970 = .ok (.if_icmp .eq 73, 3) := by decide +kernel
theorem dL_law_973 : decode cL_law 973 = .ok (.iconst 0, 1) := by decide +kernel
theorem dL_law_974 : decode cL_law 974 = .ok (.ireturn, 1) := by decide +kernel
theorem dL_law_975 : decode cL_law 975 = .ok (.aload_n 1, 1) := by decide +kernel
theorem dL_law_976 : decode cL_law 976 = .ok (.invokevirtual 116, 3) := by decide +kernel
theorem dL_law_979 : decode cL_law 979 = .ok (.aload_n 2, 1) := by decide +kernel
theorem dL_law_980 : decode cL_law 980 = .ok (.invokevirtual 119, 3) := by decide +kernel
theorem dL_law_983 : decode cL_law 983 = .ok (.if_icmp .eq 60, 3) := by decide +kernel
theorem dL_law_986 : decode cL_law 986 = .ok (.iconst 0, 1) := by decide +kernel
theorem dL_law_987 : decode cL_law 987 = .ok (.ireturn, 1) := by decide +kernel
theorem dL_law_988 : decode cL_law 988 = .ok (.aload_n 1, 1) := by decide +kernel
theorem dL_law_989 : decode cL_law 989 = .ok (.invokevirtual 120, 3) := by decide +kernel
theorem dL_law_992 : decode cL_law 992 = .ok (.dstore 5, 2) := by decide +kernel
theorem dL_law_994 : decode cL_law 994 = .ok (.aload_n 2, 1) := by decide +kernel
theorem dL_law_995 : decode cL_law 995 = .ok (.invokevirtual 124, 3) := by decide +kernel
theorem dL_law_998 : decode cL_law 998 = .ok (.dstore 7, 2) := by decide +kernel
theorem dL_law_1000 : decode cL_law 1000 = .ok (.dload 5, 2) := by decide +kernel
theorem dL_law_1002 : decode cL_law 1002 = .ok (.dload 7, 2) := by decide +kernel
theorem dL_law_1004 : decode cL_law 1004 = .ok (.dcmp .l, 1) := by decide +kernel
theorem dL_law_1005 : decode cL_law 1005 = .ok (.ifCond .eq 21, 3) := by decide +kernel
theorem dL_law_1008 : decode cL_law 1008 = .ok (.dload 5, 2) := by decide +kernel
theorem dL_law_1010 : decode cL_law 1010 = .ok (.dload 5, 2) := by decide +kernel
theorem dL_law_1012 : decode cL_law 1012 = .ok (.dcmp .l, 1) := by decide +kernel
theorem dL_law_1013 : decode cL_law 1013 = .ok (.ifCond .eq 11, 3) := by decide +kernel
theorem dL_law_1016 : decode cL_law 1016 = .ok (.dload 7, 2) := by decide +kernel
theorem dL_law_1018 : decode cL_law 1018 = .ok (.dload 7, 2) := by decide +kernel
theorem dL_law_1020 : decode cL_law 1020 = .ok (.dcmp .l, 1) := by decide +kernel
theorem dL_law_1021 : decode cL_law 1021 = .ok (.ifCond .ne 5, 3) := by decide +kernel
theorem dL_law_1024 : decode cL_law 1024 = .ok (.iconst 0, 1) := by decide +kernel
theorem dL_law_1025 : decode cL_law 1025 = .ok (.ireturn, 1) := by decide +kernel
theorem dL_law_1026 : decode cL_law 1026 = .ok (.goto 17, 3) := by decide +kernel
theorem dL_law_1029 : decode cL_law 1029 = .ok (.aload_n 1, 1) := by decide +kernel
theorem dL_law_1030 : decode cL_law 1030 = .ok (.invokevirtual 125, 3) := by decide +kernel
theorem dL_law_1033 : decode cL_law 1033 = .ok (.aload_n 2, 1) := by decide +kernel
theorem dL_law_1034 : decode cL_law 1034 = .ok (.invokevirtual 129, 3) := by decide +kernel
theorem dL_law_1037 : decode cL_law 1037 = .ok (.lcmp, 1) := by decide +kernel
theorem dL_law_1038 : decode cL_law 1038 = .ok (.ifCond .eq 5, 3) := by decide +kernel
theorem dL_law_1041 : decode cL_law 1041 = .ok (.iconst 0, 1) := by decide +kernel
theorem dL_law_1042 : decode cL_law 1042 = .ok (.ireturn, 1) := by decide +kernel
theorem dL_law_1043 : decode cL_law 1043 = .ok (.iinc 4 5, 3) := by decide +kernel
theorem dL_law_1046 : decode cL_law 1046 = .ok (.goto (-1023), 3) := by decide +kernel
theorem dL_law_1049 : decode cL_law 1049 = .ok (.iconst 1, 1) := by decide +kernel
theorem dL_law_1050 : decode cL_law 1050 = .ok (.ireturn, 1) := by decide +kernel
end
section
/-! THE SMALL MACHINE: the claim's own methods, run over 48 cells of a fixed shape; what its runs say of the real machine stands in part 060. -/
/-- the small memory: whole numbers by cell and place; the longs of the one long array; how many exceptions were made -/
abbrev mmM : Type := (Nat → Nat → Int32) × ((Nat → Int64) × Nat)
def uC (f : Nat → Nat → Int32) (k : Nat) (g : Nat → Int32) : Nat → Nat → Int32 := fun a => if a = k then g else f a
def mmI (M : mmM) (k : Nat) (i : Nat) (v : Int32) : mmM := (uC M.1 k (upd (M.1 k) i v), M.2)
def mmJ (M : mmM) (i : Nat) (v : Int64) : mmM := (M.1, (vp_updL M.2.1 i v, M.2.2))
def mmT (M : mmM) : mmM := (M.1, (M.2.1, M.2.2 + 1))
/-- the shape of the cells: an array (0 int, 1 boolean, 2 long; its length), or an object (its class; a field holds a cell, or a whole number) -/
abbrev mmLy : Type := (Nat × Nat) ⊕ (Nat × List (Option Nat))
def mmLay : List mmLy := [
  .inr (3, [some 1, some 7, some 13, some 18, some 24, some 30, none, none]),
  .inr (1, [some 2, some 3, some 4, some 5, some 6, none]),
  .inl (0, 30),
  .inl (0, 30),
  .inl (0, 30),
  .inl (0, 30),
  .inl (1, 30),
  .inr (2, [some 8, some 9, some 10, some 11, some 12, none, none]),
  .inl (0, 30),
  .inl (0, 30),
  .inl (0, 16),
  .inl (0, 16),
  .inl (0, 16),
  .inr (0, [some 14, some 15, some 16, some 17, none]),
  .inl (0, 16),
  .inl (0, 16),
  .inl (0, 16),
  .inl (0, 16),
  .inr (1, [some 19, some 20, some 21, some 22, some 23, none]),
  .inl (0, 30),
  .inl (0, 30),
  .inl (0, 30),
  .inl (0, 30),
  .inl (1, 30),
  .inr (2, [some 25, some 26, some 27, some 28, some 29, none, none]),
  .inl (0, 30),
  .inl (0, 30),
  .inl (0, 16),
  .inl (0, 16),
  .inl (0, 16),
  .inr (0, [some 31, some 32, some 33, some 34, none]),
  .inl (0, 16),
  .inl (0, 16),
  .inl (0, 16),
  .inl (0, 16),
  .inr (4, [none, none, none, none, some 36, some 37, some 38, some 39, some 40, none, some 41, none, none, some 42, some 43, some 44, some 45, some 46]),
  .inl (0, 30),
  .inl (0, 30),
  .inl (0, 30),
  .inl (0, 30),
  .inl (0, 30),
  .inl (0, 30),
  .inl (0, 16),
  .inl (0, 16),
  .inl (0, 16),
  .inl (0, 16),
  .inl (0, 16),
  .inl (2, 1)]
/-- a method: its name, code, locals, answer; its class's number, how many parameters, static, frames and locals below it, its table -/
abbrev mmRow : Type := MethodName × (ByteArray × (Nat × (Option FieldType × (Nat × (Nat × (Bool × (Nat × (Nat × List (Nat × Nat × Nat × Nat)))))))))
abbrev mmNm (r : mmRow) : MethodName := r.1
abbrev mmCd (r : mmRow) : ByteArray := r.2.1
abbrev mmMl (r : mmRow) : Nat := r.2.2.1
abbrev mmRt (r : mmRow) : Option FieldType := r.2.2.2.1
abbrev mmOw (r : mmRow) : Nat := r.2.2.2.2.1
abbrev mmNa (r : mmRow) : Nat := r.2.2.2.2.2.1
abbrev mmSt (r : mmRow) : Bool := r.2.2.2.2.2.2.1
abbrev mmFr (r : mmRow) : Nat := r.2.2.2.2.2.2.2.1
abbrev mmLo (r : mmRow) : Nat := r.2.2.2.2.2.2.2.2.1
abbrev mmHh (r : mmRow) : List (Nat × Nat × Nat × Nat) := r.2.2.2.2.2.2.2.2.2
def mmOwn : List String := [RX0, RX1, RX2, RX3, RX4, RJ6, RJ9, RJ7, RL]

def mr0 : mmRow := (yX0_init, cX0_init, 1, none, 0, 0, false, 1000, 0, [])
def mr1 : mmRow := (yX0_make, cX0_make, 5, none, 0, 2, false, 4, 92, [])
def mr2 : mmRow := (yX0_hooksInUse, cX0_hooksInUse, 3, some .int, 0, 0, false, 0, 0, [])
def mr3 : mmRow := (yX0_share, cX0_share, 3, some .boolean, 0, 2, false, 1, 20, [])
def mr4 : mmRow := (yX0_putAside, cX0_putAside, 6, some .int, 0, 2, false, 3, 67, [])
def mr5 : mmRow := (yX0_firstEasy, cX0_firstEasy, 4, some .int, 0, 3, true, 2, 41, [])
def mr6 : mmRow := (yX0_cheapest, cX0_cheapest, 7, some .int, 0, 2, true, 2, 41, [])
def mr7 : mmRow := (yX0_hangUp, cX0_hangUp, 5, none, 0, 3, false, 3, 64, [])
def mr8 : mmRow := (yX0_hookOfPartner, cX0_hookOfPartner, 4, some .int, 0, 2, false, 2, 41, [])
def mr9 : mmRow := (yX0_firstFree, cX0_firstFree, 4, some .int, 0, 2, false, 1, 22, [])
def mr10 : mmRow := (yX0_isFree, cX0_isFree, 3, some .boolean, 0, 2, false, 0, 0, [])
def mr11 : mmRow := (yX1_init, cX1_init, 1, none, 1, 0, false, 1000, 0, [])
def mr12 : mmRow := (yX1_add, cX1_add, 7, some .int, 1, 5, false, 6, 90, [])
def mr13 : mmRow := (yX1_remove, cX1_remove, 3, none, 1, 1, false, 6, 90, [])
def mr14 : mmRow := (yX1_copy, cX1_copy, 3, none, 1, 1, false, 1, 23, [])
def mr15 : mmRow := (yX1_used, cX1_used, 2, some .int, 1, 1, false, 2, 40, [])
def mr16 : mmRow := (yX1_takeOver, cX1_takeOver, 4, none, 1, 3, false, 0, 0, [])
def mr17 : mmRow := (yX2_init, cX2_init, 1, none, 2, 0, false, 1000, 0, [])
def mr18 : mmRow := (yX2_make, cX2_make, 4, none, 2, 2, false, 4, 88, [])
def mr19 : mmRow := (yX2_pairsOfClashes, cX2_pairsOfClashes, 3, some .int, 2, 0, false, 1, 20, [])
def mr20 : mmRow := (yX2_costOf, cX2_costOf, 4, some .int, 2, 1, false, 2, 41, [])
def mr21 : mmRow := (yX2_findLives, cX2_findLives, 5, none, 2, 2, false, 3, 61, [])
def mr22 : mmRow := (yX2_takeIn, cX2_takeIn, 4, none, 2, 2, false, 3, 65, [])
def mr23 : mmRow := (yX2_addCost, cX2_addCost, 3, none, 2, 2, false, 1, 20, [])
def mr24 : mmRow := (yX2_addPoured, cX2_addPoured, 3, none, 2, 2, false, 2, 40, [])
def mr25 : mmRow := (yX2_addClashes, cX2_addClashes, 5, none, 2, 2, false, 2, 41, [])
def mr26 : mmRow := (yX3_init, cX3_init, 1, none, 3, 0, false, 1000, 136, [])
def mr27 : mmRow := (yX3_cook, cX3_cook, 6, some .int, 3, 4, false, 7, 136, [])
def mr28 : mmRow := (yX3_pour, cX3_pour, 5, some .int, 3, 3, false, 7, 136, [])
def mr29 : mmRow := (yX3_drop, cX3_drop, 2, some .int, 3, 1, false, 7, 136, [])
def mr30 : mmRow := (yX3_want, cX3_want, 4, some .boolean, 3, 2, false, 7, 136, [])
def mr31 : mmRow := (yX3_setHooks, cX3_setHooks, 3, some .int, 3, 1, false, 6, 136, [])
def mr32 : mmRow := (yX3_deed, cX3_deed, 3, some .int, 3, 2, false, 7, 111, [])
def mr33 : mmRow := (yX3_lives, cX3_lives, 3, some .boolean, 3, 2, false, 7, 111, [])
def mr34 : mmRow := (yX3_clash, cX3_clash, 3, some .boolean, 3, 2, false, 7, 110, [])
def mr35 : mmRow := (yX3_pot, cX3_pot, 3, some .int, 3, 2, false, 7, 110, [])
def mr36 : mmRow := (yX3_count, cX3_count, 2, some .int, 3, 1, false, 6, 90, [])
def mr37 : mmRow := (yX3_hangs, cX3_hangs, 2, some .int, 3, 1, false, 6, 90, [])
def mr38 : mmRow := (yX3_crowd, cX3_crowd, 3, some .int, 3, 0, false, 1, 21, [])
def mr39 : mmRow := (yX3_would, cX3_would, 2, some .int, 3, 1, false, 6, 137, [])
def mr40 : mmRow := (yX3_fewest, cX3_fewest, 2, some .int, 3, 0, false, 6, 137, [])
def mr41 : mmRow := (yX3_advise, cX3_advise, 5, some .int, 3, 0, false, 8, 137, [])
def mr42 : mmRow := (yX3_mean, cX3_mean, 3, some .double, 3, 0, false, 1, 20, [])
def mr43 : mmRow := (yX3_digest, cX3_digest, 5, some .long, 3, 0, false, 8, 133, [])
def mr44 : mmRow := (yX3_digested, cX3_digested, 4, some .long, 3, 2, true, 0, 0, [])
def mr45 : mmRow := (yX3_settle, cX3_settle, 1, none, 3, 0, false, 5, 116, [])
def mr46 : mmRow := (yX3_floorWith, cX3_floorWith, 2, some .int, 3, 1, false, 5, 116, [])
def mr47 : mmRow := (yX3_floorCostWithout, cX3_floorCostWithout, 2, some .int, 3, 1, false, 7, 116, [])
def mr48 : mmRow := (yX3_pourings, cX3_pourings, 3, some .int, 3, 0, false, 0, 0, [])
def mr49 : mmRow := (yX3_pouringsSpared, cX3_pouringsSpared, 3, some .int, 3, 0, false, 3, 63, [])
def mr50 : mmRow := (yX3_weightsNotSpared, cX3_weightsNotSpared, 3, some .int, 3, 0, false, 3, 63, [])
def mr51 : mmRow := (yX3_isSpared, cX3_isSpared, 2, some .boolean, 3, 1, false, 2, 42, [])
def mr52 : mmRow := (yX3_requireDeed, cX3_requireDeed, 2, none, 3, 1, false, 6, 90, [])
def mr53 : mmRow := (yX3_requirePot, cX3_requirePot, 1, none, 3, 1, true, 6, 90, [])
def mr54 : mmRow := (yX3_requirePotOrNone, cX3_requirePotOrNone, 1, none, 3, 1, true, 6, 90, [])
def mr55 : mmRow := (yX3_requireWeight, cX3_requireWeight, 1, none, 3, 1, true, 6, 90, [])
def mr56 : mmRow := (yX3_isPot, cX3_isPot, 1, some .boolean, 3, 1, true, 0, 0, [])
def mr57 : mmRow := (yX3_bit, cX3_bit, 1, some .int, 3, 1, true, 1, 20, [])
def mr58 : mmRow := (yX3_has, cX3_has, 2, some .boolean, 3, 2, true, 1, 20, [])
def mr59 : mmRow := (yX4_init, cX4_init, 1, none, 4, 0, false, 1000, 0, [])
def mr60 : mmRow := (yX4_thrown, cX4_thrown, 1, some .int, 4, 0, false, 0, 0, [])
def mr61 : mmRow := (yX4_no, cX4_no, 2, some .int, 4, 1, false, 0, 0, [])
def mr62 : mmRow := (yX4_isIn, cX4_isIn, 3, some .boolean, 4, 3, true, 0, 0, [])
def mr63 : mmRow := (yX4_isPot, cX4_isPot, 1, some .boolean, 4, 1, true, 1, 22, [])
def mr64 : mmRow := (yX4_isDeed, cX4_isDeed, 2, some .boolean, 4, 1, false, 1, 22, [])
def mr65 : mmRow := (yX4_has, cX4_has, 2, some .boolean, 4, 2, true, 0, 0, [])
def mr66 : mmRow := (yX4_bit, cX4_bit, 1, some .int, 4, 1, true, 0, 0, [])
def mr67 : mmRow := (yX4_uses, cX4_uses, 2, some .int, 4, 1, false, 1, 20, [])
def mr68 : mmRow := (yX4_live, cX4_live, 3, none, 4, 0, false, 2, 41, [])
def mr69 : mmRow := (yX4_clashAll, cX4_clashAll, 4, none, 4, 2, false, 1, 21, [])
def mr70 : mmRow := (yX4_add, cX4_add, 3, none, 4, 2, false, 0, 0, [])
def mr71 : mmRow := (yX4_look, cX4_look, 2, none, 4, 0, false, 3, 63, [])
def mr72 : mmRow := (yX4_next, cX4_next, 5, some .int, 4, 2, false, 1, 21, [])
def mr73 : mmRow := (yX4_isFree, cX4_isFree, 4, some .boolean, 4, 2, false, 1, 21, [])
def mr74 : mmRow := (yX4_isPoured, cX4_isPoured, 4, some .boolean, 4, 2, false, 0, 0, [])
def mr75 : mmRow := (yX4_hookFor, cX4_hookFor, 4, some .int, 4, 2, false, 2, 44, [])
def mr76 : mmRow := (yX4_hang, cX4_hang, 5, none, 4, 1, false, 3, 67, [])
def mr77 : mmRow := (yX4_lookAll, cX4_lookAll, 1, none, 4, 0, false, 4, 91, [])
def mr78 : mmRow := (yX4_isFloor, cX4_isFloor, 2, some .boolean, 4, 1, false, 1, 21, [])
def mr79 : mmRow := (yX4_floor, cX4_floor, 3, some .int, 4, 0, false, 2, 42, [])
def mr80 : mmRow := (yX4_floorCost, cX4_floorCost, 3, some .int, 4, 0, false, 2, 42, [])
def mr81 : mmRow := (yX4_isSpared, cX4_isSpared, 2, some .boolean, 4, 1, false, 0, 0, [])
def mr82 : mmRow := (yX4_isPotOrNone, cX4_isPotOrNone, 1, some .boolean, 4, 1, true, 1, 22, [])
def mr83 : mmRow := (yX4_add_, cX4_add_, 6, some .int, 4, 5, false, 1, 22, [])
def mr84 : mmRow := (yX4_cook, cX4_cook, 5, some .int, 4, 4, false, 2, 47, [])
def mr85 : mmRow := (yX4_pour, cX4_pour, 4, some .int, 4, 3, false, 2, 47, [])
def mr86 : mmRow := (yX4_moveUp, cX4_moveUp, 4, none, 4, 3, true, 0, 0, [])
def mr87 : mmRow := (yX4_drop, cX4_drop, 2, some .int, 4, 1, false, 2, 43, [])
def mr88 : mmRow := (yX4_want, cX4_want, 4, some .boolean, 4, 2, false, 2, 42, [])
def mr89 : mmRow := (yX4_setHooks, cX4_setHooks, 3, some .int, 4, 1, false, 1, 22, [])
def mr90 : mmRow := (yX4_aheadOf, cX4_aheadOf, 2, some .int, 4, 1, false, 0, 0, [])
def mr91 : mmRow := (yX4_deedTold, cX4_deedTold, 3, some .int, 4, 2, false, 1, 21, [])
def mr92 : mmRow := (yX4_deed, cX4_deed, 3, some .int, 4, 2, false, 3, 63, [])
def mr93 : mmRow := (yX4_lives, cX4_lives, 3, some .boolean, 4, 2, false, 3, 63, [])
def mr94 : mmRow := (yX4_clash, cX4_clash, 3, some .boolean, 4, 2, false, 4, 84, [])
def mr95 : mmRow := (yX4_potTold, cX4_potTold, 3, some .int, 4, 2, false, 2, 42, [])
def mr96 : mmRow := (yX4_pot, cX4_pot, 3, some .int, 4, 2, false, 5, 111, [])
def mr97 : mmRow := (yX4_pairs, cX4_pairs, 3, some .int, 4, 0, false, 1, 20, [])
def mr98 : mmRow := (yX4_hangAt, cX4_hangAt, 4, some .int, 4, 1, false, 0, 0, [])
def mr99 : mmRow := (yX4_usedHooks, cX4_usedHooks, 3, some .int, 4, 0, false, 1, 23, [])
def mr100 : mmRow := (yX4_pourings, cX4_pourings, 4, some .int, 4, 1, false, 1, 21, [])
def mr101 : mmRow := (yX4_weights, cX4_weights, 3, some .int, 4, 0, false, 1, 21, [])
def mr102 : mmRow := (yX4_counted, cX4_counted, 2, some .int, 4, 1, false, 3, 64, [])
def mr103 : mmRow := (yX4_count, cX4_count, 2, some .int, 4, 1, false, 5, 111, [])
def mr104 : mmRow := (yX4_hangs, cX4_hangs, 2, some .int, 4, 1, false, 5, 111, [])
def mr105 : mmRow := (yX4_crowd, cX4_crowd, 3, some .int, 4, 0, false, 3, 63, [])
def mr106 : mmRow := (yX4_would, cX4_would, 2, some .int, 4, 1, false, 4, 91, [])
def mr107 : mmRow := (yX4_fewest, cX4_fewest, 2, some .int, 4, 0, false, 4, 91, [])
def mr108 : mmRow := (yX4_advise, cX4_advise, 5, some .int, 4, 0, false, 5, 111, [])
def mr109 : mmRow := (yX4_mean, cX4_mean, 3, some .double, 4, 0, false, 3, 63, [])
def mr110 : mmRow := (yX4_digest, cX4_digest, 5, some .long, 4, 0, false, 5, 111, [])
def mr111 : mmRow := (yJ6_bitCount_0f7a4, cJ6_bitCount_0f7a4, 1, some .int, 5, 1, true, 0, 0, [])
def mr112 : mmRow := (yJ9_max_7cf53, cJ9_max_7cf53, 2, some .int, 6, 2, true, 1000, 0, [])
def mr113 : mmRow := (yJ7_fill_53178, cJ7_fill_53178, 4, none, 7, 2, true, 0, 0, [])
def mr114 : mmRow := (yL_cook, cL_cook, 7, some .int, 8, 6, true, 8, 161, [(0, 14, 17, 13), (0, 14, 21, 15), (0, 14, 25, 17)])
def mr115 : mmRow := (yL_pour, cL_pour, 6, some .int, 8, 5, true, 8, 160, [(0, 12, 15, 13), (0, 12, 19, 15), (0, 12, 23, 17)])
def mr116 : mmRow := (yL_drop, cL_drop, 4, some .int, 8, 3, true, 8, 157, [(0, 9, 12, 13)])
def mr117 : mmRow := (yL_want, cL_want, 5, some .int, 8, 4, true, 8, 159, [(0, 17, 20, 13)])
def mr118 : mmRow := (yL_setHooks, cL_setHooks, 4, some .int, 8, 3, true, 7, 158, [(0, 9, 12, 15)])
def mr119 : mmRow := (yL_deed, cL_deed, 5, some .int, 8, 4, true, 8, 133, [(0, 10, 13, 13)])
def mr120 : mmRow := (yL_lives, cL_lives, 5, some .int, 8, 4, true, 8, 133, [(0, 17, 20, 13)])
def mr121 : mmRow := (yL_clash, cL_clash, 5, some .int, 8, 4, true, 8, 132, [(0, 17, 20, 13)])
def mr122 : mmRow := (yL_pot, cL_pot, 5, some .int, 8, 4, true, 8, 132, [(0, 10, 13, 13)])
def mr123 : mmRow := (yL_count, cL_count, 4, some .int, 8, 3, true, 7, 111, [(0, 9, 12, 13)])
def mr124 : mmRow := (yL_hangs, cL_hangs, 4, some .int, 8, 3, true, 7, 111, [(0, 9, 12, 13)])
def mr125 : mmRow := (yL_would, cL_would, 4, some .int, 8, 3, true, 7, 158, [(0, 9, 12, 15)])
def mr126 : mmRow := (yL_law, cL_law, 9, some .boolean, 8, 1, true, 11, 404, [])
def mmP : List mmRow := [mr0, mr1, mr2, mr3, mr4, mr5, mr6, mr7, mr8, mr9, mr10, mr11, mr12, mr13, mr14, mr15, mr16, mr17, mr18, mr19, mr20, mr21, mr22, mr23, mr24, mr25, mr26, mr27, mr28, mr29, mr30, mr31, mr32, mr33, mr34, mr35, mr36, mr37, mr38, mr39, mr40, mr41, mr42, mr43, mr44, mr45, mr46, mr47, mr48, mr49, mr50, mr51, mr52, mr53, mr54, mr55, mr56, mr57, mr58, mr59, mr60, mr61, mr62, mr63, mr64, mr65, mr66, mr67, mr68, mr69, mr70, mr71, mr72, mr73, mr74, mr75, mr76, mr77, mr78, mr79, mr80, mr81, mr82, mr83, mr84, mr85, mr86, mr87, mr88, mr89, mr90, mr91, mr92, mr93, mr94, mr95, mr96, mr97, mr98, mr99, mr100, mr101, mr102, mr103, mr104, mr105, mr106, mr107, mr108, mr109, mr110, mr111, mr112, mr113, mr114, mr115, mr116, mr117, mr118, mr119, mr120, mr121, mr122, mr123, mr124, mr125, mr126]
/-- links of fields: class, entry, the class that has it, its place -/
def mmFL : List (Nat × Nat × Nat × Nat) := [(1, 9, 1, 0), (2, 69, 1, 0), (3, 87, 1, 0), (1, 15, 1, 1), (2, 81, 1, 1), (3, 91, 1, 1), (1, 18, 1, 2), (2, 84, 1, 2), (3, 94, 1, 2), (1, 21, 1, 3), (2, 75, 1, 3), (3, 97, 1, 3), (1, 24, 1, 4), (2, 87, 1, 4), (3, 100, 1, 4), (1, 28, 1, 5), (2, 52, 1, 5), (3, 66, 1, 5), (2, 9, 2, 0), (3, 104, 2, 0), (2, 15, 2, 1), (3, 112, 2, 1), (2, 18, 2, 2), (0, 66, 2, 2), (3, 120, 2, 2), (2, 21, 2, 3), (0, 77, 2, 3), (2, 24, 2, 4), (0, 74, 2, 4), (3, 126, 2, 4), (2, 27, 2, 5), (3, 166, 2, 5), (2, 31, 2, 6), (0, 46, 2, 6), (3, 123, 2, 6), (0, 9, 0, 0), (3, 132, 0, 0), (0, 15, 0, 1), (3, 129, 0, 1), (0, 18, 0, 2), (3, 163, 0, 2), (0, 21, 0, 3), (0, 24, 0, 4), (3, 135, 0, 4), (3, 10, 3, 0), (3, 19, 3, 1), (3, 26, 3, 2), (3, 30, 3, 3), (3, 33, 3, 4), (3, 36, 3, 5), (3, 39, 3, 6), (3, 43, 3, 7), (4, 50, 4, 0), (4, 7, 4, 1), (4, 64, 4, 2), (4, 57, 4, 3), (4, 13, 4, 4), (4, 17, 4, 5), (4, 20, 4, 6), (4, 23, 4, 7), (4, 26, 4, 8), (4, 29, 4, 9), (4, 32, 4, 10), (4, 73, 4, 11), (4, 67, 4, 12), (4, 35, 4, 13), (4, 38, 4, 14), (4, 41, 4, 15), (4, 44, 4, 16), (4, 47, 4, 17)]
/-- links of methods: class, entry, the method -/
def mmML : List (Nat × Nat × Nat) := [(3, 46, 45), (3, 200, 18), (2, 34, 113), (2, 40, 21), (2, 66, 15), (3, 220, 56), (2, 48, 25), (2, 57, 22), (2, 78, 23), (2, 91, 24), (3, 204, 1), (0, 28, 4), (0, 32, 113), (0, 51, 5), (0, 69, 111), (0, 55, 6), (0, 38, 7), (0, 80, 8), (0, 87, 10), (0, 84, 9), (8, 105, 38), (3, 107, 111), (8, 112, 40), (3, 177, 46), (8, 116, 41), (3, 180, 47), (3, 207, 14), (1, 44, 16), (3, 63, 13), (3, 153, 20), (8, 120, 42), (8, 125, 43), (3, 185, 36), (3, 140, 19), (2, 60, 111), (3, 144, 2), (3, 147, 48), (3, 150, 49), (3, 211, 51), (3, 215, 3), (3, 156, 50), (3, 188, 44), (3, 192, 32), (3, 84, 52), (3, 195, 35), (3, 49, 53), (3, 69, 58), (8, 61, 114), (8, 7, 27), (3, 53, 54), (3, 56, 55), (3, 59, 12), (8, 71, 115), (8, 19, 28), (8, 75, 116), (8, 23, 29), (8, 79, 117), (8, 27, 30), (3, 73, 57), (8, 83, 118), (8, 31, 31), (8, 86, 119), (8, 34, 32), (8, 90, 120), (8, 38, 33), (8, 93, 121), (8, 42, 34), (8, 96, 122), (8, 45, 35), (8, 99, 123), (8, 48, 36), (8, 102, 124), (8, 51, 37), (8, 109, 125), (8, 54, 39), (8, 67, 60), (8, 66, 84), (4, 122, 63), (4, 53, 62), (4, 125, 82), (4, 128, 83), (4, 119, 61), (8, 74, 85), (8, 78, 87), (4, 131, 64), (4, 134, 86), (8, 82, 88), (4, 76, 65), (4, 60, 66), (8, 85, 89), (8, 89, 92), (4, 80, 68), (4, 70, 67), (4, 141, 91), (4, 90, 111), (4, 138, 90), (8, 92, 93), (8, 95, 94), (4, 108, 71), (4, 83, 69), (4, 87, 70), (8, 98, 96), (4, 144, 77), (4, 111, 76), (4, 101, 72), (4, 105, 75), (4, 95, 74), (4, 98, 73), (4, 147, 95), (4, 115, 78), (8, 101, 103), (4, 176, 102), (4, 156, 97), (4, 160, 79), (4, 163, 99), (4, 150, 98), (4, 166, 100), (4, 153, 81), (4, 170, 80), (4, 173, 101), (8, 104, 104), (8, 108, 105), (8, 111, 106), (8, 115, 107), (8, 119, 108), (8, 124, 109), (8, 129, 110)]
/-- links of a nest mate's private methods -/
def mmNL : List (Nat × Nat × Nat) := [(1, 48, 57), (2, 72, 57), (2, 44, 58), (2, 94, 56), (0, 62, 58), (0, 42, 56), (0, 58, 57)]
/-- throws: method, place, which exception -/
def mmTH : List (Nat × Nat × Nat) := [(12, 9, 2), (13, 12, 0), (31, 11, 1), (32, 132, 0), (35, 127, 0), (36, 137, 0), (37, 12, 0), (39, 11, 1), (52, 15, 0), (53, 7, 0), (54, 12, 0), (55, 11, 1)]
/-- caught classes: class, entry, which exception -/
def mmCK : List (Nat × Nat × Nat) := [(8, 13, 0), (8, 15, 1), (8, 17, 2)]
/-- constants: class, entry, value -/
def mmKI : List (Nat × Nat × Int32) := [(5, 265, 1431655765), (5, 266, 858993459), (5, 267, 252645135)]
def mmKJ : List (Nat × Nat × Int64) := [(3, 183, 1609), (3, 198, 31), (4, 184, 1609), (4, 186, 31)]
def mmF3 {α : Type} (l : List (Nat × Nat × α)) (a b : Nat) : Option α := match l with
  | [] => none
  | r :: t => if r.1 = a ∧ r.2.1 = b then some r.2.2 else mmF3 t a b
theorem mmF3_mem {α : Type} {l : List (Nat × Nat × α)} {a b : Nat} {v : α} (h : mmF3 l a b = some v) : (a, b, v) ∈ l := by
  induction l with
  | nil => simp [mmF3] at h
  | cons r t ih =>
    simp only [mmF3] at h
    split at h
    · rename_i hc
      obtain ⟨r1, r2, r3⟩ := r
      simp only at hc
      obtain ⟨h1, h2⟩ := hc
      simp only [Option.some.injEq] at h
      subst h1; subst h2; subst h
      exact List.mem_cons_self
    · exact List.mem_cons_of_mem _ (ih h)
/-- an index within -/
def mmX (i : Int32) (n : Nat) : Option Nat := if i < 0 ∨ n ≤ i.toNatClampNeg then none else some i.toNatClampNeg
def mmArr (n k : Nat) : Option (Nat × Nat) := if k < n then (match mmLay[k]? with | some (.inl a) => some a | _ => none) else none
/-- a field's contents: a cell or a whole number -/
def mmFd (n c f k : Nat) : Option (Option Nat) := if k < n then (match mmLay[k]? with | some (.inr o) => if o.1 = c then o.2[f]? else none | _ => none) else none
def mmTg (pc : Nat) (off : Int) : Option Nat := if 0 ≤ (pc : Int) + off then some ((pc : Int) + off).toNat else none
def mmCt (v : Value) : Nat := v.category
def mmSm (st : List Value) : Nat := (st.map fun v => v.category).sum
/-- storing in the locals; the place ahead holds no long or double -/
def mmSt1 (ls : List Value) (i : Nat) (v : Value) : Option (List Value) := if i < ls.length ∧ v.category = 1 ∧ (i = 0 ∨ (ls.getD (i - 1) .null).category = 1) then some (ls.set i v) else none
def mmSt2 (ls : List Value) (i : Nat) (v : Value) : Option (List Value) := if i + 1 < ls.length ∧ v.category = 2 ∧ (i = 0 ∨ (ls.getD (i - 1) .null).category = 1) then some ((ls.set i v).set (i + 1) .null) else none
abbrev mmScr : Type := Option (Nat × (Nat → Int32))
abbrev mmRes : Type := Option (Nat × List Value × List Value × mmM)
def mmIf (b : Prop) [Decidable b] (pc len : Nat) (off : Int) (ls st : List Value) (M : mmM) : mmRes := match mmTg pc off with
  | none => none
  | some t => if b then some (t, ls, st, M) else some (pc + len, ls, st, M)
def mmCnd (op : ClassFile.Cond) (x y : Int32) : Bool := match op with
  | .eq => decide (x = y)
  | .ne => decide (¬ x = y)
  | .lt => decide (x < y)
  | .ge => decide (y ≤ x)
  | .gt => decide (y < x)
  | .le => decide (x ≤ y)
def mmLd (ls : List Value) (i : Nat) (pc len : Nat) (st : List Value) (M : mmM) (ok : Value → Bool) : mmRes := match ls[i]? with
  | some v => if ok v = true then some (pc + len, ls, v :: st, M) else none
  | none => none
def mmIsI (v : Value) : Bool := match v with | .int _ => true | _ => false
def mmIsJ (v : Value) : Bool := match v with | .long _ => true | _ => false
def mmIsD (v : Value) : Bool := match v with | .double _ => true | _ => false
def mmIsR (v : Value) : Bool := match v with | .ref _ => true | _ => false
/-- an instruction that neither calls nor ends -/
def mmMX : List (Nat × Nat × Unit) := [(3, 169, ()), (4, 179, ())]
def mmS (S : mmScr) (n o : Nat) (w : Bool) (pc : Nat) (ins : Instr) (len : Nat) (ls st : List Value) (M : mmM) : mmRes := match ins with
  | .iconst k => some (pc + 1, ls, .int (Int32.ofInt k) :: st, M)
  | .bipush k => some (pc + 2, ls, .int (Int8.ofInt k).toInt32 :: st, M)
  | .lconst k => some (pc + 1, ls, .long (Int64.ofNat (k : Nat)) :: st, M)
  | .dconst k => if k = 0 then some (pc + 1, ls, .double FP.dconst0 :: st, M) else none
  | .iload_n k => mmLd ls k pc 1 st M mmIsI
  | .iload k => mmLd ls k pc 2 st M mmIsI
  | .lload_n k => mmLd ls k pc 1 st M mmIsJ
  | .dload k => mmLd ls k pc 2 st M mmIsD
  | .aload_n k => mmLd ls k pc 1 st M mmIsR
  | .aload k => mmLd ls k pc 2 st M mmIsR
  | .istore_n k => (match st with | .int v :: r => (mmSt1 ls k (.int v)).map (fun l => (pc + 1, l, r, M)) | _ => none)
  | .istore k => (match st with | .int v :: r => (mmSt1 ls k (.int v)).map (fun l => (pc + 2, l, r, M)) | _ => none)
  | .lstore_n k => (match st with | .long v :: r => (mmSt2 ls k (.long v)).map (fun l => (pc + 1, l, r, M)) | _ => none)
  | .dstore k => (match st with | .double v :: r => (mmSt2 ls k (.double v)).map (fun l => (pc + 2, l, r, M)) | _ => none)
  | .iinc k c => if len = 3 then (match ls[k]? with | some (.int v) => (mmSt1 ls k (.int (v + Int32.ofInt c))).map (fun l => (pc + 3, l, st, M)) | _ => none) else none
  | .iadd => (match st with | .int y :: .int x :: r => some (pc + 1, ls, .int (x + y) :: r, M) | _ => none)
  | .isub => (match st with | .int y :: .int x :: r => some (pc + 1, ls, .int (x - y) :: r, M) | _ => none)
  | .imul => (match st with | .int y :: .int x :: r => some (pc + 1, ls, .int (x * y) :: r, M) | _ => none)
  | .idiv => (match st with | .int y :: .int x :: r => if y = 0 then none else some (pc + 1, ls, .int (x / y) :: r, M) | _ => none)
  | .iand => (match st with | .int y :: .int x :: r => some (pc + 1, ls, .int (x &&& y) :: r, M) | _ => none)
  | .ior => (match st with | .int y :: .int x :: r => some (pc + 1, ls, .int (x ||| y) :: r, M) | _ => none)
  | .ixor => (match st with | .int y :: .int x :: r => some (pc + 1, ls, .int (x ^^^ y) :: r, M) | _ => none)
  | .ishl => (match st with | .int y :: .int x :: r => some (pc + 1, ls, .int (x <<< (y &&& 31)) :: r, M) | _ => none)
  | .ishr => (match st with | .int y :: .int x :: r => some (pc + 1, ls, .int (x >>> (y &&& 31)) :: r, M) | _ => none)
  | .iushr => (match st with | .int y :: .int x :: r => some (pc + 1, ls, .int (x.toUInt32 >>> (y.toUInt32 &&& Int32.toUInt32 31)).toInt32 :: r, M) | _ => none)
  | .ladd => (match st with | .long y :: .long x :: r => some (pc + 1, ls, .long (x + y) :: r, M) | _ => none)
  | .lmul => (match st with | .long y :: .long x :: r => some (pc + 1, ls, .long (x * y) :: r, M) | _ => none)
  | .lcmp => (match st with | .long y :: .long x :: r => some (pc + 1, ls, .int (lg_cmp x y) :: r, M) | _ => none)
  | .i2l => (match st with | .int x :: r => some (pc + 1, ls, .long x.toInt64 :: r, M) | _ => none)
  | .i2d => (match st with | .int x :: r => some (pc + 1, ls, .double (FP.i2d x) :: r, M) | _ => none)
  | .ddiv => (match st with | .double y :: .double x :: r => if FP.ddiv x y &&& 0x7fffffffffffffff ≤ 0x7ff0000000000000 then some (pc + 1, ls, .double (FP.ddiv x y) :: r, M) else none | _ => none)
  | .dcmp op => (match st with | .double y :: .double x :: r => some (pc + 1, ls, .int (Op.cmpValue (FP.dcmp x y) op) :: r, M) | _ => none)
  | .dup => (match st with | v :: r => if v.category = 1 then some (pc + 1, ls, v :: v :: r, M) else none | _ => none)
  | .dup2 => (match st with | v :: w :: r => if v.category = 1 ∧ w.category = 1 then some (pc + 1, ls, v :: w :: v :: w :: r, M) else none | _ => none)
  | .ifCond op off => (match st with | .int x :: r => mmIf (mmCnd op x 0 = true) pc 3 off ls r M | _ => none)
  | .if_icmp op off => (match st with | .int y :: .int x :: r => mmIf (mmCnd op x y = true) pc 3 off ls r M | _ => none)
  | .goto off => if len = 3 then (mmTg pc off).map (fun t => (t, ls, st, M)) else none
  | .tableswitch dflt lo hi offs => (match st with | .int x :: r => if x.toInt < lo ∨ hi < x.toInt then (mmTg pc dflt).map (fun t => (t, ls, r, M)) else (match offs[(x.toInt - lo).toNat]? with | some off => (mmTg pc off).map (fun t => (t, ls, r, M)) | none => none) | _ => none)
  | .getfield i => (match st with | .ref k :: r => (match mmF3 mmFL o i with | some cf => (match mmFd n cf.1 cf.2 k with | some (some j) => some (pc + 3, ls, .ref j :: r, M) | some none => some (pc + 3, ls, .int (M.1 k cf.2) :: r, M) | none => none) | none => none) | _ => none)
  | .putfield i => (match st with | .int v :: .ref k :: r => (match mmF3 mmFL o i with | some cf => (match mmFd n cf.1 cf.2 k with | some none => some (pc + 3, ls, r, mmI M k cf.2 v) | _ => none) | none => none) | _ => none)
  | .iaload => (match st with | .int i :: .ref k :: r => (if k = 99 then (match S with | some xs => (match mmX i xs.1 with | some j => some (pc + 1, ls, .int (xs.2 j) :: r, M) | none => none) | none => none) else (match mmArr n k with | some (0, m) => (match mmX i m with | some j => some (pc + 1, ls, .int (M.1 k j) :: r, M) | none => none) | _ => none)) | _ => none)
  | .iastore => (match st with | .int v :: .int i :: .ref k :: r => (match mmArr n k with | some (0, m) => (match mmX i m with | some j => some (pc + 1, ls, r, mmI M k j v) | none => none) | _ => none) | _ => none)
  | .baload => (match st with | .int i :: .ref k :: r => (match mmArr n k with | some (1, m) => (match mmX i m with | some j => some (pc + 1, ls, .int (M.1 k j) :: r, M) | none => none) | _ => none) | _ => none)
  | .bastore => (match st with | .int v :: .int i :: .ref k :: r => (match mmArr n k with | some (1, m) => (match mmX i m with | some j => some (pc + 1, ls, r, mmI M k j (vp_nar .boolean v)) | none => none) | _ => none) | _ => none)
  | .laload => (match st with | .int i :: .ref k :: r => (match mmArr n k with | some (2, m) => (match mmX i m with | some j => some (pc + 1, ls, .long (M.2.1 j) :: r, M) | none => none) | _ => none) | _ => none)
  | .lastore => (match st with | .long v :: .int i :: .ref k :: r => (match mmArr n k with | some (2, m) => (match mmX i m with | some j => some (pc + 1, ls, r, mmJ M j v) | none => none) | _ => none) | _ => none)
  | .arraylength => (match st with | .ref k :: r => (if k = 99 then (match S with | some xs => some (pc + 1, ls, .int (Int32.ofNat xs.1) :: r, M) | none => none) else (match mmArr n k with | some (0, m) => some (pc + 1, ls, .int (Int32.ofNat m) :: r, M) | _ => none)) | _ => none)
  | .invokestatic i => (match st with | .int y :: .int x :: r => (if w = true ∧ mmSm r ≤ 8 then (match mmF3 mmMX o i with | some _ => some (pc + 3, ls, .int (if x < y then y else x) :: r, M) | none => none) else none) | _ => none)
  | .ldc_w i => (match mmF3 mmKI o i with | some v => some (pc + 3, ls, .int v :: st, M) | none => none)
  | .ldc2_w i => (match mmF3 mmKJ o i with | some v => some (pc + 3, ls, .long v :: st, M) | none => none)
  | _ => none
abbrev mmOut : Type := (Option Value ⊕ Nat) × mmM
/-- how a method ends -/
def mmE (rt : Option FieldType) (ins : Instr) (st : List Value) : Option (Option Value) := match ins with
  | .ireturn => (match st with | [.int v] => if rt = some .int ∨ (rt = some .boolean ∧ (v = 0 ∨ v = 1)) then some (some (.int v)) else none | _ => none)
  | .lreturn => (match st with | [.long v] => if rt = some .long then some (some (.long v)) else none | _ => none)
  | .dreturn => (match st with | [.double v] => if rt = some .double then some (some (.double v)) else none | _ => none)
  | .return_ => (match st with | [] => if rt = none then some none else none | _ => none)
  | _ => none
def mmCs (z : Nat) (st : List Value) : Option (Nat × List Value × List Value) := match mmP[z]? with
  | some r => if mmSt r = true ∧ mmSm (st.drop (mmNa r)) ≤ 8 ∧ mmNa r ≤ st.length then some (z, (st.take (mmNa r)).reverse, st.drop (mmNa r)) else none
  | none => none
/-- whom an instruction calls, with what, and what stays on the stack -/
def mmCl (n o : Nat) (ins : Instr) (st : List Value) : Option (Nat × List Value × List Value) := match ins with
  | .invokevirtual i => (match mmF3 mmML o i with
    | some z => (match mmP[z]? with
      | some r => if mmSt r = false ∧ mmHh r = [] ∧ mmSm (st.drop (mmNa r + 1)) ≤ 8 ∧ mmNa r ≤ st.length then (match st.drop (mmNa r) with
        | .ref k :: rest => (match mmFd n (mmOw r) 0 k with | some _ => some (z, .ref k :: (st.take (mmNa r)).reverse, rest) | none => none)
        | _ => none) else none
      | none => none)
    | none => none)
  | .invokestatic i => (match mmF3 mmML o i with
    | some z => mmCs z st
    | none => (match mmF3 mmNL o i with
      | some z => (match mmP[z]? with
        | some r => if mmHh r = [] then mmCs z st else none
        | none => none)
      | none => none))
  | _ => none
/-- the locals with which a method begins -/
def mmEl (args : List Value) : List Value := args.flatMap (fun v => if v.category = 2 then [v, .null] else [v])
def mmEn (ml : Nat) (args : List Value) : List Value := mmEl args ++ List.replicate (ml - (mmEl args).length) .null
def mmFits (r z : mmRow) (args : List Value) : Prop := mmFr z + 1 ≤ mmFr r ∧ 8 + (mmMl z + 11) + mmLo z ≤ mmLo r ∧ (mmEl args).length ≤ mmMl z
def mmLn (ins : Instr) (len : Nat) : Bool := match ins with
  | .iload _ | .istore _ | .aload _ | .astore _ | .dload _ | .dstore _ | .bipush _ | .ldc _ | .newarray _ => decide (len = 2)
  | .iinc _ _ | .ifCond _ _ | .if_icmp _ _ | .goto _ | .getfield _ | .putfield _ | .invokevirtual _ | .invokestatic _ | .invokespecial _ | .ldc_w _ | .ldc2_w _ | .new _ => decide (len = 3)
  | .tableswitch _ _ _ _ => true
  | _ => decide (len = 1)
/-- the handler that takes it -/
def mmHf (o pc e : Nat) : List (Nat × Nat × Nat × Nat) → Option Nat
  | [] => none
  | x :: t => if x.1 ≤ pc ∧ pc < x.2.1 then (match mmF3 mmCK o x.2.2.2 with | some e' => if e' = e then some x.2.2.1 else if e' < e then mmHf o pc e t else none | none => none) else mmHf o pc e t
def mmGo : Nat → mmScr → Nat → Nat → Nat → List Value → List Value → mmM → Option mmOut
  | 0, _, _, _, _, _, _, _ => none
  | f + 1, S, n, y, pc, ls, st, M => match mmP[y]? with
    | none => none
    | some r => match decode (mmCd r) pc with
      | .error _ => none
      | .ok (ins, len) => if mmLn ins len = true then match mmS S n (mmOw r) (decide (1 ≤ mmFr r ∧ 21 ≤ mmLo r)) pc ins len ls st M with
        | some (pc', ls', st', M') => mmGo f S n y pc' ls' st' M'
        | none => match mmE (mmRt r) ins st with
          | some v => some (.inl v, M)
          | none => match mmCl n (mmOw r) ins st with
            | some (z, args, rest) => (match mmP[z]? with
              | none => none
              | some rz => if mmFr rz + 1 ≤ mmFr r ∧ 8 + (mmMl rz + 11) + mmLo rz ≤ mmLo r ∧ (mmEl args).length ≤ mmMl rz then (match mmGo f none n z 0 (mmEn (mmMl rz) args) [] M with
                | none => none
                | some (.inl v, M1) => mmGo f S n y (pc + 3) ls (v.toList ++ rest) M1
                | some (.inr e, M1) => (match mmHh r with
                  | [] => some (.inr e, M1)
                  | _ :: _ => (match mmHf (mmOw r) pc e (mmHh r) with
                    | none => none
                    | some hp => (match decode (mmCd r) hp with
                      | .ok (.astore k, 2) => (match mmSt1 ls k .null with | some l => mmGo f S n y (hp + 2) l [] M1 | none => none)
                      | .ok (.astore_n k, 1) => (match mmSt1 ls k .null with | some l => mmGo f S n y (hp + 1) l [] M1 | none => none)
                      | _ => none)))) else none)
            | none => (match ins with
              | .new _ => (match mmF3 mmTH y pc with
                | some e => if st = [] ∧ mmHh r = [] then some (.inr e, mmT M) else none
                | none => none)
              | _ => none)
      else none
end
section
/-! the tables' good words, and which of them the small machine's tables name -/
def mmBW : List Cond := lw_tbl.filter goodWord
theorem bw1 {i : Nat} {w : Cond} (h : tables_1_1[i]? = some w) (g : goodWord w = true) : w ∈ mmBW := List.mem_filter.mpr ⟨List.mem_append_right _ (List.mem_append_left _ (List.mem_of_getElem? h)), g⟩
theorem bw2 {i : Nat} {w : Cond} (h : tables_1_2[i]? = some w) (g : goodWord w = true) : w ∈ mmBW := List.mem_filter.mpr ⟨List.mem_append_right _ (List.mem_append_right _ (List.mem_append_left _ (List.mem_of_getElem? h))), g⟩
theorem bw3 {i : Nat} {w : Cond} (h : tables_1_3[i]? = some w) (g : goodWord w = true) : w ∈ mmBW := List.mem_filter.mpr ⟨List.mem_append_right _ (List.mem_append_right _ (List.mem_append_right _ (List.mem_append_left _ (List.mem_of_getElem? h)))), g⟩
theorem bw4 {i : Nat} {w : Cond} (h : tables_1_4[i]? = some w) (g : goodWord w = true) : w ∈ mmBW := List.mem_filter.mpr ⟨List.mem_append_right _ (List.mem_append_right _ (List.mem_append_right _ (List.mem_append_right _ (List.mem_of_getElem? h)))), g⟩
theorem bwp {i : Nat} {q : MethodName × Nat} (h : lw_privs[i]? = some q) : Cond.selects q.1.cls q.1 q.1 ∈ mmBW := List.mem_filter.mpr ⟨List.mem_append_left _ (List.mem_map.mpr ⟨q, List.mem_of_getElem? h, rfl⟩), rfl⟩
theorem bw_good {w : Cond} (h : w ∈ mmBW) : (w.onTables && w.keeps) = true ∨ ∃ ty, w = .arrayClass ty := good_of_word (List.mem_filter.mp h).2
theorem bw_tbl {w : Cond} (h : w ∈ mmBW) : w ∈ lw_tbl := (List.mem_filter.mp h).1
/-- a method's own word -/
def mmHd (r : mmRow) : Cond := if mmHh r = [] then .code (mmNm r) (mmCd r) (mmMl r) (mmRt r) else .codeWith (mmNm r) (mmCd r) (mmMl r) (mmRt r) (mmHh r)
/-- what the tables say of a method that is called -/
def mmOk (r : mmRow) : Prop := mmHd r ∈ mmBW ∧ plainName (mmNm r).cls = true ∧ (mmNm r).cls ≠ "java/lang/invoke/MethodHandle" ∧ (mmNm r).cls ≠ "java/lang/invoke/VarHandle" ∧ (parseMethodDescriptor (mmNm r).desc).map (fun d => d.parameters.length) = some (mmNa r) ∧ Cond.initialized (mmNm r).cls ∈ mmBW ∧ mmOwn[mmOw r]? = some (mmNm r).cls ∧ (mmSt r = true → Cond.static (mmNm r) ∈ mmBW) ∧ (mmSt r = false → Cond.instanceMethod (mmNm r) ∈ mmBW ∧ Cond.selects (mmNm r).cls (mmNm r) (mmNm r) ∈ mmBW)

theorem bwi_RJ7 : Cond.initialized RJ7 ∈ mmBW := bw1 (i := 5) (by decide +kernel) rfl
theorem bwi_RX0 : Cond.initialized RX0 ∈ mmBW := bw1 (i := 4) (by decide +kernel) rfl
theorem bwi_RX2 : Cond.initialized RX2 ∈ mmBW := bw1 (i := 3) (by decide +kernel) rfl
theorem bwi_RX3 : Cond.initialized RX3 ∈ mmBW := bw1 (i := 1) (by decide +kernel) rfl
theorem bwi_RX1 : Cond.initialized RX1 ∈ mmBW := bw1 (i := 2) (by decide +kernel) rfl
theorem bwi_RL : Cond.initialized RL ∈ mmBW := bw1 (i := 0) (by decide +kernel) rfl
theorem bwi_RX4 : Cond.initialized RX4 ∈ mmBW := bw1 (i := 7) (by decide +kernel) rfl
theorem bwi_RJ9 : Cond.initialized RJ9 ∈ mmBW := bw1 (i := 14) (by decide +kernel) rfl
theorem bwi_RJ6 : Cond.initialized RJ6 ∈ mmBW := bw1 (i := 6) (by decide +kernel) rfl
theorem bwc_1 : mmHd mr1 ∈ mmBW := bw1 (i := 175) rfl rfl
theorem bwn_1 : Cond.instanceMethod yX0_make ∈ mmBW := bw1 (i := 173) (by decide +kernel) rfl
theorem bwl_1 : Cond.selects RX0 yX0_make yX0_make ∈ mmBW := bw1 (i := 174) (by decide +kernel) rfl
theorem mok_1 : mmOk mr1 := ⟨bwc_1, by decide +kernel, by decide +kernel, by decide +kernel, by decide +kernel, bwi_RX0, rfl, fun h => absurd h (by decide), fun _ => ⟨bwn_1, bwl_1⟩⟩
theorem bwc_2 : mmHd mr2 ∈ mmBW := bw2 (i := 126) rfl rfl
theorem bwn_2 : Cond.instanceMethod yX0_hooksInUse ∈ mmBW := bw2 (i := 124) (by decide +kernel) rfl
theorem bwl_2 : Cond.selects RX0 yX0_hooksInUse yX0_hooksInUse ∈ mmBW := bw2 (i := 125) (by decide +kernel) rfl
theorem mok_2 : mmOk mr2 := ⟨bwc_2, by decide +kernel, by decide +kernel, by decide +kernel, by decide +kernel, bwi_RX0, rfl, fun h => absurd h (by decide), fun _ => ⟨bwn_2, bwl_2⟩⟩
theorem bwc_3 : mmHd mr3 ∈ mmBW := bw2 (i := 142) rfl rfl
theorem bwn_3 : Cond.instanceMethod yX0_share ∈ mmBW := bw2 (i := 140) (by decide +kernel) rfl
theorem bwl_3 : Cond.selects RX0 yX0_share yX0_share ∈ mmBW := bw2 (i := 141) (by decide +kernel) rfl
theorem mok_3 : mmOk mr3 := ⟨bwc_3, by decide +kernel, by decide +kernel, by decide +kernel, by decide +kernel, bwi_RX0, rfl, fun h => absurd h (by decide), fun _ => ⟨bwn_3, bwl_3⟩⟩
theorem bwc_4 : mmHd mr4 ∈ mmBW := bw1 (i := 179) rfl rfl
theorem bwn_4 : Cond.instanceMethod yX0_putAside ∈ mmBW := bw1 (i := 178) (by decide +kernel) rfl
theorem bwl_4 : Cond.selects RX0 yX0_putAside yX0_putAside ∈ mmBW := bwp (i := 6) rfl
theorem mok_4 : mmOk mr4 := ⟨bwc_4, by decide +kernel, by decide +kernel, by decide +kernel, by decide +kernel, bwi_RX0, rfl, fun h => absurd h (by decide), fun _ => ⟨bwn_4, bwl_4⟩⟩
theorem bwc_5 : mmHd mr5 ∈ mmBW := bw1 (i := 183) rfl rfl
theorem bws_5 : Cond.static yX0_firstEasy ∈ mmBW := bw1 (i := 182) (by decide +kernel) rfl
theorem mok_5 : mmOk mr5 := ⟨bwc_5, by decide +kernel, by decide +kernel, by decide +kernel, by decide +kernel, bwi_RX0, rfl, fun _ => bws_5, fun h => absurd h (by decide)⟩
theorem bwc_6 : mmHd mr6 ∈ mmBW := bw1 (i := 193) rfl rfl
theorem bws_6 : Cond.static yX0_cheapest ∈ mmBW := bw1 (i := 192) (by decide +kernel) rfl
theorem mok_6 : mmOk mr6 := ⟨bwc_6, by decide +kernel, by decide +kernel, by decide +kernel, by decide +kernel, bwi_RX0, rfl, fun _ => bws_6, fun h => absurd h (by decide)⟩
theorem bwc_7 : mmHd mr7 ∈ mmBW := bw1 (i := 199) rfl rfl
theorem bwn_7 : Cond.instanceMethod yX0_hangUp ∈ mmBW := bw1 (i := 198) (by decide +kernel) rfl
theorem bwl_7 : Cond.selects RX0 yX0_hangUp yX0_hangUp ∈ mmBW := bwp (i := 7) rfl
theorem mok_7 : mmOk mr7 := ⟨bwc_7, by decide +kernel, by decide +kernel, by decide +kernel, by decide +kernel, bwi_RX0, rfl, fun h => absurd h (by decide), fun _ => ⟨bwn_7, bwl_7⟩⟩
theorem bwc_8 : mmHd mr8 ∈ mmBW := bw1 (i := 203) rfl rfl
theorem bwn_8 : Cond.instanceMethod yX0_hookOfPartner ∈ mmBW := bw1 (i := 202) (by decide +kernel) rfl
theorem bwl_8 : Cond.selects RX0 yX0_hookOfPartner yX0_hookOfPartner ∈ mmBW := bwp (i := 8) rfl
theorem mok_8 : mmOk mr8 := ⟨bwc_8, by decide +kernel, by decide +kernel, by decide +kernel, by decide +kernel, bwi_RX0, rfl, fun h => absurd h (by decide), fun _ => ⟨bwn_8, bwl_8⟩⟩
theorem bwc_9 : mmHd mr9 ∈ mmBW := bw1 (i := 211) rfl rfl
theorem bwn_9 : Cond.instanceMethod yX0_firstFree ∈ mmBW := bw1 (i := 210) (by decide +kernel) rfl
theorem bwl_9 : Cond.selects RX0 yX0_firstFree yX0_firstFree ∈ mmBW := bwp (i := 10) rfl
theorem mok_9 : mmOk mr9 := ⟨bwc_9, by decide +kernel, by decide +kernel, by decide +kernel, by decide +kernel, bwi_RX0, rfl, fun h => absurd h (by decide), fun _ => ⟨bwn_9, bwl_9⟩⟩
theorem bwc_10 : mmHd mr10 ∈ mmBW := bw1 (i := 207) rfl rfl
theorem bwn_10 : Cond.instanceMethod yX0_isFree ∈ mmBW := bw1 (i := 206) (by decide +kernel) rfl
theorem bwl_10 : Cond.selects RX0 yX0_isFree yX0_isFree ∈ mmBW := bwp (i := 9) rfl
theorem mok_10 : mmOk mr10 := ⟨bwc_10, by decide +kernel, by decide +kernel, by decide +kernel, by decide +kernel, bwi_RX0, rfl, fun h => absurd h (by decide), fun _ => ⟨bwn_10, bwl_10⟩⟩
theorem bwc_12 : mmHd mr12 ∈ mmBW := bw2 (i := 210) rfl rfl
theorem bwn_12 : Cond.instanceMethod yX1_add ∈ mmBW := bw2 (i := 208) (by decide +kernel) rfl
theorem bwl_12 : Cond.selects RX1 yX1_add yX1_add ∈ mmBW := bw2 (i := 209) (by decide +kernel) rfl
theorem mok_12 : mmOk mr12 := ⟨bwc_12, by decide +kernel, by decide +kernel, by decide +kernel, by decide +kernel, bwi_RX1, rfl, fun h => absurd h (by decide), fun _ => ⟨bwn_12, bwl_12⟩⟩
theorem bwc_13 : mmHd mr13 ∈ mmBW := bw2 (i := 32) rfl rfl
theorem bwn_13 : Cond.instanceMethod yX1_remove ∈ mmBW := bw2 (i := 30) (by decide +kernel) rfl
theorem bwl_13 : Cond.selects RX1 yX1_remove yX1_remove ∈ mmBW := bw2 (i := 31) (by decide +kernel) rfl
theorem mok_13 : mmOk mr13 := ⟨bwc_13, by decide +kernel, by decide +kernel, by decide +kernel, by decide +kernel, bwi_RX1, rfl, fun h => absurd h (by decide), fun _ => ⟨bwn_13, bwl_13⟩⟩
theorem bwc_14 : mmHd mr14 ∈ mmBW := bw2 (i := 24) rfl rfl
theorem bwn_14 : Cond.instanceMethod yX1_copy ∈ mmBW := bw2 (i := 22) (by decide +kernel) rfl
theorem bwl_14 : Cond.selects RX1 yX1_copy yX1_copy ∈ mmBW := bw2 (i := 23) (by decide +kernel) rfl
theorem mok_14 : mmOk mr14 := ⟨bwc_14, by decide +kernel, by decide +kernel, by decide +kernel, by decide +kernel, bwi_RX1, rfl, fun h => absurd h (by decide), fun _ => ⟨bwn_14, bwl_14⟩⟩
theorem bwc_15 : mmHd mr15 ∈ mmBW := bw1 (i := 144) rfl rfl
theorem bwn_15 : Cond.instanceMethod yX1_used ∈ mmBW := bw1 (i := 142) (by decide +kernel) rfl
theorem bwl_15 : Cond.selects RX1 yX1_used yX1_used ∈ mmBW := bw1 (i := 143) (by decide +kernel) rfl
theorem mok_15 : mmOk mr15 := ⟨bwc_15, by decide +kernel, by decide +kernel, by decide +kernel, by decide +kernel, bwi_RX1, rfl, fun h => absurd h (by decide), fun _ => ⟨bwn_15, bwl_15⟩⟩
theorem bwc_16 : mmHd mr16 ∈ mmBW := bw2 (i := 28) rfl rfl
theorem bwn_16 : Cond.instanceMethod yX1_takeOver ∈ mmBW := bw2 (i := 27) (by decide +kernel) rfl
theorem bwl_16 : Cond.selects RX1 yX1_takeOver yX1_takeOver ∈ mmBW := bwp (i := 13) rfl
theorem mok_16 : mmOk mr16 := ⟨bwc_16, by decide +kernel, by decide +kernel, by decide +kernel, by decide +kernel, bwi_RX1, rfl, fun h => absurd h (by decide), fun _ => ⟨bwn_16, bwl_16⟩⟩
theorem bwc_18 : mmHd mr18 ∈ mmBW := bw1 (i := 133) rfl rfl
theorem bwn_18 : Cond.instanceMethod yX2_make ∈ mmBW := bw1 (i := 131) (by decide +kernel) rfl
theorem bwl_18 : Cond.selects RX2 yX2_make yX2_make ∈ mmBW := bw1 (i := 132) (by decide +kernel) rfl
theorem mok_18 : mmOk mr18 := ⟨bwc_18, by decide +kernel, by decide +kernel, by decide +kernel, by decide +kernel, bwi_RX2, rfl, fun h => absurd h (by decide), fun _ => ⟨bwn_18, bwl_18⟩⟩
theorem bwc_19 : mmHd mr19 ∈ mmBW := bw2 (i := 121) rfl rfl
theorem bwn_19 : Cond.instanceMethod yX2_pairsOfClashes ∈ mmBW := bw2 (i := 119) (by decide +kernel) rfl
theorem bwl_19 : Cond.selects RX2 yX2_pairsOfClashes yX2_pairsOfClashes ∈ mmBW := bw2 (i := 120) (by decide +kernel) rfl
theorem mok_19 : mmOk mr19 := ⟨bwc_19, by decide +kernel, by decide +kernel, by decide +kernel, by decide +kernel, bwi_RX2, rfl, fun h => absurd h (by decide), fun _ => ⟨bwn_19, bwl_19⟩⟩
theorem bwc_20 : mmHd mr20 ∈ mmBW := bw2 (i := 104) rfl rfl
theorem bwn_20 : Cond.instanceMethod yX2_costOf ∈ mmBW := bw2 (i := 102) (by decide +kernel) rfl
theorem bwl_20 : Cond.selects RX2 yX2_costOf yX2_costOf ∈ mmBW := bw2 (i := 103) (by decide +kernel) rfl
theorem mok_20 : mmOk mr20 := ⟨bwc_20, by decide +kernel, by decide +kernel, by decide +kernel, by decide +kernel, bwi_RX2, rfl, fun h => absurd h (by decide), fun _ => ⟨bwn_20, bwl_20⟩⟩
theorem bwc_21 : mmHd mr21 ∈ mmBW := bw1 (i := 140) rfl rfl
theorem bwn_21 : Cond.instanceMethod yX2_findLives ∈ mmBW := bw1 (i := 139) (by decide +kernel) rfl
theorem bwl_21 : Cond.selects RX2 yX2_findLives yX2_findLives ∈ mmBW := bwp (i := 1) rfl
theorem mok_21 : mmOk mr21 := ⟨bwc_21, by decide +kernel, by decide +kernel, by decide +kernel, by decide +kernel, bwi_RX2, rfl, fun h => absurd h (by decide), fun _ => ⟨bwn_21, bwl_21⟩⟩
theorem bwc_22 : mmHd mr22 ∈ mmBW := bw1 (i := 163) rfl rfl
theorem bwn_22 : Cond.instanceMethod yX2_takeIn ∈ mmBW := bw1 (i := 162) (by decide +kernel) rfl
theorem bwl_22 : Cond.selects RX2 yX2_takeIn yX2_takeIn ∈ mmBW := bwp (i := 3) rfl
theorem mok_22 : mmOk mr22 := ⟨bwc_22, by decide +kernel, by decide +kernel, by decide +kernel, by decide +kernel, bwi_RX2, rfl, fun h => absurd h (by decide), fun _ => ⟨bwn_22, bwl_22⟩⟩
theorem bwc_23 : mmHd mr23 ∈ mmBW := bw1 (i := 167) rfl rfl
theorem bwn_23 : Cond.instanceMethod yX2_addCost ∈ mmBW := bw1 (i := 166) (by decide +kernel) rfl
theorem bwl_23 : Cond.selects RX2 yX2_addCost yX2_addCost ∈ mmBW := bwp (i := 4) rfl
theorem mok_23 : mmOk mr23 := ⟨bwc_23, by decide +kernel, by decide +kernel, by decide +kernel, by decide +kernel, bwi_RX2, rfl, fun h => absurd h (by decide), fun _ => ⟨bwn_23, bwl_23⟩⟩
theorem bwc_24 : mmHd mr24 ∈ mmBW := bw1 (i := 171) rfl rfl
theorem bwn_24 : Cond.instanceMethod yX2_addPoured ∈ mmBW := bw1 (i := 170) (by decide +kernel) rfl
theorem bwl_24 : Cond.selects RX2 yX2_addPoured yX2_addPoured ∈ mmBW := bwp (i := 5) rfl
theorem mok_24 : mmOk mr24 := ⟨bwc_24, by decide +kernel, by decide +kernel, by decide +kernel, by decide +kernel, bwi_RX2, rfl, fun h => absurd h (by decide), fun _ => ⟨bwn_24, bwl_24⟩⟩
theorem bwc_25 : mmHd mr25 ∈ mmBW := bw1 (i := 158) rfl rfl
theorem bwn_25 : Cond.instanceMethod yX2_addClashes ∈ mmBW := bw1 (i := 157) (by decide +kernel) rfl
theorem bwl_25 : Cond.selects RX2 yX2_addClashes yX2_addClashes ∈ mmBW := bwp (i := 2) rfl
theorem mok_25 : mmOk mr25 := ⟨bwc_25, by decide +kernel, by decide +kernel, by decide +kernel, by decide +kernel, bwi_RX2, rfl, fun h => absurd h (by decide), fun _ => ⟨bwn_25, bwl_25⟩⟩
theorem bwc_27 : mmHd mr27 ∈ mmBW := bw2 (i := 183) rfl rfl
theorem bwn_27 : Cond.instanceMethod yX3_cook ∈ mmBW := bw2 (i := 181) (by decide +kernel) rfl
theorem bwl_27 : Cond.selects RX3 yX3_cook yX3_cook ∈ mmBW := bw2 (i := 182) (by decide +kernel) rfl
theorem mok_27 : mmOk mr27 := ⟨bwc_27, by decide +kernel, by decide +kernel, by decide +kernel, by decide +kernel, bwi_RX3, rfl, fun h => absurd h (by decide), fun _ => ⟨bwn_27, bwl_27⟩⟩
theorem bwc_28 : mmHd mr28 ∈ mmBW := bw2 (i := 233) rfl rfl
theorem bwn_28 : Cond.instanceMethod yX3_pour ∈ mmBW := bw2 (i := 231) (by decide +kernel) rfl
theorem bwl_28 : Cond.selects RX3 yX3_pour yX3_pour ∈ mmBW := bw2 (i := 232) (by decide +kernel) rfl
theorem mok_28 : mmOk mr28 := ⟨bwc_28, by decide +kernel, by decide +kernel, by decide +kernel, by decide +kernel, bwi_RX3, rfl, fun h => absurd h (by decide), fun _ => ⟨bwn_28, bwl_28⟩⟩
theorem bwc_29 : mmHd mr29 ∈ mmBW := bw3 (i := 0) rfl rfl
theorem bwn_29 : Cond.instanceMethod yX3_drop ∈ mmBW := bw2 (i := 238) (by decide +kernel) rfl
theorem bwl_29 : Cond.selects RX3 yX3_drop yX3_drop ∈ mmBW := bw2 (i := 239) (by decide +kernel) rfl
theorem mok_29 : mmOk mr29 := ⟨bwc_29, by decide +kernel, by decide +kernel, by decide +kernel, by decide +kernel, bwi_RX3, rfl, fun h => absurd h (by decide), fun _ => ⟨bwn_29, bwl_29⟩⟩
theorem bwc_30 : mmHd mr30 ∈ mmBW := bw3 (i := 7) rfl rfl
theorem bwn_30 : Cond.instanceMethod yX3_want ∈ mmBW := bw3 (i := 5) (by decide +kernel) rfl
theorem bwl_30 : Cond.selects RX3 yX3_want yX3_want ∈ mmBW := bw3 (i := 6) (by decide +kernel) rfl
theorem mok_30 : mmOk mr30 := ⟨bwc_30, by decide +kernel, by decide +kernel, by decide +kernel, by decide +kernel, bwi_RX3, rfl, fun h => absurd h (by decide), fun _ => ⟨bwn_30, bwl_30⟩⟩
theorem bwc_31 : mmHd mr31 ∈ mmBW := bw3 (i := 15) rfl rfl
theorem bwn_31 : Cond.instanceMethod yX3_setHooks ∈ mmBW := bw3 (i := 13) (by decide +kernel) rfl
theorem bwl_31 : Cond.selects RX3 yX3_setHooks yX3_setHooks ∈ mmBW := bw3 (i := 14) (by decide +kernel) rfl
theorem mok_31 : mmOk mr31 := ⟨bwc_31, by decide +kernel, by decide +kernel, by decide +kernel, by decide +kernel, bwi_RX3, rfl, fun h => absurd h (by decide), fun _ => ⟨bwn_31, bwl_31⟩⟩
theorem bwc_32 : mmHd mr32 ∈ mmBW := bw2 (i := 157) rfl rfl
theorem bwn_32 : Cond.instanceMethod yX3_deed ∈ mmBW := bw2 (i := 155) (by decide +kernel) rfl
theorem bwl_32 : Cond.selects RX3 yX3_deed yX3_deed ∈ mmBW := bw2 (i := 156) (by decide +kernel) rfl
theorem mok_32 : mmOk mr32 := ⟨bwc_32, by decide +kernel, by decide +kernel, by decide +kernel, by decide +kernel, bwi_RX3, rfl, fun h => absurd h (by decide), fun _ => ⟨bwn_32, bwl_32⟩⟩
theorem bwc_33 : mmHd mr33 ∈ mmBW := bw3 (i := 27) rfl rfl
theorem bwn_33 : Cond.instanceMethod yX3_lives ∈ mmBW := bw3 (i := 25) (by decide +kernel) rfl
theorem bwl_33 : Cond.selects RX3 yX3_lives yX3_lives ∈ mmBW := bw3 (i := 26) (by decide +kernel) rfl
theorem mok_33 : mmOk mr33 := ⟨bwc_33, by decide +kernel, by decide +kernel, by decide +kernel, by decide +kernel, bwi_RX3, rfl, fun h => absurd h (by decide), fun _ => ⟨bwn_33, bwl_33⟩⟩
theorem bwc_34 : mmHd mr34 ∈ mmBW := bw3 (i := 34) rfl rfl
theorem bwn_34 : Cond.instanceMethod yX3_clash ∈ mmBW := bw3 (i := 32) (by decide +kernel) rfl
theorem bwl_34 : Cond.selects RX3 yX3_clash yX3_clash ∈ mmBW := bw3 (i := 33) (by decide +kernel) rfl
theorem mok_34 : mmOk mr34 := ⟨bwc_34, by decide +kernel, by decide +kernel, by decide +kernel, by decide +kernel, bwi_RX3, rfl, fun h => absurd h (by decide), fun _ => ⟨bwn_34, bwl_34⟩⟩
theorem bwc_35 : mmHd mr35 ∈ mmBW := bw2 (i := 167) rfl rfl
theorem bwn_35 : Cond.instanceMethod yX3_pot ∈ mmBW := bw2 (i := 165) (by decide +kernel) rfl
theorem bwl_35 : Cond.selects RX3 yX3_pot yX3_pot ∈ mmBW := bw2 (i := 166) (by decide +kernel) rfl
theorem mok_35 : mmOk mr35 := ⟨bwc_35, by decide +kernel, by decide +kernel, by decide +kernel, by decide +kernel, bwi_RX3, rfl, fun h => absurd h (by decide), fun _ => ⟨bwn_35, bwl_35⟩⟩
theorem bwc_36 : mmHd mr36 ∈ mmBW := bw2 (i := 117) rfl rfl
theorem bwn_36 : Cond.instanceMethod yX3_count ∈ mmBW := bw2 (i := 115) (by decide +kernel) rfl
theorem bwl_36 : Cond.selects RX3 yX3_count yX3_count ∈ mmBW := bw2 (i := 116) (by decide +kernel) rfl
theorem mok_36 : mmOk mr36 := ⟨bwc_36, by decide +kernel, by decide +kernel, by decide +kernel, by decide +kernel, bwi_RX3, rfl, fun h => absurd h (by decide), fun _ => ⟨bwn_36, bwl_36⟩⟩
theorem bwc_37 : mmHd mr37 ∈ mmBW := bw3 (i := 49) rfl rfl
theorem bwn_37 : Cond.instanceMethod yX3_hangs ∈ mmBW := bw3 (i := 47) (by decide +kernel) rfl
theorem bwl_37 : Cond.selects RX3 yX3_hangs yX3_hangs ∈ mmBW := bw3 (i := 48) (by decide +kernel) rfl
theorem mok_37 : mmOk mr37 := ⟨bwc_37, by decide +kernel, by decide +kernel, by decide +kernel, by decide +kernel, bwi_RX3, rfl, fun h => absurd h (by decide), fun _ => ⟨bwn_37, bwl_37⟩⟩
theorem bwc_38 : mmHd mr38 ∈ mmBW := bw2 (i := 0) rfl rfl
theorem bwn_38 : Cond.instanceMethod yX3_crowd ∈ mmBW := bw1 (i := 238) (by decide +kernel) rfl
theorem bwl_38 : Cond.selects RX3 yX3_crowd yX3_crowd ∈ mmBW := bw1 (i := 239) (by decide +kernel) rfl
theorem mok_38 : mmOk mr38 := ⟨bwc_38, by decide +kernel, by decide +kernel, by decide +kernel, by decide +kernel, bwi_RX3, rfl, fun h => absurd h (by decide), fun _ => ⟨bwn_38, bwl_38⟩⟩
theorem bwc_39 : mmHd mr39 ∈ mmBW := bw3 (i := 57) rfl rfl
theorem bwn_39 : Cond.instanceMethod yX3_would ∈ mmBW := bw3 (i := 55) (by decide +kernel) rfl
theorem bwl_39 : Cond.selects RX3 yX3_would yX3_would ∈ mmBW := bw3 (i := 56) (by decide +kernel) rfl
theorem mok_39 : mmOk mr39 := ⟨bwc_39, by decide +kernel, by decide +kernel, by decide +kernel, by decide +kernel, bwi_RX3, rfl, fun h => absurd h (by decide), fun _ => ⟨bwn_39, bwl_39⟩⟩
theorem bwc_40 : mmHd mr40 ∈ mmBW := bw2 (i := 8) rfl rfl
theorem bwn_40 : Cond.instanceMethod yX3_fewest ∈ mmBW := bw2 (i := 6) (by decide +kernel) rfl
theorem bwl_40 : Cond.selects RX3 yX3_fewest yX3_fewest ∈ mmBW := bw2 (i := 7) (by decide +kernel) rfl
theorem mok_40 : mmOk mr40 := ⟨bwc_40, by decide +kernel, by decide +kernel, by decide +kernel, by decide +kernel, bwi_RX3, rfl, fun h => absurd h (by decide), fun _ => ⟨bwn_40, bwl_40⟩⟩
theorem bwc_41 : mmHd mr41 ∈ mmBW := bw2 (i := 16) rfl rfl
theorem bwn_41 : Cond.instanceMethod yX3_advise ∈ mmBW := bw2 (i := 14) (by decide +kernel) rfl
theorem bwl_41 : Cond.selects RX3 yX3_advise yX3_advise ∈ mmBW := bw2 (i := 15) (by decide +kernel) rfl
theorem mok_41 : mmOk mr41 := ⟨bwc_41, by decide +kernel, by decide +kernel, by decide +kernel, by decide +kernel, bwi_RX3, rfl, fun h => absurd h (by decide), fun _ => ⟨bwn_41, bwl_41⟩⟩
theorem bwc_42 : mmHd mr42 ∈ mmBW := bw2 (i := 108) rfl rfl
theorem bwn_42 : Cond.instanceMethod yX3_mean ∈ mmBW := bw2 (i := 106) (by decide +kernel) rfl
theorem bwl_42 : Cond.selects RX3 yX3_mean yX3_mean ∈ mmBW := bw2 (i := 107) (by decide +kernel) rfl
theorem mok_42 : mmOk mr42 := ⟨bwc_42, by decide +kernel, by decide +kernel, by decide +kernel, by decide +kernel, bwi_RX3, rfl, fun h => absurd h (by decide), fun _ => ⟨bwn_42, bwl_42⟩⟩
theorem bwc_43 : mmHd mr43 ∈ mmBW := bw2 (i := 112) rfl rfl
theorem bwn_43 : Cond.instanceMethod yX3_digest ∈ mmBW := bw2 (i := 110) (by decide +kernel) rfl
theorem bwl_43 : Cond.selects RX3 yX3_digest yX3_digest ∈ mmBW := bw2 (i := 111) (by decide +kernel) rfl
theorem mok_43 : mmOk mr43 := ⟨bwc_43, by decide +kernel, by decide +kernel, by decide +kernel, by decide +kernel, bwi_RX3, rfl, fun h => absurd h (by decide), fun _ => ⟨bwn_43, bwl_43⟩⟩
theorem bwc_44 : mmHd mr44 ∈ mmBW := bw2 (i := 152) rfl rfl
theorem bws_44 : Cond.static yX3_digested ∈ mmBW := bw2 (i := 151) (by decide +kernel) rfl
theorem mok_44 : mmOk mr44 := ⟨bwc_44, by decide +kernel, by decide +kernel, by decide +kernel, by decide +kernel, bwi_RX3, rfl, fun _ => bws_44, fun h => absurd h (by decide)⟩
theorem bwc_45 : mmHd mr45 ∈ mmBW := bw1 (i := 129) rfl rfl
theorem bwn_45 : Cond.instanceMethod yX3_settle ∈ mmBW := bw1 (i := 128) (by decide +kernel) rfl
theorem bwl_45 : Cond.selects RX3 yX3_settle yX3_settle ∈ mmBW := bwp (i := 0) rfl
theorem mok_45 : mmOk mr45 := ⟨bwc_45, by decide +kernel, by decide +kernel, by decide +kernel, by decide +kernel, bwi_RX3, rfl, fun h => absurd h (by decide), fun _ => ⟨bwn_45, bwl_45⟩⟩
theorem bwc_46 : mmHd mr46 ∈ mmBW := bw2 (i := 12) rfl rfl
theorem bwn_46 : Cond.instanceMethod yX3_floorWith ∈ mmBW := bw2 (i := 11) (by decide +kernel) rfl
theorem bwl_46 : Cond.selects RX3 yX3_floorWith yX3_floorWith ∈ mmBW := bwp (i := 11) rfl
theorem mok_46 : mmOk mr46 := ⟨bwc_46, by decide +kernel, by decide +kernel, by decide +kernel, by decide +kernel, bwi_RX3, rfl, fun h => absurd h (by decide), fun _ => ⟨bwn_46, bwl_46⟩⟩
theorem bwc_47 : mmHd mr47 ∈ mmBW := bw2 (i := 20) rfl rfl
theorem bwn_47 : Cond.instanceMethod yX3_floorCostWithout ∈ mmBW := bw2 (i := 19) (by decide +kernel) rfl
theorem bwl_47 : Cond.selects RX3 yX3_floorCostWithout yX3_floorCostWithout ∈ mmBW := bwp (i := 12) rfl
theorem mok_47 : mmOk mr47 := ⟨bwc_47, by decide +kernel, by decide +kernel, by decide +kernel, by decide +kernel, bwi_RX3, rfl, fun h => absurd h (by decide), fun _ => ⟨bwn_47, bwl_47⟩⟩
theorem bwc_48 : mmHd mr48 ∈ mmBW := bw2 (i := 130) rfl rfl
theorem bwn_48 : Cond.instanceMethod yX3_pourings ∈ mmBW := bw2 (i := 129) (by decide +kernel) rfl
theorem bwl_48 : Cond.selects RX3 yX3_pourings yX3_pourings ∈ mmBW := bwp (i := 15) rfl
theorem mok_48 : mmOk mr48 := ⟨bwc_48, by decide +kernel, by decide +kernel, by decide +kernel, by decide +kernel, bwi_RX3, rfl, fun h => absurd h (by decide), fun _ => ⟨bwn_48, bwl_48⟩⟩
theorem bwc_49 : mmHd mr49 ∈ mmBW := bw2 (i := 134) rfl rfl
theorem bwn_49 : Cond.instanceMethod yX3_pouringsSpared ∈ mmBW := bw2 (i := 133) (by decide +kernel) rfl
theorem bwl_49 : Cond.selects RX3 yX3_pouringsSpared yX3_pouringsSpared ∈ mmBW := bwp (i := 16) rfl
theorem mok_49 : mmOk mr49 := ⟨bwc_49, by decide +kernel, by decide +kernel, by decide +kernel, by decide +kernel, bwi_RX3, rfl, fun h => absurd h (by decide), fun _ => ⟨bwn_49, bwl_49⟩⟩
theorem bwc_50 : mmHd mr50 ∈ mmBW := bw2 (i := 146) rfl rfl
theorem bwn_50 : Cond.instanceMethod yX3_weightsNotSpared ∈ mmBW := bw2 (i := 145) (by decide +kernel) rfl
theorem bwl_50 : Cond.selects RX3 yX3_weightsNotSpared yX3_weightsNotSpared ∈ mmBW := bwp (i := 18) rfl
theorem mok_50 : mmOk mr50 := ⟨bwc_50, by decide +kernel, by decide +kernel, by decide +kernel, by decide +kernel, bwi_RX3, rfl, fun h => absurd h (by decide), fun _ => ⟨bwn_50, bwl_50⟩⟩
theorem bwc_51 : mmHd mr51 ∈ mmBW := bw2 (i := 138) rfl rfl
theorem bwn_51 : Cond.instanceMethod yX3_isSpared ∈ mmBW := bw2 (i := 137) (by decide +kernel) rfl
theorem bwl_51 : Cond.selects RX3 yX3_isSpared yX3_isSpared ∈ mmBW := bwp (i := 17) rfl
theorem mok_51 : mmOk mr51 := ⟨bwc_51, by decide +kernel, by decide +kernel, by decide +kernel, by decide +kernel, bwi_RX3, rfl, fun h => absurd h (by decide), fun _ => ⟨bwn_51, bwl_51⟩⟩
theorem bwc_52 : mmHd mr52 ∈ mmBW := bw2 (i := 161) rfl rfl
theorem bwn_52 : Cond.instanceMethod yX3_requireDeed ∈ mmBW := bw2 (i := 160) (by decide +kernel) rfl
theorem bwl_52 : Cond.selects RX3 yX3_requireDeed yX3_requireDeed ∈ mmBW := bwp (i := 19) rfl
theorem mok_52 : mmOk mr52 := ⟨bwc_52, by decide +kernel, by decide +kernel, by decide +kernel, by decide +kernel, bwi_RX3, rfl, fun h => absurd h (by decide), fun _ => ⟨bwn_52, bwl_52⟩⟩
theorem bwc_53 : mmHd mr53 ∈ mmBW := bw2 (i := 170) rfl rfl
theorem bws_53 : Cond.static yX3_requirePot ∈ mmBW := bw2 (i := 169) (by decide +kernel) rfl
theorem mok_53 : mmOk mr53 := ⟨bwc_53, by decide +kernel, by decide +kernel, by decide +kernel, by decide +kernel, bwi_RX3, rfl, fun _ => bws_53, fun h => absurd h (by decide)⟩
theorem bwc_54 : mmHd mr54 ∈ mmBW := bw2 (i := 186) rfl rfl
theorem bws_54 : Cond.static yX3_requirePotOrNone ∈ mmBW := bw2 (i := 185) (by decide +kernel) rfl
theorem mok_54 : mmOk mr54 := ⟨bwc_54, by decide +kernel, by decide +kernel, by decide +kernel, by decide +kernel, bwi_RX3, rfl, fun _ => bws_54, fun h => absurd h (by decide)⟩
theorem bwc_55 : mmHd mr55 ∈ mmBW := bw2 (i := 190) rfl rfl
theorem bws_55 : Cond.static yX3_requireWeight ∈ mmBW := bw2 (i := 189) (by decide +kernel) rfl
theorem mok_55 : mmOk mr55 := ⟨bwc_55, by decide +kernel, by decide +kernel, by decide +kernel, by decide +kernel, bwi_RX3, rfl, fun _ => bws_55, fun h => absurd h (by decide)⟩
theorem bwc_56 : mmHd mr56 ∈ mmBW := bw1 (i := 150) rfl rfl
theorem bws_56 : Cond.static yX3_isPot ∈ mmBW := bw1 (i := 149) (by decide +kernel) rfl
theorem mok_56 : mmOk mr56 := ⟨bwc_56, by decide +kernel, by decide +kernel, by decide +kernel, by decide +kernel, bwi_RX3, rfl, fun _ => bws_56, fun h => absurd h (by decide)⟩
theorem bwc_57 : mmHd mr57 ∈ mmBW := bw1 (i := 147) rfl rfl
theorem bws_57 : Cond.static yX3_bit ∈ mmBW := bw1 (i := 146) (by decide +kernel) rfl
theorem mok_57 : mmOk mr57 := ⟨bwc_57, by decide +kernel, by decide +kernel, by decide +kernel, by decide +kernel, bwi_RX3, rfl, fun _ => bws_57, fun h => absurd h (by decide)⟩
theorem bwc_58 : mmHd mr58 ∈ mmBW := bw1 (i := 154) rfl rfl
theorem bws_58 : Cond.static yX3_has ∈ mmBW := bw1 (i := 153) (by decide +kernel) rfl
theorem mok_58 : mmOk mr58 := ⟨bwc_58, by decide +kernel, by decide +kernel, by decide +kernel, by decide +kernel, bwi_RX3, rfl, fun _ => bws_58, fun h => absurd h (by decide)⟩
theorem bwc_60 : mmHd mr60 ∈ mmBW := bw3 (i := 123) rfl rfl
theorem bwn_60 : Cond.instanceMethod yX4_thrown ∈ mmBW := bw3 (i := 121) (by decide +kernel) rfl
theorem bwl_60 : Cond.selects RX4 yX4_thrown yX4_thrown ∈ mmBW := bw3 (i := 122) (by decide +kernel) rfl
theorem mok_60 : mmOk mr60 := ⟨bwc_60, by decide +kernel, by decide +kernel, by decide +kernel, by decide +kernel, bwi_RX4, rfl, fun h => absurd h (by decide), fun _ => ⟨bwn_60, bwl_60⟩⟩
theorem bwc_61 : mmHd mr61 ∈ mmBW := bw3 (i := 144) rfl rfl
theorem bwn_61 : Cond.instanceMethod yX4_no ∈ mmBW := bw3 (i := 143) (by decide +kernel) rfl
theorem bwl_61 : Cond.selects RX4 yX4_no yX4_no ∈ mmBW := bwp (i := 21) rfl
theorem mok_61 : mmOk mr61 := ⟨bwc_61, by decide +kernel, by decide +kernel, by decide +kernel, by decide +kernel, bwi_RX4, rfl, fun h => absurd h (by decide), fun _ => ⟨bwn_61, bwl_61⟩⟩
theorem bwc_62 : mmHd mr62 ∈ mmBW := bw3 (i := 133) rfl rfl
theorem bws_62 : Cond.static yX4_isIn ∈ mmBW := bw3 (i := 132) (by decide +kernel) rfl
theorem mok_62 : mmOk mr62 := ⟨bwc_62, by decide +kernel, by decide +kernel, by decide +kernel, by decide +kernel, bwi_RX4, rfl, fun _ => bws_62, fun h => absurd h (by decide)⟩
theorem bwc_63 : mmHd mr63 ∈ mmBW := bw3 (i := 130) rfl rfl
theorem bws_63 : Cond.static yX4_isPot ∈ mmBW := bw3 (i := 129) (by decide +kernel) rfl
theorem mok_63 : mmOk mr63 := ⟨bwc_63, by decide +kernel, by decide +kernel, by decide +kernel, by decide +kernel, bwi_RX4, rfl, fun _ => bws_63, fun h => absurd h (by decide)⟩
theorem bwc_64 : mmHd mr64 ∈ mmBW := bw3 (i := 156) rfl rfl
theorem bwn_64 : Cond.instanceMethod yX4_isDeed ∈ mmBW := bw3 (i := 155) (by decide +kernel) rfl
theorem bwl_64 : Cond.selects RX4 yX4_isDeed yX4_isDeed ∈ mmBW := bwp (i := 22) rfl
theorem mok_64 : mmOk mr64 := ⟨bwc_64, by decide +kernel, by decide +kernel, by decide +kernel, by decide +kernel, bwi_RX4, rfl, fun h => absurd h (by decide), fun _ => ⟨bwn_64, bwl_64⟩⟩
theorem bwc_65 : mmHd mr65 ∈ mmBW := bw3 (i := 166) rfl rfl
theorem bws_65 : Cond.static yX4_has ∈ mmBW := bw3 (i := 165) (by decide +kernel) rfl
theorem mok_65 : mmOk mr65 := ⟨bwc_65, by decide +kernel, by decide +kernel, by decide +kernel, by decide +kernel, bwi_RX4, rfl, fun _ => bws_65, fun h => absurd h (by decide)⟩
theorem bwc_66 : mmHd mr66 ∈ mmBW := bw3 (i := 169) rfl rfl
theorem bws_66 : Cond.static yX4_bit ∈ mmBW := bw3 (i := 168) (by decide +kernel) rfl
theorem mok_66 : mmOk mr66 := ⟨bwc_66, by decide +kernel, by decide +kernel, by decide +kernel, by decide +kernel, bwi_RX4, rfl, fun _ => bws_66, fun h => absurd h (by decide)⟩
theorem bwc_67 : mmHd mr67 ∈ mmBW := bw3 (i := 185) rfl rfl
theorem bwn_67 : Cond.instanceMethod yX4_uses ∈ mmBW := bw3 (i := 184) (by decide +kernel) rfl
theorem bwl_67 : Cond.selects RX4 yX4_uses yX4_uses ∈ mmBW := bwp (i := 24) rfl
theorem mok_67 : mmOk mr67 := ⟨bwc_67, by decide +kernel, by decide +kernel, by decide +kernel, by decide +kernel, bwi_RX4, rfl, fun h => absurd h (by decide), fun _ => ⟨bwn_67, bwl_67⟩⟩
theorem bwc_68 : mmHd mr68 ∈ mmBW := bw3 (i := 181) rfl rfl
theorem bwn_68 : Cond.instanceMethod yX4_live ∈ mmBW := bw3 (i := 180) (by decide +kernel) rfl
theorem bwl_68 : Cond.selects RX4 yX4_live yX4_live ∈ mmBW := bwp (i := 23) rfl
theorem mok_68 : mmOk mr68 := ⟨bwc_68, by decide +kernel, by decide +kernel, by decide +kernel, by decide +kernel, bwi_RX4, rfl, fun h => absurd h (by decide), fun _ => ⟨bwn_68, bwl_68⟩⟩
theorem bwc_69 : mmHd mr69 ∈ mmBW := bw3 (i := 210) rfl rfl
theorem bwn_69 : Cond.instanceMethod yX4_clashAll ∈ mmBW := bw3 (i := 209) (by decide +kernel) rfl
theorem bwl_69 : Cond.selects RX4 yX4_clashAll yX4_clashAll ∈ mmBW := bwp (i := 28) rfl
theorem mok_69 : mmOk mr69 := ⟨bwc_69, by decide +kernel, by decide +kernel, by decide +kernel, by decide +kernel, bwi_RX4, rfl, fun h => absurd h (by decide), fun _ => ⟨bwn_69, bwl_69⟩⟩
theorem bwc_70 : mmHd mr70 ∈ mmBW := bw3 (i := 214) rfl rfl
theorem bwn_70 : Cond.instanceMethod yX4_add ∈ mmBW := bw3 (i := 213) (by decide +kernel) rfl
theorem bwl_70 : Cond.selects RX4 yX4_add yX4_add ∈ mmBW := bwp (i := 29) rfl
theorem mok_70 : mmOk mr70 := ⟨bwc_70, by decide +kernel, by decide +kernel, by decide +kernel, by decide +kernel, bwi_RX4, rfl, fun h => absurd h (by decide), fun _ => ⟨bwn_70, bwl_70⟩⟩
theorem bwc_71 : mmHd mr71 ∈ mmBW := bw3 (i := 206) rfl rfl
theorem bwn_71 : Cond.instanceMethod yX4_look ∈ mmBW := bw3 (i := 205) (by decide +kernel) rfl
theorem bwl_71 : Cond.selects RX4 yX4_look yX4_look ∈ mmBW := bwp (i := 27) rfl
theorem mok_71 : mmOk mr71 := ⟨bwc_71, by decide +kernel, by decide +kernel, by decide +kernel, by decide +kernel, bwi_RX4, rfl, fun h => absurd h (by decide), fun _ => ⟨bwn_71, bwl_71⟩⟩
theorem bwc_72 : mmHd mr72 ∈ mmBW := bw3 (i := 230) rfl rfl
theorem bwn_72 : Cond.instanceMethod yX4_next ∈ mmBW := bw3 (i := 229) (by decide +kernel) rfl
theorem bwl_72 : Cond.selects RX4 yX4_next yX4_next ∈ mmBW := bwp (i := 32) rfl
theorem mok_72 : mmOk mr72 := ⟨bwc_72, by decide +kernel, by decide +kernel, by decide +kernel, by decide +kernel, bwi_RX4, rfl, fun h => absurd h (by decide), fun _ => ⟨bwn_72, bwl_72⟩⟩
theorem bwc_73 : mmHd mr73 ∈ mmBW := bw4 (i := 2) rfl rfl
theorem bwn_73 : Cond.instanceMethod yX4_isFree ∈ mmBW := bw4 (i := 1) (by decide +kernel) rfl
theorem bwl_73 : Cond.selects RX4 yX4_isFree yX4_isFree ∈ mmBW := bwp (i := 35) rfl
theorem mok_73 : mmOk mr73 := ⟨bwc_73, by decide +kernel, by decide +kernel, by decide +kernel, by decide +kernel, bwi_RX4, rfl, fun h => absurd h (by decide), fun _ => ⟨bwn_73, bwl_73⟩⟩
theorem bwc_74 : mmHd mr74 ∈ mmBW := bw3 (i := 238) rfl rfl
theorem bwn_74 : Cond.instanceMethod yX4_isPoured ∈ mmBW := bw3 (i := 237) (by decide +kernel) rfl
theorem bwl_74 : Cond.selects RX4 yX4_isPoured yX4_isPoured ∈ mmBW := bwp (i := 34) rfl
theorem mok_74 : mmOk mr74 := ⟨bwc_74, by decide +kernel, by decide +kernel, by decide +kernel, by decide +kernel, bwi_RX4, rfl, fun h => absurd h (by decide), fun _ => ⟨bwn_74, bwl_74⟩⟩
theorem bwc_75 : mmHd mr75 ∈ mmBW := bw3 (i := 234) rfl rfl
theorem bwn_75 : Cond.instanceMethod yX4_hookFor ∈ mmBW := bw3 (i := 233) (by decide +kernel) rfl
theorem bwl_75 : Cond.selects RX4 yX4_hookFor yX4_hookFor ∈ mmBW := bwp (i := 33) rfl
theorem mok_75 : mmOk mr75 := ⟨bwc_75, by decide +kernel, by decide +kernel, by decide +kernel, by decide +kernel, bwi_RX4, rfl, fun h => absurd h (by decide), fun _ => ⟨bwn_75, bwl_75⟩⟩
theorem bwc_76 : mmHd mr76 ∈ mmBW := bw3 (i := 226) rfl rfl
theorem bwn_76 : Cond.instanceMethod yX4_hang ∈ mmBW := bw3 (i := 225) (by decide +kernel) rfl
theorem bwl_76 : Cond.selects RX4 yX4_hang yX4_hang ∈ mmBW := bwp (i := 31) rfl
theorem mok_76 : mmOk mr76 := ⟨bwc_76, by decide +kernel, by decide +kernel, by decide +kernel, by decide +kernel, bwi_RX4, rfl, fun h => absurd h (by decide), fun _ => ⟨bwn_76, bwl_76⟩⟩
theorem bwc_77 : mmHd mr77 ∈ mmBW := bw3 (i := 222) rfl rfl
theorem bwn_77 : Cond.instanceMethod yX4_lookAll ∈ mmBW := bw3 (i := 221) (by decide +kernel) rfl
theorem bwl_77 : Cond.selects RX4 yX4_lookAll yX4_lookAll ∈ mmBW := bwp (i := 30) rfl
theorem mok_77 : mmOk mr77 := ⟨bwc_77, by decide +kernel, by decide +kernel, by decide +kernel, by decide +kernel, bwi_RX4, rfl, fun h => absurd h (by decide), fun _ => ⟨bwn_77, bwl_77⟩⟩
theorem bwc_78 : mmHd mr78 ∈ mmBW := bw4 (i := 10) rfl rfl
theorem bwn_78 : Cond.instanceMethod yX4_isFloor ∈ mmBW := bw4 (i := 9) (by decide +kernel) rfl
theorem bwl_78 : Cond.selects RX4 yX4_isFloor yX4_isFloor ∈ mmBW := bwp (i := 37) rfl
theorem mok_78 : mmOk mr78 := ⟨bwc_78, by decide +kernel, by decide +kernel, by decide +kernel, by decide +kernel, bwi_RX4, rfl, fun h => absurd h (by decide), fun _ => ⟨bwn_78, bwl_78⟩⟩
theorem bwc_79 : mmHd mr79 ∈ mmBW := bw4 (i := 26) rfl rfl
theorem bwn_79 : Cond.instanceMethod yX4_floor ∈ mmBW := bw4 (i := 25) (by decide +kernel) rfl
theorem bwl_79 : Cond.selects RX4 yX4_floor yX4_floor ∈ mmBW := bwp (i := 40) rfl
theorem mok_79 : mmOk mr79 := ⟨bwc_79, by decide +kernel, by decide +kernel, by decide +kernel, by decide +kernel, bwi_RX4, rfl, fun h => absurd h (by decide), fun _ => ⟨bwn_79, bwl_79⟩⟩
theorem bwc_80 : mmHd mr80 ∈ mmBW := bw4 (i := 46) rfl rfl
theorem bwn_80 : Cond.instanceMethod yX4_floorCost ∈ mmBW := bw4 (i := 45) (by decide +kernel) rfl
theorem bwl_80 : Cond.selects RX4 yX4_floorCost yX4_floorCost ∈ mmBW := bwp (i := 45) rfl
theorem mok_80 : mmOk mr80 := ⟨bwc_80, by decide +kernel, by decide +kernel, by decide +kernel, by decide +kernel, bwi_RX4, rfl, fun h => absurd h (by decide), fun _ => ⟨bwn_80, bwl_80⟩⟩
theorem bwc_81 : mmHd mr81 ∈ mmBW := bw4 (i := 42) rfl rfl
theorem bwn_81 : Cond.instanceMethod yX4_isSpared ∈ mmBW := bw4 (i := 41) (by decide +kernel) rfl
theorem bwl_81 : Cond.selects RX4 yX4_isSpared yX4_isSpared ∈ mmBW := bwp (i := 44) rfl
theorem mok_81 : mmOk mr81 := ⟨bwc_81, by decide +kernel, by decide +kernel, by decide +kernel, by decide +kernel, bwi_RX4, rfl, fun h => absurd h (by decide), fun _ => ⟨bwn_81, bwl_81⟩⟩
theorem bwc_82 : mmHd mr82 ∈ mmBW := bw3 (i := 136) rfl rfl
theorem bws_82 : Cond.static yX4_isPotOrNone ∈ mmBW := bw3 (i := 135) (by decide +kernel) rfl
theorem mok_82 : mmOk mr82 := ⟨bwc_82, by decide +kernel, by decide +kernel, by decide +kernel, by decide +kernel, bwi_RX4, rfl, fun _ => bws_82, fun h => absurd h (by decide)⟩
theorem bwc_83 : mmHd mr83 ∈ mmBW := bw3 (i := 140) rfl rfl
theorem bwn_83 : Cond.instanceMethod yX4_add_ ∈ mmBW := bw3 (i := 139) (by decide +kernel) rfl
theorem bwl_83 : Cond.selects RX4 yX4_add_ yX4_add_ ∈ mmBW := bwp (i := 20) rfl
theorem mok_83 : mmOk mr83 := ⟨bwc_83, by decide +kernel, by decide +kernel, by decide +kernel, by decide +kernel, bwi_RX4, rfl, fun h => absurd h (by decide), fun _ => ⟨bwn_83, bwl_83⟩⟩
theorem bwc_84 : mmHd mr84 ∈ mmBW := bw3 (i := 127) rfl rfl
theorem bwn_84 : Cond.instanceMethod yX4_cook ∈ mmBW := bw3 (i := 125) (by decide +kernel) rfl
theorem bwl_84 : Cond.selects RX4 yX4_cook yX4_cook ∈ mmBW := bw3 (i := 126) (by decide +kernel) rfl
theorem mok_84 : mmOk mr84 := ⟨bwc_84, by decide +kernel, by decide +kernel, by decide +kernel, by decide +kernel, bwi_RX4, rfl, fun h => absurd h (by decide), fun _ => ⟨bwn_84, bwl_84⟩⟩
theorem bwc_85 : mmHd mr85 ∈ mmBW := bw3 (i := 148) rfl rfl
theorem bwn_85 : Cond.instanceMethod yX4_pour ∈ mmBW := bw3 (i := 146) (by decide +kernel) rfl
theorem bwl_85 : Cond.selects RX4 yX4_pour yX4_pour ∈ mmBW := bw3 (i := 147) (by decide +kernel) rfl
theorem mok_85 : mmOk mr85 := ⟨bwc_85, by decide +kernel, by decide +kernel, by decide +kernel, by decide +kernel, bwi_RX4, rfl, fun h => absurd h (by decide), fun _ => ⟨bwn_85, bwl_85⟩⟩
theorem bwc_86 : mmHd mr86 ∈ mmBW := bw3 (i := 159) rfl rfl
theorem bws_86 : Cond.static yX4_moveUp ∈ mmBW := bw3 (i := 158) (by decide +kernel) rfl
theorem mok_86 : mmOk mr86 := ⟨bwc_86, by decide +kernel, by decide +kernel, by decide +kernel, by decide +kernel, bwi_RX4, rfl, fun _ => bws_86, fun h => absurd h (by decide)⟩
theorem bwc_87 : mmHd mr87 ∈ mmBW := bw3 (i := 152) rfl rfl
theorem bwn_87 : Cond.instanceMethod yX4_drop ∈ mmBW := bw3 (i := 150) (by decide +kernel) rfl
theorem bwl_87 : Cond.selects RX4 yX4_drop yX4_drop ∈ mmBW := bw3 (i := 151) (by decide +kernel) rfl
theorem mok_87 : mmOk mr87 := ⟨bwc_87, by decide +kernel, by decide +kernel, by decide +kernel, by decide +kernel, bwi_RX4, rfl, fun h => absurd h (by decide), fun _ => ⟨bwn_87, bwl_87⟩⟩
theorem bwc_88 : mmHd mr88 ∈ mmBW := bw3 (i := 163) rfl rfl
theorem bwn_88 : Cond.instanceMethod yX4_want ∈ mmBW := bw3 (i := 161) (by decide +kernel) rfl
theorem bwl_88 : Cond.selects RX4 yX4_want yX4_want ∈ mmBW := bw3 (i := 162) (by decide +kernel) rfl
theorem mok_88 : mmOk mr88 := ⟨bwc_88, by decide +kernel, by decide +kernel, by decide +kernel, by decide +kernel, bwi_RX4, rfl, fun h => absurd h (by decide), fun _ => ⟨bwn_88, bwl_88⟩⟩
theorem bwc_89 : mmHd mr89 ∈ mmBW := bw3 (i := 173) rfl rfl
theorem bwn_89 : Cond.instanceMethod yX4_setHooks ∈ mmBW := bw3 (i := 171) (by decide +kernel) rfl
theorem bwl_89 : Cond.selects RX4 yX4_setHooks yX4_setHooks ∈ mmBW := bw3 (i := 172) (by decide +kernel) rfl
theorem mok_89 : mmOk mr89 := ⟨bwc_89, by decide +kernel, by decide +kernel, by decide +kernel, by decide +kernel, bwi_RX4, rfl, fun h => absurd h (by decide), fun _ => ⟨bwn_89, bwl_89⟩⟩
theorem bwc_90 : mmHd mr90 ∈ mmBW := bw3 (i := 194) rfl rfl
theorem bwn_90 : Cond.instanceMethod yX4_aheadOf ∈ mmBW := bw3 (i := 193) (by decide +kernel) rfl
theorem bwl_90 : Cond.selects RX4 yX4_aheadOf yX4_aheadOf ∈ mmBW := bwp (i := 26) rfl
theorem mok_90 : mmOk mr90 := ⟨bwc_90, by decide +kernel, by decide +kernel, by decide +kernel, by decide +kernel, bwi_RX4, rfl, fun h => absurd h (by decide), fun _ => ⟨bwn_90, bwl_90⟩⟩
theorem bwc_91 : mmHd mr91 ∈ mmBW := bw3 (i := 189) rfl rfl
theorem bwn_91 : Cond.instanceMethod yX4_deedTold ∈ mmBW := bw3 (i := 188) (by decide +kernel) rfl
theorem bwl_91 : Cond.selects RX4 yX4_deedTold yX4_deedTold ∈ mmBW := bwp (i := 25) rfl
theorem mok_91 : mmOk mr91 := ⟨bwc_91, by decide +kernel, by decide +kernel, by decide +kernel, by decide +kernel, bwi_RX4, rfl, fun h => absurd h (by decide), fun _ => ⟨bwn_91, bwl_91⟩⟩
theorem bwc_92 : mmHd mr92 ∈ mmBW := bw3 (i := 177) rfl rfl
theorem bwn_92 : Cond.instanceMethod yX4_deed ∈ mmBW := bw3 (i := 175) (by decide +kernel) rfl
theorem bwl_92 : Cond.selects RX4 yX4_deed yX4_deed ∈ mmBW := bw3 (i := 176) (by decide +kernel) rfl
theorem mok_92 : mmOk mr92 := ⟨bwc_92, by decide +kernel, by decide +kernel, by decide +kernel, by decide +kernel, bwi_RX4, rfl, fun h => absurd h (by decide), fun _ => ⟨bwn_92, bwl_92⟩⟩
theorem bwc_93 : mmHd mr93 ∈ mmBW := bw3 (i := 198) rfl rfl
theorem bwn_93 : Cond.instanceMethod yX4_lives ∈ mmBW := bw3 (i := 196) (by decide +kernel) rfl
theorem bwl_93 : Cond.selects RX4 yX4_lives yX4_lives ∈ mmBW := bw3 (i := 197) (by decide +kernel) rfl
theorem mok_93 : mmOk mr93 := ⟨bwc_93, by decide +kernel, by decide +kernel, by decide +kernel, by decide +kernel, bwi_RX4, rfl, fun h => absurd h (by decide), fun _ => ⟨bwn_93, bwl_93⟩⟩
theorem bwc_94 : mmHd mr94 ∈ mmBW := bw3 (i := 202) rfl rfl
theorem bwn_94 : Cond.instanceMethod yX4_clash ∈ mmBW := bw3 (i := 200) (by decide +kernel) rfl
theorem bwl_94 : Cond.selects RX4 yX4_clash yX4_clash ∈ mmBW := bw3 (i := 201) (by decide +kernel) rfl
theorem mok_94 : mmOk mr94 := ⟨bwc_94, by decide +kernel, by decide +kernel, by decide +kernel, by decide +kernel, bwi_RX4, rfl, fun h => absurd h (by decide), fun _ => ⟨bwn_94, bwl_94⟩⟩
theorem bwc_95 : mmHd mr95 ∈ mmBW := bw4 (i := 6) rfl rfl
theorem bwn_95 : Cond.instanceMethod yX4_potTold ∈ mmBW := bw4 (i := 5) (by decide +kernel) rfl
theorem bwl_95 : Cond.selects RX4 yX4_potTold yX4_potTold ∈ mmBW := bwp (i := 36) rfl
theorem mok_95 : mmOk mr95 := ⟨bwc_95, by decide +kernel, by decide +kernel, by decide +kernel, by decide +kernel, bwi_RX4, rfl, fun h => absurd h (by decide), fun _ => ⟨bwn_95, bwl_95⟩⟩
theorem bwc_96 : mmHd mr96 ∈ mmBW := bw3 (i := 218) rfl rfl
theorem bwn_96 : Cond.instanceMethod yX4_pot ∈ mmBW := bw3 (i := 216) (by decide +kernel) rfl
theorem bwl_96 : Cond.selects RX4 yX4_pot yX4_pot ∈ mmBW := bw3 (i := 217) (by decide +kernel) rfl
theorem mok_96 : mmOk mr96 := ⟨bwc_96, by decide +kernel, by decide +kernel, by decide +kernel, by decide +kernel, bwi_RX4, rfl, fun h => absurd h (by decide), fun _ => ⟨bwn_96, bwl_96⟩⟩
theorem bwc_97 : mmHd mr97 ∈ mmBW := bw4 (i := 22) rfl rfl
theorem bwn_97 : Cond.instanceMethod yX4_pairs ∈ mmBW := bw4 (i := 21) (by decide +kernel) rfl
theorem bwl_97 : Cond.selects RX4 yX4_pairs yX4_pairs ∈ mmBW := bwp (i := 39) rfl
theorem mok_97 : mmOk mr97 := ⟨bwc_97, by decide +kernel, by decide +kernel, by decide +kernel, by decide +kernel, bwi_RX4, rfl, fun h => absurd h (by decide), fun _ => ⟨bwn_97, bwl_97⟩⟩
theorem bwc_98 : mmHd mr98 ∈ mmBW := bw4 (i := 34) rfl rfl
theorem bwn_98 : Cond.instanceMethod yX4_hangAt ∈ mmBW := bw4 (i := 33) (by decide +kernel) rfl
theorem bwl_98 : Cond.selects RX4 yX4_hangAt yX4_hangAt ∈ mmBW := bwp (i := 42) rfl
theorem mok_98 : mmOk mr98 := ⟨bwc_98, by decide +kernel, by decide +kernel, by decide +kernel, by decide +kernel, bwi_RX4, rfl, fun h => absurd h (by decide), fun _ => ⟨bwn_98, bwl_98⟩⟩
theorem bwc_99 : mmHd mr99 ∈ mmBW := bw4 (i := 30) rfl rfl
theorem bwn_99 : Cond.instanceMethod yX4_usedHooks ∈ mmBW := bw4 (i := 29) (by decide +kernel) rfl
theorem bwl_99 : Cond.selects RX4 yX4_usedHooks yX4_usedHooks ∈ mmBW := bwp (i := 41) rfl
theorem mok_99 : mmOk mr99 := ⟨bwc_99, by decide +kernel, by decide +kernel, by decide +kernel, by decide +kernel, bwi_RX4, rfl, fun h => absurd h (by decide), fun _ => ⟨bwn_99, bwl_99⟩⟩
theorem bwc_100 : mmHd mr100 ∈ mmBW := bw4 (i := 38) rfl rfl
theorem bwn_100 : Cond.instanceMethod yX4_pourings ∈ mmBW := bw4 (i := 37) (by decide +kernel) rfl
theorem bwl_100 : Cond.selects RX4 yX4_pourings yX4_pourings ∈ mmBW := bwp (i := 43) rfl
theorem mok_100 : mmOk mr100 := ⟨bwc_100, by decide +kernel, by decide +kernel, by decide +kernel, by decide +kernel, bwi_RX4, rfl, fun h => absurd h (by decide), fun _ => ⟨bwn_100, bwl_100⟩⟩
theorem bwc_101 : mmHd mr101 ∈ mmBW := bw4 (i := 50) rfl rfl
theorem bwn_101 : Cond.instanceMethod yX4_weights ∈ mmBW := bw4 (i := 49) (by decide +kernel) rfl
theorem bwl_101 : Cond.selects RX4 yX4_weights yX4_weights ∈ mmBW := bwp (i := 46) rfl
theorem mok_101 : mmOk mr101 := ⟨bwc_101, by decide +kernel, by decide +kernel, by decide +kernel, by decide +kernel, bwi_RX4, rfl, fun h => absurd h (by decide), fun _ => ⟨bwn_101, bwl_101⟩⟩
theorem bwc_102 : mmHd mr102 ∈ mmBW := bw4 (i := 18) rfl rfl
theorem bwn_102 : Cond.instanceMethod yX4_counted ∈ mmBW := bw4 (i := 17) (by decide +kernel) rfl
theorem bwl_102 : Cond.selects RX4 yX4_counted yX4_counted ∈ mmBW := bwp (i := 38) rfl
theorem mok_102 : mmOk mr102 := ⟨bwc_102, by decide +kernel, by decide +kernel, by decide +kernel, by decide +kernel, bwi_RX4, rfl, fun h => absurd h (by decide), fun _ => ⟨bwn_102, bwl_102⟩⟩
theorem bwc_103 : mmHd mr103 ∈ mmBW := bw4 (i := 14) rfl rfl
theorem bwn_103 : Cond.instanceMethod yX4_count ∈ mmBW := bw4 (i := 12) (by decide +kernel) rfl
theorem bwl_103 : Cond.selects RX4 yX4_count yX4_count ∈ mmBW := bw4 (i := 13) (by decide +kernel) rfl
theorem mok_103 : mmOk mr103 := ⟨bwc_103, by decide +kernel, by decide +kernel, by decide +kernel, by decide +kernel, bwi_RX4, rfl, fun h => absurd h (by decide), fun _ => ⟨bwn_103, bwl_103⟩⟩
theorem bwc_104 : mmHd mr104 ∈ mmBW := bw4 (i := 54) rfl rfl
theorem bwn_104 : Cond.instanceMethod yX4_hangs ∈ mmBW := bw4 (i := 52) (by decide +kernel) rfl
theorem bwl_104 : Cond.selects RX4 yX4_hangs yX4_hangs ∈ mmBW := bw4 (i := 53) (by decide +kernel) rfl
theorem mok_104 : mmOk mr104 := ⟨bwc_104, by decide +kernel, by decide +kernel, by decide +kernel, by decide +kernel, bwi_RX4, rfl, fun h => absurd h (by decide), fun _ => ⟨bwn_104, bwl_104⟩⟩
theorem bwc_105 : mmHd mr105 ∈ mmBW := bw4 (i := 58) rfl rfl
theorem bwn_105 : Cond.instanceMethod yX4_crowd ∈ mmBW := bw4 (i := 56) (by decide +kernel) rfl
theorem bwl_105 : Cond.selects RX4 yX4_crowd yX4_crowd ∈ mmBW := bw4 (i := 57) (by decide +kernel) rfl
theorem mok_105 : mmOk mr105 := ⟨bwc_105, by decide +kernel, by decide +kernel, by decide +kernel, by decide +kernel, bwi_RX4, rfl, fun h => absurd h (by decide), fun _ => ⟨bwn_105, bwl_105⟩⟩
theorem bwc_106 : mmHd mr106 ∈ mmBW := bw4 (i := 63) rfl rfl
theorem bwn_106 : Cond.instanceMethod yX4_would ∈ mmBW := bw4 (i := 61) (by decide +kernel) rfl
theorem bwl_106 : Cond.selects RX4 yX4_would yX4_would ∈ mmBW := bw4 (i := 62) (by decide +kernel) rfl
theorem mok_106 : mmOk mr106 := ⟨bwc_106, by decide +kernel, by decide +kernel, by decide +kernel, by decide +kernel, bwi_RX4, rfl, fun h => absurd h (by decide), fun _ => ⟨bwn_106, bwl_106⟩⟩
theorem bwc_107 : mmHd mr107 ∈ mmBW := bw4 (i := 67) rfl rfl
theorem bwn_107 : Cond.instanceMethod yX4_fewest ∈ mmBW := bw4 (i := 65) (by decide +kernel) rfl
theorem bwl_107 : Cond.selects RX4 yX4_fewest yX4_fewest ∈ mmBW := bw4 (i := 66) (by decide +kernel) rfl
theorem mok_107 : mmOk mr107 := ⟨bwc_107, by decide +kernel, by decide +kernel, by decide +kernel, by decide +kernel, bwi_RX4, rfl, fun h => absurd h (by decide), fun _ => ⟨bwn_107, bwl_107⟩⟩
theorem bwc_108 : mmHd mr108 ∈ mmBW := bw4 (i := 71) rfl rfl
theorem bwn_108 : Cond.instanceMethod yX4_advise ∈ mmBW := bw4 (i := 69) (by decide +kernel) rfl
theorem bwl_108 : Cond.selects RX4 yX4_advise yX4_advise ∈ mmBW := bw4 (i := 70) (by decide +kernel) rfl
theorem mok_108 : mmOk mr108 := ⟨bwc_108, by decide +kernel, by decide +kernel, by decide +kernel, by decide +kernel, bwi_RX4, rfl, fun h => absurd h (by decide), fun _ => ⟨bwn_108, bwl_108⟩⟩
theorem bwc_109 : mmHd mr109 ∈ mmBW := bw4 (i := 75) rfl rfl
theorem bwn_109 : Cond.instanceMethod yX4_mean ∈ mmBW := bw4 (i := 73) (by decide +kernel) rfl
theorem bwl_109 : Cond.selects RX4 yX4_mean yX4_mean ∈ mmBW := bw4 (i := 74) (by decide +kernel) rfl
theorem mok_109 : mmOk mr109 := ⟨bwc_109, by decide +kernel, by decide +kernel, by decide +kernel, by decide +kernel, bwi_RX4, rfl, fun h => absurd h (by decide), fun _ => ⟨bwn_109, bwl_109⟩⟩
theorem bwc_110 : mmHd mr110 ∈ mmBW := bw4 (i := 79) rfl rfl
theorem bwn_110 : Cond.instanceMethod yX4_digest ∈ mmBW := bw4 (i := 77) (by decide +kernel) rfl
theorem bwl_110 : Cond.selects RX4 yX4_digest yX4_digest ∈ mmBW := bw4 (i := 78) (by decide +kernel) rfl
theorem mok_110 : mmOk mr110 := ⟨bwc_110, by decide +kernel, by decide +kernel, by decide +kernel, by decide +kernel, bwi_RX4, rfl, fun h => absurd h (by decide), fun _ => ⟨bwn_110, bwl_110⟩⟩
theorem bwc_111 : mmHd mr111 ∈ mmBW := bw1 (i := 187) rfl rfl
theorem bws_111 : Cond.static yJ6_bitCount_0f7a4 ∈ mmBW := bw1 (i := 186) (by decide +kernel) rfl
theorem mok_111 : mmOk mr111 := ⟨bwc_111, by decide +kernel, by decide +kernel, by decide +kernel, by decide +kernel, bwi_RJ6, rfl, fun _ => bws_111, fun h => absurd h (by decide)⟩
theorem bwc_113 : mmHd mr113 ∈ mmBW := bw1 (i := 136) rfl rfl
theorem bws_113 : Cond.static yJ7_fill_53178 ∈ mmBW := bw1 (i := 135) (by decide +kernel) rfl
theorem mok_113 : mmOk mr113 := ⟨bwc_113, by decide +kernel, by decide +kernel, by decide +kernel, by decide +kernel, bwi_RJ7, rfl, fun _ => bws_113, fun h => absurd h (by decide)⟩
theorem bwc_114 : mmHd mr114 ∈ mmBW := bw2 (i := 176) rfl rfl
theorem bws_114 : Cond.static yL_cook ∈ mmBW := bw2 (i := 175) (by decide +kernel) rfl
theorem mok_114 : mmOk mr114 := ⟨bwc_114, by decide +kernel, by decide +kernel, by decide +kernel, by decide +kernel, bwi_RL, rfl, fun _ => bws_114, fun h => absurd h (by decide)⟩
theorem bwc_115 : mmHd mr115 ∈ mmBW := bw2 (i := 229) rfl rfl
theorem bws_115 : Cond.static yL_pour ∈ mmBW := bw2 (i := 228) (by decide +kernel) rfl
theorem mok_115 : mmOk mr115 := ⟨bwc_115, by decide +kernel, by decide +kernel, by decide +kernel, by decide +kernel, bwi_RL, rfl, fun _ => bws_115, fun h => absurd h (by decide)⟩
theorem bwc_116 : mmHd mr116 ∈ mmBW := bw2 (i := 236) rfl rfl
theorem bws_116 : Cond.static yL_drop ∈ mmBW := bw2 (i := 235) (by decide +kernel) rfl
theorem mok_116 : mmOk mr116 := ⟨bwc_116, by decide +kernel, by decide +kernel, by decide +kernel, by decide +kernel, bwi_RL, rfl, fun _ => bws_116, fun h => absurd h (by decide)⟩
theorem bwc_117 : mmHd mr117 ∈ mmBW := bw3 (i := 3) rfl rfl
theorem bws_117 : Cond.static yL_want ∈ mmBW := bw3 (i := 2) (by decide +kernel) rfl
theorem mok_117 : mmOk mr117 := ⟨bwc_117, by decide +kernel, by decide +kernel, by decide +kernel, by decide +kernel, bwi_RL, rfl, fun _ => bws_117, fun h => absurd h (by decide)⟩
theorem bwc_118 : mmHd mr118 ∈ mmBW := bw3 (i := 11) rfl rfl
theorem bws_118 : Cond.static yL_setHooks ∈ mmBW := bw3 (i := 10) (by decide +kernel) rfl
theorem mok_118 : mmOk mr118 := ⟨bwc_118, by decide +kernel, by decide +kernel, by decide +kernel, by decide +kernel, bwi_RL, rfl, fun _ => bws_118, fun h => absurd h (by decide)⟩
theorem bwc_119 : mmHd mr119 ∈ mmBW := bw3 (i := 19) rfl rfl
theorem bws_119 : Cond.static yL_deed ∈ mmBW := bw3 (i := 18) (by decide +kernel) rfl
theorem mok_119 : mmOk mr119 := ⟨bwc_119, by decide +kernel, by decide +kernel, by decide +kernel, by decide +kernel, bwi_RL, rfl, fun _ => bws_119, fun h => absurd h (by decide)⟩
theorem bwc_120 : mmHd mr120 ∈ mmBW := bw3 (i := 23) rfl rfl
theorem bws_120 : Cond.static yL_lives ∈ mmBW := bw3 (i := 22) (by decide +kernel) rfl
theorem mok_120 : mmOk mr120 := ⟨bwc_120, by decide +kernel, by decide +kernel, by decide +kernel, by decide +kernel, bwi_RL, rfl, fun _ => bws_120, fun h => absurd h (by decide)⟩
theorem bwc_121 : mmHd mr121 ∈ mmBW := bw3 (i := 30) rfl rfl
theorem bws_121 : Cond.static yL_clash ∈ mmBW := bw3 (i := 29) (by decide +kernel) rfl
theorem mok_121 : mmOk mr121 := ⟨bwc_121, by decide +kernel, by decide +kernel, by decide +kernel, by decide +kernel, bwi_RL, rfl, fun _ => bws_121, fun h => absurd h (by decide)⟩
theorem bwc_122 : mmHd mr122 ∈ mmBW := bw3 (i := 37) rfl rfl
theorem bws_122 : Cond.static yL_pot ∈ mmBW := bw3 (i := 36) (by decide +kernel) rfl
theorem mok_122 : mmOk mr122 := ⟨bwc_122, by decide +kernel, by decide +kernel, by decide +kernel, by decide +kernel, bwi_RL, rfl, fun _ => bws_122, fun h => absurd h (by decide)⟩
theorem bwc_123 : mmHd mr123 ∈ mmBW := bw3 (i := 41) rfl rfl
theorem bws_123 : Cond.static yL_count ∈ mmBW := bw3 (i := 40) (by decide +kernel) rfl
theorem mok_123 : mmOk mr123 := ⟨bwc_123, by decide +kernel, by decide +kernel, by decide +kernel, by decide +kernel, bwi_RL, rfl, fun _ => bws_123, fun h => absurd h (by decide)⟩
theorem bwc_124 : mmHd mr124 ∈ mmBW := bw3 (i := 45) rfl rfl
theorem bws_124 : Cond.static yL_hangs ∈ mmBW := bw3 (i := 44) (by decide +kernel) rfl
theorem mok_124 : mmOk mr124 := ⟨bwc_124, by decide +kernel, by decide +kernel, by decide +kernel, by decide +kernel, bwi_RL, rfl, fun _ => bws_124, fun h => absurd h (by decide)⟩
theorem bwc_125 : mmHd mr125 ∈ mmBW := bw3 (i := 53) rfl rfl
theorem bws_125 : Cond.static yL_would ∈ mmBW := bw3 (i := 52) (by decide +kernel) rfl
theorem mok_125 : mmOk mr125 := ⟨bwc_125, by decide +kernel, by decide +kernel, by decide +kernel, by decide +kernel, bwi_RL, rfl, fun _ => bws_125, fun h => absurd h (by decide)⟩
theorem mmOk_all : ∀ r ∈ mmP, mmFr r ≤ 10 → mmOk r := by
  intro r hr
  simp only [mmP, List.mem_cons, List.not_mem_nil, or_false] at hr
  rcases hr with rfl | rfl | rfl | rfl | rfl | rfl | rfl | rfl | rfl | rfl | rfl | rfl | rfl | rfl | rfl | rfl | rfl | rfl | rfl | rfl | rfl | rfl | rfl | rfl | rfl | rfl | rfl | rfl | rfl | rfl | rfl | rfl | rfl | rfl | rfl | rfl | rfl | rfl | rfl | rfl | rfl | rfl | rfl | rfl | rfl | rfl | rfl | rfl | rfl | rfl | rfl | rfl | rfl | rfl | rfl | rfl | rfl | rfl | rfl | rfl | rfl | rfl | rfl | rfl | rfl | rfl | rfl | rfl | rfl | rfl | rfl | rfl | rfl | rfl | rfl | rfl | rfl | rfl | rfl | rfl | rfl | rfl | rfl | rfl | rfl | rfl | rfl | rfl | rfl | rfl | rfl | rfl | rfl | rfl | rfl | rfl | rfl | rfl | rfl | rfl | rfl | rfl | rfl | rfl | rfl | rfl | rfl | rfl | rfl | rfl | rfl | rfl | rfl | rfl | rfl | rfl | rfl | rfl | rfl | rfl | rfl | rfl | rfl | rfl | rfl | rfl | rfl
  · exact fun h => absurd h (by decide)
  · exact fun _ => mok_1
  · exact fun _ => mok_2
  · exact fun _ => mok_3
  · exact fun _ => mok_4
  · exact fun _ => mok_5
  · exact fun _ => mok_6
  · exact fun _ => mok_7
  · exact fun _ => mok_8
  · exact fun _ => mok_9
  · exact fun _ => mok_10
  · exact fun h => absurd h (by decide)
  · exact fun _ => mok_12
  · exact fun _ => mok_13
  · exact fun _ => mok_14
  · exact fun _ => mok_15
  · exact fun _ => mok_16
  · exact fun h => absurd h (by decide)
  · exact fun _ => mok_18
  · exact fun _ => mok_19
  · exact fun _ => mok_20
  · exact fun _ => mok_21
  · exact fun _ => mok_22
  · exact fun _ => mok_23
  · exact fun _ => mok_24
  · exact fun _ => mok_25
  · exact fun h => absurd h (by decide)
  · exact fun _ => mok_27
  · exact fun _ => mok_28
  · exact fun _ => mok_29
  · exact fun _ => mok_30
  · exact fun _ => mok_31
  · exact fun _ => mok_32
  · exact fun _ => mok_33
  · exact fun _ => mok_34
  · exact fun _ => mok_35
  · exact fun _ => mok_36
  · exact fun _ => mok_37
  · exact fun _ => mok_38
  · exact fun _ => mok_39
  · exact fun _ => mok_40
  · exact fun _ => mok_41
  · exact fun _ => mok_42
  · exact fun _ => mok_43
  · exact fun _ => mok_44
  · exact fun _ => mok_45
  · exact fun _ => mok_46
  · exact fun _ => mok_47
  · exact fun _ => mok_48
  · exact fun _ => mok_49
  · exact fun _ => mok_50
  · exact fun _ => mok_51
  · exact fun _ => mok_52
  · exact fun _ => mok_53
  · exact fun _ => mok_54
  · exact fun _ => mok_55
  · exact fun _ => mok_56
  · exact fun _ => mok_57
  · exact fun _ => mok_58
  · exact fun h => absurd h (by decide)
  · exact fun _ => mok_60
  · exact fun _ => mok_61
  · exact fun _ => mok_62
  · exact fun _ => mok_63
  · exact fun _ => mok_64
  · exact fun _ => mok_65
  · exact fun _ => mok_66
  · exact fun _ => mok_67
  · exact fun _ => mok_68
  · exact fun _ => mok_69
  · exact fun _ => mok_70
  · exact fun _ => mok_71
  · exact fun _ => mok_72
  · exact fun _ => mok_73
  · exact fun _ => mok_74
  · exact fun _ => mok_75
  · exact fun _ => mok_76
  · exact fun _ => mok_77
  · exact fun _ => mok_78
  · exact fun _ => mok_79
  · exact fun _ => mok_80
  · exact fun _ => mok_81
  · exact fun _ => mok_82
  · exact fun _ => mok_83
  · exact fun _ => mok_84
  · exact fun _ => mok_85
  · exact fun _ => mok_86
  · exact fun _ => mok_87
  · exact fun _ => mok_88
  · exact fun _ => mok_89
  · exact fun _ => mok_90
  · exact fun _ => mok_91
  · exact fun _ => mok_92
  · exact fun _ => mok_93
  · exact fun _ => mok_94
  · exact fun _ => mok_95
  · exact fun _ => mok_96
  · exact fun _ => mok_97
  · exact fun _ => mok_98
  · exact fun _ => mok_99
  · exact fun _ => mok_100
  · exact fun _ => mok_101
  · exact fun _ => mok_102
  · exact fun _ => mok_103
  · exact fun _ => mok_104
  · exact fun _ => mok_105
  · exact fun _ => mok_106
  · exact fun _ => mok_107
  · exact fun _ => mok_108
  · exact fun _ => mok_109
  · exact fun _ => mok_110
  · exact fun _ => mok_111
  · exact fun h => absurd h (by decide)
  · exact fun _ => mok_113
  · exact fun _ => mok_114
  · exact fun _ => mok_115
  · exact fun _ => mok_116
  · exact fun _ => mok_117
  · exact fun _ => mok_118
  · exact fun _ => mok_119
  · exact fun _ => mok_120
  · exact fun _ => mok_121
  · exact fun _ => mok_122
  · exact fun _ => mok_123
  · exact fun _ => mok_124
  · exact fun _ => mok_125
  · exact fun h => absurd h (by decide)
theorem bwm_0 : Cond.methodLink RX3 46 yX3_settle ∈ mmBW := bw1 (i := 126) (by decide +kernel) rfl
theorem bwm_1 : Cond.methodLink RX3 200 yX2_make ∈ mmBW := bw1 (i := 130) (by decide +kernel) rfl
theorem bwm_2 : Cond.methodLink RX2 34 yJ7_fill_53178 ∈ mmBW := bw1 (i := 134) (by decide +kernel) rfl
theorem bwm_3 : Cond.methodLink RX2 40 yX2_findLives ∈ mmBW := bw1 (i := 137) (by decide +kernel) rfl
theorem bwm_4 : Cond.methodLink RX2 66 yX1_used ∈ mmBW := bw1 (i := 141) (by decide +kernel) rfl
theorem bwm_5 : Cond.methodLink RX3 220 yX3_isPot ∈ mmBW := bw1 (i := 148) (by decide +kernel) rfl
theorem bwm_6 : Cond.methodLink RX2 48 yX2_addClashes ∈ mmBW := bw1 (i := 155) (by decide +kernel) rfl
theorem bwm_7 : Cond.methodLink RX2 57 yX2_takeIn ∈ mmBW := bw1 (i := 160) (by decide +kernel) rfl
theorem bwm_8 : Cond.methodLink RX2 78 yX2_addCost ∈ mmBW := bw1 (i := 164) (by decide +kernel) rfl
theorem bwm_9 : Cond.methodLink RX2 91 yX2_addPoured ∈ mmBW := bw1 (i := 168) (by decide +kernel) rfl
theorem bwm_10 : Cond.methodLink RX3 204 yX0_make ∈ mmBW := bw1 (i := 172) (by decide +kernel) rfl
theorem bwm_11 : Cond.methodLink RX0 28 yX0_putAside ∈ mmBW := bw1 (i := 176) (by decide +kernel) rfl
theorem bwm_12 : Cond.methodLink RX0 32 yJ7_fill_53178 ∈ mmBW := bw1 (i := 180) (by decide +kernel) rfl
theorem bwm_13 : Cond.methodLink RX0 51 yX0_firstEasy ∈ mmBW := bw1 (i := 181) (by decide +kernel) rfl
theorem bwm_14 : Cond.methodLink RX0 69 yJ6_bitCount_0f7a4 ∈ mmBW := bw1 (i := 185) (by decide +kernel) rfl
theorem bwm_15 : Cond.methodLink RX0 55 yX0_cheapest ∈ mmBW := bw1 (i := 191) (by decide +kernel) rfl
theorem bwm_16 : Cond.methodLink RX0 38 yX0_hangUp ∈ mmBW := bw1 (i := 196) (by decide +kernel) rfl
theorem bwm_17 : Cond.methodLink RX0 80 yX0_hookOfPartner ∈ mmBW := bw1 (i := 200) (by decide +kernel) rfl
theorem bwm_18 : Cond.methodLink RX0 87 yX0_isFree ∈ mmBW := bw1 (i := 204) (by decide +kernel) rfl
theorem bwm_19 : Cond.methodLink RX0 84 yX0_firstFree ∈ mmBW := bw1 (i := 208) (by decide +kernel) rfl
theorem bwm_20 : Cond.methodLink RL 105 yX3_crowd ∈ mmBW := bw1 (i := 237) (by decide +kernel) rfl
theorem bwm_21 : Cond.methodLink RX3 107 yJ6_bitCount_0f7a4 ∈ mmBW := bw2 (i := 1) (by decide +kernel) rfl
theorem bwm_22 : Cond.methodLink RL 112 yX3_fewest ∈ mmBW := bw2 (i := 5) (by decide +kernel) rfl
theorem bwm_23 : Cond.methodLink RX3 177 yX3_floorWith ∈ mmBW := bw2 (i := 9) (by decide +kernel) rfl
theorem bwm_24 : Cond.methodLink RL 116 yX3_advise ∈ mmBW := bw2 (i := 13) (by decide +kernel) rfl
theorem bwm_25 : Cond.methodLink RX3 180 yX3_floorCostWithout ∈ mmBW := bw2 (i := 17) (by decide +kernel) rfl
theorem bwm_26 : Cond.methodLink RX3 207 yX1_copy ∈ mmBW := bw2 (i := 21) (by decide +kernel) rfl
theorem bwm_27 : Cond.methodLink RX1 44 yX1_takeOver ∈ mmBW := bw2 (i := 25) (by decide +kernel) rfl
theorem bwm_28 : Cond.methodLink RX3 63 yX1_remove ∈ mmBW := bw2 (i := 29) (by decide +kernel) rfl
theorem bwm_29 : Cond.methodLink RX3 153 yX2_costOf ∈ mmBW := bw2 (i := 101) (by decide +kernel) rfl
theorem bwm_30 : Cond.methodLink RL 120 yX3_mean ∈ mmBW := bw2 (i := 105) (by decide +kernel) rfl
theorem bwm_31 : Cond.methodLink RL 125 yX3_digest ∈ mmBW := bw2 (i := 109) (by decide +kernel) rfl
theorem bwm_32 : Cond.methodLink RX3 185 yX3_count ∈ mmBW := bw2 (i := 114) (by decide +kernel) rfl
theorem bwm_33 : Cond.methodLink RX3 140 yX2_pairsOfClashes ∈ mmBW := bw2 (i := 118) (by decide +kernel) rfl
theorem bwm_34 : Cond.methodLink RX2 60 yJ6_bitCount_0f7a4 ∈ mmBW := bw2 (i := 122) (by decide +kernel) rfl
theorem bwm_35 : Cond.methodLink RX3 144 yX0_hooksInUse ∈ mmBW := bw2 (i := 123) (by decide +kernel) rfl
theorem bwm_36 : Cond.methodLink RX3 147 yX3_pourings ∈ mmBW := bw2 (i := 127) (by decide +kernel) rfl
theorem bwm_37 : Cond.methodLink RX3 150 yX3_pouringsSpared ∈ mmBW := bw2 (i := 131) (by decide +kernel) rfl
theorem bwm_38 : Cond.methodLink RX3 211 yX3_isSpared ∈ mmBW := bw2 (i := 135) (by decide +kernel) rfl
theorem bwm_39 : Cond.methodLink RX3 215 yX0_share ∈ mmBW := bw2 (i := 139) (by decide +kernel) rfl
theorem bwm_40 : Cond.methodLink RX3 156 yX3_weightsNotSpared ∈ mmBW := bw2 (i := 143) (by decide +kernel) rfl
theorem bwm_41 : Cond.methodLink RX3 188 yX3_digested ∈ mmBW := bw2 (i := 150) (by decide +kernel) rfl
theorem bwm_42 : Cond.methodLink RX3 192 yX3_deed ∈ mmBW := bw2 (i := 154) (by decide +kernel) rfl
theorem bwm_43 : Cond.methodLink RX3 84 yX3_requireDeed ∈ mmBW := bw2 (i := 158) (by decide +kernel) rfl
theorem bwm_44 : Cond.methodLink RX3 195 yX3_pot ∈ mmBW := bw2 (i := 164) (by decide +kernel) rfl
theorem bwm_45 : Cond.methodLink RX3 49 yX3_requirePot ∈ mmBW := bw2 (i := 168) (by decide +kernel) rfl
theorem bwm_46 : Cond.methodLink RX3 69 yX3_has ∈ mmBW := bw2 (i := 172) (by decide +kernel) rfl
theorem bwm_47 : Cond.methodLink RL 61 yL_cook ∈ mmBW := bw2 (i := 174) (by decide +kernel) rfl
theorem bwm_48 : Cond.methodLink RL 7 yX3_cook ∈ mmBW := bw2 (i := 180) (by decide +kernel) rfl
theorem bwm_49 : Cond.methodLink RX3 53 yX3_requirePotOrNone ∈ mmBW := bw2 (i := 184) (by decide +kernel) rfl
theorem bwm_50 : Cond.methodLink RX3 56 yX3_requireWeight ∈ mmBW := bw2 (i := 188) (by decide +kernel) rfl
theorem bwm_51 : Cond.methodLink RX3 59 yX1_add ∈ mmBW := bw2 (i := 207) (by decide +kernel) rfl
theorem bwm_52 : Cond.methodLink RL 71 yL_pour ∈ mmBW := bw2 (i := 227) (by decide +kernel) rfl
theorem bwm_53 : Cond.methodLink RL 19 yX3_pour ∈ mmBW := bw2 (i := 230) (by decide +kernel) rfl
theorem bwm_54 : Cond.methodLink RL 75 yL_drop ∈ mmBW := bw2 (i := 234) (by decide +kernel) rfl
theorem bwm_55 : Cond.methodLink RL 23 yX3_drop ∈ mmBW := bw2 (i := 237) (by decide +kernel) rfl
theorem bwm_56 : Cond.methodLink RL 79 yL_want ∈ mmBW := bw3 (i := 1) (by decide +kernel) rfl
theorem bwm_57 : Cond.methodLink RL 27 yX3_want ∈ mmBW := bw3 (i := 4) (by decide +kernel) rfl
theorem bwm_58 : Cond.methodLink RX3 73 yX3_bit ∈ mmBW := bw3 (i := 8) (by decide +kernel) rfl
theorem bwm_59 : Cond.methodLink RL 83 yL_setHooks ∈ mmBW := bw3 (i := 9) (by decide +kernel) rfl
theorem bwm_60 : Cond.methodLink RL 31 yX3_setHooks ∈ mmBW := bw3 (i := 12) (by decide +kernel) rfl
theorem bwm_61 : Cond.methodLink RL 86 yL_deed ∈ mmBW := bw3 (i := 17) (by decide +kernel) rfl
theorem bwm_62 : Cond.methodLink RL 34 yX3_deed ∈ mmBW := bw3 (i := 20) (by decide +kernel) rfl
theorem bwm_63 : Cond.methodLink RL 90 yL_lives ∈ mmBW := bw3 (i := 21) (by decide +kernel) rfl
theorem bwm_64 : Cond.methodLink RL 38 yX3_lives ∈ mmBW := bw3 (i := 24) (by decide +kernel) rfl
theorem bwm_65 : Cond.methodLink RL 93 yL_clash ∈ mmBW := bw3 (i := 28) (by decide +kernel) rfl
theorem bwm_66 : Cond.methodLink RL 42 yX3_clash ∈ mmBW := bw3 (i := 31) (by decide +kernel) rfl
theorem bwm_67 : Cond.methodLink RL 96 yL_pot ∈ mmBW := bw3 (i := 35) (by decide +kernel) rfl
theorem bwm_68 : Cond.methodLink RL 45 yX3_pot ∈ mmBW := bw3 (i := 38) (by decide +kernel) rfl
theorem bwm_69 : Cond.methodLink RL 99 yL_count ∈ mmBW := bw3 (i := 39) (by decide +kernel) rfl
theorem bwm_70 : Cond.methodLink RL 48 yX3_count ∈ mmBW := bw3 (i := 42) (by decide +kernel) rfl
theorem bwm_71 : Cond.methodLink RL 102 yL_hangs ∈ mmBW := bw3 (i := 43) (by decide +kernel) rfl
theorem bwm_72 : Cond.methodLink RL 51 yX3_hangs ∈ mmBW := bw3 (i := 46) (by decide +kernel) rfl
theorem bwm_73 : Cond.methodLink RL 109 yL_would ∈ mmBW := bw3 (i := 51) (by decide +kernel) rfl
theorem bwm_74 : Cond.methodLink RL 54 yX3_would ∈ mmBW := bw3 (i := 54) (by decide +kernel) rfl
theorem bwm_75 : Cond.methodLink RL 67 yX4_thrown ∈ mmBW := bw3 (i := 120) (by decide +kernel) rfl
theorem bwm_76 : Cond.methodLink RL 66 yX4_cook ∈ mmBW := bw3 (i := 124) (by decide +kernel) rfl
theorem bwm_77 : Cond.methodLink RX4 122 yX4_isPot ∈ mmBW := bw3 (i := 128) (by decide +kernel) rfl
theorem bwm_78 : Cond.methodLink RX4 53 yX4_isIn ∈ mmBW := bw3 (i := 131) (by decide +kernel) rfl
theorem bwm_79 : Cond.methodLink RX4 125 yX4_isPotOrNone ∈ mmBW := bw3 (i := 134) (by decide +kernel) rfl
theorem bwm_80 : Cond.methodLink RX4 128 yX4_add_ ∈ mmBW := bw3 (i := 137) (by decide +kernel) rfl
theorem bwm_81 : Cond.methodLink RX4 119 yX4_no ∈ mmBW := bw3 (i := 141) (by decide +kernel) rfl
theorem bwm_82 : Cond.methodLink RL 74 yX4_pour ∈ mmBW := bw3 (i := 145) (by decide +kernel) rfl
theorem bwm_83 : Cond.methodLink RL 78 yX4_drop ∈ mmBW := bw3 (i := 149) (by decide +kernel) rfl
theorem bwm_84 : Cond.methodLink RX4 131 yX4_isDeed ∈ mmBW := bw3 (i := 153) (by decide +kernel) rfl
theorem bwm_85 : Cond.methodLink RX4 134 yX4_moveUp ∈ mmBW := bw3 (i := 157) (by decide +kernel) rfl
theorem bwm_86 : Cond.methodLink RL 82 yX4_want ∈ mmBW := bw3 (i := 160) (by decide +kernel) rfl
theorem bwm_87 : Cond.methodLink RX4 76 yX4_has ∈ mmBW := bw3 (i := 164) (by decide +kernel) rfl
theorem bwm_88 : Cond.methodLink RX4 60 yX4_bit ∈ mmBW := bw3 (i := 167) (by decide +kernel) rfl
theorem bwm_89 : Cond.methodLink RL 85 yX4_setHooks ∈ mmBW := bw3 (i := 170) (by decide +kernel) rfl
theorem bwm_90 : Cond.methodLink RL 89 yX4_deed ∈ mmBW := bw3 (i := 174) (by decide +kernel) rfl
theorem bwm_91 : Cond.methodLink RX4 80 yX4_live ∈ mmBW := bw3 (i := 178) (by decide +kernel) rfl
theorem bwm_92 : Cond.methodLink RX4 70 yX4_uses ∈ mmBW := bw3 (i := 182) (by decide +kernel) rfl
theorem bwm_93 : Cond.methodLink RX4 141 yX4_deedTold ∈ mmBW := bw3 (i := 186) (by decide +kernel) rfl
theorem bwm_94 : Cond.methodLink RX4 90 yJ6_bitCount_0f7a4 ∈ mmBW := bw3 (i := 190) (by decide +kernel) rfl
theorem bwm_95 : Cond.methodLink RX4 138 yX4_aheadOf ∈ mmBW := bw3 (i := 191) (by decide +kernel) rfl
theorem bwm_96 : Cond.methodLink RL 92 yX4_lives ∈ mmBW := bw3 (i := 195) (by decide +kernel) rfl
theorem bwm_97 : Cond.methodLink RL 95 yX4_clash ∈ mmBW := bw3 (i := 199) (by decide +kernel) rfl
theorem bwm_98 : Cond.methodLink RX4 108 yX4_look ∈ mmBW := bw3 (i := 203) (by decide +kernel) rfl
theorem bwm_99 : Cond.methodLink RX4 83 yX4_clashAll ∈ mmBW := bw3 (i := 207) (by decide +kernel) rfl
theorem bwm_100 : Cond.methodLink RX4 87 yX4_add ∈ mmBW := bw3 (i := 211) (by decide +kernel) rfl
theorem bwm_101 : Cond.methodLink RL 98 yX4_pot ∈ mmBW := bw3 (i := 215) (by decide +kernel) rfl
theorem bwm_102 : Cond.methodLink RX4 144 yX4_lookAll ∈ mmBW := bw3 (i := 219) (by decide +kernel) rfl
theorem bwm_103 : Cond.methodLink RX4 111 yX4_hang ∈ mmBW := bw3 (i := 223) (by decide +kernel) rfl
theorem bwm_104 : Cond.methodLink RX4 101 yX4_next ∈ mmBW := bw3 (i := 227) (by decide +kernel) rfl
theorem bwm_105 : Cond.methodLink RX4 105 yX4_hookFor ∈ mmBW := bw3 (i := 231) (by decide +kernel) rfl
theorem bwm_106 : Cond.methodLink RX4 95 yX4_isPoured ∈ mmBW := bw3 (i := 235) (by decide +kernel) rfl
theorem bwm_107 : Cond.methodLink RX4 98 yX4_isFree ∈ mmBW := bw3 (i := 239) (by decide +kernel) rfl
theorem bwm_108 : Cond.methodLink RX4 147 yX4_potTold ∈ mmBW := bw4 (i := 3) (by decide +kernel) rfl
theorem bwm_109 : Cond.methodLink RX4 115 yX4_isFloor ∈ mmBW := bw4 (i := 7) (by decide +kernel) rfl
theorem bwm_110 : Cond.methodLink RL 101 yX4_count ∈ mmBW := bw4 (i := 11) (by decide +kernel) rfl
theorem bwm_111 : Cond.methodLink RX4 176 yX4_counted ∈ mmBW := bw4 (i := 15) (by decide +kernel) rfl
theorem bwm_112 : Cond.methodLink RX4 156 yX4_pairs ∈ mmBW := bw4 (i := 19) (by decide +kernel) rfl
theorem bwm_113 : Cond.methodLink RX4 160 yX4_floor ∈ mmBW := bw4 (i := 23) (by decide +kernel) rfl
theorem bwm_114 : Cond.methodLink RX4 163 yX4_usedHooks ∈ mmBW := bw4 (i := 27) (by decide +kernel) rfl
theorem bwm_115 : Cond.methodLink RX4 150 yX4_hangAt ∈ mmBW := bw4 (i := 31) (by decide +kernel) rfl
theorem bwm_116 : Cond.methodLink RX4 166 yX4_pourings ∈ mmBW := bw4 (i := 35) (by decide +kernel) rfl
theorem bwm_117 : Cond.methodLink RX4 153 yX4_isSpared ∈ mmBW := bw4 (i := 39) (by decide +kernel) rfl
theorem bwm_118 : Cond.methodLink RX4 170 yX4_floorCost ∈ mmBW := bw4 (i := 43) (by decide +kernel) rfl
theorem bwm_119 : Cond.methodLink RX4 173 yX4_weights ∈ mmBW := bw4 (i := 47) (by decide +kernel) rfl
theorem bwm_120 : Cond.methodLink RL 104 yX4_hangs ∈ mmBW := bw4 (i := 51) (by decide +kernel) rfl
theorem bwm_121 : Cond.methodLink RL 108 yX4_crowd ∈ mmBW := bw4 (i := 55) (by decide +kernel) rfl
theorem bwm_122 : Cond.methodLink RL 111 yX4_would ∈ mmBW := bw4 (i := 60) (by decide +kernel) rfl
theorem bwm_123 : Cond.methodLink RL 115 yX4_fewest ∈ mmBW := bw4 (i := 64) (by decide +kernel) rfl
theorem bwm_124 : Cond.methodLink RL 119 yX4_advise ∈ mmBW := bw4 (i := 68) (by decide +kernel) rfl
theorem bwm_125 : Cond.methodLink RL 124 yX4_mean ∈ mmBW := bw4 (i := 72) (by decide +kernel) rfl
theorem bwm_126 : Cond.methodLink RL 129 yX4_digest ∈ mmBW := bw4 (i := 76) (by decide +kernel) rfl
def mmLk (q : Nat × Nat × Nat) : Prop := ∃ (own : String) (r : mmRow), mmOwn[q.1]? = some own ∧ mmP[q.2.2]? = some r ∧ Cond.methodLink own q.2.1 (mmNm r) ∈ mmBW
theorem mmLk_all : ∀ q ∈ mmML, mmLk q := by
  intro q hq
  simp only [mmML, List.mem_cons, List.not_mem_nil, or_false] at hq
  rcases hq with rfl | rfl | rfl | rfl | rfl | rfl | rfl | rfl | rfl | rfl | rfl | rfl | rfl | rfl | rfl | rfl | rfl | rfl | rfl | rfl | rfl | rfl | rfl | rfl | rfl | rfl | rfl | rfl | rfl | rfl | rfl | rfl | rfl | rfl | rfl | rfl | rfl | rfl | rfl | rfl | rfl | rfl | rfl | rfl | rfl | rfl | rfl | rfl | rfl | rfl | rfl | rfl | rfl | rfl | rfl | rfl | rfl | rfl | rfl | rfl | rfl | rfl | rfl | rfl | rfl | rfl | rfl | rfl | rfl | rfl | rfl | rfl | rfl | rfl | rfl | rfl | rfl | rfl | rfl | rfl | rfl | rfl | rfl | rfl | rfl | rfl | rfl | rfl | rfl | rfl | rfl | rfl | rfl | rfl | rfl | rfl | rfl | rfl | rfl | rfl | rfl | rfl | rfl | rfl | rfl | rfl | rfl | rfl | rfl | rfl | rfl | rfl | rfl | rfl | rfl | rfl | rfl | rfl | rfl | rfl | rfl | rfl | rfl | rfl | rfl | rfl | rfl
  · exact ⟨_, _, rfl, rfl, bwm_0⟩
  · exact ⟨_, _, rfl, rfl, bwm_1⟩
  · exact ⟨_, _, rfl, rfl, bwm_2⟩
  · exact ⟨_, _, rfl, rfl, bwm_3⟩
  · exact ⟨_, _, rfl, rfl, bwm_4⟩
  · exact ⟨_, _, rfl, rfl, bwm_5⟩
  · exact ⟨_, _, rfl, rfl, bwm_6⟩
  · exact ⟨_, _, rfl, rfl, bwm_7⟩
  · exact ⟨_, _, rfl, rfl, bwm_8⟩
  · exact ⟨_, _, rfl, rfl, bwm_9⟩
  · exact ⟨_, _, rfl, rfl, bwm_10⟩
  · exact ⟨_, _, rfl, rfl, bwm_11⟩
  · exact ⟨_, _, rfl, rfl, bwm_12⟩
  · exact ⟨_, _, rfl, rfl, bwm_13⟩
  · exact ⟨_, _, rfl, rfl, bwm_14⟩
  · exact ⟨_, _, rfl, rfl, bwm_15⟩
  · exact ⟨_, _, rfl, rfl, bwm_16⟩
  · exact ⟨_, _, rfl, rfl, bwm_17⟩
  · exact ⟨_, _, rfl, rfl, bwm_18⟩
  · exact ⟨_, _, rfl, rfl, bwm_19⟩
  · exact ⟨_, _, rfl, rfl, bwm_20⟩
  · exact ⟨_, _, rfl, rfl, bwm_21⟩
  · exact ⟨_, _, rfl, rfl, bwm_22⟩
  · exact ⟨_, _, rfl, rfl, bwm_23⟩
  · exact ⟨_, _, rfl, rfl, bwm_24⟩
  · exact ⟨_, _, rfl, rfl, bwm_25⟩
  · exact ⟨_, _, rfl, rfl, bwm_26⟩
  · exact ⟨_, _, rfl, rfl, bwm_27⟩
  · exact ⟨_, _, rfl, rfl, bwm_28⟩
  · exact ⟨_, _, rfl, rfl, bwm_29⟩
  · exact ⟨_, _, rfl, rfl, bwm_30⟩
  · exact ⟨_, _, rfl, rfl, bwm_31⟩
  · exact ⟨_, _, rfl, rfl, bwm_32⟩
  · exact ⟨_, _, rfl, rfl, bwm_33⟩
  · exact ⟨_, _, rfl, rfl, bwm_34⟩
  · exact ⟨_, _, rfl, rfl, bwm_35⟩
  · exact ⟨_, _, rfl, rfl, bwm_36⟩
  · exact ⟨_, _, rfl, rfl, bwm_37⟩
  · exact ⟨_, _, rfl, rfl, bwm_38⟩
  · exact ⟨_, _, rfl, rfl, bwm_39⟩
  · exact ⟨_, _, rfl, rfl, bwm_40⟩
  · exact ⟨_, _, rfl, rfl, bwm_41⟩
  · exact ⟨_, _, rfl, rfl, bwm_42⟩
  · exact ⟨_, _, rfl, rfl, bwm_43⟩
  · exact ⟨_, _, rfl, rfl, bwm_44⟩
  · exact ⟨_, _, rfl, rfl, bwm_45⟩
  · exact ⟨_, _, rfl, rfl, bwm_46⟩
  · exact ⟨_, _, rfl, rfl, bwm_47⟩
  · exact ⟨_, _, rfl, rfl, bwm_48⟩
  · exact ⟨_, _, rfl, rfl, bwm_49⟩
  · exact ⟨_, _, rfl, rfl, bwm_50⟩
  · exact ⟨_, _, rfl, rfl, bwm_51⟩
  · exact ⟨_, _, rfl, rfl, bwm_52⟩
  · exact ⟨_, _, rfl, rfl, bwm_53⟩
  · exact ⟨_, _, rfl, rfl, bwm_54⟩
  · exact ⟨_, _, rfl, rfl, bwm_55⟩
  · exact ⟨_, _, rfl, rfl, bwm_56⟩
  · exact ⟨_, _, rfl, rfl, bwm_57⟩
  · exact ⟨_, _, rfl, rfl, bwm_58⟩
  · exact ⟨_, _, rfl, rfl, bwm_59⟩
  · exact ⟨_, _, rfl, rfl, bwm_60⟩
  · exact ⟨_, _, rfl, rfl, bwm_61⟩
  · exact ⟨_, _, rfl, rfl, bwm_62⟩
  · exact ⟨_, _, rfl, rfl, bwm_63⟩
  · exact ⟨_, _, rfl, rfl, bwm_64⟩
  · exact ⟨_, _, rfl, rfl, bwm_65⟩
  · exact ⟨_, _, rfl, rfl, bwm_66⟩
  · exact ⟨_, _, rfl, rfl, bwm_67⟩
  · exact ⟨_, _, rfl, rfl, bwm_68⟩
  · exact ⟨_, _, rfl, rfl, bwm_69⟩
  · exact ⟨_, _, rfl, rfl, bwm_70⟩
  · exact ⟨_, _, rfl, rfl, bwm_71⟩
  · exact ⟨_, _, rfl, rfl, bwm_72⟩
  · exact ⟨_, _, rfl, rfl, bwm_73⟩
  · exact ⟨_, _, rfl, rfl, bwm_74⟩
  · exact ⟨_, _, rfl, rfl, bwm_75⟩
  · exact ⟨_, _, rfl, rfl, bwm_76⟩
  · exact ⟨_, _, rfl, rfl, bwm_77⟩
  · exact ⟨_, _, rfl, rfl, bwm_78⟩
  · exact ⟨_, _, rfl, rfl, bwm_79⟩
  · exact ⟨_, _, rfl, rfl, bwm_80⟩
  · exact ⟨_, _, rfl, rfl, bwm_81⟩
  · exact ⟨_, _, rfl, rfl, bwm_82⟩
  · exact ⟨_, _, rfl, rfl, bwm_83⟩
  · exact ⟨_, _, rfl, rfl, bwm_84⟩
  · exact ⟨_, _, rfl, rfl, bwm_85⟩
  · exact ⟨_, _, rfl, rfl, bwm_86⟩
  · exact ⟨_, _, rfl, rfl, bwm_87⟩
  · exact ⟨_, _, rfl, rfl, bwm_88⟩
  · exact ⟨_, _, rfl, rfl, bwm_89⟩
  · exact ⟨_, _, rfl, rfl, bwm_90⟩
  · exact ⟨_, _, rfl, rfl, bwm_91⟩
  · exact ⟨_, _, rfl, rfl, bwm_92⟩
  · exact ⟨_, _, rfl, rfl, bwm_93⟩
  · exact ⟨_, _, rfl, rfl, bwm_94⟩
  · exact ⟨_, _, rfl, rfl, bwm_95⟩
  · exact ⟨_, _, rfl, rfl, bwm_96⟩
  · exact ⟨_, _, rfl, rfl, bwm_97⟩
  · exact ⟨_, _, rfl, rfl, bwm_98⟩
  · exact ⟨_, _, rfl, rfl, bwm_99⟩
  · exact ⟨_, _, rfl, rfl, bwm_100⟩
  · exact ⟨_, _, rfl, rfl, bwm_101⟩
  · exact ⟨_, _, rfl, rfl, bwm_102⟩
  · exact ⟨_, _, rfl, rfl, bwm_103⟩
  · exact ⟨_, _, rfl, rfl, bwm_104⟩
  · exact ⟨_, _, rfl, rfl, bwm_105⟩
  · exact ⟨_, _, rfl, rfl, bwm_106⟩
  · exact ⟨_, _, rfl, rfl, bwm_107⟩
  · exact ⟨_, _, rfl, rfl, bwm_108⟩
  · exact ⟨_, _, rfl, rfl, bwm_109⟩
  · exact ⟨_, _, rfl, rfl, bwm_110⟩
  · exact ⟨_, _, rfl, rfl, bwm_111⟩
  · exact ⟨_, _, rfl, rfl, bwm_112⟩
  · exact ⟨_, _, rfl, rfl, bwm_113⟩
  · exact ⟨_, _, rfl, rfl, bwm_114⟩
  · exact ⟨_, _, rfl, rfl, bwm_115⟩
  · exact ⟨_, _, rfl, rfl, bwm_116⟩
  · exact ⟨_, _, rfl, rfl, bwm_117⟩
  · exact ⟨_, _, rfl, rfl, bwm_118⟩
  · exact ⟨_, _, rfl, rfl, bwm_119⟩
  · exact ⟨_, _, rfl, rfl, bwm_120⟩
  · exact ⟨_, _, rfl, rfl, bwm_121⟩
  · exact ⟨_, _, rfl, rfl, bwm_122⟩
  · exact ⟨_, _, rfl, rfl, bwm_123⟩
  · exact ⟨_, _, rfl, rfl, bwm_124⟩
  · exact ⟨_, _, rfl, rfl, bwm_125⟩
  · exact ⟨_, _, rfl, rfl, bwm_126⟩
/-- the words of nest mates' private methods: they are no good words, and ride in the contracts -/
def mmNst : List (String × Nat × MethodName × String) := [(RX1, 48, yX3_bit, RX3), (RX2, 72, yX3_bit, RX3), (RX2, 44, yX3_has, RX3), (RX2, 94, yX3_isPot, RX3), (RX0, 62, yX3_has, RX3), (RX0, 42, yX3_isPot, RX3), (RX0, 58, yX3_bit, RX3)]
def mmLn2 (q : Nat × Nat × Nat) : Prop := ∃ (own host : String) (r : mmRow), mmOwn[q.1]? = some own ∧ mmP[q.2.2]? = some r ∧ (own, q.2.1, mmNm r, host) ∈ mmNst
theorem mmLn2_all : ∀ q ∈ mmNL, mmLn2 q := by
  intro q hq
  simp only [mmNL, List.mem_cons, List.not_mem_nil, or_false] at hq
  rcases hq with rfl | rfl | rfl | rfl | rfl | rfl | rfl
  · exact ⟨_, _, _, rfl, rfl, List.mem_of_getElem? (i := 0) rfl⟩
  · exact ⟨_, _, _, rfl, rfl, List.mem_of_getElem? (i := 1) rfl⟩
  · exact ⟨_, _, _, rfl, rfl, List.mem_of_getElem? (i := 2) rfl⟩
  · exact ⟨_, _, _, rfl, rfl, List.mem_of_getElem? (i := 3) rfl⟩
  · exact ⟨_, _, _, rfl, rfl, List.mem_of_getElem? (i := 4) rfl⟩
  · exact ⟨_, _, _, rfl, rfl, List.mem_of_getElem? (i := 5) rfl⟩
  · exact ⟨_, _, _, rfl, rfl, List.mem_of_getElem? (i := 6) rfl⟩
theorem tt1 {i : Nat} {w : Cond} (h0 : tables_1_1[i]? = some w) : w ∈ lw_tbl := List.mem_append_right _ (have h := List.mem_of_getElem? h0; List.mem_append_left _ h)
theorem tt2 {i : Nat} {w : Cond} (h0 : tables_1_2[i]? = some w) : w ∈ lw_tbl := List.mem_append_right _ (have h := List.mem_of_getElem? h0; List.mem_append_right _ (List.mem_append_left _ h))
theorem tt3 {i : Nat} {w : Cond} (h0 : tables_1_3[i]? = some w) : w ∈ lw_tbl := List.mem_append_right _ (have h := List.mem_of_getElem? h0; List.mem_append_right _ (List.mem_append_right _ (List.mem_append_left _ h)))
theorem tt4 {i : Nat} {w : Cond} (h0 : tables_1_4[i]? = some w) : w ∈ lw_tbl := List.mem_append_right _ (have h := List.mem_of_getElem? h0; List.mem_append_right _ (List.mem_append_right _ (List.mem_append_right _ h)))
theorem mmNst_tbl : ∀ q ∈ mmNst, Cond.methodLinkNest q.1 q.2.1 q.2.2.1 q.2.2.2 ∈ lw_tbl := by
  intro q hq
  simp only [mmNst, List.mem_cons, List.not_mem_nil, or_false] at hq
  rcases hq with rfl | rfl | rfl | rfl | rfl | rfl | rfl
  · exact tt1 (i := 145) (by decide +kernel)
  · exact tt1 (i := 151) (by decide +kernel)
  · exact tt1 (i := 152) (by decide +kernel)
  · exact tt1 (i := 159) (by decide +kernel)
  · exact tt1 (i := 184) (by decide +kernel)
  · exact tt1 (i := 194) (by decide +kernel)
  · exact tt1 (i := 195) (by decide +kernel)
abbrev mmCls : List vw_C := [(RX0, TX0, 5), (RX1, TX1, 6), (RX2, TX2, 7), (RX3, TX3, 8), (RX4, TX4, 18)]
theorem bwf_0 : Cond.fieldLink RX1 9 (TX1 0).1 (TX1 0).2.1 (TX1 0).2.2.1 ∈ mmBW := bw1 (i := 29) (by decide +kernel) rfl
theorem bwf_1 : Cond.fieldLink RX2 69 (TX1 0).1 (TX1 0).2.1 (TX1 0).2.2.1 ∈ mmBW := bw1 (i := 30) (by decide +kernel) rfl
theorem bwf_2 : Cond.fieldLink RX3 87 (TX1 0).1 (TX1 0).2.1 (TX1 0).2.2.1 ∈ mmBW := bw1 (i := 31) (by decide +kernel) rfl
theorem bwf_3 : Cond.fieldLink RX1 15 (TX1 1).1 (TX1 1).2.1 (TX1 1).2.2.1 ∈ mmBW := bw1 (i := 32) (by decide +kernel) rfl
theorem bwf_4 : Cond.fieldLink RX2 81 (TX1 1).1 (TX1 1).2.1 (TX1 1).2.2.1 ∈ mmBW := bw1 (i := 33) (by decide +kernel) rfl
theorem bwf_5 : Cond.fieldLink RX3 91 (TX1 1).1 (TX1 1).2.1 (TX1 1).2.2.1 ∈ mmBW := bw1 (i := 34) (by decide +kernel) rfl
theorem bwf_6 : Cond.fieldLink RX1 18 (TX1 2).1 (TX1 2).2.1 (TX1 2).2.2.1 ∈ mmBW := bw1 (i := 35) (by decide +kernel) rfl
theorem bwf_7 : Cond.fieldLink RX2 84 (TX1 2).1 (TX1 2).2.1 (TX1 2).2.2.1 ∈ mmBW := bw1 (i := 36) (by decide +kernel) rfl
theorem bwf_8 : Cond.fieldLink RX3 94 (TX1 2).1 (TX1 2).2.1 (TX1 2).2.2.1 ∈ mmBW := bw1 (i := 37) (by decide +kernel) rfl
theorem bwf_9 : Cond.fieldLink RX1 21 (TX1 3).1 (TX1 3).2.1 (TX1 3).2.2.1 ∈ mmBW := bw1 (i := 38) (by decide +kernel) rfl
theorem bwf_10 : Cond.fieldLink RX2 75 (TX1 3).1 (TX1 3).2.1 (TX1 3).2.2.1 ∈ mmBW := bw1 (i := 39) (by decide +kernel) rfl
theorem bwf_11 : Cond.fieldLink RX3 97 (TX1 3).1 (TX1 3).2.1 (TX1 3).2.2.1 ∈ mmBW := bw1 (i := 40) (by decide +kernel) rfl
theorem bwf_12 : Cond.fieldLink RX1 24 (TX1 4).1 (TX1 4).2.1 (TX1 4).2.2.1 ∈ mmBW := bw1 (i := 41) (by decide +kernel) rfl
theorem bwf_13 : Cond.fieldLink RX2 87 (TX1 4).1 (TX1 4).2.1 (TX1 4).2.2.1 ∈ mmBW := bw1 (i := 42) (by decide +kernel) rfl
theorem bwf_14 : Cond.fieldLink RX3 100 (TX1 4).1 (TX1 4).2.1 (TX1 4).2.2.1 ∈ mmBW := bw1 (i := 43) (by decide +kernel) rfl
theorem bwf_15 : Cond.fieldLink RX1 28 (TX1 5).1 (TX1 5).2.1 (TX1 5).2.2.1 ∈ mmBW := bw1 (i := 44) (by decide +kernel) rfl
theorem bwf_16 : Cond.fieldLink RX2 52 (TX1 5).1 (TX1 5).2.1 (TX1 5).2.2.1 ∈ mmBW := bw1 (i := 45) (by decide +kernel) rfl
theorem bwf_17 : Cond.fieldLink RX3 66 (TX1 5).1 (TX1 5).2.1 (TX1 5).2.2.1 ∈ mmBW := bw1 (i := 46) (by decide +kernel) rfl
theorem bwf_18 : Cond.fieldLink RX2 9 (TX2 0).1 (TX2 0).2.1 (TX2 0).2.2.1 ∈ mmBW := bw1 (i := 68) (by decide +kernel) rfl
theorem bwf_19 : Cond.fieldLink RX3 104 (TX2 0).1 (TX2 0).2.1 (TX2 0).2.2.1 ∈ mmBW := bw1 (i := 69) (by decide +kernel) rfl
theorem bwf_20 : Cond.fieldLink RX2 15 (TX2 1).1 (TX2 1).2.1 (TX2 1).2.2.1 ∈ mmBW := bw1 (i := 70) (by decide +kernel) rfl
theorem bwf_21 : Cond.fieldLink RX3 112 (TX2 1).1 (TX2 1).2.1 (TX2 1).2.2.1 ∈ mmBW := bw1 (i := 71) (by decide +kernel) rfl
theorem bwf_22 : Cond.fieldLink RX2 18 (TX2 2).1 (TX2 2).2.1 (TX2 2).2.2.1 ∈ mmBW := bw1 (i := 72) (by decide +kernel) rfl
theorem bwf_23 : Cond.fieldLink RX0 66 (TX2 2).1 (TX2 2).2.1 (TX2 2).2.2.1 ∈ mmBW := bw1 (i := 73) (by decide +kernel) rfl
theorem bwf_24 : Cond.fieldLink RX3 120 (TX2 2).1 (TX2 2).2.1 (TX2 2).2.2.1 ∈ mmBW := bw1 (i := 74) (by decide +kernel) rfl
theorem bwf_25 : Cond.fieldLink RX2 21 (TX2 3).1 (TX2 3).2.1 (TX2 3).2.2.1 ∈ mmBW := bw1 (i := 75) (by decide +kernel) rfl
theorem bwf_26 : Cond.fieldLink RX0 77 (TX2 3).1 (TX2 3).2.1 (TX2 3).2.2.1 ∈ mmBW := bw1 (i := 76) (by decide +kernel) rfl
theorem bwf_27 : Cond.fieldLink RX2 24 (TX2 4).1 (TX2 4).2.1 (TX2 4).2.2.1 ∈ mmBW := bw1 (i := 77) (by decide +kernel) rfl
theorem bwf_28 : Cond.fieldLink RX0 74 (TX2 4).1 (TX2 4).2.1 (TX2 4).2.2.1 ∈ mmBW := bw1 (i := 78) (by decide +kernel) rfl
theorem bwf_29 : Cond.fieldLink RX3 126 (TX2 4).1 (TX2 4).2.1 (TX2 4).2.2.1 ∈ mmBW := bw1 (i := 79) (by decide +kernel) rfl
theorem bwf_30 : Cond.fieldLink RX2 27 (TX2 5).1 (TX2 5).2.1 (TX2 5).2.2.1 ∈ mmBW := bw1 (i := 80) (by decide +kernel) rfl
theorem bwf_31 : Cond.fieldLink RX3 166 (TX2 5).1 (TX2 5).2.1 (TX2 5).2.2.1 ∈ mmBW := bw1 (i := 81) (by decide +kernel) rfl
theorem bwf_32 : Cond.fieldLink RX2 31 (TX2 6).1 (TX2 6).2.1 (TX2 6).2.2.1 ∈ mmBW := bw1 (i := 82) (by decide +kernel) rfl
theorem bwf_33 : Cond.fieldLink RX0 46 (TX2 6).1 (TX2 6).2.1 (TX2 6).2.2.1 ∈ mmBW := bw1 (i := 83) (by decide +kernel) rfl
theorem bwf_34 : Cond.fieldLink RX3 123 (TX2 6).1 (TX2 6).2.1 (TX2 6).2.2.1 ∈ mmBW := bw1 (i := 84) (by decide +kernel) rfl
theorem bwf_35 : Cond.fieldLink RX0 9 (TX0 0).1 (TX0 0).2.1 (TX0 0).2.2.1 ∈ mmBW := bw1 (i := 106) (by decide +kernel) rfl
theorem bwf_36 : Cond.fieldLink RX3 132 (TX0 0).1 (TX0 0).2.1 (TX0 0).2.2.1 ∈ mmBW := bw1 (i := 107) (by decide +kernel) rfl
theorem bwf_37 : Cond.fieldLink RX0 15 (TX0 1).1 (TX0 1).2.1 (TX0 1).2.2.1 ∈ mmBW := bw1 (i := 108) (by decide +kernel) rfl
theorem bwf_38 : Cond.fieldLink RX3 129 (TX0 1).1 (TX0 1).2.1 (TX0 1).2.2.1 ∈ mmBW := bw1 (i := 109) (by decide +kernel) rfl
theorem bwf_39 : Cond.fieldLink RX0 18 (TX0 2).1 (TX0 2).2.1 (TX0 2).2.2.1 ∈ mmBW := bw1 (i := 110) (by decide +kernel) rfl
theorem bwf_40 : Cond.fieldLink RX3 163 (TX0 2).1 (TX0 2).2.1 (TX0 2).2.2.1 ∈ mmBW := bw1 (i := 111) (by decide +kernel) rfl
theorem bwf_41 : Cond.fieldLink RX0 21 (TX0 3).1 (TX0 3).2.1 (TX0 3).2.2.1 ∈ mmBW := bw1 (i := 112) (by decide +kernel) rfl
theorem bwf_42 : Cond.fieldLink RX0 24 (TX0 4).1 (TX0 4).2.1 (TX0 4).2.2.1 ∈ mmBW := bw1 (i := 113) (by decide +kernel) rfl
theorem bwf_43 : Cond.fieldLink RX3 135 (TX0 4).1 (TX0 4).2.1 (TX0 4).2.2.1 ∈ mmBW := bw1 (i := 114) (by decide +kernel) rfl
theorem bwf_44 : Cond.fieldLink RX3 10 (TX3 0).1 (TX3 0).2.1 (TX3 0).2.2.1 ∈ mmBW := bw1 (i := 212) (by decide +kernel) rfl
theorem bwf_45 : Cond.fieldLink RX3 19 (TX3 1).1 (TX3 1).2.1 (TX3 1).2.2.1 ∈ mmBW := bw1 (i := 213) (by decide +kernel) rfl
theorem bwf_46 : Cond.fieldLink RX3 26 (TX3 2).1 (TX3 2).2.1 (TX3 2).2.2.1 ∈ mmBW := bw1 (i := 214) (by decide +kernel) rfl
theorem bwf_47 : Cond.fieldLink RX3 30 (TX3 3).1 (TX3 3).2.1 (TX3 3).2.2.1 ∈ mmBW := bw1 (i := 215) (by decide +kernel) rfl
theorem bwf_48 : Cond.fieldLink RX3 33 (TX3 4).1 (TX3 4).2.1 (TX3 4).2.2.1 ∈ mmBW := bw1 (i := 216) (by decide +kernel) rfl
theorem bwf_49 : Cond.fieldLink RX3 36 (TX3 5).1 (TX3 5).2.1 (TX3 5).2.2.1 ∈ mmBW := bw1 (i := 217) (by decide +kernel) rfl
theorem bwf_50 : Cond.fieldLink RX3 39 (TX3 6).1 (TX3 6).2.1 (TX3 6).2.2.1 ∈ mmBW := bw1 (i := 218) (by decide +kernel) rfl
theorem bwf_51 : Cond.fieldLink RX3 43 (TX3 7).1 (TX3 7).2.1 (TX3 7).2.2.1 ∈ mmBW := bw1 (i := 219) (by decide +kernel) rfl
theorem bwf_52 : Cond.fieldLink RX4 50 (TX4 0).1 (TX4 0).2.1 (TX4 0).2.2.1 ∈ mmBW := bw3 (i := 65) (by decide +kernel) rfl
theorem bwf_53 : Cond.fieldLink RX4 7 (TX4 1).1 (TX4 1).2.1 (TX4 1).2.2.1 ∈ mmBW := bw3 (i := 66) (by decide +kernel) rfl
theorem bwf_54 : Cond.fieldLink RX4 64 (TX4 2).1 (TX4 2).2.1 (TX4 2).2.2.1 ∈ mmBW := bw3 (i := 67) (by decide +kernel) rfl
theorem bwf_55 : Cond.fieldLink RX4 57 (TX4 3).1 (TX4 3).2.1 (TX4 3).2.2.1 ∈ mmBW := bw3 (i := 68) (by decide +kernel) rfl
theorem bwf_56 : Cond.fieldLink RX4 13 (TX4 4).1 (TX4 4).2.1 (TX4 4).2.2.1 ∈ mmBW := bw3 (i := 69) (by decide +kernel) rfl
theorem bwf_57 : Cond.fieldLink RX4 17 (TX4 5).1 (TX4 5).2.1 (TX4 5).2.2.1 ∈ mmBW := bw3 (i := 70) (by decide +kernel) rfl
theorem bwf_58 : Cond.fieldLink RX4 20 (TX4 6).1 (TX4 6).2.1 (TX4 6).2.2.1 ∈ mmBW := bw3 (i := 71) (by decide +kernel) rfl
theorem bwf_59 : Cond.fieldLink RX4 23 (TX4 7).1 (TX4 7).2.1 (TX4 7).2.2.1 ∈ mmBW := bw3 (i := 72) (by decide +kernel) rfl
theorem bwf_60 : Cond.fieldLink RX4 26 (TX4 8).1 (TX4 8).2.1 (TX4 8).2.2.1 ∈ mmBW := bw3 (i := 73) (by decide +kernel) rfl
theorem bwf_61 : Cond.fieldLink RX4 29 (TX4 9).1 (TX4 9).2.1 (TX4 9).2.2.1 ∈ mmBW := bw3 (i := 74) (by decide +kernel) rfl
theorem bwf_62 : Cond.fieldLink RX4 32 (TX4 10).1 (TX4 10).2.1 (TX4 10).2.2.1 ∈ mmBW := bw3 (i := 75) (by decide +kernel) rfl
theorem bwf_63 : Cond.fieldLink RX4 73 (TX4 11).1 (TX4 11).2.1 (TX4 11).2.2.1 ∈ mmBW := bw3 (i := 76) (by decide +kernel) rfl
theorem bwf_64 : Cond.fieldLink RX4 67 (TX4 12).1 (TX4 12).2.1 (TX4 12).2.2.1 ∈ mmBW := bw3 (i := 77) (by decide +kernel) rfl
theorem bwf_65 : Cond.fieldLink RX4 35 (TX4 13).1 (TX4 13).2.1 (TX4 13).2.2.1 ∈ mmBW := bw3 (i := 78) (by decide +kernel) rfl
theorem bwf_66 : Cond.fieldLink RX4 38 (TX4 14).1 (TX4 14).2.1 (TX4 14).2.2.1 ∈ mmBW := bw3 (i := 79) (by decide +kernel) rfl
theorem bwf_67 : Cond.fieldLink RX4 41 (TX4 15).1 (TX4 15).2.1 (TX4 15).2.2.1 ∈ mmBW := bw3 (i := 80) (by decide +kernel) rfl
theorem bwf_68 : Cond.fieldLink RX4 44 (TX4 16).1 (TX4 16).2.1 (TX4 16).2.2.1 ∈ mmBW := bw3 (i := 81) (by decide +kernel) rfl
theorem bwf_69 : Cond.fieldLink RX4 47 (TX4 17).1 (TX4 17).2.1 (TX4 17).2.2.1 ∈ mmBW := bw3 (i := 82) (by decide +kernel) rfl
def mmFk (q : Nat × Nat × Nat × Nat) : Prop := ∃ (own C : String) (T : u_T) (N : Nat), mmOwn[q.1]? = some own ∧ mmCls[q.2.2.1]? = some (C, T, N) ∧ q.2.2.2 < N ∧ Cond.fieldLink own q.2.1 (T q.2.2.2).1 (T q.2.2.2).2.1 (T q.2.2.2).2.2.1 ∈ mmBW
theorem mmFk_all : ∀ q ∈ mmFL, mmFk q := by
  intro q hq
  simp only [mmFL, List.mem_cons, List.not_mem_nil, or_false] at hq
  rcases hq with rfl | rfl | rfl | rfl | rfl | rfl | rfl | rfl | rfl | rfl | rfl | rfl | rfl | rfl | rfl | rfl | rfl | rfl | rfl | rfl | rfl | rfl | rfl | rfl | rfl | rfl | rfl | rfl | rfl | rfl | rfl | rfl | rfl | rfl | rfl | rfl | rfl | rfl | rfl | rfl | rfl | rfl | rfl | rfl | rfl | rfl | rfl | rfl | rfl | rfl | rfl | rfl | rfl | rfl | rfl | rfl | rfl | rfl | rfl | rfl | rfl | rfl | rfl | rfl | rfl | rfl | rfl | rfl | rfl | rfl
  · exact ⟨_, _, _, _, rfl, rfl, by decide, bwf_0⟩
  · exact ⟨_, _, _, _, rfl, rfl, by decide, bwf_1⟩
  · exact ⟨_, _, _, _, rfl, rfl, by decide, bwf_2⟩
  · exact ⟨_, _, _, _, rfl, rfl, by decide, bwf_3⟩
  · exact ⟨_, _, _, _, rfl, rfl, by decide, bwf_4⟩
  · exact ⟨_, _, _, _, rfl, rfl, by decide, bwf_5⟩
  · exact ⟨_, _, _, _, rfl, rfl, by decide, bwf_6⟩
  · exact ⟨_, _, _, _, rfl, rfl, by decide, bwf_7⟩
  · exact ⟨_, _, _, _, rfl, rfl, by decide, bwf_8⟩
  · exact ⟨_, _, _, _, rfl, rfl, by decide, bwf_9⟩
  · exact ⟨_, _, _, _, rfl, rfl, by decide, bwf_10⟩
  · exact ⟨_, _, _, _, rfl, rfl, by decide, bwf_11⟩
  · exact ⟨_, _, _, _, rfl, rfl, by decide, bwf_12⟩
  · exact ⟨_, _, _, _, rfl, rfl, by decide, bwf_13⟩
  · exact ⟨_, _, _, _, rfl, rfl, by decide, bwf_14⟩
  · exact ⟨_, _, _, _, rfl, rfl, by decide, bwf_15⟩
  · exact ⟨_, _, _, _, rfl, rfl, by decide, bwf_16⟩
  · exact ⟨_, _, _, _, rfl, rfl, by decide, bwf_17⟩
  · exact ⟨_, _, _, _, rfl, rfl, by decide, bwf_18⟩
  · exact ⟨_, _, _, _, rfl, rfl, by decide, bwf_19⟩
  · exact ⟨_, _, _, _, rfl, rfl, by decide, bwf_20⟩
  · exact ⟨_, _, _, _, rfl, rfl, by decide, bwf_21⟩
  · exact ⟨_, _, _, _, rfl, rfl, by decide, bwf_22⟩
  · exact ⟨_, _, _, _, rfl, rfl, by decide, bwf_23⟩
  · exact ⟨_, _, _, _, rfl, rfl, by decide, bwf_24⟩
  · exact ⟨_, _, _, _, rfl, rfl, by decide, bwf_25⟩
  · exact ⟨_, _, _, _, rfl, rfl, by decide, bwf_26⟩
  · exact ⟨_, _, _, _, rfl, rfl, by decide, bwf_27⟩
  · exact ⟨_, _, _, _, rfl, rfl, by decide, bwf_28⟩
  · exact ⟨_, _, _, _, rfl, rfl, by decide, bwf_29⟩
  · exact ⟨_, _, _, _, rfl, rfl, by decide, bwf_30⟩
  · exact ⟨_, _, _, _, rfl, rfl, by decide, bwf_31⟩
  · exact ⟨_, _, _, _, rfl, rfl, by decide, bwf_32⟩
  · exact ⟨_, _, _, _, rfl, rfl, by decide, bwf_33⟩
  · exact ⟨_, _, _, _, rfl, rfl, by decide, bwf_34⟩
  · exact ⟨_, _, _, _, rfl, rfl, by decide, bwf_35⟩
  · exact ⟨_, _, _, _, rfl, rfl, by decide, bwf_36⟩
  · exact ⟨_, _, _, _, rfl, rfl, by decide, bwf_37⟩
  · exact ⟨_, _, _, _, rfl, rfl, by decide, bwf_38⟩
  · exact ⟨_, _, _, _, rfl, rfl, by decide, bwf_39⟩
  · exact ⟨_, _, _, _, rfl, rfl, by decide, bwf_40⟩
  · exact ⟨_, _, _, _, rfl, rfl, by decide, bwf_41⟩
  · exact ⟨_, _, _, _, rfl, rfl, by decide, bwf_42⟩
  · exact ⟨_, _, _, _, rfl, rfl, by decide, bwf_43⟩
  · exact ⟨_, _, _, _, rfl, rfl, by decide, bwf_44⟩
  · exact ⟨_, _, _, _, rfl, rfl, by decide, bwf_45⟩
  · exact ⟨_, _, _, _, rfl, rfl, by decide, bwf_46⟩
  · exact ⟨_, _, _, _, rfl, rfl, by decide, bwf_47⟩
  · exact ⟨_, _, _, _, rfl, rfl, by decide, bwf_48⟩
  · exact ⟨_, _, _, _, rfl, rfl, by decide, bwf_49⟩
  · exact ⟨_, _, _, _, rfl, rfl, by decide, bwf_50⟩
  · exact ⟨_, _, _, _, rfl, rfl, by decide, bwf_51⟩
  · exact ⟨_, _, _, _, rfl, rfl, by decide, bwf_52⟩
  · exact ⟨_, _, _, _, rfl, rfl, by decide, bwf_53⟩
  · exact ⟨_, _, _, _, rfl, rfl, by decide, bwf_54⟩
  · exact ⟨_, _, _, _, rfl, rfl, by decide, bwf_55⟩
  · exact ⟨_, _, _, _, rfl, rfl, by decide, bwf_56⟩
  · exact ⟨_, _, _, _, rfl, rfl, by decide, bwf_57⟩
  · exact ⟨_, _, _, _, rfl, rfl, by decide, bwf_58⟩
  · exact ⟨_, _, _, _, rfl, rfl, by decide, bwf_59⟩
  · exact ⟨_, _, _, _, rfl, rfl, by decide, bwf_60⟩
  · exact ⟨_, _, _, _, rfl, rfl, by decide, bwf_61⟩
  · exact ⟨_, _, _, _, rfl, rfl, by decide, bwf_62⟩
  · exact ⟨_, _, _, _, rfl, rfl, by decide, bwf_63⟩
  · exact ⟨_, _, _, _, rfl, rfl, by decide, bwf_64⟩
  · exact ⟨_, _, _, _, rfl, rfl, by decide, bwf_65⟩
  · exact ⟨_, _, _, _, rfl, rfl, by decide, bwf_66⟩
  · exact ⟨_, _, _, _, rfl, rfl, by decide, bwf_67⟩
  · exact ⟨_, _, _, _, rfl, rfl, by decide, bwf_68⟩
  · exact ⟨_, _, _, _, rfl, rfl, by decide, bwf_69⟩
theorem bwy_0_0 : u_lay RX0 TX0 0 ∈ mmBW := bw1 (i := 115) (by decide +kernel) rfl
theorem bwy_0_1 : u_lay RX0 TX0 1 ∈ mmBW := bw1 (i := 117) (by decide +kernel) rfl
theorem bwy_0_2 : u_lay RX0 TX0 2 ∈ mmBW := bw1 (i := 119) (by decide +kernel) rfl
theorem bwy_0_3 : u_lay RX0 TX0 3 ∈ mmBW := bw1 (i := 121) (by decide +kernel) rfl
theorem bwy_0_4 : u_lay RX0 TX0 4 ∈ mmBW := bw1 (i := 123) (by decide +kernel) rfl
theorem mmIn0 : ∀ w ∈ u_ws RX0 TX0 5, w ∈ mmBW := by
  intro w hw
  obtain ⟨k, hk, rfl⟩ := List.mem_map.mp hw
  have hk := List.mem_range.mp hk
  match k, hk with
  | 0, _ => exact bwy_0_0
  | 1, _ => exact bwy_0_1
  | 2, _ => exact bwy_0_2
  | 3, _ => exact bwy_0_3
  | 4, _ => exact bwy_0_4
  | k + 5, h => exact absurd h (by omega)
theorem bwy_1_0 : u_lay RX1 TX1 0 ∈ mmBW := bw1 (i := 47) (by decide +kernel) rfl
theorem bwy_1_1 : u_lay RX1 TX1 1 ∈ mmBW := bw1 (i := 49) (by decide +kernel) rfl
theorem bwy_1_2 : u_lay RX1 TX1 2 ∈ mmBW := bw1 (i := 51) (by decide +kernel) rfl
theorem bwy_1_3 : u_lay RX1 TX1 3 ∈ mmBW := bw1 (i := 53) (by decide +kernel) rfl
theorem bwy_1_4 : u_lay RX1 TX1 4 ∈ mmBW := bw1 (i := 55) (by decide +kernel) rfl
theorem bwy_1_5 : u_lay RX1 TX1 5 ∈ mmBW := bw1 (i := 57) (by decide +kernel) rfl
theorem mmIn1 : ∀ w ∈ u_ws RX1 TX1 6, w ∈ mmBW := by
  intro w hw
  obtain ⟨k, hk, rfl⟩ := List.mem_map.mp hw
  have hk := List.mem_range.mp hk
  match k, hk with
  | 0, _ => exact bwy_1_0
  | 1, _ => exact bwy_1_1
  | 2, _ => exact bwy_1_2
  | 3, _ => exact bwy_1_3
  | 4, _ => exact bwy_1_4
  | 5, _ => exact bwy_1_5
  | k + 6, h => exact absurd h (by omega)
theorem bwy_2_0 : u_lay RX2 TX2 0 ∈ mmBW := bw1 (i := 85) (by decide +kernel) rfl
theorem bwy_2_1 : u_lay RX2 TX2 1 ∈ mmBW := bw1 (i := 87) (by decide +kernel) rfl
theorem bwy_2_2 : u_lay RX2 TX2 2 ∈ mmBW := bw1 (i := 89) (by decide +kernel) rfl
theorem bwy_2_3 : u_lay RX2 TX2 3 ∈ mmBW := bw1 (i := 91) (by decide +kernel) rfl
theorem bwy_2_4 : u_lay RX2 TX2 4 ∈ mmBW := bw1 (i := 93) (by decide +kernel) rfl
theorem bwy_2_5 : u_lay RX2 TX2 5 ∈ mmBW := bw1 (i := 95) (by decide +kernel) rfl
theorem bwy_2_6 : u_lay RX2 TX2 6 ∈ mmBW := bw1 (i := 97) (by decide +kernel) rfl
theorem mmIn2 : ∀ w ∈ u_ws RX2 TX2 7, w ∈ mmBW := by
  intro w hw
  obtain ⟨k, hk, rfl⟩ := List.mem_map.mp hw
  have hk := List.mem_range.mp hk
  match k, hk with
  | 0, _ => exact bwy_2_0
  | 1, _ => exact bwy_2_1
  | 2, _ => exact bwy_2_2
  | 3, _ => exact bwy_2_3
  | 4, _ => exact bwy_2_4
  | 5, _ => exact bwy_2_5
  | 6, _ => exact bwy_2_6
  | k + 7, h => exact absurd h (by omega)
theorem bwy_3_0 : u_lay RX3 TX3 0 ∈ mmBW := bw1 (i := 220) (by decide +kernel) rfl
theorem bwy_3_1 : u_lay RX3 TX3 1 ∈ mmBW := bw1 (i := 222) (by decide +kernel) rfl
theorem bwy_3_2 : u_lay RX3 TX3 2 ∈ mmBW := bw1 (i := 224) (by decide +kernel) rfl
theorem bwy_3_3 : u_lay RX3 TX3 3 ∈ mmBW := bw1 (i := 226) (by decide +kernel) rfl
theorem bwy_3_4 : u_lay RX3 TX3 4 ∈ mmBW := bw1 (i := 228) (by decide +kernel) rfl
theorem bwy_3_5 : u_lay RX3 TX3 5 ∈ mmBW := bw1 (i := 230) (by decide +kernel) rfl
theorem bwy_3_6 : u_lay RX3 TX3 6 ∈ mmBW := bw1 (i := 232) (by decide +kernel) rfl
theorem bwy_3_7 : u_lay RX3 TX3 7 ∈ mmBW := bw1 (i := 234) (by decide +kernel) rfl
theorem mmIn3 : ∀ w ∈ u_ws RX3 TX3 8, w ∈ mmBW := by
  intro w hw
  obtain ⟨k, hk, rfl⟩ := List.mem_map.mp hw
  have hk := List.mem_range.mp hk
  match k, hk with
  | 0, _ => exact bwy_3_0
  | 1, _ => exact bwy_3_1
  | 2, _ => exact bwy_3_2
  | 3, _ => exact bwy_3_3
  | 4, _ => exact bwy_3_4
  | 5, _ => exact bwy_3_5
  | 6, _ => exact bwy_3_6
  | 7, _ => exact bwy_3_7
  | k + 8, h => exact absurd h (by omega)
theorem bwy_4_0 : u_lay RX4 TX4 0 ∈ mmBW := bw3 (i := 83) (by decide +kernel) rfl
theorem bwy_4_1 : u_lay RX4 TX4 1 ∈ mmBW := bw3 (i := 85) (by decide +kernel) rfl
theorem bwy_4_2 : u_lay RX4 TX4 2 ∈ mmBW := bw3 (i := 87) (by decide +kernel) rfl
theorem bwy_4_3 : u_lay RX4 TX4 3 ∈ mmBW := bw3 (i := 89) (by decide +kernel) rfl
theorem bwy_4_4 : u_lay RX4 TX4 4 ∈ mmBW := bw3 (i := 91) (by decide +kernel) rfl
theorem bwy_4_5 : u_lay RX4 TX4 5 ∈ mmBW := bw3 (i := 93) (by decide +kernel) rfl
theorem bwy_4_6 : u_lay RX4 TX4 6 ∈ mmBW := bw3 (i := 95) (by decide +kernel) rfl
theorem bwy_4_7 : u_lay RX4 TX4 7 ∈ mmBW := bw3 (i := 97) (by decide +kernel) rfl
theorem bwy_4_8 : u_lay RX4 TX4 8 ∈ mmBW := bw3 (i := 99) (by decide +kernel) rfl
theorem bwy_4_9 : u_lay RX4 TX4 9 ∈ mmBW := bw3 (i := 101) (by decide +kernel) rfl
theorem bwy_4_10 : u_lay RX4 TX4 10 ∈ mmBW := bw3 (i := 103) (by decide +kernel) rfl
theorem bwy_4_11 : u_lay RX4 TX4 11 ∈ mmBW := bw3 (i := 105) (by decide +kernel) rfl
theorem bwy_4_12 : u_lay RX4 TX4 12 ∈ mmBW := bw3 (i := 107) (by decide +kernel) rfl
theorem bwy_4_13 : u_lay RX4 TX4 13 ∈ mmBW := bw3 (i := 109) (by decide +kernel) rfl
theorem bwy_4_14 : u_lay RX4 TX4 14 ∈ mmBW := bw3 (i := 111) (by decide +kernel) rfl
theorem bwy_4_15 : u_lay RX4 TX4 15 ∈ mmBW := bw3 (i := 113) (by decide +kernel) rfl
theorem bwy_4_16 : u_lay RX4 TX4 16 ∈ mmBW := bw3 (i := 115) (by decide +kernel) rfl
theorem bwy_4_17 : u_lay RX4 TX4 17 ∈ mmBW := bw3 (i := 117) (by decide +kernel) rfl
theorem mmIn4 : ∀ w ∈ u_ws RX4 TX4 18, w ∈ mmBW := by
  intro w hw
  obtain ⟨k, hk, rfl⟩ := List.mem_map.mp hw
  have hk := List.mem_range.mp hk
  match k, hk with
  | 0, _ => exact bwy_4_0
  | 1, _ => exact bwy_4_1
  | 2, _ => exact bwy_4_2
  | 3, _ => exact bwy_4_3
  | 4, _ => exact bwy_4_4
  | 5, _ => exact bwy_4_5
  | 6, _ => exact bwy_4_6
  | 7, _ => exact bwy_4_7
  | 8, _ => exact bwy_4_8
  | 9, _ => exact bwy_4_9
  | 10, _ => exact bwy_4_10
  | 11, _ => exact bwy_4_11
  | 12, _ => exact bwy_4_12
  | 13, _ => exact bwy_4_13
  | 14, _ => exact bwy_4_14
  | 15, _ => exact bwy_4_15
  | 16, _ => exact bwy_4_16
  | 17, _ => exact bwy_4_17
  | k + 18, h => exact absurd h (by omega)
/-- all that is said of a class of objects -/
def mmCk (C : String) (T : u_T) (N : Nat) : Prop := (∀ w ∈ u_ws C T N, w ∈ mmBW) ∧ ∃ ty : Nat → FieldType, (∀ k, k < N → parseFieldDescriptor (T k).2.2.1 = some (ty k)) ∧ ∀ a, a < N → ∀ b, b < N → a ≠ b → (T a).2.1 ≠ (T b).2.1
theorem mmCk_all : ∀ (c : Nat) (C : String) (T : u_T) (N : Nat), mmCls[c]? = some (C, T, N) → mmCk C T N := by
  intro c C T N h
  match c, h with
  | 0, h => cases h; exact ⟨mmIn0, tyX0, tyX0_ok, nmX0⟩
  | 1, h => cases h; exact ⟨mmIn1, tyX1, tyX1_ok, nmX1⟩
  | 2, h => cases h; exact ⟨mmIn2, tyX2, tyX2_ok, nmX2⟩
  | 3, h => cases h; exact ⟨mmIn3, tyX3, tyX3_ok, nmX3⟩
  | 4, h => cases h; exact ⟨mmIn4, tyX4, tyX4_ok, nmX4⟩
  | c + 5, h => simp [mmCls] at h
theorem bwx_s : Cond.static Lib.Math.max.name ∈ mmBW := bw2 (i := 3) (by decide +kernel) rfl
theorem bwx_c : Cond.code Lib.Math.max.name Lib.Math.max.code 2 (some .int) ∈ mmBW := bw2 (i := 4) (by decide +kernel) rfl
theorem bwx_RX3 : Cond.methodLink RX3 169 Lib.Math.max.name ∈ mmBW := bw2 (i := 2) (by decide +kernel) rfl
theorem bwx_RX4 : Cond.methodLink RX4 179 Lib.Math.max.name ∈ mmBW := bw4 (i := 59) (by decide +kernel) rfl
theorem mmMX_all : ∀ q ∈ mmMX, ∃ own, mmOwn[q.1]? = some own ∧ Cond.methodLink own q.2.1 Lib.Math.max.name ∈ mmBW := by
  intro q hq
  simp only [mmMX, List.mem_cons, List.not_mem_nil, or_false] at hq
  rcases hq with rfl | rfl
  · exact ⟨_, rfl, bwx_RX3⟩
  · exact ⟨_, rfl, bwx_RX4⟩
theorem bwk_0 : Cond.constant RJ6 265 1431655765 ∈ mmBW := bw1 (i := 188) (by decide +kernel) rfl
theorem bwk_1 : Cond.constant RJ6 266 858993459 ∈ mmBW := bw1 (i := 189) (by decide +kernel) rfl
theorem bwk_2 : Cond.constant RJ6 267 252645135 ∈ mmBW := bw1 (i := 190) (by decide +kernel) rfl
theorem bwj_0 : Cond.constantLong RX3 183 1609 ∈ mmBW := bw2 (i := 113) (by decide +kernel) rfl
theorem bwj_1 : Cond.constantLong RX3 198 31 ∈ mmBW := bw2 (i := 153) (by decide +kernel) rfl
theorem bwj_2 : Cond.constantLong RX4 184 1609 ∈ mmBW := bw4 (i := 80) (by decide +kernel) rfl
theorem bwj_3 : Cond.constantLong RX4 186 31 ∈ mmBW := bw4 (i := 81) (by decide +kernel) rfl
theorem mmKI_all : ∀ q ∈ mmKI, ∃ own, mmOwn[q.1]? = some own ∧ Cond.constant own q.2.1 q.2.2 ∈ mmBW := by
  intro q hq
  simp only [mmKI, List.mem_cons, List.not_mem_nil, or_false] at hq
  rcases hq with rfl | rfl | rfl
  · exact ⟨_, rfl, bwk_0⟩
  · exact ⟨_, rfl, bwk_1⟩
  · exact ⟨_, rfl, bwk_2⟩
theorem mmKJ_all : ∀ q ∈ mmKJ, ∃ own, mmOwn[q.1]? = some own ∧ Cond.constantLong own q.2.1 q.2.2 ∈ mmBW := by
  intro q hq
  simp only [mmKJ, List.mem_cons, List.not_mem_nil, or_false] at hq
  rcases hq with rfl | rfl | rfl | rfl
  · exact ⟨_, rfl, bwj_0⟩
  · exact ⟨_, rfl, bwj_1⟩
  · exact ⟨_, rfl, bwj_2⟩
  · exact ⟨_, rfl, bwj_3⟩
end
section
/-! ONE STEP of the small machine is one step of the real one. -/
def mmV (ad : Nat → Nat) (v : Value) : Value := match v with
  | .ref k => .ref (ad k)
  | w => w
def mmFs (ad : Nat → Nat) (f : Nat → Int32) : Nat → List (Option Nat) → List Value
  | _, [] => []
  | i, some j :: r => .ref (ad j) :: mmFs ad f (i + 1) r
  | i, none :: r => .int (f i) :: mmFs ad f (i + 1) r
def mmCe (G : Nat → ClassId) (ad : Nat → Nat) (M : mmM) (k : Nat) : va_E := match mmLay[k]? with
  | some (.inl (0, m)) => .inl (G 0, m, .inl (M.1 k))
  | some (.inl (1, m)) => .inl (G 1, m, .inl (M.1 k))
  | some (.inl (_ + 2, m)) => .inl (G 2, m, .inr (.inl M.2.1))
  | some (.inr o) => .inr (o.1, mmFs ad (M.1 k) 0 o.2)
  | none => .inr (0, [])
def mmW (G : Nat → ClassId) (ad : Nat → Nat) (M : mmM) (n : Nat) : va_W := (List.range n).map fun k => (ad k, mmCe G ad M k)
def mmTy (G : Nat → ClassId) (n : Nat) : List (ClassId × FieldType) := [(G 0, .int), (G 1, .boolean)] ++ (if 47 < n then [(G 2, .long)] else [])
theorem mmW_at {G : Nat → ClassId} {ad : Nat → Nat} {M : mmM} {n k : Nat} (h : k < n) : (mmW G ad M n)[k]? = some (ad k, mmCe G ad M k) := by
  simp [mmW, List.getElem?_map, List.getElem?_range h]
theorem mmW_len {G : Nat → ClassId} {ad : Nat → Nat} {M : mmM} {n : Nat} : (mmW G ad M n).length = n := by simp [mmW]
theorem mmW_set {G : Nat → ClassId} {ad : Nat → Nat} {M M' : mmM} {n k : Nat} (h : ∀ j, j ≠ k → j < n → mmCe G ad M' j = mmCe G ad M j) : (mmW G ad M n).set k (ad k, mmCe G ad M' k) = mmW G ad M' n := by
  apply List.ext_getElem?
  intro j
  by_cases hj : j < n
  · by_cases hjk : j = k
    · subst hjk
      rw [List.getElem?_set_self (by rw [mmW_len]; exact hj), mmW_at hj]
    · rw [List.getElem?_set_ne (Ne.symm hjk), mmW_at hj, mmW_at hj, h j hjk hj]
  · rw [List.getElem?_eq_none (by rw [List.length_set, mmW_len]; omega), List.getElem?_eq_none (by rw [mmW_len]; omega)]
theorem mmFs_at (ad : Nat → Nat) (f : Nat → Int32) : ∀ (fs : List (Option Nat)) (i k : Nat), (mmFs ad f i fs)[k]? = fs[k]?.map (fun o => match o with | some j => Value.ref (ad j) | none => Value.int (f (i + k)))
  | [], i, k => by simp [mmFs]
  | some j :: r, i, 0 => by simp [mmFs]
  | none :: r, i, 0 => by simp [mmFs]
  | some j :: r, i, k + 1 => by simp [mmFs, mmFs_at ad f r (i + 1) k, Nat.add_assoc, Nat.add_comm 1 k]
  | none :: r, i, k + 1 => by simp [mmFs, mmFs_at ad f r (i + 1) k, Nat.add_assoc, Nat.add_comm 1 k]
theorem mmFs_len (ad : Nat → Nat) (f : Nat → Int32) : ∀ (fs : List (Option Nat)) (i : Nat), (mmFs ad f i fs).length = fs.length
  | [], i => rfl
  | some j :: r, i => by simp [mmFs, mmFs_len ad f r (i + 1)]
  | none :: r, i => by simp [mmFs, mmFs_len ad f r (i + 1)]
theorem mmFs_set (ad : Nat → Nat) (f : Nat → Int32) (fs : List (Option Nat)) (k : Nat) (v : Int32) (h : fs[k]? = some none) : (mmFs ad f 0 fs).set k (.int v) = mmFs ad (upd f k v) 0 fs := by
  apply List.ext_getElem?
  intro j
  by_cases hj : j = k
  · subst hj
    have hl : j < fs.length := (List.getElem?_eq_some_iff.mp h).1
    rw [List.getElem?_set_self (by rw [mmFs_len]; exact hl), mmFs_at, h]
    simp [upd]
  · rw [List.getElem?_set_ne (Ne.symm hj), mmFs_at, mmFs_at]
    congr 1
    funext o
    cases o with
    | some x => rfl
    | none => simp [upd, hj]
theorem mmArr_lay {n k t m : Nat} (h : mmArr n k = some (t, m)) : k < n ∧ mmLay[k]? = some (.inl (t, m)) := by
  unfold mmArr at h
  split at h
  · rename_i hk
    refine ⟨hk, ?_⟩
    split at h
    · rename_i a ha
      cases h
      exact ha
    · cases h
  · cases h
theorem mmFd_lay {n c f k : Nat} {x : Option Nat} (h : mmFd n c f k = some x) : k < n ∧ ∃ fs, mmLay[k]? = some (.inr (c, fs)) ∧ fs[f]? = some x := by
  unfold mmFd at h
  split at h
  · rename_i hk
    refine ⟨hk, ?_⟩
    split at h
    · rename_i o ho
      split at h
      · rename_i hc
        obtain ⟨c2, fs⟩ := o
        cases hc
        exact ⟨fs, ho, h⟩
      · cases h
    · cases h
  · cases h
theorem mmCe_int {G : Nat → ClassId} {ad : Nat → Nat} {M : mmM} {k m : Nat} (h : mmLay[k]? = some (.inl (0, m))) : mmCe G ad M k = .inl (G 0, m, .inl (M.1 k)) := by simp [mmCe, h]
theorem mmCe_bool {G : Nat → ClassId} {ad : Nat → Nat} {M : mmM} {k m : Nat} (h : mmLay[k]? = some (.inl (1, m))) : mmCe G ad M k = .inl (G 1, m, .inl (M.1 k)) := by simp [mmCe, h]
theorem mmCe_long {G : Nat → ClassId} {ad : Nat → Nat} {M : mmM} {k m : Nat} (h : mmLay[k]? = some (.inl (2, m))) : mmCe G ad M k = .inl (G 2, m, .inr (.inl M.2.1)) := by simp [mmCe, h]
theorem mmCe_obj {G : Nat → ClassId} {ad : Nat → Nat} {M : mmM} {k c : Nat} {fs : List (Option Nat)} (h : mmLay[k]? = some (.inr (c, fs))) : mmCe G ad M k = .inr (c, mmFs ad (M.1 k) 0 fs) := by simp [mmCe, h]
theorem mmCe_ne {G : Nat → ClassId} {ad : Nat → Nat} {M : mmM} {j k i : Nat} {v : Int32} (h : j ≠ k) : mmCe G ad (mmI M k i v) j = mmCe G ad M j := by
  simp [mmCe, mmI, uC, h]
theorem mmLay_long : ∀ k, k < 48 → ∀ t m, mmLay[k]? = some (.inl (t + 2, m)) → k = 47 := by
  intro k hk t m h
  have : (List.range 48).all (fun k => match mmLay[k]? with | some (.inl (t + 2, _)) => decide (k = 47) | _ => true) = true := by decide +kernel
  have h2 := List.all_eq_true.mp this k (List.mem_range.mpr hk)
  rw [h] at h2
  simpa using h2
theorem mmCe_neJ {G : Nat → ClassId} {ad : Nat → Nat} {M : mmM} {j i : Nat} {v : Int64} (hj : j < 48) (h : j ≠ 47) : mmCe G ad (mmJ M i v) j = mmCe G ad M j := by
  unfold mmCe
  split
  · rfl
  · rfl
  · rename_i t m hl
    exact absurd (mmLay_long j hj t m hl) h
  · rfl
  · rfl
theorem mmLay_obj : ∀ k, k < 48 → ∀ c fs, mmLay[k]? = some (.inr (c, fs)) → ∃ C T N, mmCls[c]? = some (C, T, N) ∧ fs.length = N ∧ ∀ f, fs[f]? = some none → (T f).2.2.2 = false ∧ parseFieldDescriptor (T f).2.2.1 = some .int := by
  intro k hk c fs h
  have h0 : (List.range 48).all (fun k => match mmLay[k]? with | some (.inr (c, fs)) => (match mmCls[c]? with | some (_, T, N) => decide (fs.length = N) && (List.range fs.length).all (fun f => decide (fs[f]? = some none → (T f).2.2.2 = false ∧ (T f).2.2.1 = "I")) | none => false) | _ => true) = true := by decide +kernel
  have h2 := List.all_eq_true.mp h0 k (List.mem_range.mpr hk)
  rw [h] at h2
  simp only at h2
  split at h2
  · rename_i C T N hc
    simp only [Bool.and_eq_true, decide_eq_true_eq] at h2
    refine ⟨C, T, N, hc, h2.1, fun f hf => ?_⟩
    have h3 := List.all_eq_true.mp h2.2 f (List.mem_range.mpr (List.getElem?_eq_some_iff.mp hf).1)
    have h4 := (of_decide_eq_true h3) hf
    refine ⟨h4.1, ?_⟩
    rw [h4.2]
    decide +kernel
  · cases h2
/-! locals -/
def mmK (ad : Nat → Nat) (ls : List Value) : List (Nat × Value) := (List.range ls.length).filterMap fun i => match ls[i]? with
  | some Value.null => none
  | some v => some (i, mmV ad v)
  | none => none
theorem mmK_mem {ad : Nat → Nat} {ls : List Value} {q : Nat × Value} : q ∈ mmK ad ls ↔ ∃ v, ls[q.1]? = some v ∧ v ≠ .null ∧ q.2 = mmV ad v := by
  obtain ⟨i, w⟩ := q
  simp only [mmK, List.mem_filterMap, List.mem_range]
  constructor
  · rintro ⟨j, hj, h⟩
    split at h
    · cases h
    · rename_i v hv hnn
      cases h
      exact ⟨v, hnn, fun h => hv h, rfl⟩
    · cases h
  · rintro ⟨v, h1, h2, h3⟩
    refine ⟨i, (List.getElem?_eq_some_iff.mp h1).1, ?_⟩
    rw [h1]
    subst h3
    split
    · rename_i hh
      exact absurd (Option.some.inj hh) h2
    · rename_i v2 _ hh
      cases hh
      rfl
    · rename_i hh
      cases hh
def mmLR (ad : Nat → Nat) (lsR : Array Slot) (ls : List Value) : Prop := lv_has lsR ls.length (mmK ad ls)
theorem mmLR.at {ad : Nat → Nat} {lsR : Array Slot} {ls : List Value} (h : mmLR ad lsR ls) {i : Nat} {v : Value} (hi : ls[i]? = some v) (hv : v ≠ .null) : lsR[i]? = some (.val (mmV ad v)) := h.2.2 (i, mmV ad v) (mmK_mem.mpr ⟨v, hi, hv, rfl⟩)
theorem mmV_cat (ad : Nat → Nat) (v : Value) : (mmV ad v).category = v.category := by cases v <;> rfl
theorem mmLR.less {ad : Nat → Nat} {lsR : Array Slot} {ls : List Value} {n : Nat} {l : List (Nat × Value)} (h : lv_has lsR n l) (hn : n = ls.length) (hs : ∀ q ∈ mmK ad ls, q ∈ l) : mmLR ad lsR ls := by
  subst hn
  exact ⟨h.1, h.2.1, fun q hq => h.2.2 q (hs q hq)⟩
theorem mmLR.st1 {ad : Nat → Nat} {lsR : Array Slot} {ls ls' : List Value} {i : Nat} {v x : Value} (hs : mmSt1 ls i v = some ls') (hx : v ≠ .null → x = mmV ad v)
    (h : lv_has lsR ls.length ((i, x) :: (mmK ad ls).filter (fun q => !(q.1 == i) && !(q.1 + 1 == i && q.2.category == 2)))) : mmLR ad lsR ls' := by
  unfold mmSt1 at hs
  split at hs
  · rename_i hc
    obtain ⟨h1, h2, h3⟩ := hc
    cases hs
    refine mmLR.less h (by simp) (fun q hq => ?_)
    obtain ⟨w, hw, hwn, hq2⟩ := mmK_mem.mp hq
    obtain ⟨j, y⟩ := q
    simp only at hw hq2
    subst hq2
    by_cases hj : j = i
    · subst hj
      rw [List.getElem?_set_self h1] at hw
      cases hw
      rw [← hx hwn]
      exact List.mem_cons_self
    · rw [List.getElem?_set_ne (Ne.symm hj)] at hw
      refine List.mem_cons_of_mem _ (List.mem_filter.mpr ⟨mmK_mem.mpr ⟨w, hw, hwn, rfl⟩, ?_⟩)
      simp only [Bool.and_eq_true, Bool.not_eq_true', beq_eq_false_iff_ne, ne_eq, Bool.and_eq_false_imp, beq_iff_eq]
      refine ⟨hj, fun he => ?_⟩
      rw [mmV_cat]
      rcases h3 with h3 | h3
      · omega
      · rw [show i - 1 = j by omega, List.getD_eq_getElem?_getD, hw] at h3
        simp only [Option.getD_some] at h3
        omega
  · cases hs
theorem mmLR.st2 {ad : Nat → Nat} {lsR : Array Slot} {ls ls' : List Value} {i : Nat} {v x : Value} (hs : mmSt2 ls i v = some ls') (hx : x = mmV ad v)
    (h : lv_has lsR ls.length ((i, x) :: (mmK ad ls).filter (fun q => !(q.1 == i) && (!(q.1 == i + 1) && !(q.1 + 1 == i && q.2.category == 2))))) : mmLR ad lsR ls' := by
  unfold mmSt2 at hs
  split at hs
  · rename_i hc
    obtain ⟨h1, h2, h3⟩ := hc
    cases hs
    refine mmLR.less h (by simp) (fun q hq => ?_)
    obtain ⟨w, hw, hwn, hq2⟩ := mmK_mem.mp hq
    obtain ⟨j, y⟩ := q
    simp only at hw hq2
    subst hq2
    by_cases hj1 : j = i + 1
    · subst hj1
      rw [List.getElem?_set_self (by rw [List.length_set]; exact h1)] at hw
      cases hw
      exact absurd rfl hwn
    · rw [List.getElem?_set_ne (Ne.symm hj1)] at hw
      by_cases hj : j = i
      · subst hj
        rw [List.getElem?_set_self (by omega)] at hw
        cases hw
        rw [← hx]
        exact List.mem_cons_self
      · rw [List.getElem?_set_ne (Ne.symm hj)] at hw
        refine List.mem_cons_of_mem _ (List.mem_filter.mpr ⟨mmK_mem.mpr ⟨w, hw, hwn, rfl⟩, ?_⟩)
        simp only [Bool.and_eq_true, Bool.not_eq_true', beq_eq_false_iff_ne, ne_eq, Bool.and_eq_false_imp, beq_iff_eq]
        refine ⟨hj, hj1, fun he => ?_⟩
        rw [mmV_cat]
        rcases h3 with h3 | h3
        · omega
        · rw [show i - 1 = j by omega, List.getD_eq_getElem?_getD, hw] at h3
          simp only [Option.getD_some] at h3
          omega
  · cases hs
theorem mmTg_eq {pc t : Nat} {off : Int} (h : mmTg pc off = some t) : (pc : Int) + off = (t : Int) := by
  unfold mmTg at h
  split at h
  · rename_i hc
    cases h
    omega
  · cases h
theorem mmX_in {i : Int32} {n j : Nat} (h : mmX i n = some j) : vp_in i n ∧ i.toNatClampNeg = j := by
  unfold mmX at h
  split at h
  · cases h
  · rename_i hc
    cases h
    exact ⟨hc, rfl⟩
end
section

/-- the script that the law reads, as cell 99 -/
def mmXs (S : mmScr) (ad : Nat → Nat) (A : Nat → Prop) (s : State) : Prop := ∀ (L : Nat) (xs : Nat → Int32), S = some (L, xs) → va_X (ad 99) L xs s s.heap ∧ ad 99 < s.heap.size ∧ ¬ A (ad 99)
theorem mmLd_spec {ls ls' st st' : List Value} {M M' : mmM} {i pc len pc' : Nat} {ok : Value → Bool} (h : mmLd ls i pc len st M ok = some (pc', ls', st', M')) : ∃ v, ls[i]? = some v ∧ ok v = true ∧ pc' = pc + len ∧ ls' = ls ∧ st' = v :: st ∧ M' = M := by
  unfold mmLd at h
  split at h
  · rename_i v hv
    split at h
    · rename_i hok
      cases h
      exact ⟨v, hv, hok, rfl, rfl, rfl, rfl⟩
    · cases h
  · cases h
theorem mmSt1_lt {ls ls' : List Value} {i : Nat} {v : Value} (h : mmSt1 ls i v = some ls') : i < ls.length := by
  unfold mmSt1 at h
  split at h
  · rename_i hc
    exact hc.1
  · cases h
theorem mmSt2_lt {ls ls' : List Value} {i : Nat} {v : Value} (h : mmSt2 ls i v = some ls') : i + 1 < ls.length := by
  unfold mmSt2 at h
  split at h
  · rename_i hc
    exact hc.1
  · cases h
theorem mmSt1_len {ls ls' : List Value} {i : Nat} {v : Value} (h : mmSt1 ls i v = some ls') : ls'.length = ls.length := by
  unfold mmSt1 at h
  split at h
  · cases h
    simp
  · cases h
theorem mmSt2_len {ls ls' : List Value} {i : Nat} {v : Value} (h : mmSt2 ls i v = some ls') : ls'.length = ls.length := by
  unfold mmSt2 at h
  split at h
  · cases h
    simp
  · cases h
theorem mmIsI_of {v : Value} (h : mmIsI v = true) : ∃ x, v = .int x := by cases v <;> first | exact ⟨_, rfl⟩ | cases h
theorem mmIsJ_of {v : Value} (h : mmIsJ v = true) : ∃ x, v = .long x := by cases v <;> first | exact ⟨_, rfl⟩ | cases h
theorem mmIsD_of {v : Value} (h : mmIsD v = true) : ∃ x, v = .double x := by cases v <;> first | exact ⟨_, rfl⟩ | cases h
theorem mmIsR_of {v : Value} (h : mmIsR v = true) : ∃ x, v = .ref x := by cases v <;> first | exact ⟨_, rfl⟩ | cases h
theorem mmW_I {G : Nat → ClassId} {ad : Nat → Nat} {M : mmM} {n k i m : Nat} {v : Int32} (h : mmLay[k]? = some (.inl (0, m))) : (mmW G ad M n).set k (ad k, .inl (G 0, m, .inl (upd (M.1 k) i v))) = mmW G ad (mmI M k i v) n := by
  rw [← mmW_set (M' := mmI M k i v) (fun j hj _ => mmCe_ne hj), mmCe_int h]
  simp [mmI, uC]
theorem mmW_Z {G : Nat → ClassId} {ad : Nat → Nat} {M : mmM} {n k i m : Nat} {v : Int32} (h : mmLay[k]? = some (.inl (1, m))) : (mmW G ad M n).set k (ad k, .inl (G 1, m, .inl (upd (M.1 k) i v))) = mmW G ad (mmI M k i v) n := by
  rw [← mmW_set (M' := mmI M k i v) (fun j hj _ => mmCe_ne hj), mmCe_bool h]
  simp [mmI, uC]
theorem mmW_F {G : Nat → ClassId} {ad : Nat → Nat} {M : mmM} {n k i c : Nat} {fs : List (Option Nat)} {v : Int32} (h : mmLay[k]? = some (.inr (c, fs))) (hf : fs[i]? = some none) : (mmW G ad M n).set k (ad k, .inr (c, (mmFs ad (M.1 k) 0 fs).set i (.int v))) = mmW G ad (mmI M k i v) n := by
  rw [← mmW_set (M' := mmI M k i v) (fun j hj _ => mmCe_ne hj), mmCe_obj h, mmFs_set _ _ _ _ _ hf]
  simp [mmI, uC]
theorem mmW_J {G : Nat → ClassId} {ad : Nat → Nat} {M : mmM} {n k i m : Nat} {v : Int64} (hn : n ≤ 48) (hk : k < n) (h : mmLay[k]? = some (.inl (2, m))) : (mmW G ad M n).set k (ad k, .inl (G 2, m, .inr (.inl (vp_updL M.2.1 i v)))) = mmW G ad (mmJ M i v) n := by
  have h47 := mmLay_long k (by omega) 0 m h
  rw [← mmW_set (k := k) (M' := mmJ M i v) (fun j hj hjn => mmCe_neJ (by omega) (by omega)), mmCe_long h]
  simp [mmJ]
section MM
variable {p : Program} {l : Launch} {e : Env} {R : Room} {s : State} {m : MethodId} {args : Array Value} {below : List Frame} {meth : Method} {c : Code} {H : Heap} {locs : List Loc} {cells slots : Nat} {Q : State → Prop}
set_option maxHeartbeats 4000000 in
set_option maxRecDepth 100000 in
theorem mm_step {D : va_G} {G : Nat → ClassId} {ad : Nat → Nat} {n o : Nat} {M M' : mmM} {cc : ByteArray} {own : String} {w : Bool} {A : Nat → Prop} {S : mmScr} {pc pc' len : Nat} {ins : Instr} {ls ls' st st' : List Value} {lsR : Array Slot}
    (hx : p.tables.exec = Jvm.exec) (hb : c.code = cc) (hml : c.maxLocals = ls.length) (hn : n ≤ 48) (how : mmOwn[o]? = some own) (hown : s.vm.findClass own = some m.cls)
    (hts : ∀ w ∈ mmBW, w.before args s = true) (hK : va_K D mmCls (mmTy G n) s) (hX : mmXs S ad A s) (hw : w = true → 1 ≤ R.frames ∧ 21 ≤ R.locals) (hcs : cells ≤ R.cells ∧ slots ≤ R.slots)
    (hP : va_P D mmCls (mmW G ad M n) H) (hD : va_D A (mmW G ad M n)) (hS : va_S A s.heap H locs) (hL : mmLR ad lsR ls)
    (hd : decode cc pc = .ok (ins, len)) (hln : mmLn ins len = true) (hs : mmS S n o w pc ins len ls st M = some (pc', ls', st', M'))
    (kk : ∀ (lsR' : Array Slot) (H' : Heap) (locs' : List Loc), mmLR ad lsR' ls' → va_P D mmCls (mmW G ad M' n) H' → va_D A (mmW G ad M' n) → va_S A s.heap H' locs' → W p l e R s m args below meth c H' locs' cells slots Q (F0 m pc' lsR' (st'.map (mmV ad)))) :
    W p l e R s m args below meth c H locs cells slots Q (F0 m pc lsR (st.map (mmV ad))) := by
  have k0 : ∀ (pc' : Nat) (ls' st' : List Value), (∀ (lsR' : Array Slot) (H' : Heap) (locs' : List Loc), mmLR ad lsR' ls' → va_P D mmCls (mmW G ad M n) H' → va_D A (mmW G ad M n) → va_S A s.heap H' locs' → W p l e R s m args below meth c H' locs' cells slots Q (F0 m pc' lsR' (st'.map (mmV ad)))) → ls' = ls → W p l e R s m args below meth c H locs cells slots Q (F0 m pc' lsR (st'.map (mmV ad))) := by
    intro pc' ls' st' h he
    subst he
    exact h lsR H locs hL hP hD hS
  have k1 : ∀ (lsR' : Array Slot) (pc' : Nat) (ls' st' : List Value), (∀ (lsR' : Array Slot) (H' : Heap) (locs' : List Loc), mmLR ad lsR' ls' → va_P D mmCls (mmW G ad M n) H' → va_D A (mmW G ad M n) → va_S A s.heap H' locs' → W p l e R s m args below meth c H' locs' cells slots Q (F0 m pc' lsR' (st'.map (mmV ad)))) → mmLR ad lsR' ls' → W p l e R s m args below meth c H locs cells slots Q (F0 m pc' lsR' (st'.map (mmV ad))) := by
    intro lsR' pc' ls' st' h he
    exact h lsR' H locs he hP hD hS
  cases ins with
  | iconst k =>
    have hl : len = 1 := by simpa [mmLn] using hln
    subst hl
    simp only [mmS] at hs
    cases hs
    exact lv_iconst hx hb hd rfl (k0 _ _ _ kk rfl)
  | bipush k =>
    have hl : len = 2 := by simpa [mmLn] using hln
    subst hl
    simp only [mmS] at hs
    cases hs
    exact lv_bipush hx hb hd rfl (k0 _ _ _ kk rfl)
  | lconst k =>
    have hl : len = 1 := by simpa [mmLn] using hln
    subst hl
    simp only [mmS] at hs
    cases hs
    exact lv_lconst hx hb hd rfl (k0 _ _ _ kk rfl)
  | dconst k =>
    have hl : len = 1 := by simpa [mmLn] using hln
    subst hl
    simp only [mmS] at hs
    split at hs
    · rename_i hk0
      subst hk0
      cases hs
      exact lv_dconst0 hx hb hd (k0 _ _ _ kk rfl)
    · cases hs
  | iload_n k =>
    have hl : len = 1 := by simpa [mmLn] using hln
    subst hl
    simp only [mmS] at hs
    obtain ⟨v, hv, hok, rfl, rfl, rfl, rfl⟩ := mmLd_spec hs
    obtain ⟨x, rfl⟩ := mmIsI_of hok
    exact lv_iload_n hx hb hd rfl (hL.at hv (by simp)) (k0 _ _ _ kk rfl)
  | iload k =>
    have hl : len = 2 := by simpa [mmLn] using hln
    subst hl
    simp only [mmS] at hs
    obtain ⟨v, hv, hok, rfl, rfl, rfl, rfl⟩ := mmLd_spec hs
    obtain ⟨x, rfl⟩ := mmIsI_of hok
    exact lv_iload hx hb hd (hL.at hv (by simp)) (k0 _ _ _ kk rfl)
  | lload_n k =>
    have hl : len = 1 := by simpa [mmLn] using hln
    subst hl
    simp only [mmS] at hs
    obtain ⟨v, hv, hok, rfl, rfl, rfl, rfl⟩ := mmLd_spec hs
    obtain ⟨x, rfl⟩ := mmIsJ_of hok
    exact lv_lload_n hx hb hd rfl (hL.at hv (by simp)) (k0 _ _ _ kk rfl)
  | dload k =>
    have hl : len = 2 := by simpa [mmLn] using hln
    subst hl
    simp only [mmS] at hs
    obtain ⟨v, hv, hok, rfl, rfl, rfl, rfl⟩ := mmLd_spec hs
    obtain ⟨x, rfl⟩ := mmIsD_of hok
    exact lv_dload hx hb hd (hL.at hv (by simp)) (k0 _ _ _ kk rfl)
  | aload_n k =>
    have hl : len = 1 := by simpa [mmLn] using hln
    subst hl
    simp only [mmS] at hs
    obtain ⟨v, hv, hok, rfl, rfl, rfl, rfl⟩ := mmLd_spec hs
    obtain ⟨x, rfl⟩ := mmIsR_of hok
    exact lv_aload_n hx hb hd rfl (hL.at hv (by simp)) (k0 _ _ _ kk rfl)
  | aload k =>
    have hl : len = 2 := by simpa [mmLn] using hln
    subst hl
    simp only [mmS] at hs
    obtain ⟨v, hv, hok, rfl, rfl, rfl, rfl⟩ := mmLd_spec hs
    obtain ⟨x, rfl⟩ := mmIsR_of hok
    exact lv_aload hx hb hd (hL.at hv (by simp)) (k0 _ _ _ kk rfl)
  | istore_n k =>
    have hl : len = 1 := by simpa [mmLn] using hln
    subst hl
    simp only [mmS] at hs
    split at hs
    · rename_i v r
      obtain ⟨l2, hl2, he⟩ := Option.map_eq_some_iff.mp hs
      cases he
      exact lv_istore_n hx hb hd rfl hL (mmSt1_lt hl2) rfl (fun lsR' h' => k1 _ _ _ _ kk (mmLR.st1 hl2 (fun _ => rfl) h'))
    · cases hs
  | istore k =>
    have hl : len = 2 := by simpa [mmLn] using hln
    subst hl
    simp only [mmS] at hs
    split at hs
    · rename_i v r
      obtain ⟨l2, hl2, he⟩ := Option.map_eq_some_iff.mp hs
      cases he
      exact lv_istore hx hb hd hL (mmSt1_lt hl2) rfl (fun lsR' h' => k1 _ _ _ _ kk (mmLR.st1 hl2 (fun _ => rfl) h'))
    · cases hs
  | lstore_n k =>
    have hl : len = 1 := by simpa [mmLn] using hln
    subst hl
    simp only [mmS] at hs
    split at hs
    · rename_i v r
      obtain ⟨l2, hl2, he⟩ := Option.map_eq_some_iff.mp hs
      cases he
      exact lv_lstore_n hx hb hd rfl hL (mmSt2_lt hl2) rfl (fun lsR' h' => k1 _ _ _ _ kk (mmLR.st2 hl2 rfl h'))
    · cases hs
  | dstore k =>
    have hl : len = 2 := by simpa [mmLn] using hln
    subst hl
    simp only [mmS] at hs
    split at hs
    · rename_i v r
      obtain ⟨l2, hl2, he⟩ := Option.map_eq_some_iff.mp hs
      cases he
      exact lv_dstore hx hb hd hL (mmSt2_lt hl2) rfl (fun lsR' h' => k1 _ _ _ _ kk (mmLR.st2 hl2 rfl h'))
    · cases hs
  | iinc k i =>
    have hl : len = 3 := by simpa [mmLn] using hln
    subst hl
    simp only [mmS, if_true] at hs
    split at hs
    · rename_i v hv
      obtain ⟨l2, hl2, he⟩ := Option.map_eq_some_iff.mp hs
      cases he
      obtain ⟨j, hj⟩ := List.getElem?_of_mem (mmK_mem (ad := ad) (q := (k, Value.int v)).mpr ⟨.int v, hv, by simp, rfl⟩)
      exact lv_iinc hx hb hd hL hj rfl (mmSt1_lt hl2) rfl (fun lsR' h' => k1 _ _ _ _ kk (mmLR.st1 hl2 (fun _ => rfl) h'))
    · cases hs
  | iadd =>
    have hl : len = 1 := by simpa [mmLn] using hln
    subst hl
    simp only [mmS] at hs
    split at hs
    · cases hs
      exact lv_iadd hx hb hd (k0 _ _ _ kk rfl)
    · cases hs
  | isub =>
    have hl : len = 1 := by simpa [mmLn] using hln
    subst hl
    simp only [mmS] at hs
    split at hs
    · cases hs
      exact lv_isub hx hb hd (k0 _ _ _ kk rfl)
    · cases hs
  | imul =>
    have hl : len = 1 := by simpa [mmLn] using hln
    subst hl
    simp only [mmS] at hs
    split at hs
    · cases hs
      exact lv_imul hx hb hd (k0 _ _ _ kk rfl)
    · cases hs
  | iand =>
    have hl : len = 1 := by simpa [mmLn] using hln
    subst hl
    simp only [mmS] at hs
    split at hs
    · cases hs
      exact lv_iand hx hb hd (k0 _ _ _ kk rfl)
    · cases hs
  | ior =>
    have hl : len = 1 := by simpa [mmLn] using hln
    subst hl
    simp only [mmS] at hs
    split at hs
    · cases hs
      exact lv_ior hx hb hd (k0 _ _ _ kk rfl)
    · cases hs
  | ixor =>
    have hl : len = 1 := by simpa [mmLn] using hln
    subst hl
    simp only [mmS] at hs
    split at hs
    · cases hs
      exact lv_ixor hx hb hd (k0 _ _ _ kk rfl)
    · cases hs
  | ishl =>
    have hl : len = 1 := by simpa [mmLn] using hln
    subst hl
    simp only [mmS] at hs
    split at hs
    · cases hs
      exact lv_ishl hx hb hd (k0 _ _ _ kk rfl)
    · cases hs
  | ishr =>
    have hl : len = 1 := by simpa [mmLn] using hln
    subst hl
    simp only [mmS] at hs
    split at hs
    · cases hs
      exact lv_ishr hx hb hd (k0 _ _ _ kk rfl)
    · cases hs
  | ladd =>
    have hl : len = 1 := by simpa [mmLn] using hln
    subst hl
    simp only [mmS] at hs
    split at hs
    · cases hs
      exact lv_ladd hx hb hd (k0 _ _ _ kk rfl)
    · cases hs
  | lmul =>
    have hl : len = 1 := by simpa [mmLn] using hln
    subst hl
    simp only [mmS] at hs
    split at hs
    · cases hs
      exact lv_lmul hx hb hd (k0 _ _ _ kk rfl)
    · cases hs
  | idiv =>
    have hl : len = 1 := by simpa [mmLn] using hln
    subst hl
    simp only [mmS] at hs
    split at hs
    · split at hs
      · cases hs
      · rename_i hne
        cases hs
        exact lv_idiv hx hb hd hne (k0 _ _ _ kk rfl)
    · cases hs
  | iushr =>
    have hl : len = 1 := by simpa [mmLn] using hln
    subst hl
    simp only [mmS] at hs
    split at hs
    · cases hs
      exact lv_iushr hx hb hd rfl (k0 _ _ _ kk rfl)
    · cases hs
  | i2l =>
    have hl : len = 1 := by simpa [mmLn] using hln
    subst hl
    simp only [mmS] at hs
    split at hs
    · cases hs
      exact lv_i2l hx hb hd rfl (k0 _ _ _ kk rfl)
    · cases hs
  | i2d =>
    have hl : len = 1 := by simpa [mmLn] using hln
    subst hl
    simp only [mmS] at hs
    split at hs
    · cases hs
      exact lv_i2d hx hb hd (k0 _ _ _ kk rfl)
    · cases hs
  | lcmp =>
    have hl : len = 1 := by simpa [mmLn] using hln
    subst hl
    simp only [mmS] at hs
    split at hs
    · cases hs
      exact W.lcmp hx hb hd (k0 _ _ _ kk rfl)
    · cases hs
  | ddiv =>
    have hl : len = 1 := by simpa [mmLn] using hln
    subst hl
    simp only [mmS] at hs
    split at hs
    · split at hs
      · rename_i hne
        cases hs
        exact lv_ddiv hx hb hd hne (k0 _ _ _ kk rfl)
      · cases hs
    · cases hs
  | dcmp op =>
    have hl : len = 1 := by simpa [mmLn] using hln
    subst hl
    simp only [mmS] at hs
    split at hs
    · cases hs
      exact lv_dcmp hx hb hd (k0 _ _ _ kk rfl)
    · cases hs
  | dup =>
    have hl : len = 1 := by simpa [mmLn] using hln
    subst hl
    simp only [mmS] at hs
    split at hs
    · split at hs
      · rename_i hc
        cases hs
        exact lv_dup hx hb hd (by rw [mmV_cat]; exact hc) (k0 _ _ _ kk rfl)
      · cases hs
    · cases hs
  | dup2 =>
    have hl : len = 1 := by simpa [mmLn] using hln
    subst hl
    simp only [mmS] at hs
    split at hs
    · split at hs
      · rename_i hc
        cases hs
        exact lv_dup2_11 hx hb hd (by rw [mmV_cat]; exact hc.1) (by rw [mmV_cat]; exact hc.2) (k0 _ _ _ kk rfl)
      · cases hs
    · cases hs
  | ifCond op off =>
    have hl : len = 3 := by simpa [mmLn] using hln
    subst hl
    simp only [mmS] at hs
    split at hs
    · simp only [mmIf] at hs
      split at hs
      · cases hs
      · rename_i t ht
        have ht := mmTg_eq ht
        cases op with
        | eq =>
          simp only [mmCnd, decide_eq_true_eq] at hs
          refine lv_if_eq hx hb hd ht (fun hc => ?_) (fun hc => ?_)
          · rw [if_pos hc] at hs
            cases hs
            exact k0 _ _ _ kk rfl
          · rw [if_neg hc] at hs
            cases hs
            exact k0 _ _ _ kk rfl
        | ne =>
          simp only [mmCnd, decide_eq_true_eq] at hs
          refine lv_if_ne hx hb hd ht (fun hc => ?_) (fun hc => ?_)
          · rw [if_pos hc] at hs
            cases hs
            exact k0 _ _ _ kk rfl
          · rw [if_neg (fun h => h hc)] at hs
            cases hs
            exact k0 _ _ _ kk rfl
        | lt =>
          simp only [mmCnd, decide_eq_true_eq] at hs
          refine lv_if_lt hx hb hd ht (fun hc => ?_) (fun hc => ?_)
          · rw [if_pos hc] at hs
            cases hs
            exact k0 _ _ _ kk rfl
          · rw [if_neg hc] at hs
            cases hs
            exact k0 _ _ _ kk rfl
        | ge =>
          simp only [mmCnd, decide_eq_true_eq] at hs
          refine lv_if_ge hx hb hd ht (fun hc => ?_) (fun hc => ?_)
          · rw [if_pos hc] at hs
            cases hs
            exact k0 _ _ _ kk rfl
          · rw [if_neg hc] at hs
            cases hs
            exact k0 _ _ _ kk rfl
        | gt =>
          simp only [mmCnd, decide_eq_true_eq] at hs
          refine lv_if_gt hx hb hd ht (fun hc => ?_) (fun hc => ?_)
          · rw [if_pos hc] at hs
            cases hs
            exact k0 _ _ _ kk rfl
          · rw [if_neg hc] at hs
            cases hs
            exact k0 _ _ _ kk rfl
        | le =>
          simp only [mmCnd, decide_eq_true_eq] at hs
          refine lv_if_le hx hb hd ht (fun hc => ?_) (fun hc => ?_)
          · rw [if_pos hc] at hs
            cases hs
            exact k0 _ _ _ kk rfl
          · rw [if_neg hc] at hs
            cases hs
            exact k0 _ _ _ kk rfl
    · cases hs
  | if_icmp op off =>
    have hl : len = 3 := by simpa [mmLn] using hln
    subst hl
    simp only [mmS] at hs
    split at hs
    · simp only [mmIf] at hs
      split at hs
      · cases hs
      · rename_i t ht
        have ht := mmTg_eq ht
        cases op with
        | eq =>
          simp only [mmCnd, decide_eq_true_eq] at hs
          refine lv_icmp_eq hx hb hd ht (fun hc => ?_) (fun hc => ?_)
          · rw [if_pos hc] at hs
            cases hs
            exact k0 _ _ _ kk rfl
          · rw [if_neg hc] at hs
            cases hs
            exact k0 _ _ _ kk rfl
        | ne =>
          simp only [mmCnd, decide_eq_true_eq] at hs
          refine lv_icmp_ne hx hb hd ht (fun hc => ?_) (fun hc => ?_)
          · rw [if_pos hc] at hs
            cases hs
            exact k0 _ _ _ kk rfl
          · rw [if_neg (fun h => h hc)] at hs
            cases hs
            exact k0 _ _ _ kk rfl
        | lt =>
          simp only [mmCnd, decide_eq_true_eq] at hs
          refine lv_icmp_lt hx hb hd ht (fun hc => ?_) (fun hc => ?_)
          · rw [if_pos hc] at hs
            cases hs
            exact k0 _ _ _ kk rfl
          · rw [if_neg hc] at hs
            cases hs
            exact k0 _ _ _ kk rfl
        | ge =>
          simp only [mmCnd, decide_eq_true_eq] at hs
          refine lv_icmp_ge hx hb hd ht (fun hc => ?_) (fun hc => ?_)
          · rw [if_pos hc] at hs
            cases hs
            exact k0 _ _ _ kk rfl
          · rw [if_neg hc] at hs
            cases hs
            exact k0 _ _ _ kk rfl
        | gt =>
          simp only [mmCnd, decide_eq_true_eq] at hs
          refine lv_icmp_gt hx hb hd ht (fun hc => ?_) (fun hc => ?_)
          · rw [if_pos hc] at hs
            cases hs
            exact k0 _ _ _ kk rfl
          · rw [if_neg hc] at hs
            cases hs
            exact k0 _ _ _ kk rfl
        | le =>
          simp only [mmCnd, decide_eq_true_eq] at hs
          refine lv_icmp_le hx hb hd ht (fun hc => ?_) (fun hc => ?_)
          · rw [if_pos hc] at hs
            cases hs
            exact k0 _ _ _ kk rfl
          · rw [if_neg hc] at hs
            cases hs
            exact k0 _ _ _ kk rfl
    · cases hs
  | goto off =>
    have hl : len = 3 := by simpa [mmLn] using hln
    subst hl
    simp only [mmS, if_true] at hs
    obtain ⟨t, ht, he⟩ := Option.map_eq_some_iff.mp hs
    cases he
    exact lv_goto hx hb hd (mmTg_eq ht) (k0 _ _ _ kk rfl)
  | tableswitch dflt lo hi offs =>
    simp only [mmS] at hs
    split at hs
    · rename_i x r
      split at hs
      · rename_i hc
        obtain ⟨t, ht, he⟩ := Option.map_eq_some_iff.mp hs
        cases he
        exact lv_tableOut hx hb hd hc (mmTg_eq ht) (k0 _ _ _ kk rfl)
      · rename_i hc
        split at hs
        · rename_i off ho
          obtain ⟨t, ht, he⟩ := Option.map_eq_some_iff.mp hs
          cases he
          exact lv_tableIn hx hb hd (fun h => hc (Or.inl h)) (fun h => hc (Or.inr h)) ho (mmTg_eq ht) (k0 _ _ _ kk rfl)
        · cases hs
    · cases hs
  | getfield i =>
    have hl : len = 3 := by simpa [mmLn] using hln
    subst hl
    simp only [mmS] at hs
    split at hs
    · rename_i k r
      split at hs
      · rename_i cf hF
        obtain ⟨own2, C, T, N, ho, hc, hf, hwd⟩ := mmFk_all _ (mmF3_mem hF)
        cases how.symm.trans ho
        split at hs
        · rename_i j hfd
          cases hs
          obtain ⟨hk, fs, hl, hfs⟩ := mmFd_lay hfd
          exact va_get hx hb hts (mmCk_all _ _ _ _ hc).1 hown hK hP k (by rw [mmW_at hk, mmCe_obj hl]) hc _ hf (hts _ hwd) (fun _ h => h) (v := .ref (ad j)) (by rw [mmFs_at, hfs]; rfl) hd (k0 _ _ _ kk rfl)
        · rename_i hfd
          cases hs
          obtain ⟨hk, fs, hl, hfs⟩ := mmFd_lay hfd
          exact va_get hx hb hts (mmCk_all _ _ _ _ hc).1 hown hK hP k (by rw [mmW_at hk, mmCe_obj hl]) hc _ hf (hts _ hwd) (fun _ h => h) (v := .int (M.1 k cf.2)) (by rw [mmFs_at, hfs]; simp) hd (k0 _ _ _ kk rfl)
        · cases hs
      · cases hs
    · cases hs
  | putfield i =>
    have hl : len = 3 := by simpa [mmLn] using hln
    subst hl
    simp only [mmS] at hs
    split at hs
    · rename_i v k r
      split at hs
      · rename_i cf hF
        obtain ⟨own2, C, T, N, ho, hc, hf, hwd⟩ := mmFk_all _ (mmF3_mem hF)
        cases how.symm.trans ho
        split at hs
        · rename_i hfd
          cases hs
          obtain ⟨hk, fs, hl, hfs⟩ := mmFd_lay hfd
          obtain ⟨C2, T2, N2, hc2, hlen, hint⟩ := mmLay_obj k (by omega) _ _ hl
          cases hc.symm.trans hc2
          obtain ⟨hin, ty0, hty, hnm⟩ := mmCk_all _ _ _ _ hc
          refine va_put hx hb hts hin ty0 hty hnm hown hK hP hD hS k (by rw [mmW_at hk, mmCe_obj hl]) hc _ hf (hts _ hwd) (fun _ h => h) (hint _ hfs).1 (ty := .int) (v := .int v) (hint _ hfs).2 (vp_nar_int v) rfl (by rw [mmFs_len, hlen]; exact hf) hd (fun H1 locs1 hP1 hD1 hS1 => ?_)
          rw [mmW_F hl hfs] at hP1 hD1
          exact kk lsR H1 locs1 hL hP1 hD1 hS1
        · cases hs
      · cases hs
    · cases hs
  | iaload =>
    have hl : len = 1 := by simpa [mmLn] using hln
    subst hl
    simp only [mmS] at hs
    split at hs
    · rename_i i k r
      split at hs
      · rename_i h99
        subst h99
        split at hs
        · rename_i xs
          split at hs
          · rename_i j hj
            cases hs
            obtain ⟨hin, rfl⟩ := mmX_in hj
            obtain ⟨x1, x2, x3⟩ := hX xs.1 xs.2 rfl
            exact va_sld hx hb x1 x2 x3 hS hin hd (k0 _ _ _ kk rfl)
          · cases hs
        · cases hs
      · split at hs
        · rename_i a hfd
          split at hs
          · rename_i j hj
            cases hs
            obtain ⟨hin, rfl⟩ := mmX_in hj
            obtain ⟨hk, hl⟩ := mmArr_lay hfd
            exact va_iald hx hb hK hP k 0 (by rw [mmW_at hk, mmCe_int hl]) rfl hin hd (k0 _ _ _ kk rfl)
          · cases hs
        · cases hs
    · cases hs
  | iastore =>
    have hl : len = 1 := by simpa [mmLn] using hln
    subst hl
    simp only [mmS] at hs
    split at hs
    · rename_i v i k r
      split at hs
      · rename_i a hfd
        split at hs
        · rename_i j hj
          cases hs
          obtain ⟨hin, rfl⟩ := mmX_in hj
          obtain ⟨hk, hl⟩ := mmArr_lay hfd
          refine va_iast hx hb hK hP hD hS k 0 (by rw [mmW_at hk, mmCe_int hl]) rfl hin hd (fun H1 locs1 hP1 hD1 hS1 => ?_)
          rw [mmW_I hl] at hP1 hD1
          exact kk lsR H1 locs1 hL hP1 hD1 hS1
        · cases hs
      · cases hs
    · cases hs
  | baload =>
    have hl : len = 1 := by simpa [mmLn] using hln
    subst hl
    simp only [mmS] at hs
    split at hs
    · rename_i i k r
      split at hs
      · rename_i a hfd
        split at hs
        · rename_i j hj
          cases hs
          obtain ⟨hin, rfl⟩ := mmX_in hj
          obtain ⟨hk, hl⟩ := mmArr_lay hfd
          exact va_zald hx hb hK hP k 1 (by rw [mmW_at hk, mmCe_bool hl]) rfl hin hd (k0 _ _ _ kk rfl)
        · cases hs
      · cases hs
    · cases hs
  | bastore =>
    have hl : len = 1 := by simpa [mmLn] using hln
    subst hl
    simp only [mmS] at hs
    split at hs
    · rename_i v i k r
      split at hs
      · rename_i a hfd
        split at hs
        · rename_i j hj
          cases hs
          obtain ⟨hin, rfl⟩ := mmX_in hj
          obtain ⟨hk, hl⟩ := mmArr_lay hfd
          refine va_zast hx hb hK hP hD hS k 1 (by rw [mmW_at hk, mmCe_bool hl]) rfl hin hd (fun H1 locs1 hP1 hD1 hS1 => ?_)
          rw [mmW_Z hl] at hP1 hD1
          exact kk lsR H1 locs1 hL hP1 hD1 hS1
        · cases hs
      · cases hs
    · cases hs
  | laload =>
    have hl : len = 1 := by simpa [mmLn] using hln
    subst hl
    simp only [mmS] at hs
    split at hs
    · rename_i i k r
      split at hs
      · rename_i a hfd
        split at hs
        · rename_i j hj
          cases hs
          obtain ⟨hin, rfl⟩ := mmX_in hj
          obtain ⟨hk, hl⟩ := mmArr_lay hfd
          have h47 := mmLay_long k (by omega) 0 _ hl
          exact va_lald hx hb hK hP k 2 (by rw [mmW_at hk, mmCe_long hl]) (by simp [mmTy, show 47 < n by omega]) hin hd (k0 _ _ _ kk rfl)
        · cases hs
      · cases hs
    · cases hs
  | lastore =>
    have hl : len = 1 := by simpa [mmLn] using hln
    subst hl
    simp only [mmS] at hs
    split at hs
    · rename_i v i k r
      split at hs
      · rename_i a hfd
        split at hs
        · rename_i j hj
          cases hs
          obtain ⟨hin, rfl⟩ := mmX_in hj
          obtain ⟨hk, hl⟩ := mmArr_lay hfd
          have h47 := mmLay_long k (by omega) 0 _ hl
          refine va_last hx hb hK hP hD hS k 2 (by rw [mmW_at hk, mmCe_long hl]) (by simp [mmTy, show 47 < n by omega]) hin hd (fun H1 locs1 hP1 hD1 hS1 => ?_)
          rw [mmW_J hn hk hl] at hP1 hD1
          exact kk lsR H1 locs1 hL hP1 hD1 hS1
        · cases hs
      · cases hs
    · cases hs
  | arraylength =>
    have hl : len = 1 := by simpa [mmLn] using hln
    subst hl
    simp only [mmS] at hs
    split at hs
    · rename_i k r
      split at hs
      · rename_i h99
        subst h99
        split at hs
        · rename_i xs
          cases hs
          obtain ⟨x1, x2, x3⟩ := hX xs.1 xs.2 rfl
          exact va_slen hx hb x1 x2 x3 hS hd (k0 _ _ _ kk rfl)
        · cases hs
      · split at hs
        · rename_i a hfd
          cases hs
          obtain ⟨hk, hl⟩ := mmArr_lay hfd
          exact va_alen hx hb hK hP k 0 (x := (a, .inl (M.1 k))) (by rw [mmW_at hk, mmCe_int hl]) rfl rfl hd (k0 _ _ _ kk rfl)
        · cases hs
    · cases hs
  | ldc_w i =>
    have hl : len = 3 := by simpa [mmLn] using hln
    subst hl
    simp only [mmS] at hs
    split at hs
    · rename_i v hF
      cases hs
      obtain ⟨own2, ho, hwd⟩ := mmKI_all _ (mmF3_mem hF)
      cases how.symm.trans ho
      exact lv_ldcw hx hb hown (hts _ hwd) hd (k0 _ _ _ kk rfl)
    · cases hs
  | ldc2_w i =>
    have hl : len = 3 := by simpa [mmLn] using hln
    subst hl
    simp only [mmS] at hs
    split at hs
    · rename_i v hF
      cases hs
      obtain ⟨own2, ho, hwd⟩ := mmKJ_all _ (mmF3_mem hF)
      cases how.symm.trans ho
      exact lv_ldc2 hx hb hown (hts _ hwd) hd (k0 _ _ _ kk rfl)
    · cases hs
  | invokestatic i =>
    have hl : len = 3 := by simpa [mmLn] using hln
    subst hl
    simp only [mmS] at hs
    split at hs
    · rename_i y x r
      split at hs
      · rename_i hc
        split at hs
        · rename_i u hF
          cases hs
          obtain ⟨own2, ho, hwd⟩ := mmMX_all _ (mmF3_mem hF)
          cases how.symm.trans ho
          have hr8 : ((r.map (mmV ad)).map fun v => v.category).sum ≤ 8 := by
            rw [List.map_map, show (fun v : Value => v.category) ∘ mmV ad = fun v => v.category from funext fun v => mmV_cat ad v]
            exact hc.2
          exact va_mmax hx hb (hml.trans hL.1.symm) hown (hts _ hwd) (hts _ bwx_s) (hts _ bwi_RJ9) (hts _ bwx_c) (hw hc.1).1 (Nat.le_trans (Nat.add_le_add_right hr8 13) (hw hc.1).2) hcs.1 hcs.2 hd (k0 _ _ _ kk rfl)
        · cases hs
      · cases hs
    · cases hs
  | _ => exact absurd hs (by simp [mmS])
end MM
end
section
/-! what rides in every contract beside the good words: nest links, text constants, classes of exceptions; the two statics of Throwable -/
def mmEx (e : Nat) : String := match e with
  | 0 => "java/lang/IndexOutOfBoundsException"
  | 1 => "java/lang/IllegalArgumentException"
  | _ => "java/lang/IllegalStateException"
abbrev mmUp : List String := ["java/lang/RuntimeException", "java/lang/Exception"]
def mmNG : List Cond := [.castable (mmEx 0) (mmEx 0), .castable (mmEx 1) (mmEx 1), .castable (mmEx 2) (mmEx 2), .declares ⟨"java/lang/RuntimeException", "<init>", "(Ljava/lang/String;)V"⟩, .declares ⟨"java/lang/Exception", "<init>", "(Ljava/lang/String;)V"⟩, .declares ⟨"java/lang/Throwable", "<init>", "(Ljava/lang/String;)V"⟩]
def mmStr : List (String × Nat × String) := [(RX1, 34, "there are 30 deeds"), (RX1, 41, "there is no such deed"), (RX3, 79, "hooks is not 1 to 8"), (RX3, 117, "what is not 0 to 6"), (RX3, 138, "what is not 0 to 5"), (RX3, 159, "what is not 0 to 9"), (RX3, 161, "there is no such hook"), (RX3, 175, "hooks is not 1 to 16"), (RX3, 218, "there is no such deed"), (RX3, 223, "a pot is not 0 to 15"), (RX3, 225, "a pot is not -1 to 15"), (RX3, 227, "weight is not 1 to 9")]
def mmKs (D : va_G) (G : Nat → ClassId) (n : Nat) (U : State) : Prop := va_K D mmCls (mmTy G n) U ∧ (∀ q ∈ mmNst, va_Nw (.methodLinkNest q.1 q.2.1 q.2.2.1 q.2.2.2) U) ∧ (∀ q ∈ mmStr, ∃ a, vk_R q.1 q.2.1 q.2.2 a U) ∧ (∀ w ∈ mmNG, va_Nw w U) ∧ ∀ e e' : Nat, e < 3 → e' < e → va_Nc (mmEx e) (mmEx e') U
theorem mmNG_warm {s U : State} (hW : s.WarmedH U.vm) {w : Cond} (hw : w ∈ mmNG) (h : va_Nw w s) : va_Nw w U := by
  simp only [mmNG, List.mem_cons, List.not_mem_nil, or_false] at hw
  rcases hw with rfl | rfl | rfl | rfl | rfl | rfl
  · exact va_Nw.warmC hW h
  · exact va_Nw.warmC hW h
  · exact va_Nw.warmC hW h
  · exact va_Nw.warmD hW h
  · exact va_Nw.warmD hW h
  · exact va_Nw.warmD hW h
theorem mmNG_tab {w : Cond} (hw : w ∈ mmNG) : w.onTables = true := by
  simp only [mmNG, List.mem_cons, List.not_mem_nil, or_false] at hw
  rcases hw with rfl | rfl | rfl | rfl | rfl | rfl <;> rfl
theorem mmKs.warm {D : va_G} {G : Nat → ClassId} {n : Nat} {s U : State} (hW : s.WarmedH U.vm) (h : mmKs D G n s) : mmKs D G n U :=
  ⟨va_K.moved hW.alike h.1, fun q hq => va_Nw.warmM hW (h.2.1 q hq), fun q hq => (h.2.2.1 q hq).elim fun a ha => ⟨a, vk_R.warm hW ha⟩, fun w hw => mmNG_warm hW hw (h.2.2.2.1 w hw), fun e e' h1 h2 => va_Nc.moved hW.alike (h.2.2.2.2 e e' h1 h2)⟩
theorem mmKs.same {D : va_G} {G : Nat → ClassId} {n : Nat} {s U : State} (hv : U.vm = s.vm) (h : mmKs D G n s) : mmKs D G n U :=
  have ha : s.vm.Alike U.vm := by rw [hv]; exact Vm.Alike.refl s.vm
  ⟨va_K.moved ha h.1, fun q hq => va_Nw.same rfl hv.symm (h.2.1 q hq), fun q hq => (h.2.2.1 q hq).elim fun a hx => ⟨a, vk_R.same hv hx⟩, fun w hw => va_Nw.same (mmNG_tab hw) hv.symm (h.2.2.2.1 w hw), fun e e' h1 h2 => va_Nc.moved ha (h.2.2.2.2 e e' h1 h2)⟩
/-- the picture with which a method begins -/
def mmZq (A : Nat → Prop) (U : State) (H : Heap) : Prop := vx_Zq Bundle.tN "UNASSIGNED_STACK" Bundle.steD A U H ∧ vx_Zq Bundle.tN "SUPPRESSED_SENTINEL" Bundle.listD A U H
def mmPic (D : va_G) (G : Nat → ClassId) (ad : Nat → Nat) (M : mmM) (n sz : Nat) (U : State) : Prop := U.heap.size = sz ∧ va_P D mmCls (mmW G ad M n) U.heap ∧ va_D (fun _ => True) (mmW G ad M n) ∧ mmKs D G n U ∧ mmZq (va_A (mmW G ad M n) sz) U U.heap
theorem mmPic_blind {D : va_G} {G : Nat → ClassId} {ad : Nat → Nat} {M : mmM} {n sz : Nat} {av : List Value} : FrameBlind (va_Pc av (mmPic D G ad M n sz)) := by
  intro a U g mk h
  obtain ⟨h1, hsz, hP, hD, hK, hU, hN⟩ := h
  exact ⟨h1, hsz, hP, hD, mmKs.same (s := U) rfl hK, vx_Zq.moved (u := U) (Vm.Alike.refl U.vm) hU, vx_Zq.moved (u := U) (Vm.Alike.refl U.vm) hN⟩
def mmQr (D : va_G) (G : Nat → ClassId) (ad : Nat → Nat) (M' : mmM) (n : Nat) (o : Option Value ⊕ Nat) (A : Nat → Prop) : Array Value → State → Outcome → State → Prop := fun _ st oc t => (∃ v, o = .inl v ∧ oc = .returned (v.map (mmV ad)) ∧ va_P D mmCls (mmW G ad M' n) t.heap) ∧ va_F A st t
def mmXr (D : va_G) (G : Nat → ClassId) (ad : Nat → Nat) (M' : mmM) (n : Nat) (o : Option Value ⊕ Nat) (A : Nat → Prop) : String → State → State → Prop := fun E st t => (∃ e, o = .inr e ∧ E = mmEx e ∧ va_P D mmCls (mmW G ad M' n) t.heap) ∧ va_F A st t
def mmRm (r : mmRow) (k : Nat) : Room := { frames := mmFr r, cells := k, slots := 6 * k, locals := mmLo r }
def mmCon (l : Launch) (f : Nat) : Prop := ∀ (n z : Nat) (r : mmRow) (As : List Value) (M M' : mmM) (o : Option Value ⊕ Nat), n ≤ 48 → mmP[z]? = some r → mmFr r ≤ 10 → mmGo f none n z 0 (mmEn (mmMl r) As) [] M = some (o, M') → (mmEl As).length ≤ mmMl r →
  ∀ (D : va_G) (G : Nat → ClassId) (ad : Nat → Nat) (sz : Nat), vx_Met l (mmNm r) (mmHd r :: mmBW) (mmRm r (M'.2.2 - M.2.2)) (va_Pc (As.map (mmV ad)) (mmPic D G ad M n sz)) (mmQr D G ad M' n o (va_A (mmW G ad M n) sz)) (mmXr D G ad M' n o (va_A (mmW G ad M n) sz)) (M'.2.2 - M.2.2) (6 * (M'.2.2 - M.2.2)) (va_A (mmW G ad M n) sz)
set_option maxHeartbeats 4000000 in
theorem mmS_same {S : mmScr} {n o pc pc' len : Nat} {w : Bool} {ins : Instr} {ls ls' st st' : List Value} {M M' : mmM} (h : mmS S n o w pc ins len ls st M = some (pc', ls', st', M')) : M'.2.2 = M.2.2 ∧ ls'.length = ls.length := by
  cases ins <;> simp only [mmS, mmIf, mmLd] at h <;> (repeat' split at h) <;> first
    | (cases h; exact ⟨rfl, rfl⟩)
    | (obtain ⟨l2, hl2, he⟩ := Option.map_eq_some_iff.mp h; cases he; exact ⟨rfl, mmSt1_len hl2⟩)
    | (obtain ⟨l2, hl2, he⟩ := Option.map_eq_some_iff.mp h; cases he; exact ⟨rfl, mmSt2_len hl2⟩)
    | (obtain ⟨l2, hl2, he⟩ := Option.map_eq_some_iff.mp h; cases he; exact ⟨rfl, rfl⟩)
    | (cases h)
theorem mmE_len {rt : Option FieldType} {ins : Instr} {len : Nat} {st : List Value} {v : Option Value} (h : mmE rt ins st = some v) (hl : mmLn ins len = true) : len = 1 := by
  cases ins <;> simp only [mmE] at h <;> first | (simpa [mmLn] using hl) | (cases h)
theorem mmGo_mono : ∀ (f : Nat) (S : mmScr) (n y pc : Nat) (ls st : List Value) (M M' : mmM) (o : Option Value ⊕ Nat), mmGo f S n y pc ls st M = some (o, M') → M.2.2 ≤ M'.2.2
  | 0, S, n, y, pc, ls, st, M, M', o, h => by simp [mmGo] at h
  | f + 1, S, n, y, pc, ls, st, M, M', o, h => by
    have ih := mmGo_mono f
    simp only [mmGo] at h
    repeat' split at h
    all_goals first
      | (rename_i hs; have h1 := (mmS_same hs).1; have h2 := ih _ _ _ _ _ _ _ _ _ h; omega)
      | (cases h; exact Nat.le_refl _)
      | (cases h; done)
      | (cases h; exact ih _ _ _ _ _ _ _ _ _ (by assumption))
      | (cases h; simp [mmT])
      | (exact Nat.le_trans (ih _ _ _ _ _ _ _ _ _ (by assumption)) (ih _ _ _ _ _ _ _ _ _ h))
end
section
/-! throws: what stands at each place where the class throws -/
theorem bwe_0 : Cond.initialized (mmEx 0) ∈ mmBW := bw1 (i := 11) (by decide +kernel) rfl
theorem bwe_1 : Cond.initialized (mmEx 1) ∈ mmBW := bw1 (i := 12) (by decide +kernel) rfl
theorem bwe_2 : Cond.initialized (mmEx 2) ∈ mmBW := bw1 (i := 13) (by decide +kernel) rfl
theorem bwq_RX1_32 : Cond.classLink RX1 32 (mmEx 2) ∈ mmBW := bw2 (i := 211) (by decide +kernel) rfl
theorem bwq_RX1_39 : Cond.classLink RX1 39 (mmEx 0) ∈ mmBW := bw2 (i := 33) (by decide +kernel) rfl
theorem bwq_RX3_77 : Cond.classLink RX3 77 (mmEx 1) ∈ mmBW := bw2 (i := 191) (by decide +kernel) rfl
theorem bwq_RX3_115 : Cond.classLink RX3 115 (mmEx 0) ∈ mmBW := bw2 (i := 147) (by decide +kernel) rfl
theorem atS_RX1_36 : ∀ w ∈ vx_atS RX1 36 (mmEx 2) mmUp, (w ∈ mmBW ∨ w ∈ mmNG) ∧ vx_ot w = true := by
  intro w hw
  have h : (vx_atS RX1 36 (mmEx 2) mmUp).all (fun w => ((decide (w ∈ lw_tbl) && goodWord w) || decide (w ∈ mmNG)) && vx_ot w) = true := by decide +kernel
  have h1 := List.all_eq_true.mp h w hw
  simp only [Bool.and_eq_true, Bool.or_eq_true, decide_eq_true_eq] at h1
  exact ⟨h1.1.elim (fun h => Or.inl (List.mem_filter.mpr h)) Or.inr, h1.2⟩
theorem atS_RX1_43 : ∀ w ∈ vx_atS RX1 43 (mmEx 0) mmUp, (w ∈ mmBW ∨ w ∈ mmNG) ∧ vx_ot w = true := by
  intro w hw
  have h : (vx_atS RX1 43 (mmEx 0) mmUp).all (fun w => ((decide (w ∈ lw_tbl) && goodWord w) || decide (w ∈ mmNG)) && vx_ot w) = true := by decide +kernel
  have h1 := List.all_eq_true.mp h w hw
  simp only [Bool.and_eq_true, Bool.or_eq_true, decide_eq_true_eq] at h1
  exact ⟨h1.1.elim (fun h => Or.inl (List.mem_filter.mpr h)) Or.inr, h1.2⟩
theorem atS_RX3_81 : ∀ w ∈ vx_atS RX3 81 (mmEx 1) mmUp, (w ∈ mmBW ∨ w ∈ mmNG) ∧ vx_ot w = true := by
  intro w hw
  have h : (vx_atS RX3 81 (mmEx 1) mmUp).all (fun w => ((decide (w ∈ lw_tbl) && goodWord w) || decide (w ∈ mmNG)) && vx_ot w) = true := by decide +kernel
  have h1 := List.all_eq_true.mp h w hw
  simp only [Bool.and_eq_true, Bool.or_eq_true, decide_eq_true_eq] at h1
  exact ⟨h1.1.elim (fun h => Or.inl (List.mem_filter.mpr h)) Or.inr, h1.2⟩
theorem atS_RX3_119 : ∀ w ∈ vx_atS RX3 119 (mmEx 0) mmUp, (w ∈ mmBW ∨ w ∈ mmNG) ∧ vx_ot w = true := by
  intro w hw
  have h : (vx_atS RX3 119 (mmEx 0) mmUp).all (fun w => ((decide (w ∈ lw_tbl) && goodWord w) || decide (w ∈ mmNG)) && vx_ot w) = true := by decide +kernel
  have h1 := List.all_eq_true.mp h w hw
  simp only [Bool.and_eq_true, Bool.or_eq_true, decide_eq_true_eq] at h1
  exact ⟨h1.1.elim (fun h => Or.inl (List.mem_filter.mpr h)) Or.inr, h1.2⟩
def mmThOk (q : Nat × Nat × Nat) : Prop := ∃ (r : mmRow) (ik is ic : Nat) (text own : String), mmP[q.1]? = some r ∧ mmOwn[mmOw r]? = some own ∧ q.2.2 < 3 ∧ (own, is, text) ∈ mmStr ∧ Cond.classLink own ik (mmEx q.2.2) ∈ mmBW ∧ Cond.initialized (mmEx q.2.2) ∈ mmBW ∧ (∀ w ∈ vx_atS own ic (mmEx q.2.2) mmUp, (w ∈ mmBW ∨ w ∈ mmNG) ∧ vx_ot w = true) ∧
  decode (mmCd r) q.2.1 = .ok (.new ik, 3) ∧ decode (mmCd r) (q.2.1 + 3) = .ok (.dup, 1) ∧ decode (mmCd r) (q.2.1 + 4) = .ok (.ldc is, 2) ∧ decode (mmCd r) (q.2.1 + 6) = .ok (.invokespecial ic, 3) ∧ decode (mmCd r) (q.2.1 + 9) = .ok (.athrow, 1) ∧ 6 ≤ mmFr r ∧ 90 ≤ mmLo r
theorem mmTh_all : ∀ q ∈ mmTH, mmThOk q := by
  intro q hq
  simp only [mmTH, List.mem_cons, List.not_mem_nil, or_false] at hq
  rcases hq with rfl | rfl | rfl | rfl | rfl | rfl | rfl | rfl | rfl | rfl | rfl | rfl
  · exact ⟨mr12, 32, 34, 36, _, RX1, rfl, rfl, by decide, List.mem_of_getElem? (i := 0) rfl, bwq_RX1_32, bwe_2, atS_RX1_36, dX1_add_9, dX1_add_12, dX1_add_13, dX1_add_15, dX1_add_18, by decide, by decide⟩
  · exact ⟨mr13, 39, 41, 43, _, RX1, rfl, rfl, by decide, List.mem_of_getElem? (i := 1) rfl, bwq_RX1_39, bwe_0, atS_RX1_43, dX1_remove_12, dX1_remove_15, dX1_remove_16, dX1_remove_18, dX1_remove_21, by decide, by decide⟩
  · exact ⟨mr31, 77, 79, 81, _, RX3, rfl, rfl, by decide, List.mem_of_getElem? (i := 2) rfl, bwq_RX3_77, bwe_1, atS_RX3_81, dX3_setHooks_11, dX3_setHooks_14, dX3_setHooks_15, dX3_setHooks_17, dX3_setHooks_20, by decide, by decide⟩
  · exact ⟨mr32, 115, 117, 119, _, RX3, rfl, rfl, by decide, List.mem_of_getElem? (i := 3) rfl, bwq_RX3_115, bwe_0, atS_RX3_119, dX3_deed_132, dX3_deed_135, dX3_deed_136, dX3_deed_138, dX3_deed_141, by decide, by decide⟩
  · exact ⟨mr35, 115, 138, 119, _, RX3, rfl, rfl, by decide, List.mem_of_getElem? (i := 4) rfl, bwq_RX3_115, bwe_0, atS_RX3_119, dX3_pot_127, dX3_pot_130, dX3_pot_131, dX3_pot_133, dX3_pot_136, by decide, by decide⟩
  · exact ⟨mr36, 115, 159, 119, _, RX3, rfl, rfl, by decide, List.mem_of_getElem? (i := 5) rfl, bwq_RX3_115, bwe_0, atS_RX3_119, dX3_count_137, dX3_count_140, dX3_count_141, dX3_count_143, dX3_count_146, by decide, by decide⟩
  · exact ⟨mr37, 115, 161, 119, _, RX3, rfl, rfl, by decide, List.mem_of_getElem? (i := 6) rfl, bwq_RX3_115, bwe_0, atS_RX3_119, dX3_hangs_12, dX3_hangs_15, dX3_hangs_16, dX3_hangs_18, dX3_hangs_21, by decide, by decide⟩
  · exact ⟨mr39, 77, 175, 81, _, RX3, rfl, rfl, by decide, List.mem_of_getElem? (i := 7) rfl, bwq_RX3_77, bwe_1, atS_RX3_81, dX3_would_11, dX3_would_14, dX3_would_15, dX3_would_17, dX3_would_20, by decide, by decide⟩
  · exact ⟨mr52, 115, 218, 119, _, RX3, rfl, rfl, by decide, List.mem_of_getElem? (i := 8) rfl, bwq_RX3_115, bwe_0, atS_RX3_119, dX3_requireDeed_15, dX3_requireDeed_18, dX3_requireDeed_19, dX3_requireDeed_21, dX3_requireDeed_24, by decide, by decide⟩
  · exact ⟨mr53, 115, 223, 119, _, RX3, rfl, rfl, by decide, List.mem_of_getElem? (i := 9) rfl, bwq_RX3_115, bwe_0, atS_RX3_119, dX3_requirePot_7, dX3_requirePot_10, dX3_requirePot_11, dX3_requirePot_13, dX3_requirePot_16, by decide, by decide⟩
  · exact ⟨mr54, 115, 225, 119, _, RX3, rfl, rfl, by decide, List.mem_of_getElem? (i := 10) rfl, bwq_RX3_115, bwe_0, atS_RX3_119, dX3_requirePotOrNone_12, dX3_requirePotOrNone_15, dX3_requirePotOrNone_16, dX3_requirePotOrNone_18, dX3_requirePotOrNone_21, by decide, by decide⟩
  · exact ⟨mr55, 77, 227, 81, _, RX3, rfl, rfl, by decide, List.mem_of_getElem? (i := 11) rfl, bwq_RX3_77, bwe_1, atS_RX3_81, dX3_requireWeight_11, dX3_requireWeight_14, dX3_requireWeight_15, dX3_requireWeight_17, dX3_requireWeight_20, by decide, by decide⟩
/-! caught classes -/
theorem bwq_RL_13 : Cond.classLink RL 13 (mmEx 0) ∈ mmBW := bw2 (i := 177) (by decide +kernel) rfl
theorem bwq_RL_15 : Cond.classLink RL 15 (mmEx 1) ∈ mmBW := bw2 (i := 178) (by decide +kernel) rfl
theorem bwq_RL_17 : Cond.classLink RL 17 (mmEx 2) ∈ mmBW := bw2 (i := 179) (by decide +kernel) rfl
theorem mmCK_all : ∀ q ∈ mmCK, ∃ own, mmOwn[q.1]? = some own ∧ Cond.classLink own q.2.1 (mmEx q.2.2) ∈ mmBW ∧ q.2.1 ≠ 0 ∧ q.2.2 < 3 := by
  intro q hq
  simp only [mmCK, List.mem_cons, List.not_mem_nil, or_false] at hq
  rcases hq with rfl | rfl | rfl
  · exact ⟨_, rfl, bwq_RL_13, by decide, by decide⟩
  · exact ⟨_, rfl, bwq_RL_15, by decide, by decide⟩
  · exact ⟨_, rfl, bwq_RL_17, by decide, by decide⟩
theorem mmHf_spec {o pc e : Nat} : ∀ (hh : List (Nat × Nat × Nat × Nat)) {hp : Nat}, mmHf o pc e hh = some hp → ∃ (pre : List (Nat × Nat × Nat × Nat)) (x : Nat × Nat × Nat × Nat) (suf : List (Nat × Nat × Nat × Nat)), hh = pre ++ x :: suf ∧ x.2.2.1 = hp ∧ (x.1 ≤ pc ∧ pc < x.2.1) ∧ mmF3 mmCK o x.2.2.2 = some e ∧ ∀ z ∈ pre, ¬ (z.1 ≤ pc ∧ pc < z.2.1) ∨ ∃ e', e' < e ∧ mmF3 mmCK o z.2.2.2 = some e'
  | [], hp, h => by simp [mmHf] at h
  | x :: t, hp, h => by
    have ih := @mmHf_spec o pc e t hp
    simp only [mmHf] at h
    split at h
    · rename_i hc
      split at h
      · rename_i e' he'
        split at h
        · rename_i hee
          subst hee
          cases h
          exact ⟨[], x, t, rfl, rfl, hc, he', fun z hz => nomatch hz⟩
        · split at h
          · rename_i hlt
            obtain ⟨pre, y, suf, h1, h2, h3, h4, h5⟩ := ih h
            refine ⟨x :: pre, y, suf, by rw [h1]; rfl, h2, h3, h4, fun z hz => ?_⟩
            rcases List.mem_cons.mp hz with rfl | hz
            · exact Or.inr ⟨e', hlt, he'⟩
            · exact h5 z hz
          · cases h
      · cases h
    · rename_i hc
      obtain ⟨pre, y, suf, h1, h2, h3, h4, h5⟩ := ih h
      refine ⟨x :: pre, y, suf, by rw [h1]; rfl, h2, h3, h4, fun z hz => ?_⟩
      rcases List.mem_cons.mp hz with rfl | hz
      · exact Or.inl hc
      · exact h5 z hz
theorem mmCs_spec {z : Nat} {st As rest : List Value} {z2 : Nat} (h : mmCs z st = some (z2, As, rest)) {rz : mmRow} (hz : mmP[z]? = some rz) : z2 = z ∧ mmSt rz = true ∧ mmSm rest ≤ 8 ∧ st = As.reverse ++ rest ∧ As.length = mmNa rz := by
  unfold mmCs at h
  rw [hz] at h
  simp only at h
  split at h
  · rename_i hc
    cases h
    exact ⟨rfl, hc.1, hc.2.1, by rw [List.reverse_reverse, List.take_append_drop], by rw [List.length_reverse, List.length_take]; omega⟩
  · cases h
theorem mmCl_spec {n o : Nat} {ins : Instr} {st As rest : List Value} {z : Nat} (h : mmCl n o ins st = some (z, As, rest)) {rz : mmRow} (hz : mmP[z]? = some rz) : mmSm rest ≤ 8 ∧
    ((∃ i k As', ins = .invokevirtual i ∧ mmF3 mmML o i = some z ∧ mmSt rz = false ∧ mmHh rz = [] ∧ As = .ref k :: As' ∧ st = As'.reverse ++ .ref k :: rest ∧ As'.length = mmNa rz ∧ ∃ x, mmFd n (mmOw rz) 0 k = some x) ∨
     (∃ i, ins = .invokestatic i ∧ (mmF3 mmML o i = some z ∨ (mmF3 mmNL o i = some z ∧ mmHh rz = [])) ∧ mmSt rz = true ∧ st = As.reverse ++ rest ∧ As.length = mmNa rz)) := by
  cases ins with
  | invokevirtual i =>
    simp only [mmCl] at h
    split at h
    · rename_i z2 hF
      split at h
      · rename_i r2 hr2
        split at h
        · rename_i hc
          split at h
          · rename_i k rest2 hd
            split at h
            · rename_i x hx
              cases h
              cases hz.symm.trans hr2
              refine ⟨?_, Or.inl ⟨i, k, (st.take (mmNa rz)).reverse, rfl, hF, hc.1, hc.2.1, rfl, ?_, by rw [List.length_reverse, List.length_take]; omega, x, hx⟩⟩
              · have h8 := hc.2.2.1
                rw [← List.drop_drop, hd] at h8
                exact h8
              · rw [List.reverse_reverse, ← hd, List.take_append_drop]
            · cases h
          · cases h
        · cases h
      · cases h
    · cases h
  | invokestatic i =>
    simp only [mmCl] at h
    split at h
    · rename_i z2 hF
      have hz2 : z2 = z := by
        unfold mmCs at h
        split at h
        · split at h
          · cases h; rfl
          · cases h
        · cases h
      subst hz2
      obtain ⟨-, h1, h2, h3, h4⟩ := mmCs_spec h hz
      exact ⟨h2, Or.inr ⟨i, rfl, Or.inl hF, h1, h3, h4⟩⟩
    · split at h
      · rename_i z2 hF
        split at h
        · rename_i r2 hr2
          split at h
          · rename_i hh
            have hz2 : z2 = z := by
              unfold mmCs at h
              split at h
              · split at h
                · cases h; rfl
                · cases h
              · cases h
            subst hz2
            cases hz.symm.trans hr2
            obtain ⟨-, h1, h2, h3, h4⟩ := mmCs_spec h hz
            exact ⟨h2, Or.inr ⟨i, rfl, Or.inr ⟨hF, hh⟩, h1, h3, h4⟩⟩
          · cases h
        · cases h
      · cases h
  | _ => exact absurd h (by simp [mmCl])
theorem mmCls_own {c : Nat} {C : String} {T : u_T} {N : Nat} (h : mmCls[c]? = some (C, T, N)) : mmOwn[c]? = some C := by
  match c, h with
  | 0, h => cases h; rfl
  | 1, h => cases h; rfl
  | 2, h => cases h; rfl
  | 3, h => cases h; rfl
  | 4, h => cases h; rfl
  | c + 5, h => simp [mmCls] at h
section MMC
variable {p : Program} {l : Launch} {e : Env} {R : Room} {s : State} {m : MethodId} {args : Array Value} {below : List Frame} {meth : Method} {c : Code} {H : Heap} {locs : List Loc} {cells slots : Nat} {Q : State → Prop}
/-- behind a call that returns or throws -/
theorem mm_after {D : va_G} {G : Nat → ClassId} {ad : Nat → Nat} {M1 : mmM} {n : Nat} {o : Option Value ⊕ Nat} {A A1 : Nat → Prop} {mc ms pc : Nat} {lsR : Array Slot} {st0 rest : List Value} {a : Array Value} {free : Addr → Prop}
    (hr : vx_Run p l e R s m args below meth c H locs cells slots mc ms (F0 m pc lsR st0) rest (mmQr D G ad M1 n o A1 a) (mmXr D G ad M1 n o A1) free) (hS : va_S A s.heap H locs) (hA : ∀ q, q < H.size → A1 q → A q) (hf : ∀ q, free q → A q)
    (kk : ∀ (v : Option Value) (H1 : Heap) (locs1 : List Loc), o = .inl v → va_P D mmCls (mmW G ad M1 n) H1 → va_S A s.heap H1 locs1 → W p l e R s m args below meth c H1 locs1 (cells + mc) (slots + ms) Q (F0 m (pc + 3) lsR ((v.map (mmV ad)).toList ++ rest)))
    (kx : ∀ (ee : Nat) (ce : Cell) (q9 : Addr) (H1 : Heap) (locs1 : List Loc), o = .inr ee → H1[q9]? = some ce → ce.vm = .none → s.vm.findClass (mmEx ee) = some ce.cls → va_P D mmCls (mmW G ad M1 n) H1 → va_S A s.heap H1 locs1 → vx_W p l e R s m args below meth c H1 locs1 (cells + mc) (slots + ms) Q (F0 m pc lsR rest) q9) :
    W p l e R s m args below meth c H locs cells slots Q (F0 m pc lsR st0) := by
  intro T hT X
  rcases hr T hT X with ⟨v, st₀, t, T', L, h0, X', hL, e1, e2, ⟨⟨w, ho, hv, hp⟩, hF⟩, st⟩ | ⟨q, st₀, t, T', L, E, ce, h0, X', hL, e1, e2, ⟨⟨ee, ho, hE, hp⟩, hF⟩, hce, hcv, hcl, st⟩
  · cases hv
    obtain ⟨k1, k2, k3⟩ := vx_keep h0 e1 hS hA hf hL hF
    obtain ⟨t2, a1, b1⟩ := kk w T'.heap (locs ++ L) ho (by rw [e1]; exact hp) k3 T' rfl X'
    exact ⟨t2, st t2 a1, b1⟩
  · subst hE
    obtain ⟨k1, k2, k3⟩ := vx_keep h0 e1 hS hA hf hL hF
    obtain ⟨t2, a1, b1⟩ := kx ee ce q T'.heap (locs ++ L) ho (by rw [e1]; exact hce) hcv hcl (by rw [e1]; exact hp) k3 T' rfl X'
    exact ⟨t2, st.trans a1, b1⟩
theorem mmGood {ws : List Cond} (h : ∀ w ∈ ws, w ∈ mmBW) : GoodIn mmBW ws := fun w hw => ⟨h w hw, bw_good (h w hw)⟩
theorem mmSum (ad : Nat → Nat) (st : List Value) : ((st.map (mmV ad)).map fun v => v.category).sum = mmSm st := by
  rw [List.map_map, show (fun v : Value => v.category) ∘ mmV ad = fun v => v.category from funext fun v => mmV_cat ad v]
  rfl
set_option maxHeartbeats 4000000 in
/-- a call, by the callee's contract -/
theorem mm_call {D : va_G} {G : Nat → ClassId} {ad : Nat → Nat} {M M1 : mmM} {n f z : Nat} {o : Option Value ⊕ Nat} {r rz : mmRow} {own : String} {A : Nat → Prop} {pc : Nat} {ins : Instr} {lsR : Array Slot} {st As rest : List Value}
    (hCon : mmCon l f) (hx : p.tables.exec = Jvm.exec) (hb : c.code = mmCd r) (hml : c.maxLocals = lsR.size) (hn : n ≤ 48) (how : mmOwn[mmOw r]? = some own) (hown : s.vm.findClass own = some m.cls)
    (hts : ∀ w ∈ mmBW, w.before args s = true) (hK : mmKs D G n s) (hZ : mmZq A s s.heap) (hA : ∀ q : Nat, s.heap.size ≤ q → A q)
    (hfr : mmFr r ≤ R.frames) (hlo : mmLo r ≤ R.locals) (h11 : mmFr r ≤ 11)
    (hP : va_P D mmCls (mmW G ad M n) H) (hD : va_D A (mmW G ad M n)) (hS : va_S A s.heap H locs)
    (hd : decode (mmCd r) pc = .ok (ins, 3)) (hcl : mmCl n (mmOw r) ins st = some (z, As, rest)) (hz : mmP[z]? = some rz)
    (hfit : mmFr rz + 1 ≤ mmFr r ∧ 8 + (mmMl rz + 11) + mmLo rz ≤ mmLo r ∧ (mmEl As).length ≤ mmMl rz) (hgo : mmGo f none n z 0 (mmEn (mmMl rz) As) [] M = some (o, M1))
    (hc : cells + (M1.2.2 - M.2.2) ≤ R.cells) (hsl : slots + 6 * (M1.2.2 - M.2.2) ≤ R.slots)
    (kk : ∀ (v : Option Value) (H1 : Heap) (locs1 : List Loc), o = .inl v → va_P D mmCls (mmW G ad M1 n) H1 → va_S A s.heap H1 locs1 → W p l e R s m args below meth c H1 locs1 (cells + (M1.2.2 - M.2.2)) (slots + 6 * (M1.2.2 - M.2.2)) Q (F0 m (pc + 3) lsR ((v.map (mmV ad)).toList ++ rest.map (mmV ad))))
    (kx : ∀ (ee : Nat) (ce : Cell) (q9 : Addr) (H1 : Heap) (locs1 : List Loc), o = .inr ee → H1[q9]? = some ce → ce.vm = .none → s.vm.findClass (mmEx ee) = some ce.cls → va_P D mmCls (mmW G ad M1 n) H1 → va_S A s.heap H1 locs1 → vx_W p l e R s m args below meth c H1 locs1 (cells + (M1.2.2 - M.2.2)) (slots + 6 * (M1.2.2 - M.2.2)) Q (F0 m pc lsR (rest.map (mmV ad))) q9) :
    W p l e R s m args below meth c H locs cells slots Q (F0 m pc lsR (st.map (mmV ad))) := by
  have hM := hCon n z rz As M M1 o hn hz (by omega) hgo hfit.2.2 D G ad H.size
  obtain ⟨o1, o2, o3, o4, o5, o6, o7, o8, o9⟩ := mmOk_all rz (List.mem_of_getElem? hz) (by omega)
  obtain ⟨hsm, hcase⟩ := mmCl_spec hcl hz
  have hA1 : ∀ q, va_A (mmW G ad M n) H.size q → A q := by
    intro q h
    rcases h with ⟨k, e9, h⟩ | h
    · exact hD.2 k _ h
    · exact hA q (Nat.le_trans hS.1 h)
  have hpic : ∀ U : State, U.heap = H → s.WarmedH U.vm → mmPic D G ad M n H.size U := by
    intro U hU hW
    refine ⟨by rw [hU], by rw [hU]; exact hP, hD.weaken (fun _ _ _ _ => trivial), hK.warm hW, ?_, ?_⟩
    · rw [hU]; exact vx_Zq.moved hW.alike (vx_Zq.narrow (hZ.1.kept hS.2.1) hA1)
    · rw [hU]; exact vx_Zq.moved hW.alike (vx_Zq.narrow (hZ.2.kept hS.2.1) hA1)
  have hR : (mmRm rz (M1.2.2 - M.2.2)).frames + 1 ≤ R.frames ∧ 8 + (mmMl rz + 11) + (mmRm rz (M1.2.2 - M.2.2)).locals ≤ R.locals := ⟨by show mmFr rz + 1 ≤ _; omega, by show 8 + (mmMl rz + 11) + mmLo rz ≤ _; omega⟩
  have hw8 := lv_room (m := m) (pc := pc) (ls := lsR) (rest := st.map (mmV ad)) (st := rest.map (mmV ad)) (by rw [mmSum]; exact hsm)
  rcases hcase with ⟨i, k, As', rfl, hF, hst, hh, rfl, rfl, hlen, x, hfd⟩ | ⟨i, rfl, hF, hst, rfl, hlen⟩
  · obtain ⟨own2, r2, ho, hr2, hwd⟩ := mmLk_all _ (mmF3_mem hF)
    cases how.symm.trans ho
    cases hz.symm.trans hr2
    obtain ⟨hk, fs, hl, -⟩ := mmFd_lay hfd
    obtain ⟨C, T, N, hcls, -⟩ := mmLay_obj k (by omega) _ _ hl
    have hC : C = (mmNm rz).cls := Option.some.inj ((mmCls_own hcls).symm.trans o7)
    have hhd : mmHd rz = .code (mmNm rz) (mmCd rz) (mmMl rz) (mmRt rz) := by unfold mmHd; rw [if_pos hh]
    have hG : GoodIn mmBW (wsV own i (mmNm rz).cls (mmNm rz) (mmHd rz :: mmBW)) := mmGood (fun w hw => by
      unfold wsV at hw
      rcases List.mem_append.mp hw with h | h
      · simp only [List.mem_cons, List.not_mem_nil, or_false] at h
        rcases h with rfl | rfl | rfl | rfl
        · exact hwd
        · exact (o9 hst).1
        · exact (o9 hst).2
        · exact o6
      · rcases List.mem_cons.mp h with rfl | h
        · exact o1
        · exact h)
    refine mm_after (a := ((.ref k :: As').map (mmV ad)).toArray) (rest := rest.map (mmV ad)) (vx_runV (Ts := mmBW) (own := own) (nL := lsR.size) (cc := mmCd r) (b := ad k) (As := As'.map (mmV ad)) (C := (mmNm rz).cls) ⟨hx, hb, hml, hown, hts⟩ hM (cwV (mmNa rz) hts hG (by rw [hhd]) rfl rfl ⟨rfl, o3, o4, o5⟩ hR)
      ⟨mmPic_blind, ?_, fun U hU hW => ⟨rfl, hpic U hU hW⟩⟩ rfl (by rw [List.length_map]; exact hlen) rfl ?_ hw8 hd ⟨hc, hsl⟩) hS (fun q _ h => hA1 q h) hA1 kk kx
    · have h9 := va_recv hK.1 hP (ci := mmOw rz) (q0 := k) (a := ad k) (fs := mmFs ad (M.1 k) 0 fs) hcls (by rw [mmW_at hk, mmCe_obj hl])
      rw [← hC]
      exact h9
    · simp [mmV, List.map_reverse]
  · by_cases hh : mmHh rz = []
    · have hhd : mmHd rz = .code (mmNm rz) (mmCd rz) (mmMl rz) (mmRt rz) := by unfold mmHd; rw [if_pos hh]
      rcases hF with hF | ⟨hF, -⟩
      · obtain ⟨own2, r2, ho, hr2, hwd⟩ := mmLk_all _ (mmF3_mem hF)
        cases how.symm.trans ho
        cases hz.symm.trans hr2
        have hG : GoodIn mmBW (va_wsS own i (mmNm rz) (mmHd rz :: mmBW)) := mmGood (fun w hw => by
          unfold va_wsS at hw
          rcases List.mem_append.mp hw with h | h
          · simp only [List.mem_cons, List.not_mem_nil, or_false] at h
            rcases h with rfl | rfl | rfl
            · exact hwd
            · exact o8 hst
            · exact o6
          · rcases List.mem_cons.mp h with rfl | h
            · exact o1
            · exact h)
        refine mm_after (a := (As.map (mmV ad)).toArray) (rest := rest.map (mmV ad)) (vx_runS (Ts := mmBW) (own := own) (nL := lsR.size) (cc := mmCd r) (As := As.map (mmV ad)) ⟨hx, hb, hml, hown, hts⟩ hM (va_cwS (mmNa rz) hts hG (by rw [hhd]) rfl rfl ⟨o3, o4, o5⟩ hR)
          ⟨mmPic_blind, fun U hU hW => ⟨rfl, hpic U hU hW⟩⟩ rfl (by rw [List.length_map]; exact hlen) rfl ?_ hw8 hd ⟨hc, hsl⟩) hS (fun q _ h => hA1 q h) hA1 kk kx
        simp [List.map_reverse]
      · obtain ⟨own2, host, r2, ho, hr2, hwd⟩ := mmLn2_all _ (mmF3_mem hF)
        cases how.symm.trans ho
        cases hz.symm.trans hr2
        have hG : GoodIn mmBW (mmHd rz :: mmBW) := mmGood (fun w hw => by
          rcases List.mem_cons.mp hw with rfl | h
          · exact o1
          · exact h)
        refine mm_after (a := (As.map (mmV ad)).toArray) (rest := rest.map (mmV ad)) (vx_runSN (Ts := mmBW) (own := own) (nL := lsR.size) (cc := mmCd r) (As := As.map (mmV ad)) ⟨hx, hb, hml, hown, hts⟩ hM ⟨va_cnB (mmNa rz) hts hG (by rw [hhd]) rfl rfl (hK.2.1 _ hwd) (hts _ o6) ⟨o3, o4, o5⟩ hR, hts _ (o8 hst), trivial⟩
          ⟨mmPic_blind, fun U hU hW => ⟨rfl, hpic U hU hW⟩⟩ rfl (by rw [List.length_map]; exact hlen) rfl ?_ hw8 hd ⟨hc, hsl⟩) hS (fun q _ h => hA1 q h) hA1 kk kx
        simp [List.map_reverse]
    · have hhd : mmHd rz = .codeWith (mmNm rz) (mmCd rz) (mmMl rz) (mmRt rz) (mmHh rz) := by unfold mmHd; rw [if_neg hh]
      rcases hF with hF | ⟨-, hh2⟩
      · obtain ⟨own2, r2, ho, hr2, hwd⟩ := mmLk_all _ (mmF3_mem hF)
        cases how.symm.trans ho
        cases hz.symm.trans hr2
        have hG : GoodIn mmBW (va_wsS own i (mmNm rz) (mmHd rz :: mmBW)) := mmGood (fun w hw => by
          unfold va_wsS at hw
          rcases List.mem_append.mp hw with h | h
          · simp only [List.mem_cons, List.not_mem_nil, or_false] at h
            rcases h with rfl | rfl | rfl
            · exact hwd
            · exact o8 hst
            · exact o6
          · rcases List.mem_cons.mp h with rfl | h
            · exact o1
            · exact h)
        refine mm_after (a := (As.map (mmV ad)).toArray) (rest := rest.map (mmV ad)) (vx_runSX (Ts := mmBW) (own := own) (nL := lsR.size) (cc := mmCd r) (As := As.map (mmV ad)) ⟨hx, hb, hml, hown, hts⟩ hM (vx_cwSW (mmNa rz) hts hG (by rw [hhd]) rfl rfl ⟨o3, o4, o5⟩ hR)
          ⟨mmPic_blind, fun U hU hW => ⟨rfl, hpic U hU hW⟩⟩ rfl (by rw [List.length_map]; exact hlen) rfl ?_ hw8 hd ⟨hc, hsl⟩) hS (fun q _ h => hA1 q h) hA1 kk kx
        simp [List.map_reverse]
      · exact absurd hh2 hh
end MMC
end
section
/-! A RUN of the small machine is a run of the real one; every method's contract out of it. -/
theorem mmEn_len {ml : Nat} {As : List Value} (h : (mmEl As).length ≤ ml) : (mmEn ml As).length = ml := by
  simp only [mmEn, List.length_append, List.length_replicate]
  omega
theorem mmEl_args (ad : Nat → Nat) : ∀ (As : List Value) (i j : Nat) (v : Value), (mmEl As)[j]? = some v → v ≠ .null → (i + j, mmV ad v) ∈ lv_args i (As.map (mmV ad))
  | [], i, j, v, h, _ => by simp [mmEl] at h
  | a :: As, i, j, v, h, hv => by
    have ih := mmEl_args ad As
    simp only [List.map_cons, lv_args, mmV_cat]
    by_cases hc : a.category = 2
    · have he : mmEl (a :: As) = a :: .null :: mmEl As := by simp [mmEl, hc]
      rw [he] at h
      rw [if_pos hc]
      match j, h with
      | 0, h => simp at h; subst h; exact List.mem_cons_self
      | 1, h => simp at h; exact absurd h.symm hv
      | j + 2, h =>
        have h2 := ih (i + 2) j v (by simpa using h) hv
        rw [show i + (j + 2) = i + 2 + j by omega]
        exact List.mem_cons_of_mem _ h2
    · have he : mmEl (a :: As) = a :: mmEl As := by simp [mmEl, hc]
      rw [he] at h
      rw [if_neg hc]
      match j, h with
      | 0, h => simp at h; subst h; exact List.mem_cons_self
      | j + 1, h =>
        have h2 := ih (i + 1) j v (by simpa using h) hv
        rw [show i + (j + 1) = i + 1 + j by omega]
        exact List.mem_cons_of_mem _ h2
theorem mmEl_sl (ad : Nat → Nat) (As : List Value) : (lg_sl (As.map (mmV ad))).length = (mmEl As).length := by
  induction As with
  | nil => rfl
  | cons a As ih =>
    simp only [lg_sl, mmEl, List.map_cons, List.flatMap_cons, List.length_append, mmV_cat] at ih ⊢
    rw [ih]
    by_cases hc : a.category = 2 <;> simp [hc]
theorem mmEn_LR {ad : Nat → Nat} {ml : Nat} {As : List Value} (h : (mmEl As).length ≤ ml) : mmLR ad ((lg_sl (As.map (mmV ad)) ++ List.replicate (ml - (lg_sl (As.map (mmV ad))).length) Slot.unset).toArray) (mmEn ml As) := by
  refine mmLR.less (lv_entry (As.map (mmV ad)) (n := ml) (by rw [mmEl_sl]; exact h)) (mmEn_len h).symm (fun q hq => ?_)
  obtain ⟨v, h1, h2, h3⟩ := mmK_mem.mp hq
  obtain ⟨j, y⟩ := q
  simp only at h1 h3
  subst h3
  unfold mmEn at h1
  by_cases hj : j < (mmEl As).length
  · rw [List.getElem?_append_left hj] at h1
    have := mmEl_args ad As 0 j v h1 h2
    simpa using this
  · rw [List.getElem?_append_right (by omega)] at h1
    exact absurd (List.eq_of_mem_replicate (List.mem_of_getElem? h1)) h2
section MMB
variable {p : Program} {l : Launch} {e : Env} {R : Room} {s : State} {m : MethodId} {args : Array Value} {below : List Frame} {meth : Method} {c : Code} {H : Heap} {locs : List Loc} {cells slots : Nat} {Q : State → Prop}
set_option maxHeartbeats 4000000 in
theorem mm_throw {D : va_G} {G : Nat → ClassId} {n y pc ee : Nat} {r : mmRow} {own : String} {A : Nat → Prop} {lsR : Array Slot} {Qc : Array Value → State → Outcome → State → Prop} {XC : String → State → State → Prop} {mc ms : Nat} {free : Addr → Prop}
    (hfl : l.stackTraces = false) (hx : p.tables.exec = Jvm.exec) (hb : c.code = mmCd r) (hr : mmP[y]? = some r) (how : mmOwn[mmOw r]? = some own) (hown : s.vm.findClass own = some m.cls)
    (hts : ∀ w ∈ mmBW, w.before args s = true) (hK : mmKs D G n s) (hZ : mmZq A s s.heap) (hS : va_S A s.heap H locs) (hsize : lsR.size = c.maxLocals) (hfr : mmFr r ≤ R.frames) (hlo : mmLo r ≤ R.locals)
    (hF : mmF3 mmTH y pc = some ee) (htab : c.exceptionTable.toList = []) (hlocks : meth.locks = false) (hRc : cells + 1 ≤ R.cells) (hRs : slots + 6 ≤ R.slots)
    (hX : ∀ t : State, s.vm.Alike t.vm → H.size ≤ t.heap.size → (∀ q : Nat, q < H.size → t.heap[q]? = H[q]?) → XC (mmEx ee) s t) (hf : ∀ z ∈ locs, free z.base) (hc : cells + 1 ≤ mc) (hsl : slots + 6 ≤ ms) :
    W p l e R s m args below meth c H locs cells slots (vx_MQ below Qc XC args s mc ms free) (F0 m pc lsR []) := by
  obtain ⟨r2, ik, is, ic, text, own2, hr2, ho2, he3, hstr, hwk, hwi, hat, d0, d3, d4, d6, d9, h6, h90⟩ := mmTh_all _ (mmF3_mem hF)
  cases hr.symm.trans hr2
  cases how.symm.trans ho2
  obtain ⟨sa, hsa⟩ := hK.2.2.1 _ hstr
  have hbefore : ∀ w ∈ vx_atS own ic (mmEx ee) mmUp, w.before args s = true := fun w hw => by
    rcases (hat w hw).1 with h | h
    · exact hts w h
    · exact va_Nw.use (mmNG_tab h) (hK.2.2.2.1 w h)
  refine vx_throwS (names := mmUp) (cls := mmEx ee) (text := text) (sa := sa) (A := A) hx hb hfl hown ?_ (by decide +kernel) (hts _ hwk) (hts _ hwi) hsa hbefore ?_ hZ.1 hZ.2 hS hsize d0 d3 d4 d6 d9 (fun x h => by rw [htab] at h; cases h) (by show 2 + 3 < _; omega) (by show 0 + (13 * (2 + 1) + 43) ≤ _; omega) hRc hRs hlocks hX hf hc hsl
  · match ee, he3 with
    | 0, _ => decide +kernel
    | 1, _ => decide +kernel
    | 2, _ => decide +kernel
  · intro w hw
    rcases List.mem_cons.mp hw with rfl | hw
    · rfl
    · rcases List.mem_cons.mp hw with rfl | hw
      · rfl
      · exact (hat w hw).2
end MMB
/-- a run, from any place of any frame -/
def mmBody (l : Launch) (f : Nat) : Prop := ∀ (p : Program) (e : Env) (R : Room) (s : State) (m : MethodId) (args : Array Value) (below : List Frame) (meth : Method) (c : Code) (H : Heap) (locs : List Loc) (cells slots : Nat) (Q : State → Prop)
  (D : va_G) (G : Nat → ClassId) (ad : Nat → Nat) (n y : Nat) (r : mmRow) (own : String) (A : Nat → Prop) (S : mmScr) (pc : Nat) (ls st : List Value) (lsR : Array Slot) (M M' : mmM) (o : Option Value ⊕ Nat) (t0 cb sb : Nat),
  p.tables.exec = Jvm.exec → c.code = mmCd r → c.maxLocals = ls.length → n ≤ 48 → mmP[y]? = some r → mmOwn[mmOw r]? = some own → s.vm.findClass own = some m.cls → c.exceptionTable.toList = tableOf (mmHh r) →
  (∀ w ∈ mmBW, w.before args s = true) → mmKs D G n s → mmZq A s s.heap → mmXs S ad A s → (∀ q : Nat, s.heap.size ≤ q → A q) →
  mmFr r ≤ R.frames → mmLo r ≤ R.locals → mmFr r ≤ 11 → cells + t0 = cb + M.2.2 → slots + 6 * t0 = sb + 6 * M.2.2 → cb + M'.2.2 ≤ R.cells + t0 → sb + 6 * M'.2.2 ≤ R.slots + 6 * t0 →
  va_P D mmCls (mmW G ad M n) H → va_D A (mmW G ad M n) → va_S A s.heap H locs → mmLR ad lsR ls → mmGo f S n y pc ls st M = some (o, M') →
  (∀ (v : Option Value) (pc1 : Nat) (ins1 : Instr) (lsR1 : Array Slot) (st1 : List Value) (H1 : Heap) (locs1 : List Loc) (cells1 slots1 : Nat), o = .inl v → decode (mmCd r) pc1 = .ok (ins1, 1) → mmE (mmRt r) ins1 st1 = some v →
    va_P D mmCls (mmW G ad M' n) H1 → va_D A (mmW G ad M' n) → va_S A s.heap H1 locs1 → cells1 + t0 = cb + M'.2.2 → slots1 + 6 * t0 = sb + 6 * M'.2.2 → W p l e R s m args below meth c H1 locs1 cells1 slots1 Q (F0 m pc1 lsR1 (st1.map (mmV ad)))) →
  (∀ (ee : Nat) (q : Addr) (ce : Cell) (pc1 : Nat) (lsR1 : Array Slot) (rest1 : List Value) (H1 : Heap) (locs1 : List Loc) (cells1 slots1 : Nat), o = .inr ee → mmHh r = [] → H1[q]? = some ce → ce.vm = .none → s.vm.findClass (mmEx ee) = some ce.cls →
    va_P D mmCls (mmW G ad M' n) H1 → va_S A s.heap H1 locs1 → cells1 + t0 = cb + M'.2.2 → slots1 + 6 * t0 = sb + 6 * M'.2.2 → vx_W p l e R s m args below meth c H1 locs1 cells1 slots1 Q (F0 m pc1 lsR1 rest1) q) →
  (∀ (ee pc1 : Nat) (lsR1 : Array Slot) (H1 : Heap) (locs1 : List Loc) (cells1 slots1 : Nat) (M1 : mmM), o = .inr ee → mmF3 mmTH y pc1 = some ee → mmHh r = [] → lsR1.size = c.maxLocals → M' = mmT M1 →
    va_P D mmCls (mmW G ad M1 n) H1 → va_S A s.heap H1 locs1 → cells1 + t0 = cb + M1.2.2 → slots1 + 6 * t0 = sb + 6 * M1.2.2 → W p l e R s m args below meth c H1 locs1 cells1 slots1 Q (F0 m pc1 lsR1 [])) →
  W p l e R s m args below meth c H locs cells slots Q (F0 m pc lsR (st.map (mmV ad)))
theorem mmW_T {G : Nat → ClassId} {ad : Nat → Nat} {M : mmM} {n : Nat} : mmW G ad (mmT M) n = mmW G ad M n := rfl
theorem mmD_any {G : Nat → ClassId} {ad : Nat → Nat} {M M1 : mmM} {n : Nat} {A : Nat → Prop} (h : va_D A (mmW G ad M n)) : va_D A (mmW G ad M1 n) := by
  have key : ∀ (k : Nat) (q : Nat × va_E), (mmW G ad M1 n)[k]? = some q → ∃ q0, (mmW G ad M n)[k]? = some q0 ∧ q0.1 = q.1 := by
    intro k q hk
    have hl : k < n := by
      have := (List.getElem?_eq_some_iff.mp hk).1
      rw [mmW_len] at this
      exact this
    rw [mmW_at hl] at hk
    cases hk
    exact ⟨_, mmW_at hl, rfl⟩
  refine ⟨fun i j x y hi hj hxy => ?_, fun k q hk => ?_⟩
  · obtain ⟨x0, h1, h2⟩ := key i x hi
    obtain ⟨y0, h3, h4⟩ := key j y hj
    exact h.1 i j x0 y0 h1 h3 (h2.trans (hxy.trans h4.symm))
  · obtain ⟨q0, h1, h2⟩ := key k q hk
    rw [← h2]
    exact h.2 k q0 h1
/-- the contract of a method, out of its runs -/
theorem mmCon_of (l : Launch) (hfl : l.stackTraces = false) (f : Nat) (hB : mmBody l f) : mmCon l f := by
  intro n z r As M M' o hn hz hfr hgo hlen D G ad sz
  obtain ⟨o1, o2, o3, o4, o5, o6, o7, o8, o9⟩ := mmOk_all r (List.mem_of_getElem? hz) hfr
  have hmono := mmGo_mono _ _ _ _ _ _ _ _ _ _ hgo
  have main : ∀ (p : Program) (e : Env) (s : State) (m : MethodId) (args : Array Value) (below : List Frame) (meth : Method) (c : Code), p.tables.exec = Jvm.exec → c.code = mmCd r → c.maxLocals = mmMl r → meth.sig.returnType = mmRt r → s.vm.findClass (mmNm r).cls = some m.cls → c.exceptionTable.toList = tableOf (mmHh r) → meth.locks = false →
      (∀ w ∈ mmHd r :: mmBW, w.before args s = true) → va_Pc (As.map (mmV ad)) (mmPic D G ad M n sz) args s →
      W p l e (mmRm r (M'.2.2 - M.2.2)) s m args below meth c s.heap [] 0 0 (vx_MQ below (mmQr D G ad M' n o (va_A (mmW G ad M n) sz)) (mmXr D G ad M' n o (va_A (mmW G ad M n) sz)) args s (M'.2.2 - M.2.2) (6 * (M'.2.2 - M.2.2)) (va_A (mmW G ad M n) sz)) (entryFrame m args (mmMl r)) := by
    intro p e s m args below meth c hx hb hml hret hown htab hlocks hts hv
    obtain ⟨rfl, hsz, hP, hD0, hK, hZ⟩ := hv
    subst hsz
    rw [lg_entry_eq]
    have hts' : ∀ w ∈ mmBW, w.before ((As.map (mmV ad)).toArray) s = true := fun w h => hts w (List.mem_cons_of_mem _ h)
    refine hB p e _ s m _ below meth c s.heap [] 0 0 _ D G ad n z r _ (va_A (mmW G ad M n) s.heap.size) none 0 (mmEn (mmMl r) As) [] _ M M' o M.2.2 0 0 hx hb (hml.trans (mmEn_len hlen).symm) hn hz o7 hown htab hts' hK hZ (fun L xs h => by cases h) (fun q h => Or.inr h)
      (Nat.le_refl _) (Nat.le_refl _) (by omega) (by omega) (by omega) (by show _ ≤ M'.2.2 - M.2.2 + _; omega) (by show _ ≤ 6 * (M'.2.2 - M.2.2) + _; omega) hP hD0.self va_S.rf (mmEn_LR hlen) hgo ?_ ?_ ?_
    · intro v pc1 ins1 lsR1 st1 H1 locs1 cells1 slots1 ho hd1 hE hP1 hD1 hS1 hc1 hs1
      obtain rfl : cells1 = M'.2.2 - M.2.2 := by omega
      obtain rfl : slots1 = 6 * (M'.2.2 - M.2.2) := by omega
      refine vx_ret ?_
      have hq : ∀ (w : Option Value) (t : State), v = w → t.heap = H1 → mmQr D G ad M' n o (va_A (mmW G ad M n) s.heap.size) ((As.map (mmV ad)).toArray) s (.returned (w.map (mmV ad))) t := by
        intro w t hw ht
        subst hw
        exact ⟨⟨_, ho, rfl, by rw [ht]; exact hP1⟩, hS1.F ht⟩
      cases ins1 <;> simp only [mmE] at hE
      case ireturn =>
        split at hE
        · rename_i x
          split at hE
          · rename_i hc
            cases hE
            rcases hc with hc | ⟨hc, hx01⟩
            · exact W.iret (v := x) hx hb (hret.trans hc) (fun t ht _ => hq (some (.int x)) t rfl ht) hS1.2.2 hd1
            · refine W.zret (v := x) (ty := .boolean) hx hb (hret.trans hc) ?_ (fun t ht _ => hq (some (.int x)) t rfl ht) hS1.2.2 hd1
              rcases hx01 with rfl | rfl
              · exact narrow_b0
              · exact narrow_b1
          · cases hE
        · cases hE
      case lreturn =>
        split at hE
        · rename_i x
          split at hE
          · rename_i hc
            cases hE
            exact W.lret (v := x) hx hb (hret.trans hc) (fun t ht _ => hq (some (.long x)) t rfl ht) hS1.2.2 hd1
          · cases hE
        · cases hE
      case dreturn =>
        split at hE
        · rename_i x
          split at hE
          · rename_i hc
            cases hE
            exact W.dret (v := x) hx hb (hret.trans hc) (fun t ht _ => hq (some (.double x)) t rfl ht) hS1.2.2 hd1
          · cases hE
        · cases hE
      case return_ =>
        split at hE
        · split at hE
          · rename_i hc
            cases hE
            exact W.vret hx hb (hret.trans hc) (fun t ht _ => hq none t rfl ht) hS1.2.2 hd1
          · cases hE
        · cases hE
      all_goals cases hE
    · intro ee q ce pc1 lsR1 rest1 H1 locs1 cells1 slots1 ho hh hce hcv hcl hP1 hS1 hc1 hs1
      refine vx_out (fun x hx9 => ?_) hlocks hce hcv hcl (fun t ht _ => ⟨⟨ee, ho, rfl, by rw [ht]; exact hP1⟩, hS1.F ht⟩) hS1.2.2 (by omega) (by omega)
      rw [htab, hh] at hx9
      cases hx9
    · intro ee pc1 lsR1 H1 locs1 cells1 slots1 M1 ho hF hh hsz1 hM1 hP1 hS1 hc1 hs1
      have ht1 : M'.2.2 = M1.2.2 + 1 := by rw [hM1]; rfl
      refine mm_throw (D := D) (G := G) (n := n) hfl hx hb hz o7 hown hts' hK hZ hS1 hsz1 (Nat.le_refl _) (Nat.le_refl _) hF (by rw [htab, hh]; rfl) hlocks (by show _ ≤ M'.2.2 - M.2.2; omega) (by show _ ≤ 6 * (M'.2.2 - M.2.2); omega) (fun t ha hz1 hk => ⟨⟨ee, ho, rfl, ?_⟩, ?_⟩) hS1.2.2 (by omega) (by omega)
      · rw [hM1, mmW_T]
        exact hP1.kept (fun k q hq => hk q.1 (hP1 k q hq).lt)
      · exact ⟨Nat.le_trans hS1.1 hz1, fun q h1 h2 => (hk q (Nat.lt_of_lt_of_le h1 hS1.1)).trans (hS1.2.1 q h1 h2)⟩
  by_cases hh : mmHh r = []
  · have hhd : mmHd r = .code (mmNm r) (mmCd r) (mmMl r) (mmRt r) := by unfold mmHd; rw [if_pos hh]
    refine vx_ofW (cc := mmCd r) (maxL := mmMl r) (ret := mmRt r) (ws' := mmBW) o2 (by rw [hhd]) ?_
    intro p e s m args below meth c s₁ B hml ht hv
    refine main p e s m args below meth c B.exec B.bytes hml B.returns (findClass_of_methodNamed B.named) ?_ B.notSynchronized (atoms_spec (ws := mmHd r :: mmBW) B.pre) hv
    rw [hh]
    cases hc : c.exceptionTable.toList with
    | nil => rfl
    | cons x t => exact (ht x (by rw [hc]; exact List.mem_cons_self)).elim
  · have hhd : mmHd r = .codeWith (mmNm r) (mmCd r) (mmMl r) (mmRt r) (mmHh r) := by unfold mmHd; rw [if_neg hh]
    refine vx_ofWH (cc := mmCd r) (maxL := mmMl r) (ret := mmRt r) (hh := mmHh r) (ws' := mmBW) o2 (by rw [hhd]) ?_
    intro p e s m args below meth c s₁ B hml hv
    have hpre := atoms_spec (ws := mmHd r :: mmBW) B.pre
    exact main p e s m args below meth c B.exec B.bytes hml B.returns (findClass_of_methodNamed B.named) (vx_table (x := mmNm r) B (by have := hpre _ List.mem_cons_self; rw [hhd] at this; exact this)) B.notSynchronized hpre hv
end
section
set_option maxHeartbeats 8000000 in
theorem mmBody_all (l : Launch) (hfl : l.stackTraces = false) : ∀ f : Nat, mmBody l f
  | 0 => by
    intro p e R s m args below meth c H locs cells slots Q D G ad n y r own A S pc ls st lsR M M' o t0 cb sb _ _ _ _ _ _ _ _ _ _ _ _ _ _ _ _ _ _ _ _ _ _ _ _ hgo
    simp [mmGo] at hgo
  | f + 1 => by
    have ih := mmBody_all l hfl f
    intro p e R s m args below meth c H locs cells slots Q D G ad n y r own A S pc ls st lsR M M' o t0 cb sb hx hb hml hn hr how hown htab hts hK hZ hX hA hfr hlo h11 hc0 hs0 hcR hsR hP hD hS hL hgo hret hthr hnew
    have hmono := mmGo_mono _ _ _ _ _ _ _ _ _ _ hgo
    have hgo0 := hgo
    simp only [mmGo, hr] at hgo
    split at hgo
    · cases hgo
    · rename_i ins len hd
      split at hgo
      · rename_i hln
        split at hgo
        · rename_i pc' ls' st' M1 hs
          obtain ⟨e1, e2⟩ := mmS_same hs
          refine mm_step hx hb hml hn how hown hts hK.1 hX (fun h => ?_) ⟨by omega, by omega⟩ hP hD hS hL hd hln hs (fun lsR1 H1 locs1 hL1 hP1 hD1 hS1 => ?_)
          · have h := of_decide_eq_true h
            exact ⟨by omega, by omega⟩
          · exact ih p e R s m args below meth c H1 locs1 cells slots Q D G ad n y r own A S pc' ls' st' lsR1 M1 M' o t0 cb sb hx hb (by rw [e2]; exact hml) hn hr how hown htab hts hK hZ hX hA hfr hlo h11 (by rw [e1]; exact hc0) (by rw [e1]; exact hs0) hcR hsR hP1 hD1 hS1 hL1 hgo hret hthr hnew
        · split at hgo
          · rename_i v hE
            cases hgo
            have hl1 := mmE_len hE hln
            subst hl1
            exact hret v pc ins lsR st H locs cells slots rfl hd hE hP hD hS hc0 hs0
          · split at hgo
            · rename_i z As rest hcl
              split at hgo
              · cases hgo
              · rename_i rz hz
                split at hgo
                · rename_i hfit
                  have hl3 : len = 3 := by
                    obtain ⟨-, h | h⟩ := mmCl_spec hcl hz
                    · obtain ⟨i, k, As', rfl, -⟩ := h
                      simpa [mmLn] using hln
                    · obtain ⟨i, rfl, -⟩ := h
                      simpa [mmLn] using hln
                  subst hl3
                  split at hgo
                  · cases hgo
                  · rename_i v M1 hg1
                    have hm1 := mmGo_mono _ _ _ _ _ _ _ _ _ _ hg1
                    have hm2 := mmGo_mono _ _ _ _ _ _ _ _ _ _ hgo
                    refine mm_call (mmCon_of l hfl f ih) hx hb (hml.trans hL.1.symm) hn how hown hts hK hZ hA hfr hlo h11 hP hD hS hd hcl hz hfit hg1 (by omega) (by omega) ?_ (fun ee ce q9 H1 locs1 h => by cases h)
                    intro v2 H1 locs1 hv hP1 hS1
                    cases hv
                    have h9 := ih p e R s m args below meth c H1 locs1 (cells + (M1.2.2 - M.2.2)) (slots + 6 * (M1.2.2 - M.2.2)) Q D G ad n y r own A S (pc + 3) ls (v.toList ++ rest) lsR M1 M' o t0 cb sb hx hb hml hn hr how hown htab hts hK hZ hX hA hfr hlo h11 (by omega) (by omega) hcR hsR hP1 (mmD_any hD) hS1 hL hgo hret hthr hnew
                    have he : (v.toList ++ rest).map (mmV ad) = (v.map (mmV ad)).toList ++ rest.map (mmV ad) := by cases v <;> simp
                    rw [he] at h9
                    exact h9
                  · rename_i ee M1 hg1
                    have hm1 := mmGo_mono _ _ _ _ _ _ _ _ _ _ hg1
                    split at hgo
                    · rename_i hh
                      cases hgo
                      refine mm_call (mmCon_of l hfl f ih) hx hb (hml.trans hL.1.symm) hn how hown hts hK hZ hA hfr hlo h11 hP hD hS hd hcl hz hfit hg1 (by omega) (by omega) (fun v H1 locs1 h => by cases h) ?_
                      intro e9 ce q9 H1 locs1 h9 hce hcv hcl9 hP1 hS1
                      cases h9
                      exact hthr ee q9 ce pc lsR _ H1 locs1 _ _ rfl hh hce hcv hcl9 hP1 hS1 (by omega) (by omega)
                    · rename_i x9 t9 hh
                      split at hgo
                      · cases hgo
                      · rename_i hp hhp
                        have hm2 : M1.2.2 ≤ M'.2.2 := by
                          repeat' split at hgo
                          all_goals first
                            | (exact mmGo_mono _ _ _ _ _ _ _ _ _ _ hgo)
                            | (cases hgo; done)
                        refine mm_call (mmCon_of l hfl f ih) hx hb (hml.trans hL.1.symm) hn how hown hts hK hZ hA hfr hlo h11 hP hD hS hd hcl hz hfit hg1 (by omega) (by omega) (fun v H1 locs1 h => by cases h) ?_
                        intro e9 ce q9 H1 locs1 h9 hce hcv hcl9 hP1 hS1
                        cases h9
                        obtain ⟨pre, x, suf, h1, h2, h3, h4, h5⟩ := mmHf_spec _ hhp
                        obtain ⟨own2, ho2, hwl, hct0, he3⟩ := mmCK_all _ (mmF3_mem h4)
                        cases how.symm.trans ho2
                        have hcast : (Cond.castable (mmEx ee) (mmEx ee)).before args s = true := by
                          have h7 : Cond.castable (mmEx ee) (mmEx ee) ∈ mmNG := by
                            match ee, he3 with
                            | 0, _ => exact List.mem_of_getElem? (i := 0) rfl
                            | 1, _ => exact List.mem_of_getElem? (i := 1) rfl
                            | 2, _ => exact List.mem_of_getElem? (i := 2) rfl
                          exact va_Nw.use rfl (hK.2.2.2.1 _ h7)
                        refine vx_catch (own := own) (name := mmEx ee) (E := mmEx ee) hown (pre.map fun q => ⟨q.1, q.2.1, q.2.2.1, q.2.2.2⟩) ⟨x.1, x.2.1, x.2.2.1, x.2.2.2⟩ (suf.map fun q => ⟨q.1, q.2.1, q.2.2.1, q.2.2.2⟩) (by rw [htab, h1]; simp [tableOf]) ?_ (by simp [covers, h3.1, h3.2]) hct0 (hts _ hwl) hcast hce hcv hcl9 ?_
                        · intro z9 hz9
                          obtain ⟨z8, hz8, rfl⟩ := List.mem_map.mp hz9
                          rcases h5 z8 hz8 with h6 | ⟨e', hlt, hF'⟩
                          · left
                            simp only [covers, Bool.and_eq_false_iff, decide_eq_false_iff_not]
                            by_cases h7 : z8.1 ≤ pc
                            · exact Or.inr fun h8 => h6 ⟨h7, h8⟩
                            · exact Or.inl h7
                          · right
                            obtain ⟨own3, ho3, hwl3, hct3, he33⟩ := mmCK_all _ (mmF3_mem hF')
                            cases how.symm.trans ho3
                            exact ⟨hct3, mmEx e', hts _ hwl3, hK.2.2.2.2 ee e' he3 hlt⟩
                        · show W p l e R s m args below meth c H1 locs1 _ _ Q (F0 m x.2.2.1 lsR [.ref q9])
                          rw [h2]
                          split at hgo
                          · rename_i k hd9
                            split at hgo
                            · rename_i l9 hl9
                              refine lv_astore hx hb hd9 hL (mmSt1_lt hl9) rfl (fun lsR1 h' => ?_)
                              exact ih p e R s m args below meth c H1 locs1 _ _ Q D G ad n y r own A S (hp + 2) l9 [] lsR1 M1 M' o t0 cb sb hx hb (by rw [mmSt1_len hl9]; exact hml) hn hr how hown htab hts hK hZ hX hA hfr hlo h11 (by omega) (by omega) hcR hsR hP1 (mmD_any hD) hS1 (mmLR.st1 hl9 (fun h => absurd rfl h) h') hgo hret hthr hnew
                            · cases hgo
                          · rename_i k hd9
                            split at hgo
                            · rename_i l9 hl9
                              refine lv_astore_n hx hb hd9 rfl hL (mmSt1_lt hl9) rfl (fun lsR1 h' => ?_)
                              exact ih p e R s m args below meth c H1 locs1 _ _ Q D G ad n y r own A S (hp + 1) l9 [] lsR1 M1 M' o t0 cb sb hx hb (by rw [mmSt1_len hl9]; exact hml) hn hr how hown htab hts hK hZ hX hA hfr hlo h11 (by omega) (by omega) hcR hsR hP1 (mmD_any hD) hS1 (mmLR.st1 hl9 (fun h => absurd rfl h) h') hgo hret hthr hnew
                            · cases hgo
                          · cases hgo
                · cases hgo
            · split at hgo
              · rename_i i
                split at hgo
                · rename_i ee hF
                  split at hgo
                  · rename_i hc
                    obtain ⟨rfl, hh⟩ := hc
                    cases hgo
                    exact hnew ee pc lsR H locs cells slots M rfl hF hh (hL.1.trans hml.symm) rfl hP hS hc0 hs0
                  · cases hgo
                · cases hgo
              · cases hgo
      · cases hgo
theorem mmCon_all (l : Launch) (hfl : l.stackTraces = false) (f : Nat) : mmCon l f := mmCon_of l hfl f (mmBody_all l hfl f)
end
section
/-! RUNS WITHOUT FUEL: rn is the small machine's answer, where it has one; its step equations. All at 48 cells. -/
def mmF (rec : mmScr → Nat → Nat → List Value → List Value → mmM → Option mmOut) (S : mmScr) (y pc : Nat) (ls st : List Value) (M : mmM) : Option mmOut := match mmP[y]? with
    | none => none
    | some r => match decode (mmCd r) pc with
      | .error _ => none
      | .ok (ins, len) => if mmLn ins len = true then match mmS S 48 (mmOw r) (decide (1 ≤ mmFr r ∧ 21 ≤ mmLo r)) pc ins len ls st M with
        | some (pc', ls', st', M') => rec S y pc' ls' st' M'
        | none => match mmE (mmRt r) ins st with
          | some v => some (.inl v, M)
          | none => match mmCl 48 (mmOw r) ins st with
            | some (z, args, rest) => (match mmP[z]? with
              | none => none
              | some rz => if mmFr rz + 1 ≤ mmFr r ∧ 8 + (mmMl rz + 11) + mmLo rz ≤ mmLo r ∧ (mmEl args).length ≤ mmMl rz then (match rec none z 0 (mmEn (mmMl rz) args) [] M with
                | none => none
                | some (.inl v, M1) => rec S y (pc + 3) ls (v.toList ++ rest) M1
                | some (.inr e, M1) => (match mmHh r with
                  | [] => some (.inr e, M1)
                  | _ :: _ => (match mmHf (mmOw r) pc e (mmHh r) with
                    | none => none
                    | some hp => (match decode (mmCd r) hp with
                      | .ok (.astore k, 2) => (match mmSt1 ls k .null with | some l => rec S y (hp + 2) l [] M1 | none => none)
                      | .ok (.astore_n k, 1) => (match mmSt1 ls k .null with | some l => rec S y (hp + 1) l [] M1 | none => none)
                      | _ => none)))) else none)
            | none => (match ins with
              | .new _ => (match mmF3 mmTH y pc with
                | some e => if st = [] ∧ mmHh r = [] then some (.inr e, mmT M) else none
                | none => none)
              | _ => none)
      else none
def mmG (f : Nat) : mmScr → Nat → Nat → List Value → List Value → mmM → Option mmOut := fun S y pc ls st M => mmGo f S 48 y pc ls st M
theorem mmG_succ (f : Nat) (S : mmScr) (y pc : Nat) (ls st : List Value) (M : mmM) : mmG (f + 1) S y pc ls st M = mmF (mmG f) S y pc ls st M := rfl
abbrev mmRec : Type := mmScr → Nat → Nat → List Value → List Value → mmM → Option mmOut
theorem mmF_mono {a b : mmRec} (h : ∀ S y pc ls st M x, a S y pc ls st M = some x → b S y pc ls st M = some x) {S : mmScr} {y pc : Nat} {ls st : List Value} {M : mmM} {x : mmOut} (hx : mmF a S y pc ls st M = some x) : mmF b S y pc ls st M = some x := by
  unfold mmF at hx ⊢
  split at hx
  · cases hx
  · rename_i r hr
    try simp only [hr]
    split at hx
    · cases hx
    · rename_i ins len hd
      try simp only [hd]
      split at hx
      · rename_i hln
        try simp only [hln, if_true]
        split at hx
        · rename_i hs
          try simp only [hs]
          exact h _ _ _ _ _ _ _ hx
        · rename_i hs
          try simp only [hs]
          split at hx
          · rename_i hE
            try simp only [hE]
            exact hx
          · rename_i hE
            try simp only [hE]
            split at hx
            · rename_i z args rest hcl
              try simp only [hcl]
              split at hx
              · cases hx
              · rename_i rz hz
                try simp only [hz]
                split at hx
                · rename_i hfit
                  rw [if_pos hfit]
                  split at hx
                  · cases hx
                  · rename_i v M1 hg
                    rw [h _ _ _ _ _ _ _ hg]
                    exact h _ _ _ _ _ _ _ hx
                  · rename_i e M1 hg
                    rw [h _ _ _ _ _ _ _ hg]
                    simp only
                    split at hx
                    · rename_i hh
                      try simp only [hh]
                      exact hx
                    · rename_i x9 t9 hh
                      split at hx
                      · cases hx
                      · rename_i hp hhp
                        rw [hh] at hhp
                        try simp only [hh, hhp]
                        split at hx
                        · rename_i k hd9
                          try simp only [hd9]
                          split at hx
                          · rename_i hl
                            try simp only [hl]
                            exact h _ _ _ _ _ _ _ hx
                          · cases hx
                        · rename_i k hd9
                          try simp only [hd9]
                          split at hx
                          · rename_i hl
                            try simp only [hl]
                            exact h _ _ _ _ _ _ _ hx
                          · cases hx
                        · cases hx
                · cases hx
            · rename_i hcl
              try simp only [hcl]
              exact hx
      · cases hx
theorem mmG_mono1 : ∀ (f : Nat) (S : mmScr) (y pc : Nat) (ls st : List Value) (M : mmM) (x : mmOut), mmG f S y pc ls st M = some x → mmG (f + 1) S y pc ls st M = some x
  | 0, S, y, pc, ls, st, M, x, h => by simp [mmG, mmGo] at h
  | f + 1, S, y, pc, ls, st, M, x, h => by
    rw [mmG_succ] at h ⊢
    exact mmF_mono (mmG_mono1 f) h
theorem mmG_mono {f g : Nat} (hfg : f ≤ g) {S : mmScr} {y pc : Nat} {ls st : List Value} {M : mmM} {x : mmOut} (h : mmG f S y pc ls st M = some x) : mmG g S y pc ls st M = some x := by
  induction hfg with
  | refl => exact h
  | step _ ih => exact mmG_mono1 _ _ _ _ _ _ _ _ ih
noncomputable def rn (S : mmScr) (y pc : Nat) (ls st : List Value) (M : mmM) : Option mmOut := by
  classical
  exact if h : ∃ x f, mmG f S y pc ls st M = some x then some h.choose else none
theorem rn_iff {S : mmScr} {y pc : Nat} {ls st : List Value} {M : mmM} {x : mmOut} : rn S y pc ls st M = some x ↔ ∃ f, mmG f S y pc ls st M = some x := by
  unfold rn
  constructor
  · intro h
    split at h
    · rename_i hx
      cases h
      exact hx.choose_spec
    · cases h
  · rintro ⟨f, hf⟩
    have hx : ∃ x f, mmG f S y pc ls st M = some x := ⟨x, f, hf⟩
    rw [dif_pos hx]
    obtain ⟨g, hg⟩ := hx.choose_spec
    have h1 := mmG_mono (Nat.le_max_left f g) hf
    have h2 := mmG_mono (Nat.le_max_right f g) hg
    exact h2.symm.trans h1
theorem rn_up {S : mmScr} {y pc : Nat} {ls st : List Value} {M : mmM} {x : mmOut} (h : mmF rn S y pc ls st M = some x) : ∃ f, mmF (mmG f) S y pc ls st M = some x := by
  unfold mmF at h ⊢
  split at h
  · cases h
  · rename_i r hr
    try simp only [hr]
    split at h
    · cases h
    · rename_i ins len hd
      try simp only [hd]
      split at h
      · rename_i hln
        try simp only [hln, if_true]
        split at h
        · rename_i hs
          obtain ⟨f, hf⟩ := rn_iff.mp h
          refine ⟨f, ?_⟩
          try simp only [hs]
          exact hf
        · rename_i hs
          try simp only [hs]
          split at h
          · rename_i hE
            refine ⟨0, ?_⟩
            try simp only [hE]
            exact h
          · rename_i hE
            try simp only [hE]
            split at h
            · rename_i z args rest hcl
              try simp only [hcl]
              split at h
              · cases h
              · rename_i rz hz
                try simp only [hz]
                split at h
                · rename_i hfit
                  simp only [if_pos hfit]
                  split at h
                  · cases h
                  · rename_i v M1 hg
                    obtain ⟨f1, h1⟩ := rn_iff.mp hg
                    obtain ⟨f2, h2⟩ := rn_iff.mp h
                    refine ⟨max f1 f2, ?_⟩
                    rw [mmG_mono (Nat.le_max_left f1 f2) h1]
                    exact mmG_mono (Nat.le_max_right f1 f2) h2
                  · rename_i e M1 hg
                    obtain ⟨f1, h1⟩ := rn_iff.mp hg
                    split at h
                    · rename_i hh
                      refine ⟨f1, ?_⟩
                      rw [h1]
                      try simp only [hh]
                      exact h
                    · rename_i x9 t9 hh
                      split at h
                      · cases h
                      · rename_i hp hhp
                        rw [hh] at hhp
                        split at h
                        · rename_i k hd9
                          split at h
                          · rename_i hl
                            obtain ⟨f2, h2⟩ := rn_iff.mp h
                            refine ⟨max f1 f2, ?_⟩
                            rw [mmG_mono (Nat.le_max_left f1 f2) h1]
                            try simp only [hh, hhp, hd9, hl]
                            exact mmG_mono (Nat.le_max_right f1 f2) h2
                          · cases h
                        · rename_i k hd9
                          split at h
                          · rename_i hl
                            obtain ⟨f2, h2⟩ := rn_iff.mp h
                            refine ⟨max f1 f2, ?_⟩
                            rw [mmG_mono (Nat.le_max_left f1 f2) h1]
                            try simp only [hh, hhp, hd9, hl]
                            exact mmG_mono (Nat.le_max_right f1 f2) h2
                          · cases h
                        · cases h
                · cases h
            · rename_i hcl
              try simp only [hcl]
              exact ⟨0, h⟩
      · cases h
theorem rn_eq (S : mmScr) (y pc : Nat) (ls st : List Value) (M : mmM) : rn S y pc ls st M = mmF rn S y pc ls st M := by
  apply Option.ext
  intro x
  constructor
  · intro h
    obtain ⟨f, hf⟩ := rn_iff.mp h
    cases f with
    | zero => simp [mmG, mmGo] at hf
    | succ f =>
      rw [mmG_succ] at hf
      exact mmF_mono (fun _ _ _ _ _ _ _ h => rn_iff.mpr ⟨f, h⟩) hf
  · intro h
    obtain ⟨f, hf⟩ := rn_up h
    exact rn_iff.mpr ⟨f + 1, hf⟩
end
section
/-! step equations, an instruction kind each -/
def oB {α : Type} (x : Option α) (k : α → Option mmOut) : Option mmOut := match x with
  | some a => k a
  | none => none
theorem oB_some {α : Type} (a : α) (k : α → Option mmOut) : oB (some a) k = k a := rfl
def fG (x : Option (Option Nat)) (v : Int32) (k : Value → Option mmOut) : Option mmOut := match x with
  | some (some j) => k (.ref j)
  | some none => k (.int v)
  | none => none
theorem fG_r (j : Nat) (v : Int32) (k : Value → Option mmOut) : fG (some (some j)) v k = k (.ref j) := rfl
theorem fG_i (v : Int32) (k : Value → Option mmOut) : fG (some none) v k = k (.int v) := rfl
def fP (x : Option (Option Nat)) (k : Option mmOut) : Option mmOut := match x with
  | some none => k
  | _ => none
theorem fP_i (k : Option mmOut) : fP (some none) k = k := rfl
def aL (x : Option (Nat × Nat)) (t : Nat) (i : Int32) (k : Nat → Option mmOut) : Option mmOut := match x with
  | some (u, m) => if u = t then oB (mmX i m) k else none
  | none => none
theorem aL_ok {t m : Nat} {i : Int32} {k : Nat → Option mmOut} : aL (some (t, m)) t i k = oB (mmX i m) k := by simp [aL]
def aI (S : mmScr) (M : mmM) (c : Nat) (i : Int32) (k : Int32 → Option mmOut) : Option mmOut := if c = 99 then (match S with
  | some xs => oB (mmX i xs.1) (fun j => k (xs.2 j))
  | none => none) else aL (mmArr 48 c) 0 i (fun j => k (M.1 c j))
def aN (S : mmScr) (c : Nat) (k : Int32 → Option mmOut) : Option mmOut := if c = 99 then (match S with
  | some xs => k (Int32.ofNat xs.1)
  | none => none) else (match mmArr 48 c with
  | some (0, m) => k (Int32.ofNat m)
  | _ => none)
def cB (x : Option mmOut) (k : Option Value → mmM → Option mmOut) (kx : Nat → mmM → Option mmOut) : Option mmOut := match x with
  | some (.inl v, M) => k v M
  | some (.inr e, M) => kx e M
  | none => none
theorem cB_l (v : Option Value) (M : mmM) (k : Option Value → mmM → Option mmOut) (kx : Nat → mmM → Option mmOut) : cB (some (.inl v, M)) k kx = k v M := rfl
theorem cB_r (e : Nat) (M : mmM) (k : Option Value → mmM → Option mmOut) (kx : Nat → mmM → Option mmOut) : cB (some (.inr e, M)) k kx = kx e M := rfl
def rV (x : Option (Option Nat)) (k : Option mmOut) : Option mmOut := match x with
  | some _ => k
  | none => none
theorem rV_some (x : Option Nat) (k : Option mmOut) : rV (some x) k = k := rfl
noncomputable def hX (r : mmRow) (S : mmScr) (y pc : Nat) (ls : List Value) (e : Nat) (M1 : mmM) : Option mmOut := match mmHh r with
  | [] => some (.inr e, M1)
  | _ :: _ => (match mmHf (mmOw r) pc e (mmHh r) with
    | none => none
    | some hp => (match decode (mmCd r) hp with
      | .ok (.astore k, 2) => (match mmSt1 ls k .null with | some l => rn S y (hp + 2) l [] M1 | none => none)
      | .ok (.astore_n k, 1) => (match mmSt1 ls k .null with | some l => rn S y (hp + 1) l [] M1 | none => none)
      | _ => none))
noncomputable def rR (S : mmScr) (y : Nat) (x : mmRes) : Option mmOut := match x with
  | some (pc', ls', st', M') => rn S y pc' ls' st' M'
  | none => none
section EQ
variable {S : mmScr} {y pc len : Nat} {r : mmRow} {ins : Instr} {ls st : List Value} {M : mmM}
theorem rn_s {pc' : Nat} {ls' st' : List Value} {M' : mmM} (hr : mmP[y]? = some r) (hd : decode (mmCd r) pc = .ok (ins, len)) (hl : mmLn ins len = true) (hs : mmS S 48 (mmOw r) (decide (1 ≤ mmFr r ∧ 21 ≤ mmLo r)) pc ins len ls st M = some (pc', ls', st', M')) : rn S y pc ls st M = rn S y pc' ls' st' M' := by
  rw [rn_eq]
  unfold mmF
  simp only [hr, hd, hl, if_true, hs]
theorem rn_g (hr : mmP[y]? = some r) (hd : decode (mmCd r) pc = .ok (ins, len)) (hl : mmLn ins len = true) (hE : mmE (mmRt r) ins st = none) (hC : mmCl 48 (mmOw r) ins st = none) (hN : ∀ i, ins ≠ .new i) :
    rn S y pc ls st M = rR S y (mmS S 48 (mmOw r) (decide (1 ≤ mmFr r ∧ 21 ≤ mmLo r)) pc ins len ls st M) := by
  rw [rn_eq]
  unfold mmF
  simp only [hr, hd, hl, if_true]
  cases hs : mmS S 48 (mmOw r) (decide (1 ≤ mmFr r ∧ 21 ≤ mmLo r)) pc ins len ls st M with
  | some x => rfl
  | none =>
    simp only [hE, hC, rR]
    all_goals (cases ins <;> first | rfl | exact absurd rfl (hN _))
theorem rn_gf {k i c f : Nat} (hr : mmP[y]? = some r) (hd : decode (mmCd r) pc = .ok (.getfield i, 3)) (hF : mmF3 mmFL (mmOw r) i = some (c, f)) : rn S y pc ls (.ref k :: st) M = fG (mmFd 48 c f k) (M.1 k f) (fun v => rn S y (pc + 3) ls (v :: st) M) := by
  rw [rn_g hr hd rfl rfl rfl (fun i h => by cases h)]
  simp only [mmS, hF]
  cases mmFd 48 c f k with
  | none => rfl
  | some x => cases x <;> rfl
theorem rn_pf {k i c f : Nat} {v : Int32} (hr : mmP[y]? = some r) (hd : decode (mmCd r) pc = .ok (.putfield i, 3)) (hF : mmF3 mmFL (mmOw r) i = some (c, f)) : rn S y pc ls (.int v :: .ref k :: st) M = fP (mmFd 48 c f k) (rn S y (pc + 3) ls st (mmI M k f v)) := by
  rw [rn_g hr hd rfl rfl rfl (fun i h => by cases h)]
  simp only [mmS, hF]
  cases mmFd 48 c f k with
  | none => rfl
  | some x => cases x <;> rfl
theorem rn_iald {k : Nat} {i : Int32} (hr : mmP[y]? = some r) (hd : decode (mmCd r) pc = .ok (.iaload, 1)) : rn S y pc ls (.int i :: .ref k :: st) M = aI S M k i (fun v => rn S y (pc + 1) ls (.int v :: st) M) := by
  rw [rn_g hr hd rfl rfl rfl (fun i h => by cases h)]
  simp only [mmS, aI]
  by_cases h : k = 99
  · simp only [h, if_true]
    cases S with
    | none => rfl
    | some xs =>
      simp only
      cases mmX i xs.1 <;> rfl
  · simp only [h, if_false]
    cases mmArr 48 k with
    | none => rfl
    | some x =>
      obtain ⟨u, m⟩ := x
      cases u with
      | zero =>
        simp only [aL, if_true]
        cases mmX i m <;> rfl
      | succ u => simp [aL, rR]
theorem rn_iast {k : Nat} {i v : Int32} (hr : mmP[y]? = some r) (hd : decode (mmCd r) pc = .ok (.iastore, 1)) : rn S y pc ls (.int v :: .int i :: .ref k :: st) M = aL (mmArr 48 k) 0 i (fun j => rn S y (pc + 1) ls st (mmI M k j v)) := by
  rw [rn_g hr hd rfl rfl rfl (fun i h => by cases h)]
  simp only [mmS]
  cases mmArr 48 k with
  | none => rfl
  | some x =>
    obtain ⟨u, m⟩ := x
    cases u with
    | zero =>
      simp only [aL, if_true]
      cases mmX i m <;> rfl
    | succ u => simp [aL, rR]
theorem rn_bald {k : Nat} {i : Int32} (hr : mmP[y]? = some r) (hd : decode (mmCd r) pc = .ok (.baload, 1)) : rn S y pc ls (.int i :: .ref k :: st) M = aL (mmArr 48 k) 1 i (fun j => rn S y (pc + 1) ls (.int (M.1 k j) :: st) M) := by
  rw [rn_g hr hd rfl rfl rfl (fun i h => by cases h)]
  simp only [mmS]
  cases mmArr 48 k with
  | none => rfl
  | some x =>
    obtain ⟨u, m⟩ := x
    match u with
    | 0 => simp [aL, rR]
    | 1 =>
      simp only [aL, if_true]
      cases mmX i m <;> rfl
    | u + 2 => simp [aL, rR]
theorem rn_bast {k : Nat} {i v : Int32} (hr : mmP[y]? = some r) (hd : decode (mmCd r) pc = .ok (.bastore, 1)) : rn S y pc ls (.int v :: .int i :: .ref k :: st) M = aL (mmArr 48 k) 1 i (fun j => rn S y (pc + 1) ls st (mmI M k j (vp_nar .boolean v))) := by
  rw [rn_g hr hd rfl rfl rfl (fun i h => by cases h)]
  simp only [mmS]
  cases mmArr 48 k with
  | none => rfl
  | some x =>
    obtain ⟨u, m⟩ := x
    match u with
    | 0 => simp [aL, rR]
    | 1 =>
      simp only [aL, if_true]
      cases mmX i m <;> rfl
    | u + 2 => simp [aL, rR]
theorem rn_lald {k : Nat} {i : Int32} (hr : mmP[y]? = some r) (hd : decode (mmCd r) pc = .ok (.laload, 1)) : rn S y pc ls (.int i :: .ref k :: st) M = aL (mmArr 48 k) 2 i (fun j => rn S y (pc + 1) ls (.long (M.2.1 j) :: st) M) := by
  rw [rn_g hr hd rfl rfl rfl (fun i h => by cases h)]
  simp only [mmS]
  cases mmArr 48 k with
  | none => rfl
  | some x =>
    obtain ⟨u, m⟩ := x
    match u with
    | 0 => simp [aL, rR]
    | 1 => simp [aL, rR]
    | 2 =>
      simp only [aL, if_true]
      cases mmX i m <;> rfl
    | u + 3 => simp [aL, rR]
theorem rn_last {k : Nat} {i : Int32} {v : Int64} (hr : mmP[y]? = some r) (hd : decode (mmCd r) pc = .ok (.lastore, 1)) : rn S y pc ls (.long v :: .int i :: .ref k :: st) M = aL (mmArr 48 k) 2 i (fun j => rn S y (pc + 1) ls st (mmJ M j v)) := by
  rw [rn_g hr hd rfl rfl rfl (fun i h => by cases h)]
  simp only [mmS]
  cases mmArr 48 k with
  | none => rfl
  | some x =>
    obtain ⟨u, m⟩ := x
    match u with
    | 0 => simp [aL, rR]
    | 1 => simp [aL, rR]
    | 2 =>
      simp only [aL, if_true]
      cases mmX i m <;> rfl
    | u + 3 => simp [aL, rR]
theorem rn_alen {k : Nat} (hr : mmP[y]? = some r) (hd : decode (mmCd r) pc = .ok (.arraylength, 1)) : rn S y pc ls (.ref k :: st) M = aN S k (fun v => rn S y (pc + 1) ls (.int v :: st) M) := by
  rw [rn_g hr hd rfl rfl rfl (fun i h => by cases h)]
  simp only [mmS, aN]
  by_cases h : k = 99
  · simp only [h, if_true]
    cases S <;> rfl
  · simp only [h, if_false]
    cases mmArr 48 k with
    | none => rfl
    | some x =>
      obtain ⟨u, m⟩ := x
      cases u <;> rfl
theorem rn_if {b : Prop} [Decidable b] {t : Nat} {off : Int} (hr : mmP[y]? = some r) (hd : decode (mmCd r) pc = .ok (ins, len)) (hl : mmLn ins len = true) {st' : List Value} (hs : mmS S 48 (mmOw r) (decide (1 ≤ mmFr r ∧ 21 ≤ mmLo r)) pc ins len ls st M = mmIf b pc 3 off ls st' M) (ht : mmTg pc off = some t) :
    rn S y pc ls st M = if b then rn S y t ls st' M else rn S y (pc + 3) ls st' M := by
  by_cases hb : b
  · rw [if_pos hb]
    exact rn_s hr hd hl (hs.trans (by simp [mmIf, ht, hb]))
  · rw [if_neg hb]
    exact rn_s hr hd hl (hs.trans (by simp [mmIf, ht, hb]))
theorem mmIf_c {a b : Prop} [Decidable a] [Decidable b] (h : a ↔ b) {pc len : Nat} {off : Int} : mmIf a pc len off ls st M = mmIf b pc len off ls st M := by
  unfold mmIf
  cases mmTg pc off with
  | none => rfl
  | some t =>
    by_cases hb : b
    · simp [hb, h.mpr hb]
    · have ha : ¬ a := fun ha => hb (h.mp ha)
      simp [hb, ha]
theorem rn_ts {x : Int32} {dflt lo hi : Int} {offs : Array Int} (hr : mmP[y]? = some r) (hd : decode (mmCd r) pc = .ok (.tableswitch dflt lo hi offs, len)) {tg : Option Nat}
    (ht : (if x.toInt < lo ∨ hi < x.toInt then mmTg pc dflt else (match offs[(x.toInt - lo).toNat]? with | some off => mmTg pc off | none => none)) = tg) :
    rn S y pc ls (.int x :: st) M = oB tg (fun t => rn S y t ls st M) := by
  rw [rn_g hr hd rfl rfl rfl (fun i h => by cases h)]
  subst ht
  simp only [mmS]
  by_cases h : x.toInt < lo ∨ hi < x.toInt
  · simp only [h, if_true]
    cases mmTg pc dflt <;> rfl
  · simp only [h, if_false]
    cases offs[(x.toInt - lo).toNat]? with
    | none => rfl
    | some off =>
      simp only
      cases mmTg pc off <;> rfl
theorem rn_ret {v : Option Value} (hr : mmP[y]? = some r) (hd : decode (mmCd r) pc = .ok (ins, len)) (hl : mmLn ins len = true) (hs : mmS S 48 (mmOw r) (decide (1 ≤ mmFr r ∧ 21 ≤ mmLo r)) pc ins len ls st M = none) (hE : mmE (mmRt r) ins st = some v) : rn S y pc ls st M = some (.inl v, M) := by
  rw [rn_eq]
  unfold mmF
  simp only [hr, hd, hl, if_true, hs, hE]
theorem rn_zret {v : Int32} (hr : mmP[y]? = some r) (hd : decode (mmCd r) pc = .ok (.ireturn, 1)) (ht : mmRt r = some .boolean) (h : v = 0 ∨ v = 1) : rn S y pc ls [.int v] M = some (.inl (some (.int v)), M) :=
  rn_ret hr hd rfl rfl (by simp [mmE, ht, h])
theorem rn_th {i e : Nat} (hr : mmP[y]? = some r) (hd : decode (mmCd r) pc = .ok (.new i, 3)) (hF : mmF3 mmTH y pc = some e) (hh : mmHh r = []) : rn S y pc ls [] M = some (.inr e, mmT M) := by
  rw [rn_eq]
  unfold mmF
  simp only [hr, hd, mmLn, decide_true, if_true, mmS, mmE, mmCl, hF, hh, and_self]
theorem rn_call {z : Nat} {rz : mmRow} {As rest : List Value} (hr : mmP[y]? = some r) (hd : decode (mmCd r) pc = .ok (ins, len)) (hl : mmLn ins len = true) (hs : mmS S 48 (mmOw r) (decide (1 ≤ mmFr r ∧ 21 ≤ mmLo r)) pc ins len ls st M = none) (hE : mmE (mmRt r) ins st = none)
    (hC : mmCl 48 (mmOw r) ins st = some (z, As, rest)) (hz : mmP[z]? = some rz) (hfit : mmFr rz + 1 ≤ mmFr r ∧ 8 + (mmMl rz + 11) + mmLo rz ≤ mmLo r ∧ (mmEl As).length ≤ mmMl rz) :
    rn S y pc ls st M = cB (rn none z 0 (mmEn (mmMl rz) As) [] M) (fun v M1 => rn S y (pc + 3) ls (v.toList ++ rest) M1) (fun e M1 => hX r S y pc ls e M1) := by
  rw [rn_eq]
  unfold mmF
  simp only [hr, hd, hl, if_true, hs, hE, hC, hz, if_pos hfit]
  cases rn none z 0 (mmEn (mmMl rz) As) [] M with
  | none => rfl
  | some x =>
    obtain ⟨v, M1⟩ := x
    cases v <;> rfl
theorem hX_0 {e : Nat} {M1 : mmM} (h : mmHh r = []) : hX r S y pc ls e M1 = some (.inr e, M1) := by
  unfold hX
  rw [h]
theorem rn_iv {k i z : Nat} {rz : mmRow} {As : List Value} (hr : mmP[y]? = some r) (hd : decode (mmCd r) pc = .ok (.invokevirtual i, 3)) (hF : mmF3 mmML (mmOw r) i = some z) (hz : mmP[z]? = some rz) (hst : mmSt rz = false) (hh : mmHh rz = []) (hna : mmNa rz = As.length)
    (hfit : mmFr rz + 1 ≤ mmFr r ∧ 8 + (mmMl rz + 11) + mmLo rz ≤ mmLo r ∧ (mmEl (.ref k :: As)).length ≤ mmMl rz) (h8 : mmSm st ≤ 8) :
    rn S y pc ls (As.reverse ++ .ref k :: st) M = rV (mmFd 48 (mmOw rz) 0 k) (cB (rn none z 0 (mmEn (mmMl rz) (.ref k :: As)) [] M) (fun v M1 => rn S y (pc + 3) ls (v.toList ++ st) M1) (fun e M1 => hX r S y pc ls e M1)) := by
  cases hfd : mmFd 48 (mmOw rz) 0 k with
  | none =>
    have e1 : (As.reverse ++ .ref k :: st).drop As.length = .ref k :: st := by
      rw [← List.length_reverse, List.drop_left]
    have hC : mmCl 48 (mmOw r) (.invokevirtual i) (As.reverse ++ .ref k :: st) = none := by
      simp only [mmCl, hF, hz, hst, hh, hna, e1, hfd]
      split <;> rfl
    rw [rn_g hr hd rfl rfl hC (fun i h => by cases h)]
    rfl
  | some x =>
    have e1 : (As.reverse ++ .ref k :: st).drop As.length = .ref k :: st := by
      rw [← List.length_reverse, List.drop_left]
    have e2 : (As.reverse ++ .ref k :: st).take As.length = As.reverse := by
      rw [← List.length_reverse, List.take_left]
    have e3 : (As.reverse ++ .ref k :: st).drop (As.length + 1) = st := by
      rw [← List.drop_drop, e1]; rfl
    refine rn_call hr hd rfl rfl rfl ?_ hz hfit
    simp only [mmCl, hF, hz, hst, hh, hna, e1, e2, e3, hfd, List.reverse_reverse]
    rw [if_pos ⟨trivial, trivial, h8, by simp⟩]
theorem mmCs_ok {z : Nat} {rz : mmRow} {As : List Value} (hz : mmP[z]? = some rz) (hst : mmSt rz = true) (hna : mmNa rz = As.length) (h8 : mmSm st ≤ 8) : mmCs z (As.reverse ++ st) = some (z, As, st) := by
  have e1 : (As.reverse ++ st).drop As.length = st := by
    rw [← List.length_reverse, List.drop_left]
  have e2 : (As.reverse ++ st).take As.length = As.reverse := by
    rw [← List.length_reverse, List.take_left]
  simp only [mmCs, hz, hst, hna, e1, e2, List.reverse_reverse]
  rw [if_pos ⟨trivial, h8, by simp⟩]
theorem rn_is {i z : Nat} {rz : mmRow} {As : List Value} (hr : mmP[y]? = some r) (hd : decode (mmCd r) pc = .ok (.invokestatic i, 3)) (hF : mmF3 mmML (mmOw r) i = some z) (hX0 : mmF3 mmMX (mmOw r) i = none) (hz : mmP[z]? = some rz) (hst : mmSt rz = true) (hna : mmNa rz = As.length)
    (hfit : mmFr rz + 1 ≤ mmFr r ∧ 8 + (mmMl rz + 11) + mmLo rz ≤ mmLo r ∧ (mmEl As).length ≤ mmMl rz) (h8 : mmSm st ≤ 8) :
    rn S y pc ls (As.reverse ++ st) M = cB (rn none z 0 (mmEn (mmMl rz) As) [] M) (fun v M1 => rn S y (pc + 3) ls (v.toList ++ st) M1) (fun e M1 => hX r S y pc ls e M1) := by
  refine rn_call hr hd rfl ?_ rfl ?_ hz hfit
  · simp only [mmS, hX0]
    split
    · split <;> rfl
    · rfl
  · simp only [mmCl, hF]
    exact mmCs_ok hz hst hna h8
theorem rn_in {i z : Nat} {rz : mmRow} {As : List Value} (hr : mmP[y]? = some r) (hd : decode (mmCd r) pc = .ok (.invokestatic i, 3)) (hF0 : mmF3 mmML (mmOw r) i = none) (hF : mmF3 mmNL (mmOw r) i = some z) (hX0 : mmF3 mmMX (mmOw r) i = none) (hz : mmP[z]? = some rz) (hst : mmSt rz = true) (hh : mmHh rz = []) (hna : mmNa rz = As.length)
    (hfit : mmFr rz + 1 ≤ mmFr r ∧ 8 + (mmMl rz + 11) + mmLo rz ≤ mmLo r ∧ (mmEl As).length ≤ mmMl rz) (h8 : mmSm st ≤ 8) :
    rn S y pc ls (As.reverse ++ st) M = cB (rn none z 0 (mmEn (mmMl rz) As) [] M) (fun v M1 => rn S y (pc + 3) ls (v.toList ++ st) M1) (fun e M1 => hX r S y pc ls e M1) := by
  refine rn_call hr hd rfl ?_ rfl ?_ hz hfit
  · simp only [mmS, hX0]
    split
    · split <;> rfl
    · rfl
  · simp only [mmCl, hF0, hF, hz, hh, if_true]
    exact mmCs_ok hz hst hna h8
end EQ
end
