section
-- ===== PART A: goes FIRST, ahead of the names: the tables' words, and 'selects' of the private methods out of them =====
/-- a private method of a class that the tables say can be made, by its rows of tables_1 -/
def lw_okq (q : MethodName × Nat) : Prop := (q.1.cls ≠ "java/lang/invoke/MethodHandle" ∧ q.1.cls ≠ "java/lang/invoke/VarHandle") ∧ Cond.instantiable q.1.cls q.2 ∈ tables_1 ∧ Cond.privateMethod q.1 ∈ tables_1 ∧ Cond.instanceMethod q.1 ∈ tables_1
theorem lw_p0 : lw_okq (⟨"LoadWeights", "layText", "()Z"⟩, 10) := ⟨⟨by decide +kernel, by decide +kernel⟩, List.mem_of_getElem? (i := 16) (by decide +kernel), List.mem_of_getElem? (i := 286) (by decide +kernel), List.mem_of_getElem? (i := 287) (by decide +kernel)⟩
theorem lw_p1 : lw_okq (⟨"LoadWeights$Reader", "takeItem", "(LLoadWeights$Letters;IILLoadWeights$Net;)Z"⟩, 1) := ⟨⟨by decide +kernel, by decide +kernel⟩, List.mem_of_getElem? (i := 101) (by decide +kernel), List.mem_of_getElem? (i := 298) (by decide +kernel), List.mem_of_getElem? (i := 299) (by decide +kernel)⟩
theorem lw_p2 : lw_okq (⟨"LoadWeights$Reader", "takeNumbers", "(LLoadWeights$Letters;II)I"⟩, 1) := ⟨⟨by decide +kernel, by decide +kernel⟩, List.mem_of_getElem? (i := 101) (by decide +kernel), List.mem_of_getElem? (i := 302) (by decide +kernel), List.mem_of_getElem? (i := 303) (by decide +kernel)⟩
theorem lw_p3 : lw_okq (⟨"LoadWeights$Net", "areTwoNodes", "(II)Z"⟩, 11) := ⟨⟨by decide +kernel, by decide +kernel⟩, List.mem_of_getElem? (i := 41) (by decide +kernel), List.mem_of_getElem? (i := 314) (by decide +kernel), List.mem_of_getElem? (i := 315) (by decide +kernel)⟩
theorem lw_p4 : lw_okq (⟨"LoadWeights$Flow", "send", "(LLoadWeights$Standing;I)V"⟩, 8) := ⟨⟨by decide +kernel, by decide +kernel⟩, List.mem_of_getElem? (i := 111) (by decide +kernel), List.mem_of_getElem? (i := 344) (by decide +kernel), List.mem_of_getElem? (i := 345) (by decide +kernel)⟩
theorem lw_p5 : lw_okq (⟨"LoadWeights$Flow", "orderFarthestFirst", "(I)V"⟩, 8) := ⟨⟨by decide +kernel, by decide +kernel⟩, List.mem_of_getElem? (i := 111) (by decide +kernel), List.mem_of_getElem? (i := 348) (by decide +kernel), List.mem_of_getElem? (i := 349) (by decide +kernel)⟩
theorem lw_p6 : lw_okq (⟨"LoadWeights$Flow", "sendOn", "(LLoadWeights$Standing;II)V"⟩, 8) := ⟨⟨by decide +kernel, by decide +kernel⟩, List.mem_of_getElem? (i := 111) (by decide +kernel), List.mem_of_getElem? (i := 352) (by decide +kernel), List.mem_of_getElem? (i := 353) (by decide +kernel)⟩
theorem lw_p7 : lw_okq (⟨"LoadWeights", "planEvening", "(II)I"⟩, 10) := ⟨⟨by decide +kernel, by decide +kernel⟩, List.mem_of_getElem? (i := 16) (by decide +kernel), List.mem_of_getElem? (i := 447) (by decide +kernel), List.mem_of_getElem? (i := 448) (by decide +kernel)⟩
theorem lw_p8 : lw_okq (⟨"LoadWeights", "leadsOn", "(III)Z"⟩, 10) := ⟨⟨by decide +kernel, by decide +kernel⟩, List.mem_of_getElem? (i := 16) (by decide +kernel), List.mem_of_getElem? (i := 452) (by decide +kernel), List.mem_of_getElem? (i := 453) (by decide +kernel)⟩
theorem lw_p9 : lw_okq (⟨"LoadWeights$MoveSearch", "tryWeights", "(LLoadWeights$Standing;IZ)V"⟩, 6) := ⟨⟨by decide +kernel, by decide +kernel⟩, List.mem_of_getElem? (i := 147) (by decide +kernel), List.mem_of_getElem? (i := 468) (by decide +kernel), List.mem_of_getElem? (i := 469) (by decide +kernel)⟩
theorem lw_p10 : lw_okq (⟨"LoadWeights", "costWithout", "(I)I"⟩, 10) := ⟨⟨by decide +kernel, by decide +kernel⟩, List.mem_of_getElem? (i := 16) (by decide +kernel), List.mem_of_getElem? (i := 552) (by decide +kernel), List.mem_of_getElem? (i := 553) (by decide +kernel)⟩
theorem lw_p11 : lw_okq (⟨"LoadWeightsModel", "beginRead", "()V"⟩, 26) := ⟨⟨by decide +kernel, by decide +kernel⟩, List.mem_of_getElem? (i := 577) (by decide +kernel), List.mem_of_getElem? (i := 583) (by decide +kernel), List.mem_of_getElem? (i := 584) (by decide +kernel)⟩
theorem lw_p12 : lw_okq (⟨"LoadWeightsModel", "putLink", "(IIII)V"⟩, 26) := ⟨⟨by decide +kernel, by decide +kernel⟩, List.mem_of_getElem? (i := 577) (by decide +kernel), List.mem_of_getElem? (i := 587) (by decide +kernel), List.mem_of_getElem? (i := 588) (by decide +kernel)⟩
theorem lw_p13 : lw_okq (⟨"LoadWeightsModel", "putDemand", "(III)V"⟩, 26) := ⟨⟨by decide +kernel, by decide +kernel⟩, List.mem_of_getElem? (i := 577) (by decide +kernel), List.mem_of_getElem? (i := 591) (by decide +kernel), List.mem_of_getElem? (i := 592) (by decide +kernel)⟩
theorem lw_p14 : lw_okq (⟨"LoadWeightsModel", "takeRead", "()V"⟩, 26) := ⟨⟨by decide +kernel, by decide +kernel⟩, List.mem_of_getElem? (i := 577) (by decide +kernel), List.mem_of_getElem? (i := 595) (by decide +kernel), List.mem_of_getElem? (i := 596) (by decide +kernel)⟩
theorem lw_p15 : lw_okq (⟨"LoadWeightsModel", "costNow", "()I"⟩, 26) := ⟨⟨by decide +kernel, by decide +kernel⟩, List.mem_of_getElem? (i := 577) (by decide +kernel), List.mem_of_getElem? (i := 599) (by decide +kernel), List.mem_of_getElem? (i := 600) (by decide +kernel)⟩
def lw_privs_1 : List (MethodName × Nat) := [(⟨"LoadWeights", "layText", "()Z"⟩, 10), (⟨"LoadWeights$Reader", "takeItem", "(LLoadWeights$Letters;IILLoadWeights$Net;)Z"⟩, 1), (⟨"LoadWeights$Reader", "takeNumbers", "(LLoadWeights$Letters;II)I"⟩, 1), (⟨"LoadWeights$Net", "areTwoNodes", "(II)Z"⟩, 11), (⟨"LoadWeights$Flow", "send", "(LLoadWeights$Standing;I)V"⟩, 8), (⟨"LoadWeights$Flow", "orderFarthestFirst", "(I)V"⟩, 8), (⟨"LoadWeights$Flow", "sendOn", "(LLoadWeights$Standing;II)V"⟩, 8), (⟨"LoadWeights", "planEvening", "(II)I"⟩, 10), (⟨"LoadWeights", "leadsOn", "(III)Z"⟩, 10), (⟨"LoadWeights$MoveSearch", "tryWeights", "(LLoadWeights$Standing;IZ)V"⟩, 6), (⟨"LoadWeights", "costWithout", "(I)I"⟩, 10), (⟨"LoadWeightsModel", "beginRead", "()V"⟩, 26), (⟨"LoadWeightsModel", "putLink", "(IIII)V"⟩, 26), (⟨"LoadWeightsModel", "putDemand", "(III)V"⟩, 26), (⟨"LoadWeightsModel", "takeRead", "()V"⟩, 26), (⟨"LoadWeightsModel", "costNow", "()I"⟩, 26)]
theorem lw_r1 : ∀ q ∈ lw_privs_1, lw_okq q := List.forall_mem_cons.mpr ⟨lw_p0, List.forall_mem_cons.mpr ⟨lw_p1, List.forall_mem_cons.mpr ⟨lw_p2, List.forall_mem_cons.mpr ⟨lw_p3, List.forall_mem_cons.mpr ⟨lw_p4, List.forall_mem_cons.mpr ⟨lw_p5, List.forall_mem_cons.mpr ⟨lw_p6, List.forall_mem_cons.mpr ⟨lw_p7, List.forall_mem_cons.mpr ⟨lw_p8, List.forall_mem_cons.mpr ⟨lw_p9, List.forall_mem_cons.mpr ⟨lw_p10, List.forall_mem_cons.mpr ⟨lw_p11, List.forall_mem_cons.mpr ⟨lw_p12, List.forall_mem_cons.mpr ⟨lw_p13, List.forall_mem_cons.mpr ⟨lw_p14, List.forall_mem_cons.mpr ⟨lw_p15, fun _ h => absurd h List.not_mem_nil⟩⟩⟩⟩⟩⟩⟩⟩⟩⟩⟩⟩⟩⟩⟩⟩
theorem lw_p16 : lw_okq (⟨"LoadWeightsModel", "layLoads", "()V"⟩, 26) := ⟨⟨by decide +kernel, by decide +kernel⟩, List.mem_of_getElem? (i := 577) (by decide +kernel), List.mem_of_getElem? (i := 603) (by decide +kernel), List.mem_of_getElem? (i := 604) (by decide +kernel)⟩
theorem lw_p17 : lw_okq (⟨"LoadWeightsModel", "layShares", "(I)Z"⟩, 26) := ⟨⟨by decide +kernel, by decide +kernel⟩, List.mem_of_getElem? (i := 577) (by decide +kernel), List.mem_of_getElem? (i := 607) (by decide +kernel), List.mem_of_getElem? (i := 608) (by decide +kernel)⟩
theorem lw_p18 : lw_okq (⟨"LoadWeightsModel", "findFar", "(I)V"⟩, 26) := ⟨⟨by decide +kernel, by decide +kernel⟩, List.mem_of_getElem? (i := 577) (by decide +kernel), List.mem_of_getElem? (i := 611) (by decide +kernel), List.mem_of_getElem? (i := 612) (by decide +kernel)⟩
theorem lw_p19 : lw_okq (⟨"LoadWeightsModel", "end", "(I)I"⟩, 26) := ⟨⟨by decide +kernel, by decide +kernel⟩, List.mem_of_getElem? (i := 577) (by decide +kernel), List.mem_of_getElem? (i := 615) (by decide +kernel), List.mem_of_getElem? (i := 616) (by decide +kernel)⟩
theorem lw_p20 : lw_okq (⟨"LoadWeightsModel", "isUp", "(I)Z"⟩, 26) := ⟨⟨by decide +kernel, by decide +kernel⟩, List.mem_of_getElem? (i := 577) (by decide +kernel), List.mem_of_getElem? (i := 619) (by decide +kernel), List.mem_of_getElem? (i := 620) (by decide +kernel)⟩
theorem lw_p21 : lw_okq (⟨"LoadWeightsModel", "begin", "(I)I"⟩, 26) := ⟨⟨by decide +kernel, by decide +kernel⟩, List.mem_of_getElem? (i := 577) (by decide +kernel), List.mem_of_getElem? (i := 623) (by decide +kernel), List.mem_of_getElem? (i := 624) (by decide +kernel)⟩
theorem lw_p22 : lw_okq (⟨"LoadWeightsModel", "goOn", "(I)V"⟩, 26) := ⟨⟨by decide +kernel, by decide +kernel⟩, List.mem_of_getElem? (i := 577) (by decide +kernel), List.mem_of_getElem? (i := 627) (by decide +kernel), List.mem_of_getElem? (i := 628) (by decide +kernel)⟩
theorem lw_p23 : lw_okq (⟨"LoadWeightsModel", "isShort", "(I)Z"⟩, 26) := ⟨⟨by decide +kernel, by decide +kernel⟩, List.mem_of_getElem? (i := 577) (by decide +kernel), List.mem_of_getElem? (i := 631) (by decide +kernel), List.mem_of_getElem? (i := 632) (by decide +kernel)⟩
theorem lw_p24 : lw_okq (⟨"LoadWeightsModel", "costOf", "(I)I"⟩, 26) := ⟨⟨by decide +kernel, by decide +kernel⟩, List.mem_of_getElem? (i := 577) (by decide +kernel), List.mem_of_getElem? (i := 635) (by decide +kernel), List.mem_of_getElem? (i := 636) (by decide +kernel)⟩
theorem lw_p25 : lw_okq (⟨"LoadWeightsModel", "readText", "()I"⟩, 26) := ⟨⟨by decide +kernel, by decide +kernel⟩, List.mem_of_getElem? (i := 577) (by decide +kernel), List.mem_of_getElem? (i := 737) (by decide +kernel), List.mem_of_getElem? (i := 738) (by decide +kernel)⟩
theorem lw_p26 : lw_okq (⟨"LoadWeightsModel", "readItem", "(I)Z"⟩, 26) := ⟨⟨by decide +kernel, by decide +kernel⟩, List.mem_of_getElem? (i := 577) (by decide +kernel), List.mem_of_getElem? (i := 741) (by decide +kernel), List.mem_of_getElem? (i := 742) (by decide +kernel)⟩
theorem lw_p27 : lw_okq (⟨"LoadWeightsModel", "readNumbers", "(I)Z"⟩, 26) := ⟨⟨by decide +kernel, by decide +kernel⟩, List.mem_of_getElem? (i := 577) (by decide +kernel), List.mem_of_getElem? (i := 745) (by decide +kernel), List.mem_of_getElem? (i := 746) (by decide +kernel)⟩
theorem lw_p28 : lw_okq (⟨"LoadWeightsModel", "isFigure", "()Z"⟩, 26) := ⟨⟨by decide +kernel, by decide +kernel⟩, List.mem_of_getElem? (i := 577) (by decide +kernel), List.mem_of_getElem? (i := 749) (by decide +kernel), List.mem_of_getElem? (i := 750) (by decide +kernel)⟩
theorem lw_p29 : lw_okq (⟨"LoadWeightsModel", "isNumber", "(III)Z"⟩, 26) := ⟨⟨by decide +kernel, by decide +kernel⟩, List.mem_of_getElem? (i := 577) (by decide +kernel), List.mem_of_getElem? (i := 753) (by decide +kernel), List.mem_of_getElem? (i := 754) (by decide +kernel)⟩
theorem lw_p30 : lw_okq (⟨"LoadWeightsModel", "areEnds", "()Z"⟩, 26) := ⟨⟨by decide +kernel, by decide +kernel⟩, List.mem_of_getElem? (i := 577) (by decide +kernel), List.mem_of_getElem? (i := 757) (by decide +kernel), List.mem_of_getElem? (i := 758) (by decide +kernel)⟩
theorem lw_p31 : lw_okq (⟨"LoadWeightsModel", "isLink", "(I)Z"⟩, 26) := ⟨⟨by decide +kernel, by decide +kernel⟩, List.mem_of_getElem? (i := 577) (by decide +kernel), List.mem_of_getElem? (i := 773) (by decide +kernel), List.mem_of_getElem? (i := 774) (by decide +kernel)⟩
def lw_privs_2 : List (MethodName × Nat) := [(⟨"LoadWeightsModel", "layLoads", "()V"⟩, 26), (⟨"LoadWeightsModel", "layShares", "(I)Z"⟩, 26), (⟨"LoadWeightsModel", "findFar", "(I)V"⟩, 26), (⟨"LoadWeightsModel", "end", "(I)I"⟩, 26), (⟨"LoadWeightsModel", "isUp", "(I)Z"⟩, 26), (⟨"LoadWeightsModel", "begin", "(I)I"⟩, 26), (⟨"LoadWeightsModel", "goOn", "(I)V"⟩, 26), (⟨"LoadWeightsModel", "isShort", "(I)Z"⟩, 26), (⟨"LoadWeightsModel", "costOf", "(I)I"⟩, 26), (⟨"LoadWeightsModel", "readText", "()I"⟩, 26), (⟨"LoadWeightsModel", "readItem", "(I)Z"⟩, 26), (⟨"LoadWeightsModel", "readNumbers", "(I)Z"⟩, 26), (⟨"LoadWeightsModel", "isFigure", "()Z"⟩, 26), (⟨"LoadWeightsModel", "isNumber", "(III)Z"⟩, 26), (⟨"LoadWeightsModel", "areEnds", "()Z"⟩, 26), (⟨"LoadWeightsModel", "isLink", "(I)Z"⟩, 26)]
theorem lw_r2 : ∀ q ∈ lw_privs_2, lw_okq q := List.forall_mem_cons.mpr ⟨lw_p16, List.forall_mem_cons.mpr ⟨lw_p17, List.forall_mem_cons.mpr ⟨lw_p18, List.forall_mem_cons.mpr ⟨lw_p19, List.forall_mem_cons.mpr ⟨lw_p20, List.forall_mem_cons.mpr ⟨lw_p21, List.forall_mem_cons.mpr ⟨lw_p22, List.forall_mem_cons.mpr ⟨lw_p23, List.forall_mem_cons.mpr ⟨lw_p24, List.forall_mem_cons.mpr ⟨lw_p25, List.forall_mem_cons.mpr ⟨lw_p26, List.forall_mem_cons.mpr ⟨lw_p27, List.forall_mem_cons.mpr ⟨lw_p28, List.forall_mem_cons.mpr ⟨lw_p29, List.forall_mem_cons.mpr ⟨lw_p30, List.forall_mem_cons.mpr ⟨lw_p31, fun _ h => absurd h List.not_mem_nil⟩⟩⟩⟩⟩⟩⟩⟩⟩⟩⟩⟩⟩⟩⟩⟩
theorem lw_p32 : lw_okq (⟨"LoadWeightsModel", "note", "()V"⟩, 26) := ⟨⟨by decide +kernel, by decide +kernel⟩, List.mem_of_getElem? (i := 577) (by decide +kernel), List.mem_of_getElem? (i := 777) (by decide +kernel), List.mem_of_getElem? (i := 778) (by decide +kernel)⟩
theorem lw_p33 : lw_okq (⟨"LoadWeightsModel", "tellLeast", "()V"⟩, 26) := ⟨⟨by decide +kernel, by decide +kernel⟩, List.mem_of_getElem? (i := 577) (by decide +kernel), List.mem_of_getElem? (i := 781) (by decide +kernel), List.mem_of_getElem? (i := 782) (by decide +kernel)⟩
theorem lw_p34 : lw_okq (⟨"LoadWeightsModel", "isNode", "(I)Z"⟩, 26) := ⟨⟨by decide +kernel, by decide +kernel⟩, List.mem_of_getElem? (i := 577) (by decide +kernel), List.mem_of_getElem? (i := 789) (by decide +kernel), List.mem_of_getElem? (i := 790) (by decide +kernel)⟩
theorem lw_p35 : lw_okq (⟨"LoadWeightsModel", "isEvened", "(II)Z"⟩, 26) := ⟨⟨by decide +kernel, by decide +kernel⟩, List.mem_of_getElem? (i := 577) (by decide +kernel), List.mem_of_getElem? (i := 793) (by decide +kernel), List.mem_of_getElem? (i := 794) (by decide +kernel)⟩
theorem lw_p36 : lw_okq (⟨"LoadWeightsModel", "findMove", "(IZ)Z"⟩, 26) := ⟨⟨by decide +kernel, by decide +kernel⟩, List.mem_of_getElem? (i := 577) (by decide +kernel), List.mem_of_getElem? (i := 801) (by decide +kernel), List.mem_of_getElem? (i := 802) (by decide +kernel)⟩
theorem lw_p37 : lw_okq (⟨"LoadWeightsModel", "costBy", "(II)I"⟩, 26) := ⟨⟨by decide +kernel, by decide +kernel⟩, List.mem_of_getElem? (i := 577) (by decide +kernel), List.mem_of_getElem? (i := 805) (by decide +kernel), List.mem_of_getElem? (i := 806) (by decide +kernel)⟩
theorem lw_p38 : lw_okq (⟨"LoadWeightsModel", "isTabuBy", "(II)Z"⟩, 26) := ⟨⟨by decide +kernel, by decide +kernel⟩, List.mem_of_getElem? (i := 577) (by decide +kernel), List.mem_of_getElem? (i := 809) (by decide +kernel), List.mem_of_getElem? (i := 810) (by decide +kernel)⟩
theorem lw_p39 : lw_okq (⟨"LoadWeightsModel", "markNow", "()I"⟩, 26) := ⟨⟨by decide +kernel, by decide +kernel⟩, List.mem_of_getElem? (i := 577) (by decide +kernel), List.mem_of_getElem? (i := 813) (by decide +kernel), List.mem_of_getElem? (i := 814) (by decide +kernel)⟩
theorem lw_p40 : lw_okq (⟨"LoadWeightsModel", "isTabu", "(I)Z"⟩, 26) := ⟨⟨by decide +kernel, by decide +kernel⟩, List.mem_of_getElem? (i := 577) (by decide +kernel), List.mem_of_getElem? (i := 817) (by decide +kernel), List.mem_of_getElem? (i := 818) (by decide +kernel)⟩
theorem lw_p41 : lw_okq (⟨"LoadWeightsModel", "stepOnce", "()Z"⟩, 26) := ⟨⟨by decide +kernel, by decide +kernel⟩, List.mem_of_getElem? (i := 577) (by decide +kernel), List.mem_of_getElem? (i := 821) (by decide +kernel), List.mem_of_getElem? (i := 822) (by decide +kernel)⟩
theorem lw_p42 : lw_okq (⟨"LoadWeightsModel", "becomesTabu", "(I)V"⟩, 26) := ⟨⟨by decide +kernel, by decide +kernel⟩, List.mem_of_getElem? (i := 577) (by decide +kernel), List.mem_of_getElem? (i := 825) (by decide +kernel), List.mem_of_getElem? (i := 826) (by decide +kernel)⟩
theorem lw_p43 : lw_okq (⟨"LoadWeightsModel", "shortFor", "(I)I"⟩, 26) := ⟨⟨by decide +kernel, by decide +kernel⟩, List.mem_of_getElem? (i := 577) (by decide +kernel), List.mem_of_getElem? (i := 837) (by decide +kernel), List.mem_of_getElem? (i := 838) (by decide +kernel)⟩
theorem lw_p44 : lw_okq (⟨"LoadWeightsModel", "bestOf", "(I)I"⟩, 26) := ⟨⟨by decide +kernel, by decide +kernel⟩, List.mem_of_getElem? (i := 577) (by decide +kernel), List.mem_of_getElem? (i := 861) (by decide +kernel), List.mem_of_getElem? (i := 862) (by decide +kernel)⟩
theorem lw_p45 : lw_okq (⟨"LoadWeightsModel", "costTurned", "(I)I"⟩, 26) := ⟨⟨by decide +kernel, by decide +kernel⟩, List.mem_of_getElem? (i := 577) (by decide +kernel), List.mem_of_getElem? (i := 869) (by decide +kernel), List.mem_of_getElem? (i := 870) (by decide +kernel)⟩
theorem lw_p46 : lw_okq (⟨"LoadWeightsModel", "moreThanFull", "()I"⟩, 26) := ⟨⟨by decide +kernel, by decide +kernel⟩, List.mem_of_getElem? (i := 577) (by decide +kernel), List.mem_of_getElem? (i := 884) (by decide +kernel), List.mem_of_getElem? (i := 885) (by decide +kernel)⟩
def lw_privs_3 : List (MethodName × Nat) := [(⟨"LoadWeightsModel", "note", "()V"⟩, 26), (⟨"LoadWeightsModel", "tellLeast", "()V"⟩, 26), (⟨"LoadWeightsModel", "isNode", "(I)Z"⟩, 26), (⟨"LoadWeightsModel", "isEvened", "(II)Z"⟩, 26), (⟨"LoadWeightsModel", "findMove", "(IZ)Z"⟩, 26), (⟨"LoadWeightsModel", "costBy", "(II)I"⟩, 26), (⟨"LoadWeightsModel", "isTabuBy", "(II)Z"⟩, 26), (⟨"LoadWeightsModel", "markNow", "()I"⟩, 26), (⟨"LoadWeightsModel", "isTabu", "(I)Z"⟩, 26), (⟨"LoadWeightsModel", "stepOnce", "()Z"⟩, 26), (⟨"LoadWeightsModel", "becomesTabu", "(I)V"⟩, 26), (⟨"LoadWeightsModel", "shortFor", "(I)I"⟩, 26), (⟨"LoadWeightsModel", "bestOf", "(I)I"⟩, 26), (⟨"LoadWeightsModel", "costTurned", "(I)I"⟩, 26), (⟨"LoadWeightsModel", "moreThanFull", "()I"⟩, 26)]
theorem lw_r3 : ∀ q ∈ lw_privs_3, lw_okq q := List.forall_mem_cons.mpr ⟨lw_p32, List.forall_mem_cons.mpr ⟨lw_p33, List.forall_mem_cons.mpr ⟨lw_p34, List.forall_mem_cons.mpr ⟨lw_p35, List.forall_mem_cons.mpr ⟨lw_p36, List.forall_mem_cons.mpr ⟨lw_p37, List.forall_mem_cons.mpr ⟨lw_p38, List.forall_mem_cons.mpr ⟨lw_p39, List.forall_mem_cons.mpr ⟨lw_p40, List.forall_mem_cons.mpr ⟨lw_p41, List.forall_mem_cons.mpr ⟨lw_p42, List.forall_mem_cons.mpr ⟨lw_p43, List.forall_mem_cons.mpr ⟨lw_p44, List.forall_mem_cons.mpr ⟨lw_p45, List.forall_mem_cons.mpr ⟨lw_p46, fun _ h => absurd h List.not_mem_nil⟩⟩⟩⟩⟩⟩⟩⟩⟩⟩⟩⟩⟩⟩⟩
def lw_privs : List (MethodName × Nat) := lw_privs_1 ++ (lw_privs_2 ++ (lw_privs_3))
def lw_tbl : List Cond := k2_sels lw_privs ++ tables_1
theorem lw_privs_ok : ∀ q ∈ lw_privs, lw_okq q := by
  show ∀ q ∈ lw_privs_1 ++ (lw_privs_2 ++ (lw_privs_3)), lw_okq q
  exact List.forall_mem_append.mpr ⟨lw_r1, List.forall_mem_append.mpr ⟨lw_r2, lw_r3⟩⟩
end
section
def RX0 : String := "LoadWeights$Flow"
def TX0 : u_T := fun k => match k with
  | 0 => ("LoadWeights$Flow", "net", "LLoadWeights$Net;", true)
  | 1 => ("LoadWeights$Flow", "far", "[[I", true)
  | 2 => ("LoadWeights$Flow", "share", "[[I", true)
  | 3 => ("LoadWeights$Flow", "load", "[I", true)
  | 4 => ("LoadWeights$Flow", "lost", "[Z", true)
  | 5 => ("LoadWeights$Flow", "order", "[I", true)
  | 6 => ("LoadWeights$Flow", "come", "[I", true)
  | _ => ("LoadWeights$Flow", "shortLink", "[I", true)
def tyX0 : Nat → FieldType := fun k => match k with
  | 0 => .object "LoadWeights$Net"
  | 1 => .array (.array .int)
  | 2 => .array (.array .int)
  | 3 => .array .int
  | 4 => .array .boolean
  | 5 => .array .int
  | 6 => .array .int
  | _ => .array .int
theorem nmX0 : ∀ a, a < 8 → ∀ b, b < 8 → a ≠ b → (TX0 a).2.1 ≠ (TX0 b).2.1 := by decide +kernel
theorem tyX0_ok : ∀ k, k < 8 → parseFieldDescriptor (TX0 k).2.2.1 = some (tyX0 k) := by decide +kernel
abbrev cX0_init : ByteArray := prog_2_method_1_code
def yX0_init : MethodName := ⟨RX0, "<init>", "(LLoadWeights$Net;)V"⟩
abbrev cX0_costOf : ByteArray := prog_2_method_2_code
def yX0_costOf : MethodName := ⟨RX0, "costOf", "(LLoadWeights$Standing;)I"⟩
abbrev cX0_measure : ByteArray := prog_2_method_3_code
def yX0_measure : MethodName := ⟨RX0, "measure", "(LLoadWeights$Standing;I)V"⟩
abbrev cX0_isShort : ByteArray := prog_2_method_4_code
def yX0_isShort : MethodName := ⟨RX0, "isShort", "(LLoadWeights$Standing;II)Z"⟩
abbrev cX0_isShortForAGoal : ByteArray := prog_2_method_5_code
def yX0_isShortForAGoal : MethodName := ⟨RX0, "isShortForAGoal", "(LLoadWeights$Standing;I)Z"⟩
abbrev cX0_shortDemands : ByteArray := prog_2_method_6_code
def yX0_shortDemands : MethodName := ⟨RX0, "shortDemands", "(LLoadWeights$Standing;I)I"⟩
abbrev cX0_lostDemands : ByteArray := prog_2_method_7_code
def yX0_lostDemands : MethodName := ⟨RX0, "lostDemands", "()I"⟩
abbrev cX0_overfullLinks : ByteArray := prog_2_method_8_code
def yX0_overfullLinks : MethodName := ⟨RX0, "overfullLinks", "()I"⟩
abbrev cX0_linkCost : ByteArray := prog_2_method_9_code
def yX0_linkCost : MethodName := ⟨RX0, "linkCost", "(I)I"⟩
abbrev cX0_send : ByteArray := prog_2_method_10_code
def yX0_send : MethodName := ⟨RX0, "send", "(LLoadWeights$Standing;I)V"⟩
abbrev cX0_orderFarthestFirst : ByteArray := prog_2_method_11_code
def yX0_orderFarthestFirst : MethodName := ⟨RX0, "orderFarthestFirst", "(I)V"⟩
abbrev cX0_sendOn : ByteArray := prog_2_method_12_code
def yX0_sendOn : MethodName := ⟨RX0, "sendOn", "(LLoadWeights$Standing;II)V"⟩
def RX1 : String := "LoadWeights$Letters"
def TX1 : u_T := fun k => match k with
  | 0 => ("LoadWeights$Letters", "letter", "[I", true)
  | _ => ("LoadWeights$Letters", "length", "I", false)
def tyX1 : Nat → FieldType := fun k => match k with
  | 0 => .array .int
  | _ => .int
theorem nmX1 : ∀ a, a < 2 → ∀ b, b < 2 → a ≠ b → (TX1 a).2.1 ≠ (TX1 b).2.1 := by decide +kernel
theorem tyX1_ok : ∀ k, k < 2 → parseFieldDescriptor (TX1 k).2.2.1 = some (tyX1 k) := by decide +kernel
abbrev cX1_init : ByteArray := prog_3_method_1_code
def yX1_init : MethodName := ⟨RX1, "<init>", "()V"⟩
abbrev cX1_put : ByteArray := prog_3_method_2_code
def yX1_put : MethodName := ⟨RX1, "put", "(I)Z"⟩
def RX2 : String := "LoadWeights$MoveSearch"
def TX2 : u_T := fun k => match k with
  | 0 => ("LoadWeights$MoveSearch", "net", "LLoadWeights$Net;", true)
  | 1 => ("LoadWeights$MoveSearch", "flow", "LLoadWeights$Flow;", true)
  | 2 => ("LoadWeights$MoveSearch", "tried", "LLoadWeights$Standing;", true)
  | 3 => ("LoadWeights$MoveSearch", "link", "I", false)
  | 4 => ("LoadWeights$MoveSearch", "weight", "I", false)
  | _ => ("LoadWeights$MoveSearch", "cost", "I", false)
def tyX2 : Nat → FieldType := fun k => match k with
  | 0 => .object "LoadWeights$Net"
  | 1 => .object "LoadWeights$Flow"
  | 2 => .object "LoadWeights$Standing"
  | 3 => .int
  | 4 => .int
  | _ => .int
theorem nmX2 : ∀ a, a < 6 → ∀ b, b < 6 → a ≠ b → (TX2 a).2.1 ≠ (TX2 b).2.1 := by decide +kernel
theorem tyX2_ok : ∀ k, k < 6 → parseFieldDescriptor (TX2 k).2.2.1 = some (tyX2 k) := by decide +kernel
abbrev cX2_init : ByteArray := prog_4_method_1_code
def yX2_init : MethodName := ⟨RX2, "<init>", "(LLoadWeights$Net;LLoadWeights$Flow;)V"⟩
abbrev cX2_find : ByteArray := prog_4_method_2_code
def yX2_find : MethodName := ⟨RX2, "find", "(LLoadWeights$Standing;IZ)Z"⟩
abbrev cX2_found : ByteArray := prog_4_method_3_code
def yX2_found : MethodName := ⟨RX2, "found", "(I)I"⟩
abbrev cX2_tryWeights : ByteArray := prog_4_method_4_code
def yX2_tryWeights : MethodName := ⟨RX2, "tryWeights", "(LLoadWeights$Standing;IZ)V"⟩
abbrev cX2_isFree : ByteArray := prog_4_method_5_code
def yX2_isFree : MethodName := ⟨RX2, "isFree", "(LLoadWeights$Standing;III)Z"⟩
def RX3 : String := "LoadWeights$Net"
def TX3 : u_T := fun k => match k with
  | 0 => ("LoadWeights$Net", "nodes", "I", false)
  | 1 => ("LoadWeights$Net", "links", "I", false)
  | 2 => ("LoadWeights$Net", "demands", "I", false)
  | 3 => ("LoadWeights$Net", "from", "[I", true)
  | 4 => ("LoadWeights$Net", "to", "[I", true)
  | 5 => ("LoadWeights$Net", "room", "[I", true)
  | 6 => ("LoadWeights$Net", "toldWeight", "[I", true)
  | 7 => ("LoadWeights$Net", "start", "[I", true)
  | 8 => ("LoadWeights$Net", "goal", "[I", true)
  | 9 => ("LoadWeights$Net", "size", "[I", true)
  | _ => ("LoadWeights$Net", "isGoal", "[Z", true)
def tyX3 : Nat → FieldType := fun k => match k with
  | 0 => .int
  | 1 => .int
  | 2 => .int
  | 3 => .array .int
  | 4 => .array .int
  | 5 => .array .int
  | 6 => .array .int
  | 7 => .array .int
  | 8 => .array .int
  | 9 => .array .int
  | _ => .array .boolean
theorem nmX3 : ∀ a, a < 11 → ∀ b, b < 11 → a ≠ b → (TX3 a).2.1 ≠ (TX3 b).2.1 := by decide +kernel
theorem tyX3_ok : ∀ k, k < 11 → parseFieldDescriptor (TX3 k).2.2.1 = some (tyX3 k) := by decide +kernel
abbrev cX3_init : ByteArray := prog_5_method_1_code
def yX3_init : MethodName := ⟨RX3, "<init>", "()V"⟩
abbrev cX3_clear : ByteArray := prog_5_method_2_code
def yX3_clear : MethodName := ⟨RX3, "clear", "()V"⟩
abbrev cX3_hasNode : ByteArray := prog_5_method_3_code
def yX3_hasNode : MethodName := ⟨RX3, "hasNode", "(I)Z"⟩
abbrev cX3_hasLink : ByteArray := prog_5_method_4_code
def yX3_hasLink : MethodName := ⟨RX3, "hasLink", "(I)Z"⟩
abbrev cX3_hasDemand : ByteArray := prog_5_method_5_code
def yX3_hasDemand : MethodName := ⟨RX3, "hasDemand", "(I)Z"⟩
abbrev cX3_takeNodes : ByteArray := prog_5_method_6_code
def yX3_takeNodes : MethodName := ⟨RX3, "takeNodes", "(I)Z"⟩
abbrev cX3_takeLink : ByteArray := prog_5_method_7_code
def yX3_takeLink : MethodName := ⟨RX3, "takeLink", "(IIII)Z"⟩
abbrev cX3_takeDemand : ByteArray := prog_5_method_8_code
def yX3_takeDemand : MethodName := ⟨RX3, "takeDemand", "(III)Z"⟩
abbrev cX3_areTwoNodes : ByteArray := prog_5_method_9_code
def yX3_areTwoNodes : MethodName := ⟨RX3, "areTwoNodes", "(II)Z"⟩
abbrev cX3_isSize : ByteArray := prog_5_method_10_code
def yX3_isSize : MethodName := ⟨RX3, "isSize", "(I)Z"⟩
def RX4 : String := "LoadWeights$Past"
def TX4 : u_T := fun k => match k with
  | 0 => ("LoadWeights$Past", "kept", "[LLoadWeights$Standing;", true)
  | 1 => ("LoadWeights$Past", "next", "I", false)
  | _ => ("LoadWeights$Past", "count", "I", false)
def tyX4 : Nat → FieldType := fun k => match k with
  | 0 => .array (.object "LoadWeights$Standing")
  | 1 => .int
  | _ => .int
theorem nmX4 : ∀ a, a < 3 → ∀ b, b < 3 → a ≠ b → (TX4 a).2.1 ≠ (TX4 b).2.1 := by decide +kernel
theorem tyX4_ok : ∀ k, k < 3 → parseFieldDescriptor (TX4 k).2.2.1 = some (tyX4 k) := by decide +kernel
abbrev cX4_init : ByteArray := prog_6_method_1_code
def yX4_init : MethodName := ⟨RX4, "<init>", "()V"⟩
abbrev cX4_keep : ByteArray := prog_6_method_2_code
def yX4_keep : MethodName := ⟨RX4, "keep", "(LLoadWeights$Standing;)V"⟩
abbrev cX4_giveBack : ByteArray := prog_6_method_3_code
def yX4_giveBack : MethodName := ⟨RX4, "giveBack", "(LLoadWeights$Standing;)Z"⟩
def RX5 : String := "LoadWeights$Reader"
def TX5 : u_T := fun k => match k with
  | _ => ("LoadWeights$Reader", "number", "[I", true)
def tyX5 : Nat → FieldType := fun k => match k with
  | _ => .array .int
theorem nmX5 : ∀ a, a < 1 → ∀ b, b < 1 → a ≠ b → (TX5 a).2.1 ≠ (TX5 b).2.1 := by decide +kernel
theorem tyX5_ok : ∀ k, k < 1 → parseFieldDescriptor (TX5 k).2.2.1 = some (tyX5 k) := by decide +kernel
abbrev cX5_init : ByteArray := prog_7_method_1_code
def yX5_init : MethodName := ⟨RX5, "<init>", "()V"⟩
abbrev cX5_read : ByteArray := prog_7_method_2_code
def yX5_read : MethodName := ⟨RX5, "read", "(LLoadWeights$Letters;LLoadWeights$Net;)I"⟩
abbrev cX5_takeItem : ByteArray := prog_7_method_3_code
def yX5_takeItem : MethodName := ⟨RX5, "takeItem", "(LLoadWeights$Letters;IILLoadWeights$Net;)Z"⟩
abbrev cX5_takeNumbers : ByteArray := prog_7_method_4_code
def yX5_takeNumbers : MethodName := ⟨RX5, "takeNumbers", "(LLoadWeights$Letters;II)I"⟩
def RX6 : String := "LoadWeights$Standing"
def TX6 : u_T := fun k => match k with
  | 0 => ("LoadWeights$Standing", "links", "I", false)
  | 1 => ("LoadWeights$Standing", "weight", "[I", true)
  | 2 => ("LoadWeights$Standing", "up", "[Z", true)
  | 3 => ("LoadWeights$Standing", "tabuMark", "[I", true)
  | 4 => ("LoadWeights$Standing", "tabuCount", "I", false)
  | 5 => ("LoadWeights$Standing", "nextTabu", "I", false)
  | _ => ("LoadWeights$Standing", "least", "I", false)
def tyX6 : Nat → FieldType := fun k => match k with
  | 0 => .int
  | 1 => .array .int
  | 2 => .array .boolean
  | 3 => .array .int
  | 4 => .int
  | 5 => .int
  | _ => .int
theorem nmX6 : ∀ a, a < 7 → ∀ b, b < 7 → a ≠ b → (TX6 a).2.1 ≠ (TX6 b).2.1 := by decide +kernel
theorem tyX6_ok : ∀ k, k < 7 → parseFieldDescriptor (TX6 k).2.2.1 = some (tyX6 k) := by decide +kernel
abbrev cX6_init : ByteArray := prog_8_method_1_code
def yX6_init : MethodName := ⟨RX6, "<init>", "()V"⟩
abbrev cX6_begin : ByteArray := prog_8_method_2_code
def yX6_begin : MethodName := ⟨RX6, "begin", "(LLoadWeights$Net;)V"⟩
abbrev cX6_copyFrom : ByteArray := prog_8_method_3_code
def yX6_copyFrom : MethodName := ⟨RX6, "copyFrom", "(LLoadWeights$Standing;)V"⟩
abbrev cX6_noteCost : ByteArray := prog_8_method_4_code
def yX6_noteCost : MethodName := ⟨RX6, "noteCost", "(I)V"⟩
abbrev cX6_mark : ByteArray := prog_8_method_5_code
def yX6_mark : MethodName := ⟨RX6, "mark", "()I"⟩
abbrev cX6_markWith : ByteArray := prog_8_method_6_code
def yX6_markWith : MethodName := ⟨RX6, "markWith", "(II)I"⟩
abbrev cX6_addTabu : ByteArray := prog_8_method_7_code
def yX6_addTabu : MethodName := ⟨RX6, "addTabu", "(I)V"⟩
abbrev cX6_isTabu : ByteArray := prog_8_method_8_code
def yX6_isTabu : MethodName := ⟨RX6, "isTabu", "(I)Z"⟩
abbrev cX6_linksDown : ByteArray := prog_8_method_9_code
def yX6_linksDown : MethodName := ⟨RX6, "linksDown", "()I"⟩
def RX7 : String := "LoadWeights"
def TX7 : u_T := fun k => match k with
  | 0 => ("LoadWeights", "text", "LLoadWeights$Letters;", true)
  | 1 => ("LoadWeights", "net", "LLoadWeights$Net;", true)
  | 2 => ("LoadWeights", "draft", "LLoadWeights$Net;", true)
  | 3 => ("LoadWeights", "reader", "LLoadWeights$Reader;", true)
  | 4 => ("LoadWeights", "flow", "LLoadWeights$Flow;", true)
  | 5 => ("LoadWeights", "search", "LLoadWeights$MoveSearch;", true)
  | 6 => ("LoadWeights", "now", "LLoadWeights$Standing;", true)
  | 7 => ("LoadWeights", "failed", "LLoadWeights$Standing;", true)
  | 8 => ("LoadWeights", "past", "LLoadWeights$Past;", true)
  | _ => ("LoadWeights", "evened", "[I", true)
def tyX7 : Nat → FieldType := fun k => match k with
  | 0 => .object "LoadWeights$Letters"
  | 1 => .object "LoadWeights$Net"
  | 2 => .object "LoadWeights$Net"
  | 3 => .object "LoadWeights$Reader"
  | 4 => .object "LoadWeights$Flow"
  | 5 => .object "LoadWeights$MoveSearch"
  | 6 => .object "LoadWeights$Standing"
  | 7 => .object "LoadWeights$Standing"
  | 8 => .object "LoadWeights$Past"
  | _ => .array .int
theorem nmX7 : ∀ a, a < 10 → ∀ b, b < 10 → a ≠ b → (TX7 a).2.1 ≠ (TX7 b).2.1 := by decide +kernel
theorem tyX7_ok : ∀ k, k < 10 → parseFieldDescriptor (TX7 k).2.2.1 = some (tyX7 k) := by decide +kernel
abbrev cX7_init : ByteArray := prog_1_method_1_code
def yX7_init : MethodName := ⟨RX7, "<init>", "()V"⟩
abbrev cX7_write : ByteArray := prog_1_method_2_code
def yX7_write : MethodName := ⟨RX7, "write", "(I)I"⟩
abbrev cX7_wipe : ByteArray := prog_1_method_3_code
def yX7_wipe : MethodName := ⟨RX7, "wipe", "()I"⟩
abbrev cX7_fault : ByteArray := prog_1_method_4_code
def yX7_fault : MethodName := ⟨RX7, "fault", "()I"⟩
abbrev cX7_lay : ByteArray := prog_1_method_5_code
def yX7_lay : MethodName := ⟨RX7, "lay", "()I"⟩
abbrev cX7_move : ByteArray := prog_1_method_6_code
def yX7_move : MethodName := ⟨RX7, "move", "(II)I"⟩
abbrev cX7_even : ByteArray := prog_1_method_7_code
def yX7_even : MethodName := ⟨RX7, "even", "(II)I"⟩
abbrev cX7_step : ByteArray := prog_1_method_8_code
def yX7_step : MethodName := ⟨RX7, "step", "(I)I"⟩
abbrev cX7_turn : ByteArray := prog_1_method_9_code
def yX7_turn : MethodName := ⟨RX7, "turn", "(II)I"⟩
abbrev cX7_undo : ByteArray := prog_1_method_10_code
def yX7_undo : MethodName := ⟨RX7, "undo", "()I"⟩
abbrev cX7_link : ByteArray := prog_1_method_11_code
def yX7_link : MethodName := ⟨RX7, "link", "(II)I"⟩
abbrev cX7_far : ByteArray := prog_1_method_12_code
def yX7_far : MethodName := ⟨RX7, "far", "(II)I"⟩
abbrev cX7_share : ByteArray := prog_1_method_13_code
def yX7_share : MethodName := ⟨RX7, "share", "(II)I"⟩
abbrev cX7_cost : ByteArray := prog_1_method_14_code
def yX7_cost : MethodName := ⟨RX7, "cost", "()I"⟩
abbrev cX7_tabu : ByteArray := prog_1_method_15_code
def yX7_tabu : MethodName := ⟨RX7, "tabu", "(II)I"⟩
abbrev cX7_best : ByteArray := prog_1_method_16_code
def yX7_best : MethodName := ⟨RX7, "best", "(I)I"⟩
abbrev cX7_worst : ByteArray := prog_1_method_17_code
def yX7_worst : MethodName := ⟨RX7, "worst", "(I)I"⟩
abbrev cX7_rescue : ByteArray := prog_1_method_18_code
def yX7_rescue : MethodName := ⟨RX7, "rescue", "(II)I"⟩
abbrev cX7_count : ByteArray := prog_1_method_19_code
def yX7_count : MethodName := ⟨RX7, "count", "(I)I"⟩
abbrev cX7_isWeight : ByteArray := prog_1_method_20_code
def yX7_isWeight : MethodName := ⟨RX7, "isWeight", "(I)Z"⟩
abbrev cX7_layText : ByteArray := prog_1_method_21_code
def yX7_layText : MethodName := ⟨RX7, "layText", "()Z"⟩
abbrev cX7_planEvening : ByteArray := prog_1_method_22_code
def yX7_planEvening : MethodName := ⟨RX7, "planEvening", "(II)I"⟩
abbrev cX7_leadsOn : ByteArray := prog_1_method_23_code
def yX7_leadsOn : MethodName := ⟨RX7, "leadsOn", "(III)Z"⟩
abbrev cX7_costWithout : ByteArray := prog_1_method_24_code
def yX7_costWithout : MethodName := ⟨RX7, "costWithout", "(I)I"⟩
def RX8 : String := "LoadWeightsModel"
def TX8 : u_T := fun k => match k with
  | 0 => ("LoadWeightsModel", "text", "[I", true)
  | 1 => ("LoadWeightsModel", "letters", "I", false)
  | 2 => ("LoadWeightsModel", "at", "I", false)
  | 3 => ("LoadWeightsModel", "readLinks", "[I", true)
  | 4 => ("LoadWeightsModel", "readDemands", "[I", true)
  | 5 => ("LoadWeightsModel", "readNodes", "I", false)
  | 6 => ("LoadWeightsModel", "readMany", "I", false)
  | 7 => ("LoadWeightsModel", "readGoing", "I", false)
  | 8 => ("LoadWeightsModel", "links", "[I", true)
  | 9 => ("LoadWeightsModel", "demands", "[I", true)
  | 10 => ("LoadWeightsModel", "nodes", "I", false)
  | 11 => ("LoadWeightsModel", "many", "I", false)
  | 12 => ("LoadWeightsModel", "going", "I", false)
  | 13 => ("LoadWeightsModel", "now", "[I", true)
  | 14 => ("LoadWeightsModel", "past", "[I", true)
  | 15 => ("LoadWeightsModel", "changes", "I", false)
  | 16 => ("LoadWeightsModel", "isBegun", "Z", false)
  | 17 => ("LoadWeightsModel", "numbers", "[I", true)
  | 18 => ("LoadWeightsModel", "fars", "[I", true)
  | 19 => ("LoadWeightsModel", "shares", "[I", true)
  | 20 => ("LoadWeightsModel", "come", "[I", true)
  | 21 => ("LoadWeightsModel", "loads", "[I", true)
  | 22 => ("LoadWeightsModel", "lost", "I", false)
  | 23 => ("LoadWeightsModel", "bestLink", "I", false)
  | 24 => ("LoadWeightsModel", "bestWeight", "I", false)
  | _ => ("LoadWeightsModel", "bestCost", "I", false)
def tyX8 : Nat → FieldType := fun k => match k with
  | 0 => .array .int
  | 1 => .int
  | 2 => .int
  | 3 => .array .int
  | 4 => .array .int
  | 5 => .int
  | 6 => .int
  | 7 => .int
  | 8 => .array .int
  | 9 => .array .int
  | 10 => .int
  | 11 => .int
  | 12 => .int
  | 13 => .array .int
  | 14 => .array .int
  | 15 => .int
  | 16 => .boolean
  | 17 => .array .int
  | 18 => .array .int
  | 19 => .array .int
  | 20 => .array .int
  | 21 => .array .int
  | 22 => .int
  | 23 => .int
  | 24 => .int
  | _ => .int
theorem nmX8 : ∀ a, a < 26 → ∀ b, b < 26 → a ≠ b → (TX8 a).2.1 ≠ (TX8 b).2.1 := by decide +kernel
theorem tyX8_ok : ∀ k, k < 26 → parseFieldDescriptor (TX8 k).2.2.1 = some (tyX8 k) := by decide +kernel
abbrev cX8_init : ByteArray := prog_10_method_1_code
def yX8_init : MethodName := ⟨RX8, "<init>", "()V"⟩
abbrev cX8_in : ByteArray := prog_10_method_2_code
def yX8_in : MethodName := ⟨RX8, "in", "(III)Z"⟩
abbrev cX8_beginRead : ByteArray := prog_10_method_3_code
def yX8_beginRead : MethodName := ⟨RX8, "beginRead", "()V"⟩
abbrev cX8_putLink : ByteArray := prog_10_method_4_code
def yX8_putLink : MethodName := ⟨RX8, "putLink", "(IIII)V"⟩
abbrev cX8_putDemand : ByteArray := prog_10_method_5_code
def yX8_putDemand : MethodName := ⟨RX8, "putDemand", "(III)V"⟩
abbrev cX8_takeRead : ByteArray := prog_10_method_6_code
def yX8_takeRead : MethodName := ⟨RX8, "takeRead", "()V"⟩
abbrev cX8_isFigure : ByteArray := prog_10_method_7_code
def yX8_isFigure : MethodName := ⟨RX8, "isFigure", "()Z"⟩
abbrev cX8_readNumbers : ByteArray := prog_10_method_8_code
def yX8_readNumbers : MethodName := ⟨RX8, "readNumbers", "(I)Z"⟩
abbrev cX8_isNumber : ByteArray := prog_10_method_9_code
def yX8_isNumber : MethodName := ⟨RX8, "isNumber", "(III)Z"⟩
abbrev cX8_areEnds : ByteArray := prog_10_method_10_code
def yX8_areEnds : MethodName := ⟨RX8, "areEnds", "()Z"⟩
abbrev cX8_readItem : ByteArray := prog_10_method_11_code
def yX8_readItem : MethodName := ⟨RX8, "readItem", "(I)Z"⟩
abbrev cX8_readText : ByteArray := prog_10_method_12_code
def yX8_readText : MethodName := ⟨RX8, "readText", "()I"⟩
abbrev cX8_write : ByteArray := prog_10_method_13_code
def yX8_write : MethodName := ⟨RX8, "write", "(I)I"⟩
abbrev cX8_wipe : ByteArray := prog_10_method_14_code
def yX8_wipe : MethodName := ⟨RX8, "wipe", "()I"⟩
abbrev cX8_fault : ByteArray := prog_10_method_15_code
def yX8_fault : MethodName := ⟨RX8, "fault", "()I"⟩
abbrev cX8_lay : ByteArray := prog_10_method_16_code
def yX8_lay : MethodName := ⟨RX8, "lay", "()I"⟩
abbrev cX8_isLink : ByteArray := prog_10_method_17_code
def yX8_isLink : MethodName := ⟨RX8, "isLink", "(I)Z"⟩
abbrev cX8_isNode : ByteArray := prog_10_method_18_code
def yX8_isNode : MethodName := ⟨RX8, "isNode", "(I)Z"⟩
abbrev cX8_isUp : ByteArray := prog_10_method_19_code
def yX8_isUp : MethodName := ⟨RX8, "isUp", "(I)Z"⟩
abbrev cX8_begin : ByteArray := prog_10_method_20_code
def yX8_begin : MethodName := ⟨RX8, "begin", "(I)I"⟩
abbrev cX8_end : ByteArray := prog_10_method_21_code
def yX8_end : MethodName := ⟨RX8, "end", "(I)I"⟩
abbrev cX8_findFar : ByteArray := prog_10_method_22_code
def yX8_findFar : MethodName := ⟨RX8, "findFar", "(I)V"⟩
abbrev cX8_isShort : ByteArray := prog_10_method_23_code
def yX8_isShort : MethodName := ⟨RX8, "isShort", "(I)Z"⟩
abbrev cX8_goOn : ByteArray := prog_10_method_24_code
def yX8_goOn : MethodName := ⟨RX8, "goOn", "(I)V"⟩
abbrev cX8_layShares : ByteArray := prog_10_method_25_code
def yX8_layShares : MethodName := ⟨RX8, "layShares", "(I)Z"⟩
abbrev cX8_layLoads : ByteArray := prog_10_method_26_code
def yX8_layLoads : MethodName := ⟨RX8, "layLoads", "()V"⟩
abbrev cX8_piece : ByteArray := prog_10_method_27_code
def yX8_piece : MethodName := ⟨RX8, "piece", "(III)I"⟩
abbrev cX8_costOf : ByteArray := prog_10_method_28_code
def yX8_costOf : MethodName := ⟨RX8, "costOf", "(I)I"⟩
abbrev cX8_costNow : ByteArray := prog_10_method_29_code
def yX8_costNow : MethodName := ⟨RX8, "costNow", "()I"⟩
abbrev cX8_costBy : ByteArray := prog_10_method_30_code
def yX8_costBy : MethodName := ⟨RX8, "costBy", "(II)I"⟩
abbrev cX8_costTurned : ByteArray := prog_10_method_31_code
def yX8_costTurned : MethodName := ⟨RX8, "costTurned", "(I)I"⟩
abbrev cX8_markNow : ByteArray := prog_10_method_32_code
def yX8_markNow : MethodName := ⟨RX8, "markNow", "()I"⟩
abbrev cX8_isTabu : ByteArray := prog_10_method_33_code
def yX8_isTabu : MethodName := ⟨RX8, "isTabu", "(I)Z"⟩
abbrev cX8_isTabuBy : ByteArray := prog_10_method_34_code
def yX8_isTabuBy : MethodName := ⟨RX8, "isTabuBy", "(II)Z"⟩
abbrev cX8_becomesTabu : ByteArray := prog_10_method_35_code
def yX8_becomesTabu : MethodName := ⟨RX8, "becomesTabu", "(I)V"⟩
abbrev cX8_findMove : ByteArray := prog_10_method_36_code
def yX8_findMove : MethodName := ⟨RX8, "findMove", "(IZ)Z"⟩
abbrev cX8_note : ByteArray := prog_10_method_37_code
def yX8_note : MethodName := ⟨RX8, "note", "()V"⟩
abbrev cX8_tellLeast : ByteArray := prog_10_method_38_code
def yX8_tellLeast : MethodName := ⟨RX8, "tellLeast", "()V"⟩
abbrev cX8_undo : ByteArray := prog_10_method_39_code
def yX8_undo : MethodName := ⟨RX8, "undo", "()I"⟩
abbrev cX8_move : ByteArray := prog_10_method_40_code
def yX8_move : MethodName := ⟨RX8, "move", "(II)I"⟩
abbrev cX8_isEvened : ByteArray := prog_10_method_41_code
def yX8_isEvened : MethodName := ⟨RX8, "isEvened", "(II)Z"⟩
abbrev cX8_even : ByteArray := prog_10_method_42_code
def yX8_even : MethodName := ⟨RX8, "even", "(II)I"⟩
abbrev cX8_stepOnce : ByteArray := prog_10_method_43_code
def yX8_stepOnce : MethodName := ⟨RX8, "stepOnce", "()Z"⟩
abbrev cX8_step : ByteArray := prog_10_method_44_code
def yX8_step : MethodName := ⟨RX8, "step", "(I)I"⟩
abbrev cX8_turn : ByteArray := prog_10_method_45_code
def yX8_turn : MethodName := ⟨RX8, "turn", "(II)I"⟩
abbrev cX8_shortFor : ByteArray := prog_10_method_46_code
def yX8_shortFor : MethodName := ⟨RX8, "shortFor", "(I)I"⟩
abbrev cX8_link : ByteArray := prog_10_method_47_code
def yX8_link : MethodName := ⟨RX8, "link", "(II)I"⟩
abbrev cX8_far : ByteArray := prog_10_method_48_code
def yX8_far : MethodName := ⟨RX8, "far", "(II)I"⟩
abbrev cX8_share : ByteArray := prog_10_method_49_code
def yX8_share : MethodName := ⟨RX8, "share", "(II)I"⟩
abbrev cX8_cost : ByteArray := prog_10_method_50_code
def yX8_cost : MethodName := ⟨RX8, "cost", "()I"⟩
abbrev cX8_tabu : ByteArray := prog_10_method_51_code
def yX8_tabu : MethodName := ⟨RX8, "tabu", "(II)I"⟩
abbrev cX8_bestOf : ByteArray := prog_10_method_52_code
def yX8_bestOf : MethodName := ⟨RX8, "bestOf", "(I)I"⟩
abbrev cX8_best : ByteArray := prog_10_method_53_code
def yX8_best : MethodName := ⟨RX8, "best", "(I)I"⟩
abbrev cX8_worst : ByteArray := prog_10_method_54_code
def yX8_worst : MethodName := ⟨RX8, "worst", "(I)I"⟩
abbrev cX8_rescue : ByteArray := prog_10_method_55_code
def yX8_rescue : MethodName := ⟨RX8, "rescue", "(II)I"⟩
abbrev cX8_moreThanFull : ByteArray := prog_10_method_56_code
def yX8_moreThanFull : MethodName := ⟨RX8, "moreThanFull", "()I"⟩
abbrev cX8_ones : ByteArray := prog_10_method_57_code
def yX8_ones : MethodName := ⟨RX8, "ones", "(I)I"⟩
abbrev cX8_count : ByteArray := prog_10_method_58_code
def yX8_count : MethodName := ⟨RX8, "count", "(I)I"⟩
def RJ9 : String := "java/lang/Math"
abbrev cJ9_max_7cf53 : ByteArray := prog_11_method_65_code
def yJ9_max_7cf53 : MethodName := ⟨RJ9, "max", "(II)I"⟩
abbrev cJ9_min_7cf53 : ByteArray := prog_11_method_69_code
def yJ9_min_7cf53 : MethodName := ⟨RJ9, "min", "(II)I"⟩
def RJ0 : String := "java/lang/String"
abbrev cJ0_length_8abf5 : ByteArray := prog_12_method_54_code
def yJ0_length_8abf5 : MethodName := ⟨RJ0, "length", "()I"⟩
abbrev cJ0_charAt_5068e : ByteArray := prog_12_method_56_code
def yJ0_charAt_5068e : MethodName := ⟨RJ0, "charAt", "(I)C"⟩
abbrev cJ0_coder_7d493 : ByteArray := prog_12_method_152_code
def yJ0_coder_7d493 : MethodName := ⟨RJ0, "coder", "()B"⟩
abbrev cJ0_isLatin1_aae02 : ByteArray := prog_12_method_154_code
def yJ0_isLatin1_aae02 : MethodName := ⟨RJ0, "isLatin1", "()Z"⟩
abbrev cJ0_checkIndex_df160 : ByteArray := prog_12_method_155_code
def yJ0_checkIndex_df160 : MethodName := ⟨RJ0, "checkIndex", "(II)V"⟩
def RJ1 : String := "java/lang/StringLatin1"
abbrev cJ1_charAt_3b067 : ByteArray := prog_13_method_2_code
def yJ1_charAt_3b067 : MethodName := ⟨RJ1, "charAt", "([BI)C"⟩
def RJ2 : String := "java/lang/StringUTF16"
abbrev cJ2_getChar_3b067 : ByteArray := prog_14_method_5_code
def yJ2_getChar_3b067 : MethodName := ⟨RJ2, "getChar", "([BI)C"⟩
abbrev cJ2_length_9d52b : ByteArray := prog_14_method_6_code
def yJ2_length_9d52b : MethodName := ⟨RJ2, "length", "([B)I"⟩
abbrev cJ2_charAt_3b067 : ByteArray := prog_14_method_83_code
def yJ2_charAt_3b067 : MethodName := ⟨RJ2, "charAt", "([BI)C"⟩
abbrev cJ2_checkIndex_2214a : ByteArray := prog_14_method_91_code
def yJ2_checkIndex_2214a : MethodName := ⟨RJ2, "checkIndex", "(I[B)V"⟩
def RJ3 : String := "jdk/internal/util/Preconditions"
abbrev cJ3_checkIndex_8e157 : ByteArray := prog_15_method_11_code
def yJ3_checkIndex_8e157 : MethodName := ⟨RJ3, "checkIndex", "(IILjava/util/function/BiFunction;)I"⟩
def RL : String := "LoadWeightsLaw"
abbrev cL_law : ByteArray := code
def yL_law : MethodName := ⟨RL, "law", "([I)Z"⟩
theorem dX0_init_0 : decode cX0_init 0 = .ok (.aload_n 0, 1) := by decide +kernel
theorem dX0_init_1 : decode cX0_init 1 = .ok (.invokespecial 3, 3) := by decide +kernel
theorem dX0_init_4 : decode cX0_init 4 = .ok (.aload_n 0, 1) := by decide +kernel
theorem dX0_init_5 : decode cX0_init 5 = .ok (.bipush 7, 2) := by decide +kernel
theorem dX0_init_7 : decode cX0_init 7 = .ok (.bipush 7, 2) := by decide +kernel
theorem dX0_init_9 : decode cX0_init 9 = .ok (.multianewarray 9 2, 4) := by decide +kernel
theorem dX0_init_13 : decode cX0_init 13 = .ok (.putfield 11, 3) := by decide +kernel
theorem dX0_init_16 : decode cX0_init 16 = .ok (.aload_n 0, 1) := by decide +kernel
theorem dX0_init_17 : decode cX0_init 17 = .ok (.bipush 6, 2) := by decide +kernel
theorem dX0_init_19 : decode cX0_init 19 = .ok (.bipush 12, 2) := by decide +kernel
theorem dX0_init_21 : decode cX0_init 21 = .ok (.multianewarray 9 2, 4) := by decide +kernel
theorem dX0_init_25 : decode cX0_init 25 = .ok (.putfield 16, 3) := by decide +kernel
theorem dX0_init_28 : decode cX0_init 28 = .ok (.aload_n 0, 1) := by decide +kernel
theorem dX0_init_29 : decode cX0_init 29 = .ok (.bipush 12, 2) := by decide +kernel
theorem dX0_init_31 : decode cX0_init 31 = .ok (.newarray .int, 2) := by decide +kernel
theorem dX0_init_33 : decode cX0_init 33 = .ok (.putfield 19, 3) := by decide +kernel
theorem dX0_init_36 : decode cX0_init 36 = .ok (.aload_n 0, 1) := by decide +kernel
theorem dX0_init_37 : decode cX0_init 37 = .ok (.bipush 6, 2) := by decide +kernel
theorem dX0_init_39 : decode cX0_init 39 = .ok (.newarray .boolean, 2) := by decide +kernel
theorem dX0_init_41 : decode cX0_init 41 = .ok (.putfield 23, 3) := by decide +kernel
theorem dX0_init_44 : decode cX0_init 44 = .ok (.aload_n 0, 1) := by decide +kernel
theorem dX0_init_45 : decode cX0_init 45 = .ok (.bipush 7, 2) := by decide +kernel
theorem dX0_init_47 : decode cX0_init 47 = .ok (.newarray .int, 2) := by decide +kernel
theorem dX0_init_49 : decode cX0_init 49 = .ok (.putfield 27, 3) := by decide +kernel
theorem dX0_init_52 : decode cX0_init 52 = .ok (.aload_n 0, 1) := by decide +kernel
theorem dX0_init_53 : decode cX0_init 53 = .ok (.bipush 7, 2) := by decide +kernel
theorem dX0_init_55 : decode cX0_init 55 = .ok (.newarray .int, 2) := by decide +kernel
theorem dX0_init_57 : decode cX0_init 57 = .ok (.putfield 30, 3) := by decide +kernel
theorem dX0_init_60 : decode cX0_init 60 = .ok (.aload_n 0, 1) := by decide +kernel
theorem dX0_init_61 : decode cX0_init 61 = .ok (.bipush 12, 2) := by decide +kernel
theorem dX0_init_63 : decode cX0_init 63 = .ok (.newarray .int, 2) := by decide +kernel
theorem dX0_init_65 : decode cX0_init 65 = .ok (.putfield 33, 3) := by decide +kernel
theorem dX0_init_68 : decode cX0_init 68 = .ok (.aload_n 0, 1) := by decide +kernel
theorem dX0_init_69 : decode cX0_init 69 = .ok (.aload_n 1, 1) := by decide +kernel
theorem dX0_init_70 : decode cX0_init 70 = .ok (.putfield 36, 3) := by decide +kernel
theorem dX0_init_73 : decode cX0_init 73 = .ok (.return_, 1) := by decide +kernel
theorem dX0_costOf_0 : decode cX0_costOf 0 = .ok (.iconst 0, 1) := by decide +kernel
theorem dX0_costOf_1 : decode cX0_costOf 1 = .ok (.istore_n 2, 1) := by decide +kernel
theorem dX0_costOf_2 : decode cX0_costOf 2 = .ok (.iload_n 2, 1) := by decide +kernel
theorem dX0_costOf_3 : decode cX0_costOf 3 = .ok (.aload_n 0, 1) := by decide +kernel
theorem dX0_costOf_4 : decode cX0_costOf 4 = .ok (.getfield 36, 3) := by decide +kernel
theorem dX0_costOf_7 : decode cX0_costOf 7 = .ok (.getfield 40, 3) := by decide +kernel
theorem dX0_costOf_10 : decode cX0_costOf 10 = .ok (.if_icmp .ge 27, 3) := by decide +kernel
theorem dX0_costOf_13 : decode cX0_costOf 13 = .ok (.aload_n 0, 1) := by decide +kernel
theorem dX0_costOf_14 : decode cX0_costOf 14 = .ok (.getfield 36, 3) := by decide +kernel
theorem dX0_costOf_17 : decode cX0_costOf 17 = .ok (.getfield 46, 3) := by decide +kernel
theorem dX0_costOf_20 : decode cX0_costOf 20 = .ok (.iload_n 2, 1) := by decide +kernel
theorem dX0_costOf_21 : decode cX0_costOf 21 = .ok (.baload, 1) := by decide +kernel
theorem dX0_costOf_22 : decode cX0_costOf 22 = .ok (.ifCond .eq 9, 3) := by decide +kernel
theorem dX0_costOf_25 : decode cX0_costOf 25 = .ok (.aload_n 0, 1) := by decide +kernel
theorem dX0_costOf_26 : decode cX0_costOf 26 = .ok (.aload_n 1, 1) := by decide +kernel
theorem dX0_costOf_27 : decode cX0_costOf 27 = .ok (.iload_n 2, 1) := by decide +kernel
theorem dX0_costOf_28 : decode cX0_costOf 28 = .ok (.invokevirtual 49, 3) := by decide +kernel
theorem dX0_costOf_31 : decode cX0_costOf 31 = .ok (.iinc 2 1, 3) := by decide +kernel
theorem dX0_costOf_34 : decode cX0_costOf 34 = .ok (.goto (-32), 3) := by decide +kernel
theorem dX0_costOf_37 : decode cX0_costOf 37 = .ok (.iconst 0, 1) := by decide +kernel
theorem dX0_costOf_38 : decode cX0_costOf 38 = .ok (.istore_n 2, 1) := by decide +kernel
theorem dX0_costOf_39 : decode cX0_costOf 39 = .ok (.iload_n 2, 1) := by decide +kernel
theorem dX0_costOf_40 : decode cX0_costOf 40 = .ok (.aload_n 0, 1) := by decide +kernel
theorem dX0_costOf_41 : decode cX0_costOf 41 = .ok (.getfield 36, 3) := by decide +kernel
theorem dX0_costOf_44 : decode cX0_costOf 44 = .ok (.getfield 53, 3) := by decide +kernel
theorem dX0_costOf_47 : decode cX0_costOf 47 = .ok (.if_icmp .ge 16, 3) := by decide +kernel
theorem dX0_costOf_50 : decode cX0_costOf 50 = .ok (.aload_n 0, 1) := by decide +kernel
theorem dX0_costOf_51 : decode cX0_costOf 51 = .ok (.getfield 19, 3) := by decide +kernel
theorem dX0_costOf_54 : decode cX0_costOf 54 = .ok (.iload_n 2, 1) := by decide +kernel
theorem dX0_costOf_55 : decode cX0_costOf 55 = .ok (.iconst 0, 1) := by decide +kernel
theorem dX0_costOf_56 : decode cX0_costOf 56 = .ok (.iastore, 1) := by decide +kernel
theorem dX0_costOf_57 : decode cX0_costOf 57 = .ok (.iinc 2 1, 3) := by decide +kernel
theorem dX0_costOf_60 : decode cX0_costOf 60 = .ok (.goto (-21), 3) := by decide +kernel
theorem dX0_costOf_63 : decode cX0_costOf 63 = .ok (.iconst 0, 1) := by decide +kernel
theorem dX0_costOf_64 : decode cX0_costOf 64 = .ok (.istore_n 2, 1) := by decide +kernel
theorem dX0_costOf_65 : decode cX0_costOf 65 = .ok (.iconst 0, 1) := by decide +kernel
theorem dX0_costOf_66 : decode cX0_costOf 66 = .ok (.istore_n 3, 1) := by decide +kernel
theorem dX0_costOf_67 : decode cX0_costOf 67 = .ok (.iload_n 3, 1) := by decide +kernel
theorem dX0_costOf_68 : decode cX0_costOf 68 = .ok (.aload_n 0, 1) := by decide +kernel
theorem dX0_costOf_69 : decode cX0_costOf 69 = .ok (.getfield 36, 3) := by decide +kernel
theorem dX0_costOf_72 : decode cX0_costOf 72 = .ok (.getfield 56, 3) := by decide +kernel
theorem dX0_costOf_75 : decode cX0_costOf 75 = .ok (.if_icmp .ge 44, 3) := by decide +kernel
theorem dX0_costOf_78 : decode cX0_costOf 78 = .ok (.aload_n 0, 1) := by decide +kernel
theorem dX0_costOf_79 : decode cX0_costOf 79 = .ok (.aload_n 1, 1) := by decide +kernel
theorem dX0_costOf_80 : decode cX0_costOf 80 = .ok (.iload_n 3, 1) := by decide +kernel
theorem dX0_costOf_81 : decode cX0_costOf 81 = .ok (.invokevirtual 59, 3) := by decide +kernel
theorem dX0_costOf_84 : decode cX0_costOf 84 = .ok (.iload_n 2, 1) := by decide +kernel
theorem dX0_costOf_85 : decode cX0_costOf 85 = .ok (.aload_n 0, 1) := by decide +kernel
theorem dX0_costOf_86 : decode cX0_costOf 86 = .ok (.getfield 23, 3) := by decide +kernel
theorem dX0_costOf_89 : decode cX0_costOf 89 = .ok (.iload_n 3, 1) := by decide +kernel
theorem dX0_costOf_90 : decode cX0_costOf 90 = .ok (.baload, 1) := by decide +kernel
theorem dX0_costOf_91 : decode cX0_costOf 91 = .ok (.ifCond .eq 19, 3) := by decide +kernel
theorem dX0_costOf_94 : decode cX0_costOf 94 = .ok (.sipush 12000, 3) := by decide +kernel
theorem dX0_costOf_97 : decode cX0_costOf 97 = .ok (.aload_n 0, 1) := by decide +kernel
theorem dX0_costOf_98 : decode cX0_costOf 98 = .ok (.getfield 36, 3) := by decide +kernel
theorem dX0_costOf_101 : decode cX0_costOf 101 = .ok (.getfield 62, 3) := by decide +kernel
theorem dX0_costOf_104 : decode cX0_costOf 104 = .ok (.iload_n 3, 1) := by decide +kernel
theorem dX0_costOf_105 : decode cX0_costOf 105 = .ok (.iaload, 1) := by decide +kernel
theorem dX0_costOf_106 : decode cX0_costOf 106 = .ok (.imul, 1) := by decide +kernel
theorem dX0_costOf_107 : decode cX0_costOf 107 = .ok (.goto 4, 3) := by decide +kernel
theorem dX0_costOf_110 : decode cX0_costOf 110 = .ok (.iconst 0, 1) := by decide +kernel
theorem dX0_costOf_111 : decode cX0_costOf 111 = .ok (.iadd, 1) := by decide +kernel
theorem dX0_costOf_112 : decode cX0_costOf 112 = .ok (.istore_n 2, 1) := by decide +kernel
theorem dX0_costOf_113 : decode cX0_costOf 113 = .ok (.iinc 3 1, 3) := by decide +kernel
theorem dX0_costOf_116 : decode cX0_costOf 116 = .ok (.goto (-49), 3) := by decide +kernel
theorem dX0_costOf_119 : decode cX0_costOf 119 = .ok (.iconst 0, 1) := by decide +kernel
theorem dX0_costOf_120 : decode cX0_costOf 120 = .ok (.istore_n 3, 1) := by decide +kernel
theorem dX0_costOf_121 : decode cX0_costOf 121 = .ok (.iload_n 3, 1) := by decide +kernel
theorem dX0_costOf_122 : decode cX0_costOf 122 = .ok (.aload_n 0, 1) := by decide +kernel
theorem dX0_costOf_123 : decode cX0_costOf 123 = .ok (.getfield 36, 3) := by decide +kernel
theorem dX0_costOf_126 : decode cX0_costOf 126 = .ok (.getfield 53, 3) := by decide +kernel
theorem dX0_costOf_129 : decode cX0_costOf 129 = .ok (.if_icmp .ge 17, 3) := by decide +kernel
theorem dX0_costOf_132 : decode cX0_costOf 132 = .ok (.iload_n 2, 1) := by decide +kernel
theorem dX0_costOf_133 : decode cX0_costOf 133 = .ok (.aload_n 0, 1) := by decide +kernel
theorem dX0_costOf_134 : decode cX0_costOf 134 = .ok (.iload_n 3, 1) := by decide +kernel
theorem dX0_costOf_135 : decode cX0_costOf 135 = .ok (.invokevirtual 65, 3) := by decide +kernel
theorem dX0_costOf_138 : decode cX0_costOf 138 = .ok (.iadd, 1) := by decide +kernel
theorem dX0_costOf_139 : decode cX0_costOf 139 = .ok (.istore_n 2, 1) := by decide +kernel
theorem dX0_costOf_140 : decode cX0_costOf 140 = .ok (.iinc 3 1, 3) := by decide +kernel
theorem dX0_costOf_143 : decode cX0_costOf 143 = .ok (.goto (-22), 3) := by decide +kernel
theorem dX0_costOf_146 : decode cX0_costOf 146 = .ok (.iload_n 2, 1) := by decide +kernel
theorem dX0_costOf_147 : decode cX0_costOf 147 = .ok (.ireturn, 1) := by decide +kernel
theorem dX0_measure_0 : decode cX0_measure 0 = .ok (.aload_n 0, 1) := by decide +kernel
theorem dX0_measure_1 : decode cX0_measure 1 = .ok (.getfield 11, 3) := by decide +kernel
theorem dX0_measure_4 : decode cX0_measure 4 = .ok (.iload_n 2, 1) := by decide +kernel
theorem dX0_measure_5 : decode cX0_measure 5 = .ok (.aaload, 1) := by decide +kernel
theorem dX0_measure_6 : decode cX0_measure 6 = .ok (.astore_n 3, 1) := by decide +kernel
theorem dX0_measure_7 : decode cX0_measure 7 = .ok (.iconst 0, 1) := by decide +kernel
theorem dX0_measure_8 : decode cX0_measure 8 = .ok (.istore 4, 2) := by decide +kernel
theorem dX0_measure_10 : decode cX0_measure 10 = .ok (.iload 4, 2) := by decide +kernel
theorem dX0_measure_12 : decode cX0_measure 12 = .ok (.aload_n 0, 1) := by decide +kernel
theorem dX0_measure_13 : decode cX0_measure 13 = .ok (.getfield 36, 3) := by decide +kernel
theorem dX0_measure_16 : decode cX0_measure 16 = .ok (.getfield 40, 3) := by decide +kernel
theorem dX0_measure_19 : decode cX0_measure 19 = .ok (.if_icmp .ge 24, 3) := by decide +kernel
theorem dX0_measure_22 : decode cX0_measure 22 = .ok (.aload_n 3, 1) := by decide +kernel
theorem dX0_measure_23 : decode cX0_measure 23 = .ok (.iload 4, 2) := by decide +kernel
theorem dX0_measure_25 : decode cX0_measure 25 = .ok (.iload 4, 2) := by decide +kernel
theorem dX0_measure_27 : decode cX0_measure 27 = .ok (.iload_n 2, 1) := by decide +kernel
theorem dX0_measure_28 : decode cX0_measure 28 = .ok (.if_icmp .ne 7, 3) := by decide +kernel
theorem dX0_measure_31 : decode cX0_measure 31 = .ok (.iconst 0, 1) := by decide +kernel
theorem dX0_measure_32 : decode cX0_measure 32 = .ok (.goto 4, 3) := by decide +kernel
theorem dX0_measure_35 : decode cX0_measure 35 = .ok (.iconst (-1), 1) := by decide +kernel
theorem dX0_measure_36 : decode cX0_measure 36 = .ok (.iastore, 1) := by decide +kernel
theorem dX0_measure_37 : decode cX0_measure 37 = .ok (.iinc 4 1, 3) := by decide +kernel
theorem dX0_measure_40 : decode cX0_measure 40 = .ok (.goto (-30), 3) := by decide +kernel
theorem dX0_measure_43 : decode cX0_measure 43 = .ok (.iconst 1, 1) := by decide +kernel
theorem dX0_measure_44 : decode cX0_measure 44 = .ok (.istore 4, 2) := by decide +kernel
theorem dX0_measure_46 : decode cX0_measure 46 = .ok (.iconst 0, 1) := by decide +kernel
theorem dX0_measure_47 : decode cX0_measure 47 = .ok (.istore 5, 2) := by decide +kernel
theorem dX0_measure_49 : decode cX0_measure 49 = .ok (.iload 5, 2) := by decide +kernel
theorem dX0_measure_51 : decode cX0_measure 51 = .ok (.aload_n 0, 1) := by decide +kernel
theorem dX0_measure_52 : decode cX0_measure 52 = .ok (.getfield 36, 3) := by decide +kernel
theorem dX0_measure_55 : decode cX0_measure 55 = .ok (.getfield 40, 3) := by decide +kernel
theorem dX0_measure_58 : decode cX0_measure 58 = .ok (.if_icmp .ge 130, 3) := by decide +kernel
theorem dX0_measure_61 : decode cX0_measure 61 = .ok (.iload 4, 2) := by decide +kernel
theorem dX0_measure_63 : decode cX0_measure 63 = .ok (.ifCond .eq 125, 3) := by decide +kernel
theorem dX0_measure_66 : decode cX0_measure 66 = .ok (.iconst 0, 1) := by decide +kernel
theorem dX0_measure_67 : decode cX0_measure 67 = .ok (.istore 4, 2) := by decide +kernel
theorem dX0_measure_69 : decode cX0_measure 69 = .ok (.iconst 0, 1) := by decide +kernel
theorem dX0_measure_70 : decode cX0_measure 70 = .ok (.istore 6, 2) := by decide +kernel
theorem dX0_measure_72 : decode cX0_measure 72 = .ok (.iload 6, 2) := by decide +kernel
theorem dX0_measure_74 : decode cX0_measure 74 = .ok (.aload_n 0, 1) := by decide +kernel
theorem dX0_measure_75 : decode cX0_measure 75 = .ok (.getfield 36, 3) := by decide +kernel
theorem dX0_measure_78 : decode cX0_measure 78 = .ok (.getfield 53, 3) := by decide +kernel
theorem dX0_measure_81 : decode cX0_measure 81 = .ok (.if_icmp .ge 101, 3) := by decide +kernel
theorem dX0_measure_84 : decode cX0_measure 84 = .ok (.aload_n 1, 1) := by decide +kernel
theorem dX0_measure_85 : decode cX0_measure 85 = .ok (.getfield 69, 3) := by decide +kernel
theorem dX0_measure_88 : decode cX0_measure 88 = .ok (.iload 6, 2) := by decide +kernel
theorem dX0_measure_90 : decode cX0_measure 90 = .ok (.baload, 1) := by decide +kernel
theorem dX0_measure_91 : decode cX0_measure 91 = .ok (.ifCond .eq 85, 3) := by decide +kernel
theorem dX0_measure_94 : decode cX0_measure 94 = .ok (.aload_n 3, 1) := by decide +kernel
theorem dX0_measure_95 : decode cX0_measure 95 = .ok (.aload_n 0, 1) := by decide +kernel
theorem dX0_measure_96 : decode cX0_measure 96 = .ok (.getfield 36, 3) := by decide +kernel
theorem dX0_measure_99 : decode cX0_measure 99 = .ok (.getfield 74, 3) := by decide +kernel
theorem dX0_measure_102 : decode cX0_measure 102 = .ok (.iload 6, 2) := by decide +kernel
theorem dX0_measure_104 : decode cX0_measure 104 = .ok (.iaload, 1) := by decide +kernel
theorem dX0_measure_105 : decode cX0_measure 105 = .ok (.iaload, 1) := by decide +kernel
theorem dX0_measure_106 : decode cX0_measure 106 = .ok (.iconst (-1), 1) := by decide +kernel
theorem dX0_measure_107 : decode cX0_measure 107 = .ok (.if_icmp .eq 69, 3) := by decide +kernel
theorem dX0_measure_110 : decode cX0_measure 110 = .ok (.aload_n 1, 1) := by decide +kernel
theorem dX0_measure_111 : decode cX0_measure 111 = .ok (.getfield 77, 3) := by decide +kernel
theorem dX0_measure_114 : decode cX0_measure 114 = .ok (.iload 6, 2) := by decide +kernel
theorem dX0_measure_116 : decode cX0_measure 116 = .ok (.iaload, 1) := by decide +kernel
theorem dX0_measure_117 : decode cX0_measure 117 = .ok (.aload_n 3, 1) := by decide +kernel
theorem dX0_measure_118 : decode cX0_measure 118 = .ok (.aload_n 0, 1) := by decide +kernel
theorem dX0_measure_119 : decode cX0_measure 119 = .ok (.getfield 36, 3) := by decide +kernel
theorem dX0_measure_122 : decode cX0_measure 122 = .ok (.getfield 74, 3) := by decide +kernel
theorem dX0_measure_125 : decode cX0_measure 125 = .ok (.iload 6, 2) := by decide +kernel
theorem dX0_measure_127 : decode cX0_measure 127 = .ok (.iaload, 1) := by decide +kernel
theorem dX0_measure_128 : decode cX0_measure 128 = .ok (.iaload, 1) := by decide +kernel
theorem dX0_measure_129 : decode cX0_measure 129 = .ok (.iadd, 1) := by decide +kernel
theorem dX0_measure_130 : decode cX0_measure 130 = .ok (.istore 7, 2) := by decide +kernel
theorem dX0_measure_132 : decode cX0_measure 132 = .ok (.aload_n 3, 1) := by decide +kernel
theorem dX0_measure_133 : decode cX0_measure 133 = .ok (.aload_n 0, 1) := by decide +kernel
theorem dX0_measure_134 : decode cX0_measure 134 = .ok (.getfield 36, 3) := by decide +kernel
theorem dX0_measure_137 : decode cX0_measure 137 = .ok (.getfield 80, 3) := by decide +kernel
theorem dX0_measure_140 : decode cX0_measure 140 = .ok (.iload 6, 2) := by decide +kernel
theorem dX0_measure_142 : decode cX0_measure 142 = .ok (.iaload, 1) := by decide +kernel
theorem dX0_measure_143 : decode cX0_measure 143 = .ok (.iaload, 1) := by decide +kernel
theorem dX0_measure_144 : decode cX0_measure 144 = .ok (.istore 8, 2) := by decide +kernel
theorem dX0_measure_146 : decode cX0_measure 146 = .ok (.iload 8, 2) := by decide +kernel
theorem dX0_measure_148 : decode cX0_measure 148 = .ok (.iconst (-1), 1) := by decide +kernel
theorem dX0_measure_149 : decode cX0_measure 149 = .ok (.if_icmp .eq 10, 3) := by decide +kernel
theorem dX0_measure_152 : decode cX0_measure 152 = .ok (.iload 7, 2) := by decide +kernel
theorem dX0_measure_154 : decode cX0_measure 154 = .ok (.iload 8, 2) := by decide +kernel
theorem dX0_measure_156 : decode cX0_measure 156 = .ok (.if_icmp .ge 20, 3) := by decide +kernel
theorem dX0_measure_159 : decode cX0_measure 159 = .ok (.aload_n 3, 1) := by decide +kernel
theorem dX0_measure_160 : decode cX0_measure 160 = .ok (.aload_n 0, 1) := by decide +kernel
theorem dX0_measure_161 : decode cX0_measure 161 = .ok (.getfield 36, 3) := by decide +kernel
theorem dX0_measure_164 : decode cX0_measure 164 = .ok (.getfield 80, 3) := by decide +kernel
theorem dX0_measure_167 : decode cX0_measure 167 = .ok (.iload 6, 2) := by decide +kernel
theorem dX0_measure_169 : decode cX0_measure 169 = .ok (.iaload, 1) := by decide +kernel
theorem dX0_measure_170 : decode cX0_measure 170 = .ok (.iload 7, 2) := by decide +kernel
theorem dX0_measure_172 : decode cX0_measure 172 = .ok (.iastore, 1) := by decide +kernel
theorem dX0_measure_173 : decode cX0_measure 173 = .ok (.iconst 1, 1) := by decide +kernel
theorem dX0_measure_174 : decode cX0_measure 174 = .ok (.istore 4, 2) := by decide +kernel
theorem dX0_measure_176 : decode cX0_measure 176 = .ok (.iinc 6 1, 3) := by decide +kernel
theorem dX0_measure_179 : decode cX0_measure 179 = .ok (.goto (-107), 3) := by decide +kernel
theorem dX0_measure_182 : decode cX0_measure 182 = .ok (.iinc 5 1, 3) := by decide +kernel
theorem dX0_measure_185 : decode cX0_measure 185 = .ok (.goto (-136), 3) := by decide +kernel
theorem dX0_measure_188 : decode cX0_measure 188 = .ok (.return_, 1) := by decide +kernel
theorem dX0_isShort_0 : decode cX0_isShort 0 = .ok (.aload_n 0, 1) := by decide +kernel
theorem dX0_isShort_1 : decode cX0_isShort 1 = .ok (.getfield 11, 3) := by decide +kernel
theorem dX0_isShort_4 : decode cX0_isShort 4 = .ok (.iload_n 3, 1) := by decide +kernel
theorem dX0_isShort_5 : decode cX0_isShort 5 = .ok (.aaload, 1) := by decide +kernel
theorem dX0_isShort_6 : decode cX0_isShort 6 = .ok (.aload_n 0, 1) := by decide +kernel
theorem dX0_isShort_7 : decode cX0_isShort 7 = .ok (.getfield 36, 3) := by decide +kernel
theorem dX0_isShort_10 : decode cX0_isShort 10 = .ok (.getfield 74, 3) := by decide +kernel
theorem dX0_isShort_13 : decode cX0_isShort 13 = .ok (.iload_n 2, 1) := by decide +kernel
theorem dX0_isShort_14 : decode cX0_isShort 14 = .ok (.iaload, 1) := by decide +kernel
theorem dX0_isShort_15 : decode cX0_isShort 15 = .ok (.iaload, 1) := by decide +kernel
theorem dX0_isShort_16 : decode cX0_isShort 16 = .ok (.istore 4, 2) := by decide +kernel
theorem dX0_isShort_18 : decode cX0_isShort 18 = .ok (.aload_n 1, 1) := by decide +kernel
theorem dX0_isShort_19 : decode cX0_isShort 19 = .ok (.getfield 69, 3) := by decide +kernel
theorem dX0_isShort_22 : decode cX0_isShort 22 = .ok (.iload_n 2, 1) := by decide +kernel
theorem dX0_isShort_23 : decode cX0_isShort 23 = .ok (.baload, 1) := by decide +kernel
theorem dX0_isShort_24 : decode cX0_isShort 24 = .ok (.ifCond .eq 41, 3) := by decide +kernel
theorem dX0_isShort_27 : decode cX0_isShort 27 = .ok (.iload 4, 2) := by decide +kernel
theorem dX0_isShort_29 : decode cX0_isShort 29 = .ok (.iconst (-1), 1) := by decide +kernel
theorem dX0_isShort_30 : decode cX0_isShort 30 = .ok (.if_icmp .eq 35, 3) := by decide +kernel
theorem dX0_isShort_33 : decode cX0_isShort 33 = .ok (.aload_n 0, 1) := by decide +kernel
theorem dX0_isShort_34 : decode cX0_isShort 34 = .ok (.getfield 11, 3) := by decide +kernel
theorem dX0_isShort_37 : decode cX0_isShort 37 = .ok (.iload_n 3, 1) := by decide +kernel
theorem dX0_isShort_38 : decode cX0_isShort 38 = .ok (.aaload, 1) := by decide +kernel
theorem dX0_isShort_39 : decode cX0_isShort 39 = .ok (.aload_n 0, 1) := by decide +kernel
theorem dX0_isShort_40 : decode cX0_isShort 40 = .ok (.getfield 36, 3) := by decide +kernel
theorem dX0_isShort_43 : decode cX0_isShort 43 = .ok (.getfield 80, 3) := by decide +kernel
theorem dX0_isShort_46 : decode cX0_isShort 46 = .ok (.iload_n 2, 1) := by decide +kernel
theorem dX0_isShort_47 : decode cX0_isShort 47 = .ok (.iaload, 1) := by decide +kernel
theorem dX0_isShort_48 : decode cX0_isShort 48 = .ok (.iaload, 1) := by decide +kernel
theorem dX0_isShort_49 : decode cX0_isShort 49 = .ok (.aload_n 1, 1) := by decide +kernel
theorem dX0_isShort_50 : decode cX0_isShort 50 = .ok (.getfield 77, 3) := by decide +kernel
theorem dX0_isShort_53 : decode cX0_isShort 53 = .ok (.iload_n 2, 1) := by decide +kernel
theorem dX0_isShort_54 : decode cX0_isShort 54 = .ok (.iaload, 1) := by decide +kernel
theorem dX0_isShort_55 : decode cX0_isShort 55 = .ok (.iload 4, 2) := by decide +kernel
theorem dX0_isShort_57 : decode cX0_isShort 57 = .ok (.iadd, 1) := by decide +kernel
theorem dX0_isShort_58 : decode cX0_isShort 58 = .ok (.if_icmp .ne 7, 3) := by decide +kernel
theorem dX0_isShort_61 : decode cX0_isShort 61 = .ok (.iconst 1, 1) := by decide +kernel
theorem dX0_isShort_62 : decode cX0_isShort 62 = .ok (.goto 4, 3) := by decide +kernel
theorem dX0_isShort_65 : decode cX0_isShort 65 = .ok (.iconst 0, 1) := by decide +kernel
theorem dX0_isShort_66 : decode cX0_isShort 66 = .ok (.ireturn, 1) := by decide +kernel
theorem dX0_isShortForAGoal_0 : decode cX0_isShortForAGoal 0 = .ok (.iconst 0, 1) := by decide +kernel
theorem dX0_isShortForAGoal_1 : decode cX0_isShortForAGoal 1 = .ok (.istore_n 3, 1) := by decide +kernel
theorem dX0_isShortForAGoal_2 : decode cX0_isShortForAGoal 2 = .ok (.iload_n 3, 1) := by decide +kernel
theorem dX0_isShortForAGoal_3 : decode cX0_isShortForAGoal 3 = .ok (.aload_n 0, 1) := by decide +kernel
theorem dX0_isShortForAGoal_4 : decode cX0_isShortForAGoal 4 = .ok (.getfield 36, 3) := by decide +kernel
theorem dX0_isShortForAGoal_7 : decode cX0_isShortForAGoal 7 = .ok (.getfield 40, 3) := by decide +kernel
theorem dX0_isShortForAGoal_10 : decode cX0_isShortForAGoal 10 = .ok (.if_icmp .ge 33, 3) := by decide +kernel
theorem dX0_isShortForAGoal_13 : decode cX0_isShortForAGoal 13 = .ok (.aload_n 0, 1) := by decide +kernel
theorem dX0_isShortForAGoal_14 : decode cX0_isShortForAGoal 14 = .ok (.getfield 36, 3) := by decide +kernel
theorem dX0_isShortForAGoal_17 : decode cX0_isShortForAGoal 17 = .ok (.getfield 46, 3) := by decide +kernel
theorem dX0_isShortForAGoal_20 : decode cX0_isShortForAGoal 20 = .ok (.iload_n 3, 1) := by decide +kernel
theorem dX0_isShortForAGoal_21 : decode cX0_isShortForAGoal 21 = .ok (.baload, 1) := by decide +kernel
theorem dX0_isShortForAGoal_22 : decode cX0_isShortForAGoal 22 = .ok (.ifCond .eq 15, 3) := by decide +kernel
theorem dX0_isShortForAGoal_25 : decode cX0_isShortForAGoal 25 = .ok (.aload_n 0, 1) := by decide +kernel
theorem dX0_isShortForAGoal_26 : decode cX0_isShortForAGoal 26 = .ok (.aload_n 1, 1) := by decide +kernel
theorem dX0_isShortForAGoal_27 : decode cX0_isShortForAGoal 27 = .ok (.iload_n 2, 1) := by decide +kernel
theorem dX0_isShortForAGoal_28 : decode cX0_isShortForAGoal 28 = .ok (.iload_n 3, 1) := by decide +kernel
theorem dX0_isShortForAGoal_29 : decode cX0_isShortForAGoal 29 = .ok (.invokevirtual 83, 3) := by decide +kernel
theorem dX0_isShortForAGoal_32 : decode cX0_isShortForAGoal 32 = .ok (.ifCond .eq 5, 3) := by decide +kernel
theorem dX0_isShortForAGoal_35 : decode cX0_isShortForAGoal 35 = .ok (.iconst 1, 1) := by decide +kernel
theorem dX0_isShortForAGoal_36 : decode cX0_isShortForAGoal 36 = .ok (.ireturn, 1) := by decide +kernel
theorem dX0_isShortForAGoal_37 : decode cX0_isShortForAGoal 37 = .ok (.iinc 3 1, 3) := by decide +kernel
theorem dX0_isShortForAGoal_40 : decode cX0_isShortForAGoal 40 = .ok (.goto (-38), 3) := by decide +kernel
theorem dX0_isShortForAGoal_43 : decode cX0_isShortForAGoal 43 = .ok (.iconst 0, 1) := by decide +kernel
theorem dX0_isShortForAGoal_44 : decode cX0_isShortForAGoal 44 = .ok (.ireturn, 1) := by decide +kernel
theorem dX0_shortDemands_0 : decode cX0_shortDemands 0 = .ok (.iconst 0, 1) := by decide +kernel
theorem dX0_shortDemands_1 : decode cX0_shortDemands 1 = .ok (.istore_n 3, 1) := by decide +kernel
theorem dX0_shortDemands_2 : decode cX0_shortDemands 2 = .ok (.iconst 0, 1) := by decide +kernel
theorem dX0_shortDemands_3 : decode cX0_shortDemands 3 = .ok (.istore 4, 2) := by decide +kernel
theorem dX0_shortDemands_5 : decode cX0_shortDemands 5 = .ok (.iload 4, 2) := by decide +kernel
theorem dX0_shortDemands_7 : decode cX0_shortDemands 7 = .ok (.aload_n 0, 1) := by decide +kernel
theorem dX0_shortDemands_8 : decode cX0_shortDemands 8 = .ok (.getfield 36, 3) := by decide +kernel
theorem dX0_shortDemands_11 : decode cX0_shortDemands 11 = .ok (.getfield 56, 3) := by decide +kernel
theorem dX0_shortDemands_14 : decode cX0_shortDemands 14 = .ok (.if_icmp .ge 41, 3) := by decide +kernel
theorem dX0_shortDemands_17 : decode cX0_shortDemands 17 = .ok (.aload_n 0, 1) := by decide +kernel
theorem dX0_shortDemands_18 : decode cX0_shortDemands 18 = .ok (.getfield 23, 3) := by decide +kernel
theorem dX0_shortDemands_21 : decode cX0_shortDemands 21 = .ok (.iload 4, 2) := by decide +kernel
theorem dX0_shortDemands_23 : decode cX0_shortDemands 23 = .ok (.baload, 1) := by decide +kernel
theorem dX0_shortDemands_24 : decode cX0_shortDemands 24 = .ok (.ifCond .ne 25, 3) := by decide +kernel
theorem dX0_shortDemands_27 : decode cX0_shortDemands 27 = .ok (.aload_n 0, 1) := by decide +kernel
theorem dX0_shortDemands_28 : decode cX0_shortDemands 28 = .ok (.aload_n 1, 1) := by decide +kernel
theorem dX0_shortDemands_29 : decode cX0_shortDemands 29 = .ok (.iload_n 2, 1) := by decide +kernel
theorem dX0_shortDemands_30 : decode cX0_shortDemands 30 = .ok (.aload_n 0, 1) := by decide +kernel
theorem dX0_shortDemands_31 : decode cX0_shortDemands 31 = .ok (.getfield 36, 3) := by decide +kernel
theorem dX0_shortDemands_34 : decode cX0_shortDemands 34 = .ok (.getfield 87, 3) := by decide +kernel
theorem dX0_shortDemands_37 : decode cX0_shortDemands 37 = .ok (.iload 4, 2) := by decide +kernel
theorem dX0_shortDemands_39 : decode cX0_shortDemands 39 = .ok (.iaload, 1) := by decide +kernel
theorem dX0_shortDemands_40 : decode cX0_shortDemands 40 = .ok (.invokevirtual 83, 3) := by decide +kernel
theorem dX0_shortDemands_43 : decode cX0_shortDemands 43 = .ok (.ifCond .eq 6, 3) := by decide +kernel
theorem dX0_shortDemands_46 : decode cX0_shortDemands 46 = .ok (.iinc 3 1, 3) := by decide +kernel
theorem dX0_shortDemands_49 : decode cX0_shortDemands 49 = .ok (.iinc 4 1, 3) := by decide +kernel
theorem dX0_shortDemands_52 : decode cX0_shortDemands 52 = .ok (.goto (-47), 3) := by decide +kernel
theorem dX0_shortDemands_55 : decode cX0_shortDemands 55 = .ok (.iload_n 3, 1) := by decide +kernel
theorem dX0_shortDemands_56 : decode cX0_shortDemands 56 = .ok (.ireturn, 1) := by decide +kernel
theorem dX0_lostDemands_0 : decode cX0_lostDemands 0 = .ok (.iconst 0, 1) := by decide +kernel
theorem dX0_lostDemands_1 : decode cX0_lostDemands 1 = .ok (.istore_n 1, 1) := by decide +kernel
theorem dX0_lostDemands_2 : decode cX0_lostDemands 2 = .ok (.iconst 0, 1) := by decide +kernel
theorem dX0_lostDemands_3 : decode cX0_lostDemands 3 = .ok (.istore_n 2, 1) := by decide +kernel
theorem dX0_lostDemands_4 : decode cX0_lostDemands 4 = .ok (.iload_n 2, 1) := by decide +kernel
theorem dX0_lostDemands_5 : decode cX0_lostDemands 5 = .ok (.aload_n 0, 1) := by decide +kernel
theorem dX0_lostDemands_6 : decode cX0_lostDemands 6 = .ok (.getfield 36, 3) := by decide +kernel
theorem dX0_lostDemands_9 : decode cX0_lostDemands 9 = .ok (.getfield 56, 3) := by decide +kernel
theorem dX0_lostDemands_12 : decode cX0_lostDemands 12 = .ok (.if_icmp .ge 21, 3) := by decide +kernel
theorem dX0_lostDemands_15 : decode cX0_lostDemands 15 = .ok (.aload_n 0, 1) := by decide +kernel
theorem dX0_lostDemands_16 : decode cX0_lostDemands 16 = .ok (.getfield 23, 3) := by decide +kernel
theorem dX0_lostDemands_19 : decode cX0_lostDemands 19 = .ok (.iload_n 2, 1) := by decide +kernel
theorem dX0_lostDemands_20 : decode cX0_lostDemands 20 = .ok (.baload, 1) := by decide +kernel
theorem dX0_lostDemands_21 : decode cX0_lostDemands 21 = .ok (.ifCond .eq 6, 3) := by decide +kernel
theorem dX0_lostDemands_24 : decode cX0_lostDemands 24 = .ok (.iinc 1 1, 3) := by decide +kernel
theorem dX0_lostDemands_27 : decode cX0_lostDemands 27 = .ok (.iinc 2 1, 3) := by decide +kernel
theorem dX0_lostDemands_30 : decode cX0_lostDemands 30 = .ok (.goto (-26), 3) := by decide +kernel
theorem dX0_lostDemands_33 : decode cX0_lostDemands 33 = .ok (.iload_n 1, 1) := by decide +kernel
theorem dX0_lostDemands_34 : decode cX0_lostDemands 34 = .ok (.ireturn, 1) := by decide +kernel
theorem dX0_overfullLinks_0 : decode cX0_overfullLinks 0 = .ok (.iconst 0, 1) := by decide +kernel
theorem dX0_overfullLinks_1 : decode cX0_overfullLinks 1 = .ok (.istore_n 1, 1) := by decide +kernel
theorem dX0_overfullLinks_2 : decode cX0_overfullLinks 2 = .ok (.iconst 0, 1) := by decide +kernel
theorem dX0_overfullLinks_3 : decode cX0_overfullLinks 3 = .ok (.istore_n 2, 1) := by decide +kernel
theorem dX0_overfullLinks_4 : decode cX0_overfullLinks 4 = .ok (.iload_n 2, 1) := by decide +kernel
theorem dX0_overfullLinks_5 : decode cX0_overfullLinks 5 = .ok (.aload_n 0, 1) := by decide +kernel
theorem dX0_overfullLinks_6 : decode cX0_overfullLinks 6 = .ok (.getfield 36, 3) := by decide +kernel
theorem dX0_overfullLinks_9 : decode cX0_overfullLinks 9 = .ok (.getfield 53, 3) := by decide +kernel
theorem dX0_overfullLinks_12 : decode cX0_overfullLinks 12 = .ok (.if_icmp .ge 33, 3) := by decide +kernel
theorem dX0_overfullLinks_15 : decode cX0_overfullLinks 15 = .ok (.aload_n 0, 1) := by decide +kernel
theorem dX0_overfullLinks_16 : decode cX0_overfullLinks 16 = .ok (.getfield 19, 3) := by decide +kernel
theorem dX0_overfullLinks_19 : decode cX0_overfullLinks 19 = .ok (.iload_n 2, 1) := by decide +kernel
theorem dX0_overfullLinks_20 : decode cX0_overfullLinks 20 = .ok (.iaload, 1) := by decide +kernel
theorem dX0_overfullLinks_21 : decode cX0_overfullLinks 21 = .ok (.bipush 12, 2) := by decide +kernel
theorem dX0_overfullLinks_23 : decode cX0_overfullLinks 23 = .ok (.aload_n 0, 1) := by decide +kernel
theorem dX0_overfullLinks_24 : decode cX0_overfullLinks 24 = .ok (.getfield 36, 3) := by decide +kernel
theorem dX0_overfullLinks_27 : decode cX0_overfullLinks 27 = .ok (.getfield 90, 3) := by decide +kernel
theorem dX0_overfullLinks_30 : decode cX0_overfullLinks 30 = .ok (.iload_n 2, 1) := by decide +kernel
theorem dX0_overfullLinks_31 : decode cX0_overfullLinks 31 = .ok (.iaload, 1) := by decide +kernel
theorem dX0_overfullLinks_32 : decode cX0_overfullLinks 32 = .ok (.imul, 1) := by decide +kernel
theorem dX0_overfullLinks_33 : decode cX0_overfullLinks 33 = .ok (.if_icmp .le 6, 3) := by decide +kernel
theorem dX0_overfullLinks_36 : decode cX0_overfullLinks 36 = .ok (.iinc 1 1, 3) := by decide +kernel
theorem dX0_overfullLinks_39 : decode cX0_overfullLinks 39 = .ok (.iinc 2 1, 3) := by decide +kernel
theorem dX0_overfullLinks_42 : decode cX0_overfullLinks 42 = .ok (.goto (-38), 3) := by decide +kernel
theorem dX0_overfullLinks_45 : decode cX0_overfullLinks 45 = .ok (.iload_n 1, 1) := by decide +kernel
theorem dX0_overfullLinks_46 : decode cX0_overfullLinks 46 = .ok (.ireturn, 1) := by decide +kernel
theorem dX0_linkCost_0 : decode cX0_linkCost 0 = .ok (.aload_n 0, 1) := by decide +kernel
theorem dX0_linkCost_1 : decode cX0_linkCost 1 = .ok (.getfield 19, 3) := by decide +kernel
theorem dX0_linkCost_4 : decode cX0_linkCost 4 = .ok (.iload_n 1, 1) := by decide +kernel
theorem dX0_linkCost_5 : decode cX0_linkCost 5 = .ok (.iaload, 1) := by decide +kernel
theorem dX0_linkCost_6 : decode cX0_linkCost 6 = .ok (.istore_n 2, 1) := by decide +kernel
theorem dX0_linkCost_7 : decode cX0_linkCost 7 = .ok (.iconst 0, 1) := by decide +kernel
theorem dX0_linkCost_8 : decode cX0_linkCost 8 = .ok (.istore_n 3, 1) := by decide +kernel
theorem dX0_linkCost_9 : decode cX0_linkCost 9 = .ok (.iconst 0, 1) := by decide +kernel
theorem dX0_linkCost_10 : decode cX0_linkCost 10 = .ok (.istore 4, 2) := by decide +kernel
theorem dX0_linkCost_12 : decode cX0_linkCost 12 = .ok (.iload 4, 2) := by decide +kernel
theorem dX0_linkCost_14 : decode cX0_linkCost 14 = .ok (.getstatic 93, 3) := by decide +kernel
theorem dX0_linkCost_17 : decode cX0_linkCost 17 = .ok (.arraylength, 1) := by decide +kernel
theorem dX0_linkCost_18 : decode cX0_linkCost 18 = .ok (.if_icmp .ge 48, 3) := by decide +kernel
theorem dX0_linkCost_21 : decode cX0_linkCost 21 = .ok (.iload_n 2, 1) := by decide +kernel
theorem dX0_linkCost_22 : decode cX0_linkCost 22 = .ok (.getstatic 93, 3) := by decide +kernel
theorem dX0_linkCost_25 : decode cX0_linkCost 25 = .ok (.iload 4, 2) := by decide +kernel
theorem dX0_linkCost_27 : decode cX0_linkCost 27 = .ok (.iaload, 1) := by decide +kernel
theorem dX0_linkCost_28 : decode cX0_linkCost 28 = .ok (.aload_n 0, 1) := by decide +kernel
theorem dX0_linkCost_29 : decode cX0_linkCost 29 = .ok (.getfield 36, 3) := by decide +kernel
theorem dX0_linkCost_32 : decode cX0_linkCost 32 = .ok (.getfield 90, 3) := by decide +kernel
theorem dX0_linkCost_35 : decode cX0_linkCost 35 = .ok (.iload_n 1, 1) := by decide +kernel
theorem dX0_linkCost_36 : decode cX0_linkCost 36 = .ok (.iaload, 1) := by decide +kernel
theorem dX0_linkCost_37 : decode cX0_linkCost 37 = .ok (.imul, 1) := by decide +kernel
theorem dX0_linkCost_38 : decode cX0_linkCost 38 = .ok (.invokestatic 96, 3) := by decide +kernel
theorem dX0_linkCost_41 : decode cX0_linkCost 41 = .ok (.istore 5, 2) := by decide +kernel
theorem dX0_linkCost_43 : decode cX0_linkCost 43 = .ok (.iload_n 3, 1) := by decide +kernel
theorem dX0_linkCost_44 : decode cX0_linkCost 44 = .ok (.getstatic 102, 3) := by decide +kernel
theorem dX0_linkCost_47 : decode cX0_linkCost 47 = .ok (.iload 4, 2) := by decide +kernel
theorem dX0_linkCost_49 : decode cX0_linkCost 49 = .ok (.iaload, 1) := by decide +kernel
theorem dX0_linkCost_50 : decode cX0_linkCost 50 = .ok (.iload 5, 2) := by decide +kernel
theorem dX0_linkCost_52 : decode cX0_linkCost 52 = .ok (.imul, 1) := by decide +kernel
theorem dX0_linkCost_53 : decode cX0_linkCost 53 = .ok (.iadd, 1) := by decide +kernel
theorem dX0_linkCost_54 : decode cX0_linkCost 54 = .ok (.istore_n 3, 1) := by decide +kernel
theorem dX0_linkCost_55 : decode cX0_linkCost 55 = .ok (.iload_n 2, 1) := by decide +kernel
theorem dX0_linkCost_56 : decode cX0_linkCost 56 = .ok (.iload 5, 2) := by decide +kernel
theorem dX0_linkCost_58 : decode cX0_linkCost 58 = .ok (.isub, 1) := by decide +kernel
theorem dX0_linkCost_59 : decode cX0_linkCost 59 = .ok (.istore_n 2, 1) := by decide +kernel
theorem dX0_linkCost_60 : decode cX0_linkCost 60 = .ok (.iinc 4 1, 3) := by decide +kernel
theorem dX0_linkCost_63 : decode cX0_linkCost 63 = .ok (.goto (-51), 3) := by decide +kernel
theorem dX0_linkCost_66 : decode cX0_linkCost 66 = .ok (.iload_n 3, 1) := by decide +kernel
theorem dX0_linkCost_67 : decode cX0_linkCost 67 = .ok (.sipush 500, 3) := by decide +kernel
theorem dX0_linkCost_70 : decode cX0_linkCost 70 = .ok (.iload_n 2, 1) := by decide +kernel
theorem dX0_linkCost_71 : decode cX0_linkCost 71 = .ok (.imul, 1) := by decide +kernel
theorem dX0_linkCost_72 : decode cX0_linkCost 72 = .ok (.iadd, 1) := by decide +kernel
theorem dX0_linkCost_73 : decode cX0_linkCost 73 = .ok (.ireturn, 1) := by decide +kernel
theorem dX0_send_0 : decode cX0_send 0 = .ok (.iconst 0, 1) := by decide +kernel
theorem dX0_send_1 : decode cX0_send 1 = .ok (.istore_n 3, 1) := by decide +kernel
theorem dX0_send_2 : decode cX0_send 2 = .ok (.iload_n 3, 1) := by decide +kernel
theorem dX0_send_3 : decode cX0_send 3 = .ok (.aload_n 0, 1) := by decide +kernel
theorem dX0_send_4 : decode cX0_send 4 = .ok (.getfield 36, 3) := by decide +kernel
theorem dX0_send_7 : decode cX0_send 7 = .ok (.getfield 53, 3) := by decide +kernel
theorem dX0_send_10 : decode cX0_send 10 = .ok (.if_icmp .ge 18, 3) := by decide +kernel
theorem dX0_send_13 : decode cX0_send 13 = .ok (.aload_n 0, 1) := by decide +kernel
theorem dX0_send_14 : decode cX0_send 14 = .ok (.getfield 16, 3) := by decide +kernel
theorem dX0_send_17 : decode cX0_send 17 = .ok (.iload_n 2, 1) := by decide +kernel
theorem dX0_send_18 : decode cX0_send 18 = .ok (.aaload, 1) := by decide +kernel
theorem dX0_send_19 : decode cX0_send 19 = .ok (.iload_n 3, 1) := by decide +kernel
theorem dX0_send_20 : decode cX0_send 20 = .ok (.iconst 0, 1) := by decide +kernel
theorem dX0_send_21 : decode cX0_send 21 = .ok (.iastore, 1) := by decide +kernel
theorem dX0_send_22 : decode cX0_send 22 = .ok (.iinc 3 1, 3) := by decide +kernel
theorem dX0_send_25 : decode cX0_send 25 = .ok (.goto (-23), 3) := by decide +kernel
theorem dX0_send_28 : decode cX0_send 28 = .ok (.aload_n 0, 1) := by decide +kernel
theorem dX0_send_29 : decode cX0_send 29 = .ok (.getfield 36, 3) := by decide +kernel
theorem dX0_send_32 : decode cX0_send 32 = .ok (.getfield 87, 3) := by decide +kernel
theorem dX0_send_35 : decode cX0_send 35 = .ok (.iload_n 2, 1) := by decide +kernel
theorem dX0_send_36 : decode cX0_send 36 = .ok (.iaload, 1) := by decide +kernel
theorem dX0_send_37 : decode cX0_send 37 = .ok (.istore_n 3, 1) := by decide +kernel
theorem dX0_send_38 : decode cX0_send 38 = .ok (.aload_n 0, 1) := by decide +kernel
theorem dX0_send_39 : decode cX0_send 39 = .ok (.getfield 23, 3) := by decide +kernel
theorem dX0_send_42 : decode cX0_send 42 = .ok (.iload_n 2, 1) := by decide +kernel
theorem dX0_send_43 : decode cX0_send 43 = .ok (.aload_n 0, 1) := by decide +kernel
theorem dX0_send_44 : decode cX0_send 44 = .ok (.getfield 11, 3) := by decide +kernel
theorem dX0_send_47 : decode cX0_send 47 = .ok (.iload_n 3, 1) := by decide +kernel
theorem dX0_send_48 : decode cX0_send 48 = .ok (.aaload, 1) := by decide +kernel
theorem dX0_send_49 : decode cX0_send 49 = .ok (.aload_n 0, 1) := by decide +kernel
theorem dX0_send_50 : decode cX0_send 50 = .ok (.getfield 36, 3) := by decide +kernel
theorem dX0_send_53 : decode cX0_send 53 = .ok (.getfield 105, 3) := by decide +kernel
theorem dX0_send_56 : decode cX0_send 56 = .ok (.iload_n 2, 1) := by decide +kernel
theorem dX0_send_57 : decode cX0_send 57 = .ok (.iaload, 1) := by decide +kernel
theorem dX0_send_58 : decode cX0_send 58 = .ok (.iaload, 1) := by decide +kernel
theorem dX0_send_59 : decode cX0_send 59 = .ok (.iconst (-1), 1) := by decide +kernel
theorem dX0_send_60 : decode cX0_send 60 = .ok (.if_icmp .ne 7, 3) := by decide +kernel
theorem dX0_send_63 : decode cX0_send 63 = .ok (.iconst 1, 1) := by decide +kernel
theorem dX0_send_64 : decode cX0_send 64 = .ok (.goto 4, 3) := by decide +kernel
theorem dX0_send_67 : decode cX0_send 67 = .ok (.iconst 0, 1) := by decide +kernel
theorem dX0_send_68 : decode cX0_send 68 = .ok (.bastore, 1) := by decide +kernel
theorem dX0_send_69 : decode cX0_send 69 = .ok (.aload_n 0, 1) := by decide +kernel
theorem dX0_send_70 : decode cX0_send 70 = .ok (.getfield 23, 3) := by decide +kernel
theorem dX0_send_73 : decode cX0_send 73 = .ok (.iload_n 2, 1) := by decide +kernel
theorem dX0_send_74 : decode cX0_send 74 = .ok (.baload, 1) := by decide +kernel
theorem dX0_send_75 : decode cX0_send 75 = .ok (.ifCond .eq 4, 3) := by decide +kernel
theorem dX0_send_78 : decode cX0_send 78 = .ok (.return_, 1) := by decide +kernel
theorem dX0_send_79 : decode cX0_send 79 = .ok (.iconst 0, 1) := by decide +kernel
theorem dX0_send_80 : decode cX0_send 80 = .ok (.istore 4, 2) := by decide +kernel
theorem dX0_send_82 : decode cX0_send 82 = .ok (.iload 4, 2) := by decide +kernel
theorem dX0_send_84 : decode cX0_send 84 = .ok (.aload_n 0, 1) := by decide +kernel
theorem dX0_send_85 : decode cX0_send 85 = .ok (.getfield 36, 3) := by decide +kernel
theorem dX0_send_88 : decode cX0_send 88 = .ok (.getfield 40, 3) := by decide +kernel
theorem dX0_send_91 : decode cX0_send 91 = .ok (.if_icmp .ge 17, 3) := by decide +kernel
theorem dX0_send_94 : decode cX0_send 94 = .ok (.aload_n 0, 1) := by decide +kernel
theorem dX0_send_95 : decode cX0_send 95 = .ok (.getfield 30, 3) := by decide +kernel
theorem dX0_send_98 : decode cX0_send 98 = .ok (.iload 4, 2) := by decide +kernel
theorem dX0_send_100 : decode cX0_send 100 = .ok (.iconst 0, 1) := by decide +kernel
theorem dX0_send_101 : decode cX0_send 101 = .ok (.iastore, 1) := by decide +kernel
theorem dX0_send_102 : decode cX0_send 102 = .ok (.iinc 4 1, 3) := by decide +kernel
theorem dX0_send_105 : decode cX0_send 105 = .ok (.goto (-23), 3) := by decide +kernel
theorem dX0_send_108 : decode cX0_send 108 = .ok (.aload_n 0, 1) := by decide +kernel
theorem dX0_send_109 : decode cX0_send 109 = .ok (.getfield 30, 3) := by decide +kernel
theorem dX0_send_112 : decode cX0_send 112 = .ok (.aload_n 0, 1) := by decide +kernel
theorem dX0_send_113 : decode cX0_send 113 = .ok (.getfield 36, 3) := by decide +kernel
theorem dX0_send_116 : decode cX0_send 116 = .ok (.getfield 105, 3) := by decide +kernel
theorem dX0_send_119 : decode cX0_send 119 = .ok (.iload_n 2, 1) := by decide +kernel
theorem dX0_send_120 : decode cX0_send 120 = .ok (.iaload, 1) := by decide +kernel
theorem dX0_send_121 : decode cX0_send 121 = .ok (.bipush 12, 2) := by decide +kernel
theorem dX0_send_123 : decode cX0_send 123 = .ok (.aload_n 0, 1) := by decide +kernel
theorem dX0_send_124 : decode cX0_send 124 = .ok (.getfield 36, 3) := by decide +kernel
theorem dX0_send_127 : decode cX0_send 127 = .ok (.getfield 62, 3) := by decide +kernel
theorem dX0_send_130 : decode cX0_send 130 = .ok (.iload_n 2, 1) := by decide +kernel
theorem dX0_send_131 : decode cX0_send 131 = .ok (.iaload, 1) := by decide +kernel
theorem dX0_send_132 : decode cX0_send 132 = .ok (.imul, 1) := by decide +kernel
theorem dX0_send_133 : decode cX0_send 133 = .ok (.iastore, 1) := by decide +kernel
theorem dX0_send_134 : decode cX0_send 134 = .ok (.aload_n 0, 1) := by decide +kernel
theorem dX0_send_135 : decode cX0_send 135 = .ok (.iload_n 3, 1) := by decide +kernel
theorem dX0_send_136 : decode cX0_send 136 = .ok (.invokevirtual 108, 3) := by decide +kernel
theorem dX0_send_139 : decode cX0_send 139 = .ok (.iconst 0, 1) := by decide +kernel
theorem dX0_send_140 : decode cX0_send 140 = .ok (.istore 4, 2) := by decide +kernel
theorem dX0_send_142 : decode cX0_send 142 = .ok (.iload 4, 2) := by decide +kernel
theorem dX0_send_144 : decode cX0_send 144 = .ok (.aload_n 0, 1) := by decide +kernel
theorem dX0_send_145 : decode cX0_send 145 = .ok (.getfield 36, 3) := by decide +kernel
theorem dX0_send_148 : decode cX0_send 148 = .ok (.getfield 40, 3) := by decide +kernel
theorem dX0_send_151 : decode cX0_send 151 = .ok (.if_icmp .ge 37, 3) := by decide +kernel
theorem dX0_send_154 : decode cX0_send 154 = .ok (.aload_n 0, 1) := by decide +kernel
theorem dX0_send_155 : decode cX0_send 155 = .ok (.getfield 30, 3) := by decide +kernel
theorem dX0_send_158 : decode cX0_send 158 = .ok (.aload_n 0, 1) := by decide +kernel
theorem dX0_send_159 : decode cX0_send 159 = .ok (.getfield 27, 3) := by decide +kernel
theorem dX0_send_162 : decode cX0_send 162 = .ok (.iload 4, 2) := by decide +kernel
theorem dX0_send_164 : decode cX0_send 164 = .ok (.iaload, 1) := by decide +kernel
theorem dX0_send_165 : decode cX0_send 165 = .ok (.iaload, 1) := by decide +kernel
theorem dX0_send_166 : decode cX0_send 166 = .ok (.ifCond .le 16, 3) := by decide +kernel
theorem dX0_send_169 : decode cX0_send 169 = .ok (.aload_n 0, 1) := by decide +kernel
theorem dX0_send_170 : decode cX0_send 170 = .ok (.aload_n 1, 1) := by decide +kernel
theorem dX0_send_171 : decode cX0_send 171 = .ok (.iload_n 2, 1) := by decide +kernel
theorem dX0_send_172 : decode cX0_send 172 = .ok (.aload_n 0, 1) := by decide +kernel
theorem dX0_send_173 : decode cX0_send 173 = .ok (.getfield 27, 3) := by decide +kernel
theorem dX0_send_176 : decode cX0_send 176 = .ok (.iload 4, 2) := by decide +kernel
theorem dX0_send_178 : decode cX0_send 178 = .ok (.iaload, 1) := by decide +kernel
theorem dX0_send_179 : decode cX0_send 179 = .ok (.invokevirtual 112, 3) := by decide +kernel
theorem dX0_send_182 : decode cX0_send 182 = .ok (.iinc 4 1, 3) := by decide +kernel
theorem dX0_send_185 : decode cX0_send 185 = .ok (.goto (-43), 3) := by decide +kernel
theorem dX0_send_188 : decode cX0_send 188 = .ok (.return_, 1) := by decide +kernel
theorem dX0_orderFarthestFirst_0 : decode cX0_orderFarthestFirst 0 = .ok (.iconst 0, 1) := by decide +kernel
theorem dX0_orderFarthestFirst_1 : decode cX0_orderFarthestFirst 1 = .ok (.istore_n 2, 1) := by decide +kernel
theorem dX0_orderFarthestFirst_2 : decode cX0_orderFarthestFirst 2 = .ok (.iload_n 2, 1) := by decide +kernel
theorem dX0_orderFarthestFirst_3 : decode cX0_orderFarthestFirst 3 = .ok (.aload_n 0, 1) := by decide +kernel
theorem dX0_orderFarthestFirst_4 : decode cX0_orderFarthestFirst 4 = .ok (.getfield 36, 3) := by decide +kernel
theorem dX0_orderFarthestFirst_7 : decode cX0_orderFarthestFirst 7 = .ok (.getfield 40, 3) := by decide +kernel
theorem dX0_orderFarthestFirst_10 : decode cX0_orderFarthestFirst 10 = .ok (.if_icmp .ge 68, 3) := by decide +kernel
theorem dX0_orderFarthestFirst_13 : decode cX0_orderFarthestFirst 13 = .ok (.iload_n 2, 1) := by decide +kernel
theorem dX0_orderFarthestFirst_14 : decode cX0_orderFarthestFirst 14 = .ok (.istore_n 3, 1) := by decide +kernel
theorem dX0_orderFarthestFirst_15 : decode cX0_orderFarthestFirst 15 = .ok (.iload_n 3, 1) := by decide +kernel
theorem dX0_orderFarthestFirst_16 : decode cX0_orderFarthestFirst 16 = .ok (.ifCond .le 49, 3) := by decide +kernel
theorem dX0_orderFarthestFirst_19 : decode cX0_orderFarthestFirst 19 = .ok (.aload_n 0, 1) := by decide +kernel
theorem dX0_orderFarthestFirst_20 : decode cX0_orderFarthestFirst 20 = .ok (.getfield 11, 3) := by decide +kernel
theorem dX0_orderFarthestFirst_23 : decode cX0_orderFarthestFirst 23 = .ok (.iload_n 1, 1) := by decide +kernel
theorem dX0_orderFarthestFirst_24 : decode cX0_orderFarthestFirst 24 = .ok (.aaload, 1) := by decide +kernel
theorem dX0_orderFarthestFirst_25 : decode cX0_orderFarthestFirst 25 = .ok (.aload_n 0, 1) := by decide +kernel
theorem dX0_orderFarthestFirst_26 : decode cX0_orderFarthestFirst 26 = .ok (.getfield 27, 3) := by decide +kernel
theorem dX0_orderFarthestFirst_29 : decode cX0_orderFarthestFirst 29 = .ok (.iload_n 3, 1) := by decide +kernel
theorem dX0_orderFarthestFirst_30 : decode cX0_orderFarthestFirst 30 = .ok (.iconst 1, 1) := by decide +kernel
theorem dX0_orderFarthestFirst_31 : decode cX0_orderFarthestFirst 31 = .ok (.isub, 1) := by decide +kernel
theorem dX0_orderFarthestFirst_32 : decode cX0_orderFarthestFirst 32 = .ok (.iaload, 1) := by decide +kernel
theorem dX0_orderFarthestFirst_33 : decode cX0_orderFarthestFirst 33 = .ok (.iaload, 1) := by decide +kernel
theorem dX0_orderFarthestFirst_34 : decode cX0_orderFarthestFirst 34 = .ok (.aload_n 0, 1) := by decide +kernel
theorem dX0_orderFarthestFirst_35 : decode cX0_orderFarthestFirst 35 = .ok (.getfield 11, 3) := by decide +kernel
theorem dX0_orderFarthestFirst_38 : decode cX0_orderFarthestFirst 38 = .ok (.iload_n 1, 1) := by decide +kernel
theorem dX0_orderFarthestFirst_39 : decode cX0_orderFarthestFirst 39 = .ok (.aaload, 1) := by decide +kernel
theorem dX0_orderFarthestFirst_40 : decode cX0_orderFarthestFirst 40 = .ok (.iload_n 2, 1) := by decide +kernel
theorem dX0_orderFarthestFirst_41 : decode cX0_orderFarthestFirst 41 = .ok (.iaload, 1) := by decide +kernel
theorem dX0_orderFarthestFirst_42 : decode cX0_orderFarthestFirst 42 = .ok (.if_icmp .ge 23, 3) := by decide +kernel
theorem dX0_orderFarthestFirst_45 : decode cX0_orderFarthestFirst 45 = .ok (.aload_n 0, 1) := by decide +kernel
theorem dX0_orderFarthestFirst_46 : decode cX0_orderFarthestFirst 46 = .ok (.getfield 27, 3) := by decide +kernel
theorem dX0_orderFarthestFirst_49 : decode cX0_orderFarthestFirst 49 = .ok (.iload_n 3, 1) := by decide +kernel
theorem dX0_orderFarthestFirst_50 : decode cX0_orderFarthestFirst 50 = .ok (.aload_n 0, 1) := by decide +kernel
theorem dX0_orderFarthestFirst_51 : decode cX0_orderFarthestFirst 51 = .ok (.getfield 27, 3) := by decide +kernel
theorem dX0_orderFarthestFirst_54 : decode cX0_orderFarthestFirst 54 = .ok (.iload_n 3, 1) := by decide +kernel
theorem dX0_orderFarthestFirst_55 : decode cX0_orderFarthestFirst 55 = .ok (.iconst 1, 1) := by decide +kernel
theorem dX0_orderFarthestFirst_56 : decode cX0_orderFarthestFirst 56 = .ok (.isub, 1) := by decide +kernel
theorem dX0_orderFarthestFirst_57 : decode cX0_orderFarthestFirst 57 = .ok (.iaload, 1) := by decide +kernel
theorem dX0_orderFarthestFirst_58 : decode cX0_orderFarthestFirst 58 = .ok (.iastore, 1) := by decide +kernel
theorem dX0_orderFarthestFirst_59 : decode cX0_orderFarthestFirst 59 = .ok (.iinc 3 (-1), 3) := by decide +kernel
theorem dX0_orderFarthestFirst_62 : decode cX0_orderFarthestFirst 62 = .ok (.goto (-47), 3) := by decide +kernel
theorem dX0_orderFarthestFirst_65 : decode cX0_orderFarthestFirst 65 = .ok (.aload_n 0, 1) := by decide +kernel
theorem dX0_orderFarthestFirst_66 : decode cX0_orderFarthestFirst 66 = .ok (.getfield 27, 3) := by decide +kernel
theorem dX0_orderFarthestFirst_69 : decode cX0_orderFarthestFirst 69 = .ok (.iload_n 3, 1) := by decide +kernel
theorem dX0_orderFarthestFirst_70 : decode cX0_orderFarthestFirst 70 = .ok (.iload_n 2, 1) := by decide +kernel
theorem dX0_orderFarthestFirst_71 : decode cX0_orderFarthestFirst 71 = .ok (.iastore, 1) := by decide +kernel
theorem dX0_orderFarthestFirst_72 : decode cX0_orderFarthestFirst 72 = .ok (.iinc 2 1, 3) := by decide +kernel
theorem dX0_orderFarthestFirst_75 : decode cX0_orderFarthestFirst 75 = .ok (.goto (-73), 3) := by decide +kernel
theorem dX0_orderFarthestFirst_78 : decode cX0_orderFarthestFirst 78 = .ok (.return_, 1) := by decide +kernel
theorem dX0_sendOn_0 : decode cX0_sendOn 0 = .ok (.iconst 0, 1) := by decide +kernel
theorem dX0_sendOn_1 : decode cX0_sendOn 1 = .ok (.istore 4, 2) := by decide +kernel
theorem dX0_sendOn_3 : decode cX0_sendOn 3 = .ok (.iconst 0, 1) := by decide +kernel
theorem dX0_sendOn_4 : decode cX0_sendOn 4 = .ok (.istore 5, 2) := by decide +kernel
theorem dX0_sendOn_6 : decode cX0_sendOn 6 = .ok (.iload 5, 2) := by decide +kernel
theorem dX0_sendOn_8 : decode cX0_sendOn 8 = .ok (.aload_n 0, 1) := by decide +kernel
theorem dX0_sendOn_9 : decode cX0_sendOn 9 = .ok (.getfield 36, 3) := by decide +kernel
theorem dX0_sendOn_12 : decode cX0_sendOn 12 = .ok (.getfield 53, 3) := by decide +kernel
theorem dX0_sendOn_15 : decode cX0_sendOn 15 = .ok (.if_icmp .ge 54, 3) := by decide +kernel
theorem dX0_sendOn_18 : decode cX0_sendOn 18 = .ok (.aload_n 0, 1) := by decide +kernel
theorem dX0_sendOn_19 : decode cX0_sendOn 19 = .ok (.getfield 36, 3) := by decide +kernel
theorem dX0_sendOn_22 : decode cX0_sendOn 22 = .ok (.getfield 80, 3) := by decide +kernel
theorem dX0_sendOn_25 : decode cX0_sendOn 25 = .ok (.iload 5, 2) := by decide +kernel
theorem dX0_sendOn_27 : decode cX0_sendOn 27 = .ok (.iaload, 1) := by decide +kernel
theorem dX0_sendOn_28 : decode cX0_sendOn 28 = .ok (.iload_n 3, 1) := by decide +kernel
theorem dX0_sendOn_29 : decode cX0_sendOn 29 = .ok (.if_icmp .ne 34, 3) := by decide +kernel
theorem dX0_sendOn_32 : decode cX0_sendOn 32 = .ok (.aload_n 0, 1) := by decide +kernel
theorem dX0_sendOn_33 : decode cX0_sendOn 33 = .ok (.aload_n 1, 1) := by decide +kernel
theorem dX0_sendOn_34 : decode cX0_sendOn 34 = .ok (.iload 5, 2) := by decide +kernel
theorem dX0_sendOn_36 : decode cX0_sendOn 36 = .ok (.aload_n 0, 1) := by decide +kernel
theorem dX0_sendOn_37 : decode cX0_sendOn 37 = .ok (.getfield 36, 3) := by decide +kernel
theorem dX0_sendOn_40 : decode cX0_sendOn 40 = .ok (.getfield 87, 3) := by decide +kernel
theorem dX0_sendOn_43 : decode cX0_sendOn 43 = .ok (.iload_n 2, 1) := by decide +kernel
theorem dX0_sendOn_44 : decode cX0_sendOn 44 = .ok (.iaload, 1) := by decide +kernel
theorem dX0_sendOn_45 : decode cX0_sendOn 45 = .ok (.invokevirtual 83, 3) := by decide +kernel
theorem dX0_sendOn_48 : decode cX0_sendOn 48 = .ok (.ifCond .eq 15, 3) := by decide +kernel
theorem dX0_sendOn_51 : decode cX0_sendOn 51 = .ok (.aload_n 0, 1) := by decide +kernel
theorem dX0_sendOn_52 : decode cX0_sendOn 52 = .ok (.getfield 33, 3) := by decide +kernel
theorem dX0_sendOn_55 : decode cX0_sendOn 55 = .ok (.iload 4, 2) := by decide +kernel
theorem dX0_sendOn_57 : decode cX0_sendOn 57 = .ok (.iload 5, 2) := by decide +kernel
theorem dX0_sendOn_59 : decode cX0_sendOn 59 = .ok (.iastore, 1) := by decide +kernel
theorem dX0_sendOn_60 : decode cX0_sendOn 60 = .ok (.iinc 4 1, 3) := by decide +kernel
theorem dX0_sendOn_63 : decode cX0_sendOn 63 = .ok (.iinc 5 1, 3) := by decide +kernel
theorem dX0_sendOn_66 : decode cX0_sendOn 66 = .ok (.goto (-60), 3) := by decide +kernel
theorem dX0_sendOn_69 : decode cX0_sendOn 69 = .ok (.iload 4, 2) := by decide +kernel
theorem dX0_sendOn_71 : decode cX0_sendOn 71 = .ok (.ifCond .ne 4, 3) := by decide +kernel
theorem dX0_sendOn_74 : decode cX0_sendOn 74 = .ok (.return_, 1) := by decide +kernel
theorem dX0_sendOn_75 : decode cX0_sendOn 75 = .ok (.aload_n 0, 1) := by decide +kernel
theorem dX0_sendOn_76 : decode cX0_sendOn 76 = .ok (.getfield 30, 3) := by decide +kernel
theorem dX0_sendOn_79 : decode cX0_sendOn 79 = .ok (.iload_n 3, 1) := by decide +kernel
theorem dX0_sendOn_80 : decode cX0_sendOn 80 = .ok (.iaload, 1) := by decide +kernel
theorem dX0_sendOn_81 : decode cX0_sendOn 81 = .ok (.iload 4, 2) := by decide +kernel
theorem dX0_sendOn_83 : decode cX0_sendOn 83 = .ok (.idiv, 1) := by decide +kernel
theorem dX0_sendOn_84 : decode cX0_sendOn 84 = .ok (.istore 5, 2) := by decide +kernel
theorem dX0_sendOn_86 : decode cX0_sendOn 86 = .ok (.aload_n 0, 1) := by decide +kernel
theorem dX0_sendOn_87 : decode cX0_sendOn 87 = .ok (.getfield 30, 3) := by decide +kernel
theorem dX0_sendOn_90 : decode cX0_sendOn 90 = .ok (.iload_n 3, 1) := by decide +kernel
theorem dX0_sendOn_91 : decode cX0_sendOn 91 = .ok (.iaload, 1) := by decide +kernel
theorem dX0_sendOn_92 : decode cX0_sendOn 92 = .ok (.iload 4, 2) := by decide +kernel
theorem dX0_sendOn_94 : decode cX0_sendOn 94 = .ok (.irem, 1) := by decide +kernel
theorem dX0_sendOn_95 : decode cX0_sendOn 95 = .ok (.istore 6, 2) := by decide +kernel
theorem dX0_sendOn_97 : decode cX0_sendOn 97 = .ok (.iconst 0, 1) := by decide +kernel
theorem dX0_sendOn_98 : decode cX0_sendOn 98 = .ok (.istore 7, 2) := by decide +kernel
theorem dX0_sendOn_100 : decode cX0_sendOn 100 = .ok (.iload 7, 2) := by decide +kernel
theorem dX0_sendOn_102 : decode cX0_sendOn 102 = .ok (.iload 4, 2) := by decide +kernel
theorem dX0_sendOn_104 : decode cX0_sendOn 104 = .ok (.if_icmp .ge 79, 3) := by decide +kernel
theorem dX0_sendOn_107 : decode cX0_sendOn 107 = .ok (.aload_n 0, 1) := by decide +kernel
theorem dX0_sendOn_108 : decode cX0_sendOn 108 = .ok (.getfield 33, 3) := by decide +kernel
theorem dX0_sendOn_111 : decode cX0_sendOn 111 = .ok (.iload 7, 2) := by decide +kernel
theorem dX0_sendOn_113 : decode cX0_sendOn 113 = .ok (.iaload, 1) := by decide +kernel
theorem dX0_sendOn_114 : decode cX0_sendOn 114 = .ok (.istore 8, 2) := by decide +kernel
theorem dX0_sendOn_116 : decode cX0_sendOn 116 = .ok (.iload 7, 2) := by decide +kernel
theorem dX0_sendOn_118 : decode cX0_sendOn 118 = .ok (.iload 6, 2) := by decide +kernel
theorem dX0_sendOn_120 : decode cX0_sendOn 120 = .ok (.if_icmp .ge 10, 3) := by decide +kernel
theorem dX0_sendOn_123 : decode cX0_sendOn 123 = .ok (.iload 5, 2) := by decide +kernel
theorem dX0_sendOn_125 : decode cX0_sendOn 125 = .ok (.iconst 1, 1) := by decide +kernel
theorem dX0_sendOn_126 : decode cX0_sendOn 126 = .ok (.iadd, 1) := by decide +kernel
theorem dX0_sendOn_127 : decode cX0_sendOn 127 = .ok (.goto 5, 3) := by decide +kernel
theorem dX0_sendOn_130 : decode cX0_sendOn 130 = .ok (.iload 5, 2) := by decide +kernel
theorem dX0_sendOn_132 : decode cX0_sendOn 132 = .ok (.istore 9, 2) := by decide +kernel
theorem dX0_sendOn_134 : decode cX0_sendOn 134 = .ok (.aload_n 0, 1) := by decide +kernel
theorem dX0_sendOn_135 : decode cX0_sendOn 135 = .ok (.getfield 16, 3) := by decide +kernel
theorem dX0_sendOn_138 : decode cX0_sendOn 138 = .ok (.iload_n 2, 1) := by decide +kernel
theorem dX0_sendOn_139 : decode cX0_sendOn 139 = .ok (.aaload, 1) := by decide +kernel
theorem dX0_sendOn_140 : decode cX0_sendOn 140 = .ok (.iload 8, 2) := by decide +kernel
theorem dX0_sendOn_142 : decode cX0_sendOn 142 = .ok (.iload 9, 2) := by decide +kernel
theorem dX0_sendOn_144 : decode cX0_sendOn 144 = .ok (.iastore, 1) := by decide +kernel
theorem dX0_sendOn_145 : decode cX0_sendOn 145 = .ok (.aload_n 0, 1) := by decide +kernel
theorem dX0_sendOn_146 : decode cX0_sendOn 146 = .ok (.getfield 19, 3) := by decide +kernel
theorem dX0_sendOn_149 : decode cX0_sendOn 149 = .ok (.iload 8, 2) := by decide +kernel
theorem dX0_sendOn_151 : decode cX0_sendOn 151 = .ok (.dup2, 1) := by decide +kernel
theorem dX0_sendOn_152 : decode cX0_sendOn 152 = .ok (.iaload, 1) := by decide +kernel
theorem dX0_sendOn_153 : decode cX0_sendOn 153 = .ok (.iload 9, 2) := by decide +kernel
theorem dX0_sendOn_155 : decode cX0_sendOn 155 = .ok (.iadd, 1) := by decide +kernel
theorem dX0_sendOn_156 : decode cX0_sendOn 156 = .ok (.iastore, 1) := by decide +kernel
theorem dX0_sendOn_157 : decode cX0_sendOn 157 = .ok (.aload_n 0, 1) := by decide +kernel
theorem dX0_sendOn_158 : decode cX0_sendOn 158 = .ok (.getfield 30, 3) := by decide +kernel
theorem dX0_sendOn_161 : decode cX0_sendOn 161 = .ok (.aload_n 0, 1) := by decide +kernel
theorem dX0_sendOn_162 : decode cX0_sendOn 162 = .ok (.getfield 36, 3) := by decide +kernel
theorem dX0_sendOn_165 : decode cX0_sendOn 165 = .ok (.getfield 74, 3) := by decide +kernel
theorem dX0_sendOn_168 : decode cX0_sendOn 168 = .ok (.iload 8, 2) := by decide +kernel
theorem dX0_sendOn_170 : decode cX0_sendOn 170 = .ok (.iaload, 1) := by decide +kernel
theorem dX0_sendOn_171 : decode cX0_sendOn 171 = .ok (.dup2, 1) := by decide +kernel
theorem dX0_sendOn_172 : decode cX0_sendOn 172 = .ok (.iaload, 1) := by decide +kernel
theorem dX0_sendOn_173 : decode cX0_sendOn 173 = .ok (.iload 9, 2) := by decide +kernel
theorem dX0_sendOn_175 : decode cX0_sendOn 175 = .ok (.iadd, 1) := by decide +kernel
theorem dX0_sendOn_176 : decode cX0_sendOn 176 = .ok (.iastore, 1) := by decide +kernel
theorem dX0_sendOn_177 : decode cX0_sendOn 177 = .ok (.iinc 7 1, 3) := by decide +kernel
theorem dX0_sendOn_180 : decode cX0_sendOn 180 = .ok (.goto (-80), 3) := by decide +kernel
theorem dX0_sendOn_183 : decode cX0_sendOn 183 = .ok (.return_, 1) := by decide +kernel
theorem dX1_init_0 : decode cX1_init 0 = .ok (.aload_n 0, 1) := by decide +kernel
theorem dX1_init_1 : decode cX1_init 1 = .ok (.invokespecial 3, 3) := by decide +kernel
theorem dX1_init_4 : decode cX1_init 4 = .ok (.aload_n 0, 1) := by decide +kernel
theorem dX1_init_5 : decode cX1_init 5 = .ok (.sipush 200, 3) := by decide +kernel
theorem dX1_init_8 : decode cX1_init 8 = .ok (.newarray .int, 2) := by decide +kernel
theorem dX1_init_10 : decode cX1_init 10 = .ok (.putfield 9, 3) := by decide +kernel
theorem dX1_init_13 : decode cX1_init 13 = .ok (.return_, 1) := by decide +kernel
theorem dX1_put_0 : decode cX1_put 0 = .ok (.aload_n 0, 1) := by decide +kernel
theorem dX1_put_1 : decode cX1_put 1 = .ok (.getfield 15, 3) := by decide +kernel
theorem dX1_put_4 : decode cX1_put 4 = .ok (.sipush 200, 3) := by decide +kernel
theorem dX1_put_7 : decode cX1_put 7 = .ok (.if_icmp .lt 5, 3) := by decide +kernel
theorem dX1_put_10 : decode cX1_put 10 = .ok (.iconst 0, 1) := by decide +kernel
theorem dX1_put_11 : decode cX1_put 11 = .ok (.ireturn, 1) := by decide +kernel
theorem dX1_put_12 : decode cX1_put 12 = .ok (.aload_n 0, 1) := by decide +kernel
theorem dX1_put_13 : decode cX1_put 13 = .ok (.getfield 9, 3) := by decide +kernel
theorem dX1_put_16 : decode cX1_put 16 = .ok (.aload_n 0, 1) := by decide +kernel
theorem dX1_put_17 : decode cX1_put 17 = .ok (.getfield 15, 3) := by decide +kernel
theorem dX1_put_20 : decode cX1_put 20 = .ok (.iload_n 1, 1) := by decide +kernel
theorem dX1_put_21 : decode cX1_put 21 = .ok (.iastore, 1) := by decide +kernel
theorem dX1_put_22 : decode cX1_put 22 = .ok (.aload_n 0, 1) := by decide +kernel
theorem dX1_put_23 : decode cX1_put 23 = .ok (.dup, 1) := by decide +kernel
theorem dX1_put_24 : decode cX1_put 24 = .ok (.getfield 15, 3) := by decide +kernel
theorem dX1_put_27 : decode cX1_put 27 = .ok (.iconst 1, 1) := by decide +kernel
theorem dX1_put_28 : decode cX1_put 28 = .ok (.iadd, 1) := by decide +kernel
theorem dX1_put_29 : decode cX1_put 29 = .ok (.putfield 15, 3) := by decide +kernel
theorem dX1_put_32 : decode cX1_put 32 = .ok (.iconst 1, 1) := by decide +kernel
theorem dX1_put_33 : decode cX1_put 33 = .ok (.ireturn, 1) := by decide +kernel
theorem dX2_init_0 : decode cX2_init 0 = .ok (.aload_n 0, 1) := by decide +kernel
theorem dX2_init_1 : decode cX2_init 1 = .ok (.invokespecial 3, 3) := by decide +kernel
theorem dX2_init_4 : decode cX2_init 4 = .ok (.aload_n 0, 1) := by decide +kernel
theorem dX2_init_5 : decode cX2_init 5 = .ok (.new 9, 3) := by decide +kernel
theorem dX2_init_8 : decode cX2_init 8 = .ok (.dup, 1) := by decide +kernel
theorem dX2_init_9 : decode cX2_init 9 = .ok (.invokespecial 11, 3) := by decide +kernel
theorem dX2_init_12 : decode cX2_init 12 = .ok (.putfield 12, 3) := by decide +kernel
theorem dX2_init_15 : decode cX2_init 15 = .ok (.aload_n 0, 1) := by decide +kernel
theorem dX2_init_16 : decode cX2_init 16 = .ok (.aload_n 1, 1) := by decide +kernel
theorem dX2_init_17 : decode cX2_init 17 = .ok (.putfield 18, 3) := by decide +kernel
theorem dX2_init_20 : decode cX2_init 20 = .ok (.aload_n 0, 1) := by decide +kernel
theorem dX2_init_21 : decode cX2_init 21 = .ok (.aload_n 2, 1) := by decide +kernel
theorem dX2_init_22 : decode cX2_init 22 = .ok (.putfield 22, 3) := by decide +kernel
theorem dX2_init_25 : decode cX2_init 25 = .ok (.return_, 1) := by decide +kernel
theorem dX2_find_0 : decode cX2_find 0 = .ok (.aload_n 0, 1) := by decide +kernel
theorem dX2_find_1 : decode cX2_find 1 = .ok (.iconst (-1), 1) := by decide +kernel
theorem dX2_find_2 : decode cX2_find 2 = .ok (.putfield 26, 3) := by decide +kernel
theorem dX2_find_5 : decode cX2_find 5 = .ok (.aload_n 0, 1) := by decide +kernel
theorem dX2_find_6 : decode cX2_find 6 = .ok (.getfield 12, 3) := by decide +kernel
theorem dX2_find_9 : decode cX2_find 9 = .ok (.aload_n 1, 1) := by decide +kernel
theorem dX2_find_10 : decode cX2_find 10 = .ok (.invokevirtual 30, 3) := by decide +kernel
theorem dX2_find_13 : decode cX2_find 13 = .ok (.iconst 0, 1) := by decide +kernel
theorem dX2_find_14 : decode cX2_find 14 = .ok (.istore 4, 2) := by decide +kernel
theorem dX2_find_16 : decode cX2_find 16 = .ok (.iload 4, 2) := by decide +kernel
theorem dX2_find_18 : decode cX2_find 18 = .ok (.aload_n 0, 1) := by decide +kernel
theorem dX2_find_19 : decode cX2_find 19 = .ok (.getfield 18, 3) := by decide +kernel
theorem dX2_find_22 : decode cX2_find 22 = .ok (.getfield 34, 3) := by decide +kernel
theorem dX2_find_25 : decode cX2_find 25 = .ok (.if_icmp .ge 40, 3) := by decide +kernel
theorem dX2_find_28 : decode cX2_find 28 = .ok (.iload 4, 2) := by decide +kernel
theorem dX2_find_30 : decode cX2_find 30 = .ok (.iload_n 2, 1) := by decide +kernel
theorem dX2_find_31 : decode cX2_find 31 = .ok (.if_icmp .eq 28, 3) := by decide +kernel
theorem dX2_find_34 : decode cX2_find 34 = .ok (.aload_n 0, 1) := by decide +kernel
theorem dX2_find_35 : decode cX2_find 35 = .ok (.aload_n 1, 1) := by decide +kernel
theorem dX2_find_36 : decode cX2_find 36 = .ok (.iload 4, 2) := by decide +kernel
theorem dX2_find_38 : decode cX2_find 38 = .ok (.iload_n 3, 1) := by decide +kernel
theorem dX2_find_39 : decode cX2_find 39 = .ok (.invokevirtual 39, 3) := by decide +kernel
theorem dX2_find_42 : decode cX2_find 42 = .ok (.aload_n 0, 1) := by decide +kernel
theorem dX2_find_43 : decode cX2_find 43 = .ok (.getfield 12, 3) := by decide +kernel
theorem dX2_find_46 : decode cX2_find 46 = .ok (.getfield 43, 3) := by decide +kernel
theorem dX2_find_49 : decode cX2_find 49 = .ok (.iload 4, 2) := by decide +kernel
theorem dX2_find_51 : decode cX2_find 51 = .ok (.aload_n 1, 1) := by decide +kernel
theorem dX2_find_52 : decode cX2_find 52 = .ok (.getfield 43, 3) := by decide +kernel
theorem dX2_find_55 : decode cX2_find 55 = .ok (.iload 4, 2) := by decide +kernel
theorem dX2_find_57 : decode cX2_find 57 = .ok (.iaload, 1) := by decide +kernel
theorem dX2_find_58 : decode cX2_find 58 = .ok (.iastore, 1) := by decide +kernel
theorem dX2_find_59 : decode cX2_find 59 = .ok (.iinc 4 1, 3) := by decide +kernel
theorem dX2_find_62 : decode cX2_find 62 = .ok (.goto (-46), 3) := by decide +kernel
theorem dX2_find_65 : decode cX2_find 65 = .ok (.aload_n 0, 1) := by decide +kernel
theorem dX2_find_66 : decode cX2_find 66 = .ok (.getfield 26, 3) := by decide +kernel
theorem dX2_find_69 : decode cX2_find 69 = .ok (.iconst (-1), 1) := by decide +kernel
theorem dX2_find_70 : decode cX2_find 70 = .ok (.if_icmp .eq 7, 3) := by decide +kernel
theorem dX2_find_73 : decode cX2_find 73 = .ok (.iconst 1, 1) := by decide +kernel
theorem dX2_find_74 : decode cX2_find 74 = .ok (.goto 4, 3) := by decide +kernel
theorem dX2_find_77 : decode cX2_find 77 = .ok (.iconst 0, 1) := by decide +kernel
theorem dX2_find_78 : decode cX2_find 78 = .ok (.ireturn, 1) := by decide +kernel
theorem dX2_found_0 : decode cX2_found 0 = .ok (.iload_n 1, 1) := by decide +kernel
theorem dX2_found_1 : decode cX2_found 1 = .ok (.ifCond .ne 10, 3) := by decide +kernel
theorem dX2_found_4 : decode cX2_found 4 = .ok (.aload_n 0, 1) := by decide +kernel
theorem dX2_found_5 : decode cX2_found 5 = .ok (.getfield 26, 3) := by decide +kernel
theorem dX2_found_8 : decode cX2_found 8 = .ok (.goto 19, 3) := by decide +kernel
theorem dX2_found_11 : decode cX2_found 11 = .ok (.iload_n 1, 1) := by decide +kernel
theorem dX2_found_12 : decode cX2_found 12 = .ok (.iconst 1, 1) := by decide +kernel
theorem dX2_found_13 : decode cX2_found 13 = .ok (.if_icmp .ne 10, 3) := by decide +kernel
theorem dX2_found_16 : decode cX2_found 16 = .ok (.aload_n 0, 1) := by decide +kernel
theorem dX2_found_17 : decode cX2_found 17 = .ok (.getfield 47, 3) := by decide +kernel
theorem dX2_found_20 : decode cX2_found 20 = .ok (.goto 7, 3) := by decide +kernel
theorem dX2_found_23 : decode cX2_found 23 = .ok (.aload_n 0, 1) := by decide +kernel
theorem dX2_found_24 : decode cX2_found 24 = .ok (.getfield 49, 3) := by decide +kernel
theorem dX2_found_27 : decode cX2_found 27 = .ok (.ireturn, 1) := by decide +kernel
theorem dX2_tryWeights_0 : decode cX2_tryWeights 0 = .ok (.iconst 0, 1) := by decide +kernel
theorem dX2_tryWeights_1 : decode cX2_tryWeights 1 = .ok (.istore 4, 2) := by decide +kernel
theorem dX2_tryWeights_3 : decode cX2_tryWeights 3 = .ok (.iconst 0, 1) := by decide +kernel
theorem dX2_tryWeights_4 : decode cX2_tryWeights 4 = .ok (.istore 5, 2) := by decide +kernel
theorem dX2_tryWeights_6 : decode cX2_tryWeights 6 = .ok (.iconst 1, 1) := by decide +kernel
theorem dX2_tryWeights_7 : decode cX2_tryWeights 7 = .ok (.istore 6, 2) := by decide +kernel
theorem dX2_tryWeights_9 : decode cX2_tryWeights 9 = .ok (.iload 6, 2) := by decide +kernel
theorem dX2_tryWeights_11 : decode cX2_tryWeights 11 = .ok (.bipush 20, 2) := by decide +kernel
theorem dX2_tryWeights_13 : decode cX2_tryWeights 13 = .ok (.if_icmp .gt 136, 3) := by decide +kernel
theorem dX2_tryWeights_16 : decode cX2_tryWeights 16 = .ok (.iload 6, 2) := by decide +kernel
theorem dX2_tryWeights_18 : decode cX2_tryWeights 18 = .ok (.aload_n 1, 1) := by decide +kernel
theorem dX2_tryWeights_19 : decode cX2_tryWeights 19 = .ok (.getfield 43, 3) := by decide +kernel
theorem dX2_tryWeights_22 : decode cX2_tryWeights 22 = .ok (.iload_n 2, 1) := by decide +kernel
theorem dX2_tryWeights_23 : decode cX2_tryWeights 23 = .ok (.iaload, 1) := by decide +kernel
theorem dX2_tryWeights_24 : decode cX2_tryWeights 24 = .ok (.if_icmp .ne 6, 3) := by decide +kernel
theorem dX2_tryWeights_27 : decode cX2_tryWeights 27 = .ok (.goto 116, 3) := by decide +kernel
theorem dX2_tryWeights_30 : decode cX2_tryWeights 30 = .ok (.iload 4, 2) := by decide +kernel
theorem dX2_tryWeights_32 : decode cX2_tryWeights 32 = .ok (.ifCond .ne 49, 3) := by decide +kernel
theorem dX2_tryWeights_35 : decode cX2_tryWeights 35 = .ok (.aload_n 0, 1) := by decide +kernel
theorem dX2_tryWeights_36 : decode cX2_tryWeights 36 = .ok (.getfield 12, 3) := by decide +kernel
theorem dX2_tryWeights_39 : decode cX2_tryWeights 39 = .ok (.getfield 43, 3) := by decide +kernel
theorem dX2_tryWeights_42 : decode cX2_tryWeights 42 = .ok (.iload_n 2, 1) := by decide +kernel
theorem dX2_tryWeights_43 : decode cX2_tryWeights 43 = .ok (.iload 6, 2) := by decide +kernel
theorem dX2_tryWeights_45 : decode cX2_tryWeights 45 = .ok (.iastore, 1) := by decide +kernel
theorem dX2_tryWeights_46 : decode cX2_tryWeights 46 = .ok (.aload_n 0, 1) := by decide +kernel
theorem dX2_tryWeights_47 : decode cX2_tryWeights 47 = .ok (.getfield 22, 3) := by decide +kernel
theorem dX2_tryWeights_50 : decode cX2_tryWeights 50 = .ok (.aload_n 0, 1) := by decide +kernel
theorem dX2_tryWeights_51 : decode cX2_tryWeights 51 = .ok (.getfield 12, 3) := by decide +kernel
theorem dX2_tryWeights_54 : decode cX2_tryWeights 54 = .ok (.invokevirtual 52, 3) := by decide +kernel
theorem dX2_tryWeights_57 : decode cX2_tryWeights 57 = .ok (.istore 5, 2) := by decide +kernel
theorem dX2_tryWeights_59 : decode cX2_tryWeights 59 = .ok (.aload_n 0, 1) := by decide +kernel
theorem dX2_tryWeights_60 : decode cX2_tryWeights 60 = .ok (.getfield 22, 3) := by decide +kernel
theorem dX2_tryWeights_63 : decode cX2_tryWeights 63 = .ok (.aload_n 0, 1) := by decide +kernel
theorem dX2_tryWeights_64 : decode cX2_tryWeights 64 = .ok (.getfield 12, 3) := by decide +kernel
theorem dX2_tryWeights_67 : decode cX2_tryWeights 67 = .ok (.iload_n 2, 1) := by decide +kernel
theorem dX2_tryWeights_68 : decode cX2_tryWeights 68 = .ok (.invokevirtual 58, 3) := by decide +kernel
theorem dX2_tryWeights_71 : decode cX2_tryWeights 71 = .ok (.ifCond .ne 7, 3) := by decide +kernel
theorem dX2_tryWeights_74 : decode cX2_tryWeights 74 = .ok (.iconst 1, 1) := by decide +kernel
theorem dX2_tryWeights_75 : decode cX2_tryWeights 75 = .ok (.goto 4, 3) := by decide +kernel
theorem dX2_tryWeights_78 : decode cX2_tryWeights 78 = .ok (.iconst 0, 1) := by decide +kernel
theorem dX2_tryWeights_79 : decode cX2_tryWeights 79 = .ok (.istore 4, 2) := by decide +kernel
theorem dX2_tryWeights_81 : decode cX2_tryWeights 81 = .ok (.aload_n 0, 1) := by decide +kernel
theorem dX2_tryWeights_82 : decode cX2_tryWeights 82 = .ok (.getfield 26, 3) := by decide +kernel
theorem dX2_tryWeights_85 : decode cX2_tryWeights 85 = .ok (.iconst (-1), 1) := by decide +kernel
theorem dX2_tryWeights_86 : decode cX2_tryWeights 86 = .ok (.if_icmp .eq 12, 3) := by decide +kernel
theorem dX2_tryWeights_89 : decode cX2_tryWeights 89 = .ok (.iload 5, 2) := by decide +kernel
theorem dX2_tryWeights_91 : decode cX2_tryWeights 91 = .ok (.aload_n 0, 1) := by decide +kernel
theorem dX2_tryWeights_92 : decode cX2_tryWeights 92 = .ok (.getfield 49, 3) := by decide +kernel
theorem dX2_tryWeights_95 : decode cX2_tryWeights 95 = .ok (.if_icmp .ge 7, 3) := by decide +kernel
theorem dX2_tryWeights_98 : decode cX2_tryWeights 98 = .ok (.iconst 1, 1) := by decide +kernel
theorem dX2_tryWeights_99 : decode cX2_tryWeights 99 = .ok (.goto 4, 3) := by decide +kernel
theorem dX2_tryWeights_102 : decode cX2_tryWeights 102 = .ok (.iconst 0, 1) := by decide +kernel
theorem dX2_tryWeights_103 : decode cX2_tryWeights 103 = .ok (.istore 7, 2) := by decide +kernel
theorem dX2_tryWeights_105 : decode cX2_tryWeights 105 = .ok (.iload 7, 2) := by decide +kernel
theorem dX2_tryWeights_107 : decode cX2_tryWeights 107 = .ok (.ifCond .eq 36, 3) := by decide +kernel
theorem dX2_tryWeights_110 : decode cX2_tryWeights 110 = .ok (.iload_n 3, 1) := by decide +kernel
theorem dX2_tryWeights_111 : decode cX2_tryWeights 111 = .ok (.ifCond .eq 15, 3) := by decide +kernel
theorem dX2_tryWeights_114 : decode cX2_tryWeights 114 = .ok (.aload_n 1, 1) := by decide +kernel
theorem dX2_tryWeights_115 : decode cX2_tryWeights 115 = .ok (.iload_n 2, 1) := by decide +kernel
theorem dX2_tryWeights_116 : decode cX2_tryWeights 116 = .ok (.iload 6, 2) := by decide +kernel
theorem dX2_tryWeights_118 : decode cX2_tryWeights 118 = .ok (.iload 5, 2) := by decide +kernel
theorem dX2_tryWeights_120 : decode cX2_tryWeights 120 = .ok (.invokestatic 62, 3) := by decide +kernel
theorem dX2_tryWeights_123 : decode cX2_tryWeights 123 = .ok (.ifCond .eq 20, 3) := by decide +kernel
theorem dX2_tryWeights_126 : decode cX2_tryWeights 126 = .ok (.aload_n 0, 1) := by decide +kernel
theorem dX2_tryWeights_127 : decode cX2_tryWeights 127 = .ok (.iload_n 2, 1) := by decide +kernel
theorem dX2_tryWeights_128 : decode cX2_tryWeights 128 = .ok (.putfield 26, 3) := by decide +kernel
theorem dX2_tryWeights_131 : decode cX2_tryWeights 131 = .ok (.aload_n 0, 1) := by decide +kernel
theorem dX2_tryWeights_132 : decode cX2_tryWeights 132 = .ok (.iload 6, 2) := by decide +kernel
theorem dX2_tryWeights_134 : decode cX2_tryWeights 134 = .ok (.putfield 47, 3) := by decide +kernel
theorem dX2_tryWeights_137 : decode cX2_tryWeights 137 = .ok (.aload_n 0, 1) := by decide +kernel
theorem dX2_tryWeights_138 : decode cX2_tryWeights 138 = .ok (.iload 5, 2) := by decide +kernel
theorem dX2_tryWeights_140 : decode cX2_tryWeights 140 = .ok (.putfield 49, 3) := by decide +kernel
theorem dX2_tryWeights_143 : decode cX2_tryWeights 143 = .ok (.iinc 6 1, 3) := by decide +kernel
theorem dX2_tryWeights_146 : decode cX2_tryWeights 146 = .ok (.goto (-137), 3) := by decide +kernel
theorem dX2_tryWeights_149 : decode cX2_tryWeights 149 = .ok (.return_, 1) := by decide +kernel
theorem dX2_isFree_0 : decode cX2_isFree 0 = .ok (.iload_n 3, 1) := by decide +kernel
theorem dX2_isFree_1 : decode cX2_isFree 1 = .ok (.aload_n 0, 1) := by decide +kernel
theorem dX2_isFree_2 : decode cX2_isFree 2 = .ok (.getfield 66, 3) := by decide +kernel
theorem dX2_isFree_5 : decode cX2_isFree 5 = .ok (.if_icmp .lt 16, 3) := by decide +kernel
theorem dX2_isFree_8 : decode cX2_isFree 8 = .ok (.aload_n 0, 1) := by decide +kernel
theorem dX2_isFree_9 : decode cX2_isFree 9 = .ok (.aload_n 0, 1) := by decide +kernel
theorem dX2_isFree_10 : decode cX2_isFree 10 = .ok (.iload_n 1, 1) := by decide +kernel
theorem dX2_isFree_11 : decode cX2_isFree 11 = .ok (.iload_n 2, 1) := by decide +kernel
theorem dX2_isFree_12 : decode cX2_isFree 12 = .ok (.invokevirtual 69, 3) := by decide +kernel
theorem dX2_isFree_15 : decode cX2_isFree 15 = .ok (.invokevirtual 73, 3) := by decide +kernel
theorem dX2_isFree_18 : decode cX2_isFree 18 = .ok (.ifCond .ne 7, 3) := by decide +kernel
theorem dX2_isFree_21 : decode cX2_isFree 21 = .ok (.iconst 1, 1) := by decide +kernel
theorem dX2_isFree_22 : decode cX2_isFree 22 = .ok (.goto 4, 3) := by decide +kernel
theorem dX2_isFree_25 : decode cX2_isFree 25 = .ok (.iconst 0, 1) := by decide +kernel
theorem dX2_isFree_26 : decode cX2_isFree 26 = .ok (.ireturn, 1) := by decide +kernel
theorem dX3_init_0 : decode cX3_init 0 = .ok (.aload_n 0, 1) := by decide +kernel
theorem dX3_init_1 : decode cX3_init 1 = .ok (.invokespecial 3, 3) := by decide +kernel
theorem dX3_init_4 : decode cX3_init 4 = .ok (.aload_n 0, 1) := by decide +kernel
theorem dX3_init_5 : decode cX3_init 5 = .ok (.bipush 12, 2) := by decide +kernel
theorem dX3_init_7 : decode cX3_init 7 = .ok (.newarray .int, 2) := by decide +kernel
theorem dX3_init_9 : decode cX3_init 9 = .ok (.putfield 9, 3) := by decide +kernel
theorem dX3_init_12 : decode cX3_init 12 = .ok (.aload_n 0, 1) := by decide +kernel
theorem dX3_init_13 : decode cX3_init 13 = .ok (.bipush 12, 2) := by decide +kernel
theorem dX3_init_15 : decode cX3_init 15 = .ok (.newarray .int, 2) := by decide +kernel
theorem dX3_init_17 : decode cX3_init 17 = .ok (.putfield 15, 3) := by decide +kernel
theorem dX3_init_20 : decode cX3_init 20 = .ok (.aload_n 0, 1) := by decide +kernel
theorem dX3_init_21 : decode cX3_init 21 = .ok (.bipush 12, 2) := by decide +kernel
theorem dX3_init_23 : decode cX3_init 23 = .ok (.newarray .int, 2) := by decide +kernel
theorem dX3_init_25 : decode cX3_init 25 = .ok (.putfield 18, 3) := by decide +kernel
theorem dX3_init_28 : decode cX3_init 28 = .ok (.aload_n 0, 1) := by decide +kernel
theorem dX3_init_29 : decode cX3_init 29 = .ok (.bipush 12, 2) := by decide +kernel
theorem dX3_init_31 : decode cX3_init 31 = .ok (.newarray .int, 2) := by decide +kernel
theorem dX3_init_33 : decode cX3_init 33 = .ok (.putfield 21, 3) := by decide +kernel
theorem dX3_init_36 : decode cX3_init 36 = .ok (.aload_n 0, 1) := by decide +kernel
theorem dX3_init_37 : decode cX3_init 37 = .ok (.bipush 6, 2) := by decide +kernel
theorem dX3_init_39 : decode cX3_init 39 = .ok (.newarray .int, 2) := by decide +kernel
theorem dX3_init_41 : decode cX3_init 41 = .ok (.putfield 24, 3) := by decide +kernel
theorem dX3_init_44 : decode cX3_init 44 = .ok (.aload_n 0, 1) := by decide +kernel
theorem dX3_init_45 : decode cX3_init 45 = .ok (.bipush 6, 2) := by decide +kernel
theorem dX3_init_47 : decode cX3_init 47 = .ok (.newarray .int, 2) := by decide +kernel
theorem dX3_init_49 : decode cX3_init 49 = .ok (.putfield 27, 3) := by decide +kernel
theorem dX3_init_52 : decode cX3_init 52 = .ok (.aload_n 0, 1) := by decide +kernel
theorem dX3_init_53 : decode cX3_init 53 = .ok (.bipush 6, 2) := by decide +kernel
theorem dX3_init_55 : decode cX3_init 55 = .ok (.newarray .int, 2) := by decide +kernel
theorem dX3_init_57 : decode cX3_init 57 = .ok (.putfield 30, 3) := by decide +kernel
theorem dX3_init_60 : decode cX3_init 60 = .ok (.aload_n 0, 1) := by decide +kernel
theorem dX3_init_61 : decode cX3_init 61 = .ok (.bipush 7, 2) := by decide +kernel
theorem dX3_init_63 : decode cX3_init 63 = .ok (.newarray .boolean, 2) := by decide +kernel
theorem dX3_init_65 : decode cX3_init 65 = .ok (.putfield 33, 3) := by decide +kernel
theorem dX3_init_68 : decode cX3_init 68 = .ok (.return_, 1) := by decide +kernel
theorem dX3_clear_0 : decode cX3_clear 0 = .ok (.aload_n 0, 1) := by decide +kernel
theorem dX3_clear_1 : decode cX3_clear 1 = .ok (.iconst 4, 1) := by decide +kernel
theorem dX3_clear_2 : decode cX3_clear 2 = .ok (.putfield 37, 3) := by decide +kernel
theorem dX3_clear_5 : decode cX3_clear 5 = .ok (.aload_n 0, 1) := by decide +kernel
theorem dX3_clear_6 : decode cX3_clear 6 = .ok (.iconst 0, 1) := by decide +kernel
theorem dX3_clear_7 : decode cX3_clear 7 = .ok (.putfield 41, 3) := by decide +kernel
theorem dX3_clear_10 : decode cX3_clear 10 = .ok (.aload_n 0, 1) := by decide +kernel
theorem dX3_clear_11 : decode cX3_clear 11 = .ok (.iconst 0, 1) := by decide +kernel
theorem dX3_clear_12 : decode cX3_clear 12 = .ok (.putfield 44, 3) := by decide +kernel
theorem dX3_clear_15 : decode cX3_clear 15 = .ok (.iconst 0, 1) := by decide +kernel
theorem dX3_clear_16 : decode cX3_clear 16 = .ok (.istore_n 1, 1) := by decide +kernel
theorem dX3_clear_17 : decode cX3_clear 17 = .ok (.iload_n 1, 1) := by decide +kernel
theorem dX3_clear_18 : decode cX3_clear 18 = .ok (.bipush 7, 2) := by decide +kernel
theorem dX3_clear_20 : decode cX3_clear 20 = .ok (.if_icmp .ge 16, 3) := by decide +kernel
theorem dX3_clear_23 : decode cX3_clear 23 = .ok (.aload_n 0, 1) := by decide +kernel
theorem dX3_clear_24 : decode cX3_clear 24 = .ok (.getfield 33, 3) := by decide +kernel
theorem dX3_clear_27 : decode cX3_clear 27 = .ok (.iload_n 1, 1) := by decide +kernel
theorem dX3_clear_28 : decode cX3_clear 28 = .ok (.iconst 0, 1) := by decide +kernel
theorem dX3_clear_29 : decode cX3_clear 29 = .ok (.bastore, 1) := by decide +kernel
theorem dX3_clear_30 : decode cX3_clear 30 = .ok (.iinc 1 1, 3) := by decide +kernel
theorem dX3_clear_33 : decode cX3_clear 33 = .ok (.goto (-16), 3) := by decide +kernel
theorem dX3_clear_36 : decode cX3_clear 36 = .ok (.return_, 1) := by decide +kernel
theorem dX3_hasNode_0 : decode cX3_hasNode 0 = .ok (.iload_n 1, 1) := by decide +kernel
theorem dX3_hasNode_1 : decode cX3_hasNode 1 = .ok (.ifCond .lt 15, 3) := by decide +kernel
theorem dX3_hasNode_4 : decode cX3_hasNode 4 = .ok (.iload_n 1, 1) := by decide +kernel
theorem dX3_hasNode_5 : decode cX3_hasNode 5 = .ok (.aload_n 0, 1) := by decide +kernel
theorem dX3_hasNode_6 : decode cX3_hasNode 6 = .ok (.getfield 37, 3) := by decide +kernel
theorem dX3_hasNode_9 : decode cX3_hasNode 9 = .ok (.if_icmp .ge 7, 3) := by decide +kernel
theorem dX3_hasNode_12 : decode cX3_hasNode 12 = .ok (.iconst 1, 1) := by decide +kernel
theorem dX3_hasNode_13 : decode cX3_hasNode 13 = .ok (.goto 4, 3) := by decide +kernel
theorem dX3_hasNode_16 : decode cX3_hasNode 16 = .ok (.iconst 0, 1) := by decide +kernel
theorem dX3_hasNode_17 : decode cX3_hasNode 17 = .ok (.ireturn, 1) := by decide +kernel
theorem dX3_hasLink_0 : decode cX3_hasLink 0 = .ok (.iload_n 1, 1) := by decide +kernel
theorem dX3_hasLink_1 : decode cX3_hasLink 1 = .ok (.ifCond .lt 15, 3) := by decide +kernel
theorem dX3_hasLink_4 : decode cX3_hasLink 4 = .ok (.iload_n 1, 1) := by decide +kernel
theorem dX3_hasLink_5 : decode cX3_hasLink 5 = .ok (.aload_n 0, 1) := by decide +kernel
theorem dX3_hasLink_6 : decode cX3_hasLink 6 = .ok (.getfield 41, 3) := by decide +kernel
theorem dX3_hasLink_9 : decode cX3_hasLink 9 = .ok (.if_icmp .ge 7, 3) := by decide +kernel
theorem dX3_hasLink_12 : decode cX3_hasLink 12 = .ok (.iconst 1, 1) := by decide +kernel
theorem dX3_hasLink_13 : decode cX3_hasLink 13 = .ok (.goto 4, 3) := by decide +kernel
theorem dX3_hasLink_16 : decode cX3_hasLink 16 = .ok (.iconst 0, 1) := by decide +kernel
theorem dX3_hasLink_17 : decode cX3_hasLink 17 = .ok (.ireturn, 1) := by decide +kernel
theorem dX3_hasDemand_0 : decode cX3_hasDemand 0 = .ok (.iload_n 1, 1) := by decide +kernel
theorem dX3_hasDemand_1 : decode cX3_hasDemand 1 = .ok (.ifCond .lt 15, 3) := by decide +kernel
theorem dX3_hasDemand_4 : decode cX3_hasDemand 4 = .ok (.iload_n 1, 1) := by decide +kernel
theorem dX3_hasDemand_5 : decode cX3_hasDemand 5 = .ok (.aload_n 0, 1) := by decide +kernel
theorem dX3_hasDemand_6 : decode cX3_hasDemand 6 = .ok (.getfield 44, 3) := by decide +kernel
theorem dX3_hasDemand_9 : decode cX3_hasDemand 9 = .ok (.if_icmp .ge 7, 3) := by decide +kernel
theorem dX3_hasDemand_12 : decode cX3_hasDemand 12 = .ok (.iconst 1, 1) := by decide +kernel
theorem dX3_hasDemand_13 : decode cX3_hasDemand 13 = .ok (.goto 4, 3) := by decide +kernel
theorem dX3_hasDemand_16 : decode cX3_hasDemand 16 = .ok (.iconst 0, 1) := by decide +kernel
theorem dX3_hasDemand_17 : decode cX3_hasDemand 17 = .ok (.ireturn, 1) := by decide +kernel
theorem dX3_takeNodes_0 : decode cX3_takeNodes 0 = .ok (.aload_n 0, 1) := by decide +kernel
theorem dX3_takeNodes_1 : decode cX3_takeNodes 1 = .ok (.getfield 41, 3) := by decide +kernel
theorem dX3_takeNodes_4 : decode cX3_takeNodes 4 = .ok (.ifCond .gt 21, 3) := by decide +kernel
theorem dX3_takeNodes_7 : decode cX3_takeNodes 7 = .ok (.aload_n 0, 1) := by decide +kernel
theorem dX3_takeNodes_8 : decode cX3_takeNodes 8 = .ok (.getfield 44, 3) := by decide +kernel
theorem dX3_takeNodes_11 : decode cX3_takeNodes 11 = .ok (.ifCond .gt 14, 3) := by decide +kernel
theorem dX3_takeNodes_14 : decode cX3_takeNodes 14 = .ok (.iload_n 1, 1) := by decide +kernel
theorem dX3_takeNodes_15 : decode cX3_takeNodes 15 = .ok (.iconst 2, 1) := by decide +kernel
theorem dX3_takeNodes_16 : decode cX3_takeNodes 16 = .ok (.if_icmp .lt 9, 3) := by decide +kernel
theorem dX3_takeNodes_19 : decode cX3_takeNodes 19 = .ok (.iload_n 1, 1) := by decide +kernel
theorem dX3_takeNodes_20 : decode cX3_takeNodes 20 = .ok (.bipush 7, 2) := by decide +kernel
theorem dX3_takeNodes_22 : decode cX3_takeNodes 22 = .ok (.if_icmp .le 5, 3) := by decide +kernel
theorem dX3_takeNodes_25 : decode cX3_takeNodes 25 = .ok (.iconst 0, 1) := by decide +kernel
theorem dX3_takeNodes_26 : decode cX3_takeNodes 26 = .ok (.ireturn, 1) := by decide +kernel
theorem dX3_takeNodes_27 : decode cX3_takeNodes 27 = .ok (.aload_n 0, 1) := by decide +kernel
theorem dX3_takeNodes_28 : decode cX3_takeNodes 28 = .ok (.iload_n 1, 1) := by decide +kernel
theorem dX3_takeNodes_29 : decode cX3_takeNodes 29 = .ok (.putfield 37, 3) := by decide +kernel
theorem dX3_takeNodes_32 : decode cX3_takeNodes 32 = .ok (.iconst 1, 1) := by decide +kernel
theorem dX3_takeNodes_33 : decode cX3_takeNodes 33 = .ok (.ireturn, 1) := by decide +kernel
theorem dX3_takeLink_0 : decode cX3_takeLink 0 = .ok (.aload_n 0, 1) := by decide +kernel
theorem dX3_takeLink_1 : decode cX3_takeLink 1 = .ok (.getfield 41, 3) := by decide +kernel
theorem dX3_takeLink_4 : decode cX3_takeLink 4 = .ok (.bipush 12, 2) := by decide +kernel
theorem dX3_takeLink_6 : decode cX3_takeLink 6 = .ok (.if_icmp .ge 27, 3) := by decide +kernel
theorem dX3_takeLink_9 : decode cX3_takeLink 9 = .ok (.aload_n 0, 1) := by decide +kernel
theorem dX3_takeLink_10 : decode cX3_takeLink 10 = .ok (.iload_n 1, 1) := by decide +kernel
theorem dX3_takeLink_11 : decode cX3_takeLink 11 = .ok (.iload_n 2, 1) := by decide +kernel
theorem dX3_takeLink_12 : decode cX3_takeLink 12 = .ok (.invokevirtual 47, 3) := by decide +kernel
theorem dX3_takeLink_15 : decode cX3_takeLink 15 = .ok (.ifCond .eq 18, 3) := by decide +kernel
theorem dX3_takeLink_18 : decode cX3_takeLink 18 = .ok (.iload_n 3, 1) := by decide +kernel
theorem dX3_takeLink_19 : decode cX3_takeLink 19 = .ok (.invokestatic 51, 3) := by decide +kernel
theorem dX3_takeLink_22 : decode cX3_takeLink 22 = .ok (.ifCond .eq 11, 3) := by decide +kernel
theorem dX3_takeLink_25 : decode cX3_takeLink 25 = .ok (.iload 4, 2) := by decide +kernel
theorem dX3_takeLink_27 : decode cX3_takeLink 27 = .ok (.invokestatic 55, 3) := by decide +kernel
theorem dX3_takeLink_30 : decode cX3_takeLink 30 = .ok (.ifCond .ne 5, 3) := by decide +kernel
theorem dX3_takeLink_33 : decode cX3_takeLink 33 = .ok (.iconst 0, 1) := by decide +kernel
theorem dX3_takeLink_34 : decode cX3_takeLink 34 = .ok (.ireturn, 1) := by decide +kernel
theorem dX3_takeLink_35 : decode cX3_takeLink 35 = .ok (.aload_n 0, 1) := by decide +kernel
theorem dX3_takeLink_36 : decode cX3_takeLink 36 = .ok (.getfield 9, 3) := by decide +kernel
theorem dX3_takeLink_39 : decode cX3_takeLink 39 = .ok (.aload_n 0, 1) := by decide +kernel
theorem dX3_takeLink_40 : decode cX3_takeLink 40 = .ok (.getfield 41, 3) := by decide +kernel
theorem dX3_takeLink_43 : decode cX3_takeLink 43 = .ok (.iload_n 1, 1) := by decide +kernel
theorem dX3_takeLink_44 : decode cX3_takeLink 44 = .ok (.iastore, 1) := by decide +kernel
theorem dX3_takeLink_45 : decode cX3_takeLink 45 = .ok (.aload_n 0, 1) := by decide +kernel
theorem dX3_takeLink_46 : decode cX3_takeLink 46 = .ok (.getfield 15, 3) := by decide +kernel
theorem dX3_takeLink_49 : decode cX3_takeLink 49 = .ok (.aload_n 0, 1) := by decide +kernel
theorem dX3_takeLink_50 : decode cX3_takeLink 50 = .ok (.getfield 41, 3) := by decide +kernel
theorem dX3_takeLink_53 : decode cX3_takeLink 53 = .ok (.iload_n 2, 1) := by decide +kernel
theorem dX3_takeLink_54 : decode cX3_takeLink 54 = .ok (.iastore, 1) := by decide +kernel
theorem dX3_takeLink_55 : decode cX3_takeLink 55 = .ok (.aload_n 0, 1) := by decide +kernel
theorem dX3_takeLink_56 : decode cX3_takeLink 56 = .ok (.getfield 18, 3) := by decide +kernel
theorem dX3_takeLink_59 : decode cX3_takeLink 59 = .ok (.aload_n 0, 1) := by decide +kernel
theorem dX3_takeLink_60 : decode cX3_takeLink 60 = .ok (.getfield 41, 3) := by decide +kernel
theorem dX3_takeLink_63 : decode cX3_takeLink 63 = .ok (.iload_n 3, 1) := by decide +kernel
theorem dX3_takeLink_64 : decode cX3_takeLink 64 = .ok (.iastore, 1) := by decide +kernel
theorem dX3_takeLink_65 : decode cX3_takeLink 65 = .ok (.aload_n 0, 1) := by decide +kernel
theorem dX3_takeLink_66 : decode cX3_takeLink 66 = .ok (.getfield 21, 3) := by decide +kernel
theorem dX3_takeLink_69 : decode cX3_takeLink 69 = .ok (.aload_n 0, 1) := by decide +kernel
theorem dX3_takeLink_70 : decode cX3_takeLink 70 = .ok (.getfield 41, 3) := by decide +kernel
theorem dX3_takeLink_73 : decode cX3_takeLink 73 = .ok (.iload 4, 2) := by decide +kernel
theorem dX3_takeLink_75 : decode cX3_takeLink 75 = .ok (.iastore, 1) := by decide +kernel
theorem dX3_takeLink_76 : decode cX3_takeLink 76 = .ok (.aload_n 0, 1) := by decide +kernel
theorem dX3_takeLink_77 : decode cX3_takeLink 77 = .ok (.dup, 1) := by decide +kernel
theorem dX3_takeLink_78 : decode cX3_takeLink 78 = .ok (.getfield 41, 3) := by decide +kernel
theorem dX3_takeLink_81 : decode cX3_takeLink 81 = .ok (.iconst 1, 1) := by decide +kernel
theorem dX3_takeLink_82 : decode cX3_takeLink 82 = .ok (.iadd, 1) := by decide +kernel
theorem dX3_takeLink_83 : decode cX3_takeLink 83 = .ok (.putfield 41, 3) := by decide +kernel
theorem dX3_takeLink_86 : decode cX3_takeLink 86 = .ok (.iconst 1, 1) := by decide +kernel
theorem dX3_takeLink_87 : decode cX3_takeLink 87 = .ok (.ireturn, 1) := by decide +kernel
theorem dX3_takeDemand_0 : decode cX3_takeDemand 0 = .ok (.aload_n 0, 1) := by decide +kernel
theorem dX3_takeDemand_1 : decode cX3_takeDemand 1 = .ok (.getfield 44, 3) := by decide +kernel
theorem dX3_takeDemand_4 : decode cX3_takeDemand 4 = .ok (.bipush 6, 2) := by decide +kernel
theorem dX3_takeDemand_6 : decode cX3_takeDemand 6 = .ok (.if_icmp .ge 19, 3) := by decide +kernel
theorem dX3_takeDemand_9 : decode cX3_takeDemand 9 = .ok (.aload_n 0, 1) := by decide +kernel
theorem dX3_takeDemand_10 : decode cX3_takeDemand 10 = .ok (.iload_n 1, 1) := by decide +kernel
theorem dX3_takeDemand_11 : decode cX3_takeDemand 11 = .ok (.iload_n 2, 1) := by decide +kernel
theorem dX3_takeDemand_12 : decode cX3_takeDemand 12 = .ok (.invokevirtual 47, 3) := by decide +kernel
theorem dX3_takeDemand_15 : decode cX3_takeDemand 15 = .ok (.ifCond .eq 10, 3) := by decide +kernel
theorem dX3_takeDemand_18 : decode cX3_takeDemand 18 = .ok (.iload_n 3, 1) := by decide +kernel
theorem dX3_takeDemand_19 : decode cX3_takeDemand 19 = .ok (.invokestatic 51, 3) := by decide +kernel
theorem dX3_takeDemand_22 : decode cX3_takeDemand 22 = .ok (.ifCond .ne 5, 3) := by decide +kernel
theorem dX3_takeDemand_25 : decode cX3_takeDemand 25 = .ok (.iconst 0, 1) := by decide +kernel
theorem dX3_takeDemand_26 : decode cX3_takeDemand 26 = .ok (.ireturn, 1) := by decide +kernel
theorem dX3_takeDemand_27 : decode cX3_takeDemand 27 = .ok (.aload_n 0, 1) := by decide +kernel
theorem dX3_takeDemand_28 : decode cX3_takeDemand 28 = .ok (.getfield 24, 3) := by decide +kernel
theorem dX3_takeDemand_31 : decode cX3_takeDemand 31 = .ok (.aload_n 0, 1) := by decide +kernel
theorem dX3_takeDemand_32 : decode cX3_takeDemand 32 = .ok (.getfield 44, 3) := by decide +kernel
theorem dX3_takeDemand_35 : decode cX3_takeDemand 35 = .ok (.iload_n 1, 1) := by decide +kernel
theorem dX3_takeDemand_36 : decode cX3_takeDemand 36 = .ok (.iastore, 1) := by decide +kernel
theorem dX3_takeDemand_37 : decode cX3_takeDemand 37 = .ok (.aload_n 0, 1) := by decide +kernel
theorem dX3_takeDemand_38 : decode cX3_takeDemand 38 = .ok (.getfield 27, 3) := by decide +kernel
theorem dX3_takeDemand_41 : decode cX3_takeDemand 41 = .ok (.aload_n 0, 1) := by decide +kernel
theorem dX3_takeDemand_42 : decode cX3_takeDemand 42 = .ok (.getfield 44, 3) := by decide +kernel
theorem dX3_takeDemand_45 : decode cX3_takeDemand 45 = .ok (.iload_n 2, 1) := by decide +kernel
theorem dX3_takeDemand_46 : decode cX3_takeDemand 46 = .ok (.iastore, 1) := by decide +kernel
theorem dX3_takeDemand_47 : decode cX3_takeDemand 47 = .ok (.aload_n 0, 1) := by decide +kernel
theorem dX3_takeDemand_48 : decode cX3_takeDemand 48 = .ok (.getfield 30, 3) := by decide +kernel
theorem dX3_takeDemand_51 : decode cX3_takeDemand 51 = .ok (.aload_n 0, 1) := by decide +kernel
theorem dX3_takeDemand_52 : decode cX3_takeDemand 52 = .ok (.getfield 44, 3) := by decide +kernel
theorem dX3_takeDemand_55 : decode cX3_takeDemand 55 = .ok (.iload_n 3, 1) := by decide +kernel
theorem dX3_takeDemand_56 : decode cX3_takeDemand 56 = .ok (.iastore, 1) := by decide +kernel
theorem dX3_takeDemand_57 : decode cX3_takeDemand 57 = .ok (.aload_n 0, 1) := by decide +kernel
theorem dX3_takeDemand_58 : decode cX3_takeDemand 58 = .ok (.getfield 33, 3) := by decide +kernel
theorem dX3_takeDemand_61 : decode cX3_takeDemand 61 = .ok (.iload_n 2, 1) := by decide +kernel
theorem dX3_takeDemand_62 : decode cX3_takeDemand 62 = .ok (.iconst 1, 1) := by decide +kernel
theorem dX3_takeDemand_63 : decode cX3_takeDemand 63 = .ok (.bastore, 1) := by decide +kernel
theorem dX3_takeDemand_64 : decode cX3_takeDemand 64 = .ok (.aload_n 0, 1) := by decide +kernel
theorem dX3_takeDemand_65 : decode cX3_takeDemand 65 = .ok (.dup, 1) := by decide +kernel
theorem dX3_takeDemand_66 : decode cX3_takeDemand 66 = .ok (.getfield 44, 3) := by decide +kernel
theorem dX3_takeDemand_69 : decode cX3_takeDemand 69 = .ok (.iconst 1, 1) := by decide +kernel
theorem dX3_takeDemand_70 : decode cX3_takeDemand 70 = .ok (.iadd, 1) := by decide +kernel
theorem dX3_takeDemand_71 : decode cX3_takeDemand 71 = .ok (.putfield 44, 3) := by decide +kernel
theorem dX3_takeDemand_74 : decode cX3_takeDemand 74 = .ok (.iconst 1, 1) := by decide +kernel
theorem dX3_takeDemand_75 : decode cX3_takeDemand 75 = .ok (.ireturn, 1) := by decide +kernel
theorem dX3_areTwoNodes_0 : decode cX3_areTwoNodes 0 = .ok (.aload_n 0, 1) := by decide +kernel
theorem dX3_areTwoNodes_1 : decode cX3_areTwoNodes 1 = .ok (.iload_n 1, 1) := by decide +kernel
theorem dX3_areTwoNodes_2 : decode cX3_areTwoNodes 2 = .ok (.invokevirtual 58, 3) := by decide +kernel
theorem dX3_areTwoNodes_5 : decode cX3_areTwoNodes 5 = .ok (.ifCond .eq 20, 3) := by decide +kernel
theorem dX3_areTwoNodes_8 : decode cX3_areTwoNodes 8 = .ok (.aload_n 0, 1) := by decide +kernel
theorem dX3_areTwoNodes_9 : decode cX3_areTwoNodes 9 = .ok (.iload_n 2, 1) := by decide +kernel
theorem dX3_areTwoNodes_10 : decode cX3_areTwoNodes 10 = .ok (.invokevirtual 58, 3) := by decide +kernel
theorem dX3_areTwoNodes_13 : decode cX3_areTwoNodes 13 = .ok (.ifCond .eq 12, 3) := by decide +kernel
theorem dX3_areTwoNodes_16 : decode cX3_areTwoNodes 16 = .ok (.iload_n 1, 1) := by decide +kernel
theorem dX3_areTwoNodes_17 : decode cX3_areTwoNodes 17 = .ok (.iload_n 2, 1) := by decide +kernel
theorem dX3_areTwoNodes_18 : decode cX3_areTwoNodes 18 = .ok (.if_icmp .eq 7, 3) := by decide +kernel
theorem dX3_areTwoNodes_21 : decode cX3_areTwoNodes 21 = .ok (.iconst 1, 1) := by decide +kernel
theorem dX3_areTwoNodes_22 : decode cX3_areTwoNodes 22 = .ok (.goto 4, 3) := by decide +kernel
theorem dX3_areTwoNodes_25 : decode cX3_areTwoNodes 25 = .ok (.iconst 0, 1) := by decide +kernel
theorem dX3_areTwoNodes_26 : decode cX3_areTwoNodes 26 = .ok (.ireturn, 1) := by decide +kernel
theorem dX3_isSize_0 : decode cX3_isSize 0 = .ok (.iload_n 0, 1) := by decide +kernel
theorem dX3_isSize_1 : decode cX3_isSize 1 = .ok (.iconst 1, 1) := by decide +kernel
theorem dX3_isSize_2 : decode cX3_isSize 2 = .ok (.if_icmp .lt 13, 3) := by decide +kernel
theorem dX3_isSize_5 : decode cX3_isSize 5 = .ok (.iload_n 0, 1) := by decide +kernel
theorem dX3_isSize_6 : decode cX3_isSize 6 = .ok (.bipush 99, 2) := by decide +kernel
theorem dX3_isSize_8 : decode cX3_isSize 8 = .ok (.if_icmp .gt 7, 3) := by decide +kernel
theorem dX3_isSize_11 : decode cX3_isSize 11 = .ok (.iconst 1, 1) := by decide +kernel
theorem dX3_isSize_12 : decode cX3_isSize 12 = .ok (.goto 4, 3) := by decide +kernel
theorem dX3_isSize_15 : decode cX3_isSize 15 = .ok (.iconst 0, 1) := by decide +kernel
theorem dX3_isSize_16 : decode cX3_isSize 16 = .ok (.ireturn, 1) := by decide +kernel
theorem dX4_init_0 : decode cX4_init 0 = .ok (.aload_n 0, 1) := by decide +kernel
theorem dX4_init_1 : decode cX4_init 1 = .ok (.invokespecial 3, 3) := by decide +kernel
theorem dX4_init_4 : decode cX4_init 4 = .ok (.aload_n 0, 1) := by decide +kernel
theorem dX4_init_5 : decode cX4_init 5 = .ok (.bipush 6, 2) := by decide +kernel
theorem dX4_init_7 : decode cX4_init 7 = .ok (.anewarray 9, 3) := by decide +kernel
theorem dX4_init_10 : decode cX4_init 10 = .ok (.putfield 11, 3) := by decide +kernel
theorem dX4_init_13 : decode cX4_init 13 = .ok (.iconst 0, 1) := by decide +kernel
theorem dX4_init_14 : decode cX4_init 14 = .ok (.istore_n 1, 1) := by decide +kernel
theorem dX4_init_15 : decode cX4_init 15 = .ok (.iload_n 1, 1) := by decide +kernel
theorem dX4_init_16 : decode cX4_init 16 = .ok (.bipush 6, 2) := by decide +kernel
theorem dX4_init_18 : decode cX4_init 18 = .ok (.if_icmp .ge 22, 3) := by decide +kernel
theorem dX4_init_21 : decode cX4_init 21 = .ok (.aload_n 0, 1) := by decide +kernel
theorem dX4_init_22 : decode cX4_init 22 = .ok (.getfield 11, 3) := by decide +kernel
theorem dX4_init_25 : decode cX4_init 25 = .ok (.iload_n 1, 1) := by decide +kernel
theorem dX4_init_26 : decode cX4_init 26 = .ok (.new 9, 3) := by decide +kernel
theorem dX4_init_29 : decode cX4_init 29 = .ok (.dup, 1) := by decide +kernel
theorem dX4_init_30 : decode cX4_init 30 = .ok (.invokespecial 17, 3) := by decide +kernel
theorem dX4_init_33 : decode cX4_init 33 = .ok (.aastore, 1) := by decide +kernel
theorem dX4_init_34 : decode cX4_init 34 = .ok (.iinc 1 1, 3) := by decide +kernel
theorem dX4_init_37 : decode cX4_init 37 = .ok (.goto (-22), 3) := by decide +kernel
theorem dX4_init_40 : decode cX4_init 40 = .ok (.return_, 1) := by decide +kernel
theorem dX4_keep_0 : decode cX4_keep 0 = .ok (.aload_n 0, 1) := by decide +kernel
theorem dX4_keep_1 : decode cX4_keep 1 = .ok (.getfield 11, 3) := by decide +kernel
theorem dX4_keep_4 : decode cX4_keep 4 = .ok (.aload_n 0, 1) := by decide +kernel
theorem dX4_keep_5 : decode cX4_keep 5 = .ok (.getfield 18, 3) := by decide +kernel
theorem dX4_keep_8 : decode cX4_keep 8 = .ok (.aaload, 1) := by decide +kernel
theorem dX4_keep_9 : decode cX4_keep 9 = .ok (.aload_n 1, 1) := by decide +kernel
theorem dX4_keep_10 : decode cX4_keep 10 = .ok (.invokevirtual 22, 3) := by decide +kernel
theorem dX4_keep_13 : decode cX4_keep 13 = .ok (.aload_n 0, 1) := by decide +kernel
theorem dX4_keep_14 : decode cX4_keep 14 = .ok (.aload_n 0, 1) := by decide +kernel
theorem dX4_keep_15 : decode cX4_keep 15 = .ok (.getfield 18, 3) := by decide +kernel
theorem dX4_keep_18 : decode cX4_keep 18 = .ok (.iconst 1, 1) := by decide +kernel
theorem dX4_keep_19 : decode cX4_keep 19 = .ok (.iadd, 1) := by decide +kernel
theorem dX4_keep_20 : decode cX4_keep 20 = .ok (.bipush 6, 2) := by decide +kernel
theorem dX4_keep_22 : decode cX4_keep 22 = .ok (.irem, 1) := by decide +kernel
theorem dX4_keep_23 : decode cX4_keep 23 = .ok (.putfield 18, 3) := by decide +kernel
theorem dX4_keep_26 : decode cX4_keep 26 = .ok (.aload_n 0, 1) := by decide +kernel
theorem dX4_keep_27 : decode cX4_keep 27 = .ok (.aload_n 0, 1) := by decide +kernel
theorem dX4_keep_28 : decode cX4_keep 28 = .ok (.getfield 26, 3) := by decide +kernel
theorem dX4_keep_31 : decode cX4_keep 31 = .ok (.iconst 1, 1) := by decide +kernel
theorem dX4_keep_32 : decode cX4_keep 32 = .ok (.iadd, 1) := by decide +kernel
theorem dX4_keep_33 : decode cX4_keep 33 = .ok (.bipush 6, 2) := by decide +kernel
theorem dX4_keep_35 : decode cX4_keep 35 = .ok (.invokestatic 29, 3) := by decide +kernel
theorem dX4_keep_38 : decode cX4_keep 38 = .ok (.putfield 26, 3) := by decide +kernel
theorem dX4_keep_41 : decode cX4_keep 41 = .ok (.return_, 1) := by decide +kernel
theorem dX4_giveBack_0 : decode cX4_giveBack 0 = .ok (.aload_n 0, 1) := by decide +kernel
theorem dX4_giveBack_1 : decode cX4_giveBack 1 = .ok (.getfield 26, 3) := by decide +kernel
theorem dX4_giveBack_4 : decode cX4_giveBack 4 = .ok (.ifCond .ne 5, 3) := by decide +kernel
theorem dX4_giveBack_7 : decode cX4_giveBack 7 = .ok (.iconst 0, 1) := by decide +kernel
theorem dX4_giveBack_8 : decode cX4_giveBack 8 = .ok (.ireturn, 1) := by decide +kernel
theorem dX4_giveBack_9 : decode cX4_giveBack 9 = .ok (.aload_n 0, 1) := by decide +kernel
theorem dX4_giveBack_10 : decode cX4_giveBack 10 = .ok (.aload_n 0, 1) := by decide +kernel
theorem dX4_giveBack_11 : decode cX4_giveBack 11 = .ok (.getfield 18, 3) := by decide +kernel
theorem dX4_giveBack_14 : decode cX4_giveBack 14 = .ok (.bipush 6, 2) := by decide +kernel
theorem dX4_giveBack_16 : decode cX4_giveBack 16 = .ok (.iadd, 1) := by decide +kernel
theorem dX4_giveBack_17 : decode cX4_giveBack 17 = .ok (.iconst 1, 1) := by decide +kernel
theorem dX4_giveBack_18 : decode cX4_giveBack 18 = .ok (.isub, 1) := by decide +kernel
theorem dX4_giveBack_19 : decode cX4_giveBack 19 = .ok (.bipush 6, 2) := by decide +kernel
theorem dX4_giveBack_21 : decode cX4_giveBack 21 = .ok (.irem, 1) := by decide +kernel
theorem dX4_giveBack_22 : decode cX4_giveBack 22 = .ok (.putfield 18, 3) := by decide +kernel
theorem dX4_giveBack_25 : decode cX4_giveBack 25 = .ok (.aload_n 0, 1) := by decide +kernel
theorem dX4_giveBack_26 : decode cX4_giveBack 26 = .ok (.dup, 1) := by decide +kernel
theorem dX4_giveBack_27 : decode cX4_giveBack 27 = .ok (.getfield 26, 3) := by decide +kernel
theorem dX4_giveBack_30 : decode cX4_giveBack 30 = .ok (.iconst 1, 1) := by decide +kernel
theorem dX4_giveBack_31 : decode cX4_giveBack 31 = .ok (.isub, 1) := by decide +kernel
theorem dX4_giveBack_32 : decode cX4_giveBack 32 = .ok (.putfield 26, 3) := by decide +kernel
theorem dX4_giveBack_35 : decode cX4_giveBack 35 = .ok (.aload_n 1, 1) := by decide +kernel
theorem dX4_giveBack_36 : decode cX4_giveBack 36 = .ok (.aload_n 0, 1) := by decide +kernel
theorem dX4_giveBack_37 : decode cX4_giveBack 37 = .ok (.getfield 11, 3) := by decide +kernel
theorem dX4_giveBack_40 : decode cX4_giveBack 40 = .ok (.aload_n 0, 1) := by decide +kernel
theorem dX4_giveBack_41 : decode cX4_giveBack 41 = .ok (.getfield 18, 3) := by decide +kernel
theorem dX4_giveBack_44 : decode cX4_giveBack 44 = .ok (.aaload, 1) := by decide +kernel
theorem dX4_giveBack_45 : decode cX4_giveBack 45 = .ok (.invokevirtual 22, 3) := by decide +kernel
theorem dX4_giveBack_48 : decode cX4_giveBack 48 = .ok (.iconst 1, 1) := by decide +kernel
theorem dX4_giveBack_49 : decode cX4_giveBack 49 = .ok (.ireturn, 1) := by decide +kernel
theorem dX5_init_0 : decode cX5_init 0 = .ok (.aload_n 0, 1) := by decide +kernel
theorem dX5_init_1 : decode cX5_init 1 = .ok (.invokespecial 3, 3) := by decide +kernel
theorem dX5_init_4 : decode cX5_init 4 = .ok (.aload_n 0, 1) := by decide +kernel
theorem dX5_init_5 : decode cX5_init 5 = .ok (.iconst 4, 1) := by decide +kernel
theorem dX5_init_6 : decode cX5_init 6 = .ok (.newarray .int, 2) := by decide +kernel
theorem dX5_init_8 : decode cX5_init 8 = .ok (.putfield 11, 3) := by decide +kernel
theorem dX5_init_11 : decode cX5_init 11 = .ok (.return_, 1) := by decide +kernel
theorem dX5_read_0 : decode cX5_read 0 = .ok (.aload_n 2, 1) := by decide +kernel
theorem dX5_read_1 : decode cX5_read 1 = .ok (.invokevirtual 15, 3) := by decide +kernel
theorem dX5_read_4 : decode cX5_read 4 = .ok (.iconst 0, 1) := by decide +kernel
theorem dX5_read_5 : decode cX5_read 5 = .ok (.istore_n 3, 1) := by decide +kernel
theorem dX5_read_6 : decode cX5_read 6 = .ok (.iconst 0, 1) := by decide +kernel
theorem dX5_read_7 : decode cX5_read 7 = .ok (.istore 4, 2) := by decide +kernel
theorem dX5_read_9 : decode cX5_read 9 = .ok (.iload 4, 2) := by decide +kernel
theorem dX5_read_11 : decode cX5_read 11 = .ok (.aload_n 1, 1) := by decide +kernel
theorem dX5_read_12 : decode cX5_read 12 = .ok (.getfield 20, 3) := by decide +kernel
theorem dX5_read_15 : decode cX5_read 15 = .ok (.if_icmp .ge 40, 3) := by decide +kernel
theorem dX5_read_18 : decode cX5_read 18 = .ok (.aload_n 1, 1) := by decide +kernel
theorem dX5_read_19 : decode cX5_read 19 = .ok (.getfield 26, 3) := by decide +kernel
theorem dX5_read_22 : decode cX5_read 22 = .ok (.iload 4, 2) := by decide +kernel
theorem dX5_read_24 : decode cX5_read 24 = .ok (.iaload, 1) := by decide +kernel
theorem dX5_read_25 : decode cX5_read 25 = .ok (.bipush 59, 2) := by decide +kernel
theorem dX5_read_27 : decode cX5_read 27 = .ok (.if_icmp .ne 22, 3) := by decide +kernel
theorem dX5_read_30 : decode cX5_read 30 = .ok (.aload_n 0, 1) := by decide +kernel
theorem dX5_read_31 : decode cX5_read 31 = .ok (.aload_n 1, 1) := by decide +kernel
theorem dX5_read_32 : decode cX5_read 32 = .ok (.iload_n 3, 1) := by decide +kernel
theorem dX5_read_33 : decode cX5_read 33 = .ok (.iload 4, 2) := by decide +kernel
theorem dX5_read_35 : decode cX5_read 35 = .ok (.aload_n 2, 1) := by decide +kernel
theorem dX5_read_36 : decode cX5_read 36 = .ok (.invokevirtual 29, 3) := by decide +kernel
theorem dX5_read_39 : decode cX5_read 39 = .ok (.ifCond .ne 5, 3) := by decide +kernel
theorem dX5_read_42 : decode cX5_read 42 = .ok (.iload_n 3, 1) := by decide +kernel
theorem dX5_read_43 : decode cX5_read 43 = .ok (.ireturn, 1) := by decide +kernel
theorem dX5_read_44 : decode cX5_read 44 = .ok (.iload 4, 2) := by decide +kernel
theorem dX5_read_46 : decode cX5_read 46 = .ok (.iconst 1, 1) := by decide +kernel
theorem dX5_read_47 : decode cX5_read 47 = .ok (.iadd, 1) := by decide +kernel
theorem dX5_read_48 : decode cX5_read 48 = .ok (.istore_n 3, 1) := by decide +kernel
theorem dX5_read_49 : decode cX5_read 49 = .ok (.iinc 4 1, 3) := by decide +kernel
theorem dX5_read_52 : decode cX5_read 52 = .ok (.goto (-43), 3) := by decide +kernel
theorem dX5_read_55 : decode cX5_read 55 = .ok (.iload_n 3, 1) := by decide +kernel
theorem dX5_read_56 : decode cX5_read 56 = .ok (.aload_n 1, 1) := by decide +kernel
theorem dX5_read_57 : decode cX5_read 57 = .ok (.getfield 20, 3) := by decide +kernel
theorem dX5_read_60 : decode cX5_read 60 = .ok (.if_icmp .ge 7, 3) := by decide +kernel
theorem dX5_read_63 : decode cX5_read 63 = .ok (.iload_n 3, 1) := by decide +kernel
theorem dX5_read_64 : decode cX5_read 64 = .ok (.goto 5, 3) := by decide +kernel
theorem dX5_read_67 : decode cX5_read 67 = .ok (.bipush (-4), 2) := by decide +kernel
theorem dX5_read_69 : decode cX5_read 69 = .ok (.ireturn, 1) := by decide +kernel
theorem dX5_takeItem_0 : decode cX5_takeItem 0 = .ok (.iload_n 2, 1) := by decide +kernel
theorem dX5_takeItem_1 : decode cX5_takeItem 1 = .ok (.iload_n 3, 1) := by decide +kernel
theorem dX5_takeItem_2 : decode cX5_takeItem 2 = .ok (.if_icmp .lt 5, 3) := by decide +kernel
theorem dX5_takeItem_5 : decode cX5_takeItem 5 = .ok (.iconst 0, 1) := by decide +kernel
theorem dX5_takeItem_6 : decode cX5_takeItem 6 = .ok (.ireturn, 1) := by decide +kernel
theorem dX5_takeItem_7 : decode cX5_takeItem 7 = .ok (.aload_n 0, 1) := by decide +kernel
theorem dX5_takeItem_8 : decode cX5_takeItem 8 = .ok (.aload_n 1, 1) := by decide +kernel
theorem dX5_takeItem_9 : decode cX5_takeItem 9 = .ok (.iload_n 2, 1) := by decide +kernel
theorem dX5_takeItem_10 : decode cX5_takeItem 10 = .ok (.iconst 1, 1) := by decide +kernel
theorem dX5_takeItem_11 : decode cX5_takeItem 11 = .ok (.iadd, 1) := by decide +kernel
theorem dX5_takeItem_12 : decode cX5_takeItem 12 = .ok (.iload_n 3, 1) := by decide +kernel
theorem dX5_takeItem_13 : decode cX5_takeItem 13 = .ok (.invokevirtual 33, 3) := by decide +kernel
theorem dX5_takeItem_16 : decode cX5_takeItem 16 = .ok (.istore 5, 2) := by decide +kernel
theorem dX5_takeItem_18 : decode cX5_takeItem 18 = .ok (.aload_n 1, 1) := by decide +kernel
theorem dX5_takeItem_19 : decode cX5_takeItem 19 = .ok (.getfield 26, 3) := by decide +kernel
theorem dX5_takeItem_22 : decode cX5_takeItem 22 = .ok (.iload_n 2, 1) := by decide +kernel
theorem dX5_takeItem_23 : decode cX5_takeItem 23 = .ok (.iaload, 1) := by decide +kernel
theorem dX5_takeItem_24 : decode cX5_takeItem 24 = .ok (.lookupswitch 144 #[(100, 106), (108, 62), (110, 36)], 36) := by decide +kernel
theorem dX5_takeItem_60 : decode cX5_takeItem 60 = .ok (.iload 5, 2) := by decide +kernel
theorem dX5_takeItem_62 : decode cX5_takeItem 62 = .ok (.iconst 1, 1) := by decide +kernel
theorem dX5_takeItem_63 : decode cX5_takeItem 63 = .ok (.if_icmp .ne 21, 3) := by decide +kernel
theorem dX5_takeItem_66 : decode cX5_takeItem 66 = .ok (.aload 4, 2) := by decide +kernel
theorem dX5_takeItem_68 : decode cX5_takeItem 68 = .ok (.aload_n 0, 1) := by decide +kernel
theorem dX5_takeItem_69 : decode cX5_takeItem 69 = .ok (.getfield 11, 3) := by decide +kernel
theorem dX5_takeItem_72 : decode cX5_takeItem 72 = .ok (.iconst 0, 1) := by decide +kernel
theorem dX5_takeItem_73 : decode cX5_takeItem 73 = .ok (.iaload, 1) := by decide +kernel
theorem dX5_takeItem_74 : decode cX5_takeItem 74 = .ok (.invokevirtual 37, 3) := by decide +kernel
theorem dX5_takeItem_77 : decode cX5_takeItem 77 = .ok (.ifCond .eq 7, 3) := by decide +kernel
theorem dX5_takeItem_80 : decode cX5_takeItem 80 = .ok (.iconst 1, 1) := by decide +kernel
theorem dX5_takeItem_81 : decode cX5_takeItem 81 = .ok (.goto 4, 3) := by decide +kernel
theorem dX5_takeItem_84 : decode cX5_takeItem 84 = .ok (.iconst 0, 1) := by decide +kernel
theorem dX5_takeItem_85 : decode cX5_takeItem 85 = .ok (.ireturn, 1) := by decide +kernel
theorem dX5_takeItem_86 : decode cX5_takeItem 86 = .ok (.iload 5, 2) := by decide +kernel
theorem dX5_takeItem_88 : decode cX5_takeItem 88 = .ok (.iconst 4, 1) := by decide +kernel
theorem dX5_takeItem_89 : decode cX5_takeItem 89 = .ok (.if_icmp .ne 39, 3) := by decide +kernel
theorem dX5_takeItem_92 : decode cX5_takeItem 92 = .ok (.aload 4, 2) := by decide +kernel
theorem dX5_takeItem_94 : decode cX5_takeItem 94 = .ok (.aload_n 0, 1) := by decide +kernel
theorem dX5_takeItem_95 : decode cX5_takeItem 95 = .ok (.getfield 11, 3) := by decide +kernel
theorem dX5_takeItem_98 : decode cX5_takeItem 98 = .ok (.iconst 0, 1) := by decide +kernel
theorem dX5_takeItem_99 : decode cX5_takeItem 99 = .ok (.iaload, 1) := by decide +kernel
theorem dX5_takeItem_100 : decode cX5_takeItem 100 = .ok (.aload_n 0, 1) := by decide +kernel
theorem dX5_takeItem_101 : decode cX5_takeItem 101 = .ok (.getfield 11, 3) := by decide +kernel
theorem dX5_takeItem_104 : decode cX5_takeItem 104 = .ok (.iconst 1, 1) := by decide +kernel
theorem dX5_takeItem_105 : decode cX5_takeItem 105 = .ok (.iaload, 1) := by decide +kernel
theorem dX5_takeItem_106 : decode cX5_takeItem 106 = .ok (.aload_n 0, 1) := by decide +kernel
theorem dX5_takeItem_107 : decode cX5_takeItem 107 = .ok (.getfield 11, 3) := by decide +kernel
theorem dX5_takeItem_110 : decode cX5_takeItem 110 = .ok (.iconst 2, 1) := by decide +kernel
theorem dX5_takeItem_111 : decode cX5_takeItem 111 = .ok (.iaload, 1) := by decide +kernel
theorem dX5_takeItem_112 : decode cX5_takeItem 112 = .ok (.aload_n 0, 1) := by decide +kernel
theorem dX5_takeItem_113 : decode cX5_takeItem 113 = .ok (.getfield 11, 3) := by decide +kernel
theorem dX5_takeItem_116 : decode cX5_takeItem 116 = .ok (.iconst 3, 1) := by decide +kernel
theorem dX5_takeItem_117 : decode cX5_takeItem 117 = .ok (.iaload, 1) := by decide +kernel
theorem dX5_takeItem_118 : decode cX5_takeItem 118 = .ok (.invokevirtual 41, 3) := by decide +kernel
theorem dX5_takeItem_121 : decode cX5_takeItem 121 = .ok (.ifCond .eq 7, 3) := by decide +kernel
theorem dX5_takeItem_124 : decode cX5_takeItem 124 = .ok (.iconst 1, 1) := by decide +kernel
theorem dX5_takeItem_125 : decode cX5_takeItem 125 = .ok (.goto 4, 3) := by decide +kernel
theorem dX5_takeItem_128 : decode cX5_takeItem 128 = .ok (.iconst 0, 1) := by decide +kernel
theorem dX5_takeItem_129 : decode cX5_takeItem 129 = .ok (.ireturn, 1) := by decide +kernel
theorem dX5_takeItem_130 : decode cX5_takeItem 130 = .ok (.iload 5, 2) := by decide +kernel
theorem dX5_takeItem_132 : decode cX5_takeItem 132 = .ok (.iconst 3, 1) := by decide +kernel
theorem dX5_takeItem_133 : decode cX5_takeItem 133 = .ok (.if_icmp .ne 33, 3) := by decide +kernel
theorem dX5_takeItem_136 : decode cX5_takeItem 136 = .ok (.aload 4, 2) := by decide +kernel
theorem dX5_takeItem_138 : decode cX5_takeItem 138 = .ok (.aload_n 0, 1) := by decide +kernel
theorem dX5_takeItem_139 : decode cX5_takeItem 139 = .ok (.getfield 11, 3) := by decide +kernel
theorem dX5_takeItem_142 : decode cX5_takeItem 142 = .ok (.iconst 0, 1) := by decide +kernel
theorem dX5_takeItem_143 : decode cX5_takeItem 143 = .ok (.iaload, 1) := by decide +kernel
theorem dX5_takeItem_144 : decode cX5_takeItem 144 = .ok (.aload_n 0, 1) := by decide +kernel
theorem dX5_takeItem_145 : decode cX5_takeItem 145 = .ok (.getfield 11, 3) := by decide +kernel
theorem dX5_takeItem_148 : decode cX5_takeItem 148 = .ok (.iconst 1, 1) := by decide +kernel
theorem dX5_takeItem_149 : decode cX5_takeItem 149 = .ok (.iaload, 1) := by decide +kernel
theorem dX5_takeItem_150 : decode cX5_takeItem 150 = .ok (.aload_n 0, 1) := by decide +kernel
theorem dX5_takeItem_151 : decode cX5_takeItem 151 = .ok (.getfield 11, 3) := by decide +kernel
theorem dX5_takeItem_154 : decode cX5_takeItem 154 = .ok (.iconst 2, 1) := by decide +kernel
theorem dX5_takeItem_155 : decode cX5_takeItem 155 = .ok (.iaload, 1) := by decide +kernel
theorem dX5_takeItem_156 : decode cX5_takeItem 156 = .ok (.invokevirtual 45, 3) := by decide +kernel
theorem dX5_takeItem_159 : decode cX5_takeItem 159 = .ok (.ifCond .eq 7, 3) := by decide +kernel
theorem dX5_takeItem_162 : decode cX5_takeItem 162 = .ok (.iconst 1, 1) := by decide +kernel
theorem dX5_takeItem_163 : decode cX5_takeItem 163 = .ok (.goto 4, 3) := by decide +kernel
theorem dX5_takeItem_166 : decode cX5_takeItem 166 = .ok (.iconst 0, 1) := by decide +kernel
theorem dX5_takeItem_167 : decode cX5_takeItem 167 = .ok (.ireturn, 1) := by decide +kernel
theorem dX5_takeItem_168 : decode cX5_takeItem 168 = .ok (.iconst 0, 1) := by decide +kernel
theorem dX5_takeItem_169 : decode cX5_takeItem 169 = .ok (.ireturn, 1) := by decide +kernel
theorem dX5_takeNumbers_0 : decode cX5_takeNumbers 0 = .ok (.iconst 0, 1) := by decide +kernel
theorem dX5_takeNumbers_1 : decode cX5_takeNumbers 1 = .ok (.istore 4, 2) := by decide +kernel
theorem dX5_takeNumbers_3 : decode cX5_takeNumbers 3 = .ok (.iconst 0, 1) := by decide +kernel
theorem dX5_takeNumbers_4 : decode cX5_takeNumbers 4 = .ok (.istore 5, 2) := by decide +kernel
theorem dX5_takeNumbers_6 : decode cX5_takeNumbers 6 = .ok (.iconst 0, 1) := by decide +kernel
theorem dX5_takeNumbers_7 : decode cX5_takeNumbers 7 = .ok (.istore 6, 2) := by decide +kernel
theorem dX5_takeNumbers_9 : decode cX5_takeNumbers 9 = .ok (.iload_n 2, 1) := by decide +kernel
theorem dX5_takeNumbers_10 : decode cX5_takeNumbers 10 = .ok (.istore 7, 2) := by decide +kernel
theorem dX5_takeNumbers_12 : decode cX5_takeNumbers 12 = .ok (.iload 7, 2) := by decide +kernel
theorem dX5_takeNumbers_14 : decode cX5_takeNumbers 14 = .ok (.iload_n 3, 1) := by decide +kernel
theorem dX5_takeNumbers_15 : decode cX5_takeNumbers 15 = .ok (.if_icmp .gt 111, 3) := by decide +kernel
theorem dX5_takeNumbers_18 : decode cX5_takeNumbers 18 = .ok (.iload 7, 2) := by decide +kernel
theorem dX5_takeNumbers_20 : decode cX5_takeNumbers 20 = .ok (.iload_n 3, 1) := by decide +kernel
theorem dX5_takeNumbers_21 : decode cX5_takeNumbers 21 = .ok (.if_icmp .ge 13, 3) := by decide +kernel
theorem dX5_takeNumbers_24 : decode cX5_takeNumbers 24 = .ok (.aload_n 1, 1) := by decide +kernel
theorem dX5_takeNumbers_25 : decode cX5_takeNumbers 25 = .ok (.getfield 26, 3) := by decide +kernel
theorem dX5_takeNumbers_28 : decode cX5_takeNumbers 28 = .ok (.iload 7, 2) := by decide +kernel
theorem dX5_takeNumbers_30 : decode cX5_takeNumbers 30 = .ok (.iaload, 1) := by decide +kernel
theorem dX5_takeNumbers_31 : decode cX5_takeNumbers 31 = .ok (.goto 5, 3) := by decide +kernel
theorem dX5_takeNumbers_34 : decode cX5_takeNumbers 34 = .ok (.bipush 44, 2) := by decide +kernel
theorem dX5_takeNumbers_36 : decode cX5_takeNumbers 36 = .ok (.istore 8, 2) := by decide +kernel
theorem dX5_takeNumbers_38 : decode cX5_takeNumbers 38 = .ok (.iload 8, 2) := by decide +kernel
theorem dX5_takeNumbers_40 : decode cX5_takeNumbers 40 = .ok (.bipush 44, 2) := by decide +kernel
theorem dX5_takeNumbers_42 : decode cX5_takeNumbers 42 = .ok (.if_icmp .ne 37, 3) := by decide +kernel
theorem dX5_takeNumbers_45 : decode cX5_takeNumbers 45 = .ok (.iload 5, 2) := by decide +kernel
theorem dX5_takeNumbers_47 : decode cX5_takeNumbers 47 = .ok (.ifCond .eq 9, 3) := by decide +kernel
theorem dX5_takeNumbers_50 : decode cX5_takeNumbers 50 = .ok (.iload 4, 2) := by decide +kernel
theorem dX5_takeNumbers_52 : decode cX5_takeNumbers 52 = .ok (.iconst 4, 1) := by decide +kernel
theorem dX5_takeNumbers_53 : decode cX5_takeNumbers 53 = .ok (.if_icmp .lt 5, 3) := by decide +kernel
theorem dX5_takeNumbers_56 : decode cX5_takeNumbers 56 = .ok (.iconst (-1), 1) := by decide +kernel
theorem dX5_takeNumbers_57 : decode cX5_takeNumbers 57 = .ok (.ireturn, 1) := by decide +kernel
theorem dX5_takeNumbers_58 : decode cX5_takeNumbers 58 = .ok (.aload_n 0, 1) := by decide +kernel
theorem dX5_takeNumbers_59 : decode cX5_takeNumbers 59 = .ok (.getfield 11, 3) := by decide +kernel
theorem dX5_takeNumbers_62 : decode cX5_takeNumbers 62 = .ok (.iload 4, 2) := by decide +kernel
theorem dX5_takeNumbers_64 : decode cX5_takeNumbers 64 = .ok (.iload 6, 2) := by decide +kernel
theorem dX5_takeNumbers_66 : decode cX5_takeNumbers 66 = .ok (.iastore, 1) := by decide +kernel
theorem dX5_takeNumbers_67 : decode cX5_takeNumbers 67 = .ok (.iinc 4 1, 3) := by decide +kernel
theorem dX5_takeNumbers_70 : decode cX5_takeNumbers 70 = .ok (.iconst 0, 1) := by decide +kernel
theorem dX5_takeNumbers_71 : decode cX5_takeNumbers 71 = .ok (.istore 5, 2) := by decide +kernel
theorem dX5_takeNumbers_73 : decode cX5_takeNumbers 73 = .ok (.iconst 0, 1) := by decide +kernel
theorem dX5_takeNumbers_74 : decode cX5_takeNumbers 74 = .ok (.istore 6, 2) := by decide +kernel
theorem dX5_takeNumbers_76 : decode cX5_takeNumbers 76 = .ok (.goto 44, 3) := by decide +kernel
theorem dX5_takeNumbers_79 : decode cX5_takeNumbers 79 = .ok (.iload 8, 2) := by decide +kernel
theorem dX5_takeNumbers_81 : decode cX5_takeNumbers 81 = .ok (.bipush 48, 2) := by decide +kernel
theorem dX5_takeNumbers_83 : decode cX5_takeNumbers 83 = .ok (.if_icmp .lt 35, 3) := by decide +kernel
theorem dX5_takeNumbers_86 : decode cX5_takeNumbers 86 = .ok (.iload 8, 2) := by decide +kernel
theorem dX5_takeNumbers_88 : decode cX5_takeNumbers 88 = .ok (.bipush 57, 2) := by decide +kernel
theorem dX5_takeNumbers_90 : decode cX5_takeNumbers 90 = .ok (.if_icmp .gt 28, 3) := by decide +kernel
theorem dX5_takeNumbers_93 : decode cX5_takeNumbers 93 = .ok (.iload 5, 2) := by decide +kernel
theorem dX5_takeNumbers_95 : decode cX5_takeNumbers 95 = .ok (.iconst 2, 1) := by decide +kernel
theorem dX5_takeNumbers_96 : decode cX5_takeNumbers 96 = .ok (.if_icmp .ge 22, 3) := by decide +kernel
theorem dX5_takeNumbers_99 : decode cX5_takeNumbers 99 = .ok (.bipush 10, 2) := by decide +kernel
theorem dX5_takeNumbers_101 : decode cX5_takeNumbers 101 = .ok (.iload 6, 2) := by decide +kernel
theorem dX5_takeNumbers_103 : decode cX5_takeNumbers 103 = .ok (.imul, 1) := by decide +kernel
theorem dX5_takeNumbers_104 : decode cX5_takeNumbers 104 = .ok (.iload 8, 2) := by decide +kernel
theorem dX5_takeNumbers_106 : decode cX5_takeNumbers 106 = .ok (.iadd, 1) := by decide +kernel
theorem dX5_takeNumbers_107 : decode cX5_takeNumbers 107 = .ok (.bipush 48, 2) := by decide +kernel
theorem dX5_takeNumbers_109 : decode cX5_takeNumbers 109 = .ok (.isub, 1) := by decide +kernel
theorem dX5_takeNumbers_110 : decode cX5_takeNumbers 110 = .ok (.istore 6, 2) := by decide +kernel
theorem dX5_takeNumbers_112 : decode cX5_takeNumbers 112 = .ok (.iinc 5 1, 3) := by decide +kernel
theorem dX5_takeNumbers_115 : decode cX5_takeNumbers 115 = .ok (.goto 5, 3) := by decide +kernel
theorem dX5_takeNumbers_118 : decode cX5_takeNumbers 118 = .ok (.iconst (-1), 1) := by decide +kernel
theorem dX5_takeNumbers_119 : decode cX5_takeNumbers 119 = .ok (.ireturn, 1) := by decide +kernel
theorem dX5_takeNumbers_120 : decode cX5_takeNumbers 120 = .ok (.iinc 7 1, 3) := by decide +kernel
theorem dX5_takeNumbers_123 : decode cX5_takeNumbers 123 = .ok (.goto (-111), 3) := by decide +kernel
theorem dX5_takeNumbers_126 : decode cX5_takeNumbers 126 = .ok (.iload 4, 2) := by decide +kernel
theorem dX5_takeNumbers_128 : decode cX5_takeNumbers 128 = .ok (.ireturn, 1) := by decide +kernel
theorem dX6_init_0 : decode cX6_init 0 = .ok (.aload_n 0, 1) := by decide +kernel
theorem dX6_init_1 : decode cX6_init 1 = .ok (.invokespecial 3, 3) := by decide +kernel
theorem dX6_init_4 : decode cX6_init 4 = .ok (.aload_n 0, 1) := by decide +kernel
theorem dX6_init_5 : decode cX6_init 5 = .ok (.bipush 12, 2) := by decide +kernel
theorem dX6_init_7 : decode cX6_init 7 = .ok (.newarray .int, 2) := by decide +kernel
theorem dX6_init_9 : decode cX6_init 9 = .ok (.putfield 9, 3) := by decide +kernel
theorem dX6_init_12 : decode cX6_init 12 = .ok (.aload_n 0, 1) := by decide +kernel
theorem dX6_init_13 : decode cX6_init 13 = .ok (.bipush 12, 2) := by decide +kernel
theorem dX6_init_15 : decode cX6_init 15 = .ok (.newarray .boolean, 2) := by decide +kernel
theorem dX6_init_17 : decode cX6_init 17 = .ok (.putfield 15, 3) := by decide +kernel
theorem dX6_init_20 : decode cX6_init 20 = .ok (.aload_n 0, 1) := by decide +kernel
theorem dX6_init_21 : decode cX6_init 21 = .ok (.bipush 6, 2) := by decide +kernel
theorem dX6_init_23 : decode cX6_init 23 = .ok (.newarray .int, 2) := by decide +kernel
theorem dX6_init_25 : decode cX6_init 25 = .ok (.putfield 19, 3) := by decide +kernel
theorem dX6_init_28 : decode cX6_init 28 = .ok (.return_, 1) := by decide +kernel
theorem dX6_begin_0 : decode cX6_begin 0 = .ok (.aload_n 0, 1) := by decide +kernel
theorem dX6_begin_1 : decode cX6_begin 1 = .ok (.aload_n 1, 1) := by decide +kernel
theorem dX6_begin_2 : decode cX6_begin 2 = .ok (.getfield 22, 3) := by decide +kernel
theorem dX6_begin_5 : decode cX6_begin 5 = .ok (.putfield 28, 3) := by decide +kernel
theorem dX6_begin_8 : decode cX6_begin 8 = .ok (.iconst 0, 1) := by decide +kernel
theorem dX6_begin_9 : decode cX6_begin 9 = .ok (.istore_n 2, 1) := by decide +kernel
theorem dX6_begin_10 : decode cX6_begin 10 = .ok (.iload_n 2, 1) := by decide +kernel
theorem dX6_begin_11 : decode cX6_begin 11 = .ok (.aload_n 0, 1) := by decide +kernel
theorem dX6_begin_12 : decode cX6_begin 12 = .ok (.getfield 28, 3) := by decide +kernel
theorem dX6_begin_15 : decode cX6_begin 15 = .ok (.if_icmp .ge 28, 3) := by decide +kernel
theorem dX6_begin_18 : decode cX6_begin 18 = .ok (.aload_n 0, 1) := by decide +kernel
theorem dX6_begin_19 : decode cX6_begin 19 = .ok (.getfield 9, 3) := by decide +kernel
theorem dX6_begin_22 : decode cX6_begin 22 = .ok (.iload_n 2, 1) := by decide +kernel
theorem dX6_begin_23 : decode cX6_begin 23 = .ok (.aload_n 1, 1) := by decide +kernel
theorem dX6_begin_24 : decode cX6_begin 24 = .ok (.getfield 29, 3) := by decide +kernel
theorem dX6_begin_27 : decode cX6_begin 27 = .ok (.iload_n 2, 1) := by decide +kernel
theorem dX6_begin_28 : decode cX6_begin 28 = .ok (.iaload, 1) := by decide +kernel
theorem dX6_begin_29 : decode cX6_begin 29 = .ok (.iastore, 1) := by decide +kernel
theorem dX6_begin_30 : decode cX6_begin 30 = .ok (.aload_n 0, 1) := by decide +kernel
theorem dX6_begin_31 : decode cX6_begin 31 = .ok (.getfield 15, 3) := by decide +kernel
theorem dX6_begin_34 : decode cX6_begin 34 = .ok (.iload_n 2, 1) := by decide +kernel
theorem dX6_begin_35 : decode cX6_begin 35 = .ok (.iconst 1, 1) := by decide +kernel
theorem dX6_begin_36 : decode cX6_begin 36 = .ok (.bastore, 1) := by decide +kernel
theorem dX6_begin_37 : decode cX6_begin 37 = .ok (.iinc 2 1, 3) := by decide +kernel
theorem dX6_begin_40 : decode cX6_begin 40 = .ok (.goto (-30), 3) := by decide +kernel
theorem dX6_begin_43 : decode cX6_begin 43 = .ok (.aload_n 0, 1) := by decide +kernel
theorem dX6_begin_44 : decode cX6_begin 44 = .ok (.iconst 0, 1) := by decide +kernel
theorem dX6_begin_45 : decode cX6_begin 45 = .ok (.putfield 32, 3) := by decide +kernel
theorem dX6_begin_48 : decode cX6_begin 48 = .ok (.aload_n 0, 1) := by decide +kernel
theorem dX6_begin_49 : decode cX6_begin 49 = .ok (.iconst 0, 1) := by decide +kernel
theorem dX6_begin_50 : decode cX6_begin 50 = .ok (.putfield 35, 3) := by decide +kernel
theorem dX6_begin_53 : decode cX6_begin 53 = .ok (.return_, 1) := by decide +kernel
theorem dX6_copyFrom_0 : decode cX6_copyFrom 0 = .ok (.aload_n 0, 1) := by decide +kernel
theorem dX6_copyFrom_1 : decode cX6_copyFrom 1 = .ok (.aload_n 1, 1) := by decide +kernel
theorem dX6_copyFrom_2 : decode cX6_copyFrom 2 = .ok (.getfield 28, 3) := by decide +kernel
theorem dX6_copyFrom_5 : decode cX6_copyFrom 5 = .ok (.putfield 28, 3) := by decide +kernel
theorem dX6_copyFrom_8 : decode cX6_copyFrom 8 = .ok (.iconst 0, 1) := by decide +kernel
theorem dX6_copyFrom_9 : decode cX6_copyFrom 9 = .ok (.istore_n 2, 1) := by decide +kernel
theorem dX6_copyFrom_10 : decode cX6_copyFrom 10 = .ok (.iload_n 2, 1) := by decide +kernel
theorem dX6_copyFrom_11 : decode cX6_copyFrom 11 = .ok (.bipush 12, 2) := by decide +kernel
theorem dX6_copyFrom_13 : decode cX6_copyFrom 13 = .ok (.if_icmp .ge 33, 3) := by decide +kernel
theorem dX6_copyFrom_16 : decode cX6_copyFrom 16 = .ok (.aload_n 0, 1) := by decide +kernel
theorem dX6_copyFrom_17 : decode cX6_copyFrom 17 = .ok (.getfield 9, 3) := by decide +kernel
theorem dX6_copyFrom_20 : decode cX6_copyFrom 20 = .ok (.iload_n 2, 1) := by decide +kernel
theorem dX6_copyFrom_21 : decode cX6_copyFrom 21 = .ok (.aload_n 1, 1) := by decide +kernel
theorem dX6_copyFrom_22 : decode cX6_copyFrom 22 = .ok (.getfield 9, 3) := by decide +kernel
theorem dX6_copyFrom_25 : decode cX6_copyFrom 25 = .ok (.iload_n 2, 1) := by decide +kernel
theorem dX6_copyFrom_26 : decode cX6_copyFrom 26 = .ok (.iaload, 1) := by decide +kernel
theorem dX6_copyFrom_27 : decode cX6_copyFrom 27 = .ok (.iastore, 1) := by decide +kernel
theorem dX6_copyFrom_28 : decode cX6_copyFrom 28 = .ok (.aload_n 0, 1) := by decide +kernel
theorem dX6_copyFrom_29 : decode cX6_copyFrom 29 = .ok (.getfield 15, 3) := by decide +kernel
theorem dX6_copyFrom_32 : decode cX6_copyFrom 32 = .ok (.iload_n 2, 1) := by decide +kernel
theorem dX6_copyFrom_33 : decode cX6_copyFrom 33 = .ok (.aload_n 1, 1) := by decide +kernel
theorem dX6_copyFrom_34 : decode cX6_copyFrom 34 = .ok (.getfield 15, 3) := by decide +kernel
theorem dX6_copyFrom_37 : decode cX6_copyFrom 37 = .ok (.iload_n 2, 1) := by decide +kernel
theorem dX6_copyFrom_38 : decode cX6_copyFrom 38 = .ok (.baload, 1) := by decide +kernel
theorem dX6_copyFrom_39 : decode cX6_copyFrom 39 = .ok (.bastore, 1) := by decide +kernel
theorem dX6_copyFrom_40 : decode cX6_copyFrom 40 = .ok (.iinc 2 1, 3) := by decide +kernel
theorem dX6_copyFrom_43 : decode cX6_copyFrom 43 = .ok (.goto (-33), 3) := by decide +kernel
theorem dX6_copyFrom_46 : decode cX6_copyFrom 46 = .ok (.iconst 0, 1) := by decide +kernel
theorem dX6_copyFrom_47 : decode cX6_copyFrom 47 = .ok (.istore_n 2, 1) := by decide +kernel
theorem dX6_copyFrom_48 : decode cX6_copyFrom 48 = .ok (.iload_n 2, 1) := by decide +kernel
theorem dX6_copyFrom_49 : decode cX6_copyFrom 49 = .ok (.bipush 6, 2) := by decide +kernel
theorem dX6_copyFrom_51 : decode cX6_copyFrom 51 = .ok (.if_icmp .ge 21, 3) := by decide +kernel
theorem dX6_copyFrom_54 : decode cX6_copyFrom 54 = .ok (.aload_n 0, 1) := by decide +kernel
theorem dX6_copyFrom_55 : decode cX6_copyFrom 55 = .ok (.getfield 19, 3) := by decide +kernel
theorem dX6_copyFrom_58 : decode cX6_copyFrom 58 = .ok (.iload_n 2, 1) := by decide +kernel
theorem dX6_copyFrom_59 : decode cX6_copyFrom 59 = .ok (.aload_n 1, 1) := by decide +kernel
theorem dX6_copyFrom_60 : decode cX6_copyFrom 60 = .ok (.getfield 19, 3) := by decide +kernel
theorem dX6_copyFrom_63 : decode cX6_copyFrom 63 = .ok (.iload_n 2, 1) := by decide +kernel
theorem dX6_copyFrom_64 : decode cX6_copyFrom 64 = .ok (.iaload, 1) := by decide +kernel
theorem dX6_copyFrom_65 : decode cX6_copyFrom 65 = .ok (.iastore, 1) := by decide +kernel
theorem dX6_copyFrom_66 : decode cX6_copyFrom 66 = .ok (.iinc 2 1, 3) := by decide +kernel
theorem dX6_copyFrom_69 : decode cX6_copyFrom 69 = .ok (.goto (-21), 3) := by decide +kernel
theorem dX6_copyFrom_72 : decode cX6_copyFrom 72 = .ok (.aload_n 0, 1) := by decide +kernel
theorem dX6_copyFrom_73 : decode cX6_copyFrom 73 = .ok (.aload_n 1, 1) := by decide +kernel
theorem dX6_copyFrom_74 : decode cX6_copyFrom 74 = .ok (.getfield 32, 3) := by decide +kernel
theorem dX6_copyFrom_77 : decode cX6_copyFrom 77 = .ok (.putfield 32, 3) := by decide +kernel
theorem dX6_copyFrom_80 : decode cX6_copyFrom 80 = .ok (.aload_n 0, 1) := by decide +kernel
theorem dX6_copyFrom_81 : decode cX6_copyFrom 81 = .ok (.aload_n 1, 1) := by decide +kernel
theorem dX6_copyFrom_82 : decode cX6_copyFrom 82 = .ok (.getfield 35, 3) := by decide +kernel
theorem dX6_copyFrom_85 : decode cX6_copyFrom 85 = .ok (.putfield 35, 3) := by decide +kernel
theorem dX6_copyFrom_88 : decode cX6_copyFrom 88 = .ok (.aload_n 0, 1) := by decide +kernel
theorem dX6_copyFrom_89 : decode cX6_copyFrom 89 = .ok (.aload_n 1, 1) := by decide +kernel
theorem dX6_copyFrom_90 : decode cX6_copyFrom 90 = .ok (.getfield 38, 3) := by decide +kernel
theorem dX6_copyFrom_93 : decode cX6_copyFrom 93 = .ok (.putfield 38, 3) := by decide +kernel
theorem dX6_copyFrom_96 : decode cX6_copyFrom 96 = .ok (.return_, 1) := by decide +kernel
theorem dX6_noteCost_0 : decode cX6_noteCost 0 = .ok (.aload_n 0, 1) := by decide +kernel
theorem dX6_noteCost_1 : decode cX6_noteCost 1 = .ok (.aload_n 0, 1) := by decide +kernel
theorem dX6_noteCost_2 : decode cX6_noteCost 2 = .ok (.getfield 38, 3) := by decide +kernel
theorem dX6_noteCost_5 : decode cX6_noteCost 5 = .ok (.iload_n 1, 1) := by decide +kernel
theorem dX6_noteCost_6 : decode cX6_noteCost 6 = .ok (.invokestatic 41, 3) := by decide +kernel
theorem dX6_noteCost_9 : decode cX6_noteCost 9 = .ok (.putfield 38, 3) := by decide +kernel
theorem dX6_noteCost_12 : decode cX6_noteCost 12 = .ok (.return_, 1) := by decide +kernel
theorem dX6_mark_0 : decode cX6_mark 0 = .ok (.aload_n 0, 1) := by decide +kernel
theorem dX6_mark_1 : decode cX6_mark 1 = .ok (.iconst (-1), 1) := by decide +kernel
theorem dX6_mark_2 : decode cX6_mark 2 = .ok (.iconst 0, 1) := by decide +kernel
theorem dX6_mark_3 : decode cX6_mark 3 = .ok (.invokevirtual 47, 3) := by decide +kernel
theorem dX6_mark_6 : decode cX6_mark 6 = .ok (.ireturn, 1) := by decide +kernel
theorem dX6_markWith_0 : decode cX6_markWith 0 = .ok (.bipush 7, 2) := by decide +kernel
theorem dX6_markWith_2 : decode cX6_markWith 2 = .ok (.istore_n 3, 1) := by decide +kernel
theorem dX6_markWith_3 : decode cX6_markWith 3 = .ok (.iconst 0, 1) := by decide +kernel
theorem dX6_markWith_4 : decode cX6_markWith 4 = .ok (.istore 4, 2) := by decide +kernel
theorem dX6_markWith_6 : decode cX6_markWith 6 = .ok (.iload 4, 2) := by decide +kernel
theorem dX6_markWith_8 : decode cX6_markWith 8 = .ok (.aload_n 0, 1) := by decide +kernel
theorem dX6_markWith_9 : decode cX6_markWith 9 = .ok (.getfield 28, 3) := by decide +kernel
theorem dX6_markWith_12 : decode cX6_markWith 12 = .ok (.if_icmp .ge 36, 3) := by decide +kernel
theorem dX6_markWith_15 : decode cX6_markWith 15 = .ok (.bipush 31, 2) := by decide +kernel
theorem dX6_markWith_17 : decode cX6_markWith 17 = .ok (.iload_n 3, 1) := by decide +kernel
theorem dX6_markWith_18 : decode cX6_markWith 18 = .ok (.imul, 1) := by decide +kernel
theorem dX6_markWith_19 : decode cX6_markWith 19 = .ok (.iload 4, 2) := by decide +kernel
theorem dX6_markWith_21 : decode cX6_markWith 21 = .ok (.iload_n 1, 1) := by decide +kernel
theorem dX6_markWith_22 : decode cX6_markWith 22 = .ok (.if_icmp .ne 7, 3) := by decide +kernel
theorem dX6_markWith_25 : decode cX6_markWith 25 = .ok (.iload_n 2, 1) := by decide +kernel
theorem dX6_markWith_26 : decode cX6_markWith 26 = .ok (.goto 10, 3) := by decide +kernel
theorem dX6_markWith_29 : decode cX6_markWith 29 = .ok (.aload_n 0, 1) := by decide +kernel
theorem dX6_markWith_30 : decode cX6_markWith 30 = .ok (.getfield 9, 3) := by decide +kernel
theorem dX6_markWith_33 : decode cX6_markWith 33 = .ok (.iload 4, 2) := by decide +kernel
theorem dX6_markWith_35 : decode cX6_markWith 35 = .ok (.iaload, 1) := by decide +kernel
theorem dX6_markWith_36 : decode cX6_markWith 36 = .ok (.iadd, 1) := by decide +kernel
theorem dX6_markWith_37 : decode cX6_markWith 37 = .ok (.sipush 997, 3) := by decide +kernel
theorem dX6_markWith_40 : decode cX6_markWith 40 = .ok (.irem, 1) := by decide +kernel
theorem dX6_markWith_41 : decode cX6_markWith 41 = .ok (.istore_n 3, 1) := by decide +kernel
theorem dX6_markWith_42 : decode cX6_markWith 42 = .ok (.iinc 4 1, 3) := by decide +kernel
theorem dX6_markWith_45 : decode cX6_markWith 45 = .ok (.goto (-39), 3) := by decide +kernel
theorem dX6_markWith_48 : decode cX6_markWith 48 = .ok (.iload_n 3, 1) := by decide +kernel
theorem dX6_markWith_49 : decode cX6_markWith 49 = .ok (.ireturn, 1) := by decide +kernel
theorem dX6_addTabu_0 : decode cX6_addTabu 0 = .ok (.aload_n 0, 1) := by decide +kernel
theorem dX6_addTabu_1 : decode cX6_addTabu 1 = .ok (.getfield 19, 3) := by decide +kernel
theorem dX6_addTabu_4 : decode cX6_addTabu 4 = .ok (.aload_n 0, 1) := by decide +kernel
theorem dX6_addTabu_5 : decode cX6_addTabu 5 = .ok (.getfield 35, 3) := by decide +kernel
theorem dX6_addTabu_8 : decode cX6_addTabu 8 = .ok (.iload_n 1, 1) := by decide +kernel
theorem dX6_addTabu_9 : decode cX6_addTabu 9 = .ok (.iastore, 1) := by decide +kernel
theorem dX6_addTabu_10 : decode cX6_addTabu 10 = .ok (.aload_n 0, 1) := by decide +kernel
theorem dX6_addTabu_11 : decode cX6_addTabu 11 = .ok (.aload_n 0, 1) := by decide +kernel
theorem dX6_addTabu_12 : decode cX6_addTabu 12 = .ok (.getfield 35, 3) := by decide +kernel
theorem dX6_addTabu_15 : decode cX6_addTabu 15 = .ok (.iconst 1, 1) := by decide +kernel
theorem dX6_addTabu_16 : decode cX6_addTabu 16 = .ok (.iadd, 1) := by decide +kernel
theorem dX6_addTabu_17 : decode cX6_addTabu 17 = .ok (.bipush 6, 2) := by decide +kernel
theorem dX6_addTabu_19 : decode cX6_addTabu 19 = .ok (.irem, 1) := by decide +kernel
theorem dX6_addTabu_20 : decode cX6_addTabu 20 = .ok (.putfield 35, 3) := by decide +kernel
theorem dX6_addTabu_23 : decode cX6_addTabu 23 = .ok (.aload_n 0, 1) := by decide +kernel
theorem dX6_addTabu_24 : decode cX6_addTabu 24 = .ok (.aload_n 0, 1) := by decide +kernel
theorem dX6_addTabu_25 : decode cX6_addTabu 25 = .ok (.getfield 32, 3) := by decide +kernel
theorem dX6_addTabu_28 : decode cX6_addTabu 28 = .ok (.iconst 1, 1) := by decide +kernel
theorem dX6_addTabu_29 : decode cX6_addTabu 29 = .ok (.iadd, 1) := by decide +kernel
theorem dX6_addTabu_30 : decode cX6_addTabu 30 = .ok (.bipush 6, 2) := by decide +kernel
theorem dX6_addTabu_32 : decode cX6_addTabu 32 = .ok (.invokestatic 41, 3) := by decide +kernel
theorem dX6_addTabu_35 : decode cX6_addTabu 35 = .ok (.putfield 32, 3) := by decide +kernel
theorem dX6_addTabu_38 : decode cX6_addTabu 38 = .ok (.return_, 1) := by decide +kernel
theorem dX6_isTabu_0 : decode cX6_isTabu 0 = .ok (.iconst 0, 1) := by decide +kernel
theorem dX6_isTabu_1 : decode cX6_isTabu 1 = .ok (.istore_n 2, 1) := by decide +kernel
theorem dX6_isTabu_2 : decode cX6_isTabu 2 = .ok (.iload_n 2, 1) := by decide +kernel
theorem dX6_isTabu_3 : decode cX6_isTabu 3 = .ok (.aload_n 0, 1) := by decide +kernel
theorem dX6_isTabu_4 : decode cX6_isTabu 4 = .ok (.getfield 32, 3) := by decide +kernel
theorem dX6_isTabu_7 : decode cX6_isTabu 7 = .ok (.if_icmp .ge 21, 3) := by decide +kernel
theorem dX6_isTabu_10 : decode cX6_isTabu 10 = .ok (.aload_n 0, 1) := by decide +kernel
theorem dX6_isTabu_11 : decode cX6_isTabu 11 = .ok (.getfield 19, 3) := by decide +kernel
theorem dX6_isTabu_14 : decode cX6_isTabu 14 = .ok (.iload_n 2, 1) := by decide +kernel
theorem dX6_isTabu_15 : decode cX6_isTabu 15 = .ok (.iaload, 1) := by decide +kernel
theorem dX6_isTabu_16 : decode cX6_isTabu 16 = .ok (.iload_n 1, 1) := by decide +kernel
theorem dX6_isTabu_17 : decode cX6_isTabu 17 = .ok (.if_icmp .ne 5, 3) := by decide +kernel
theorem dX6_isTabu_20 : decode cX6_isTabu 20 = .ok (.iconst 1, 1) := by decide +kernel
theorem dX6_isTabu_21 : decode cX6_isTabu 21 = .ok (.ireturn, 1) := by decide +kernel
theorem dX6_isTabu_22 : decode cX6_isTabu 22 = .ok (.iinc 2 1, 3) := by decide +kernel
theorem dX6_isTabu_25 : decode cX6_isTabu 25 = .ok (.goto (-23), 3) := by decide +kernel
theorem dX6_isTabu_28 : decode cX6_isTabu 28 = .ok (.iconst 0, 1) := by decide +kernel
theorem dX6_isTabu_29 : decode cX6_isTabu 29 = .ok (.ireturn, 1) := by decide +kernel
theorem dX6_linksDown_0 : decode cX6_linksDown 0 = .ok (.iconst 0, 1) := by decide +kernel
theorem dX6_linksDown_1 : decode cX6_linksDown 1 = .ok (.istore_n 1, 1) := by decide +kernel
theorem dX6_linksDown_2 : decode cX6_linksDown 2 = .ok (.iconst 0, 1) := by decide +kernel
theorem dX6_linksDown_3 : decode cX6_linksDown 3 = .ok (.istore_n 2, 1) := by decide +kernel
theorem dX6_linksDown_4 : decode cX6_linksDown 4 = .ok (.iload_n 2, 1) := by decide +kernel
theorem dX6_linksDown_5 : decode cX6_linksDown 5 = .ok (.aload_n 0, 1) := by decide +kernel
theorem dX6_linksDown_6 : decode cX6_linksDown 6 = .ok (.getfield 28, 3) := by decide +kernel
theorem dX6_linksDown_9 : decode cX6_linksDown 9 = .ok (.if_icmp .ge 21, 3) := by decide +kernel
theorem dX6_linksDown_12 : decode cX6_linksDown 12 = .ok (.aload_n 0, 1) := by decide +kernel
theorem dX6_linksDown_13 : decode cX6_linksDown 13 = .ok (.getfield 15, 3) := by decide +kernel
theorem dX6_linksDown_16 : decode cX6_linksDown 16 = .ok (.iload_n 2, 1) := by decide +kernel
theorem dX6_linksDown_17 : decode cX6_linksDown 17 = .ok (.baload, 1) := by decide +kernel
theorem dX6_linksDown_18 : decode cX6_linksDown 18 = .ok (.ifCond .ne 6, 3) := by decide +kernel
theorem dX6_linksDown_21 : decode cX6_linksDown 21 = .ok (.iinc 1 1, 3) := by decide +kernel
theorem dX6_linksDown_24 : decode cX6_linksDown 24 = .ok (.iinc 2 1, 3) := by decide +kernel
theorem dX6_linksDown_27 : decode cX6_linksDown 27 = .ok (.goto (-23), 3) := by decide +kernel
theorem dX6_linksDown_30 : decode cX6_linksDown 30 = .ok (.iload_n 1, 1) := by decide +kernel
theorem dX6_linksDown_31 : decode cX6_linksDown 31 = .ok (.ireturn, 1) := by decide +kernel
theorem dX7_init_0 : decode cX7_init 0 = .ok (.aload_n 0, 1) := by decide +kernel
theorem dX7_init_1 : decode cX7_init 1 = .ok (.invokespecial 1, 3) := by decide +kernel
theorem dX7_init_4 : decode cX7_init 4 = .ok (.aload_n 0, 1) := by decide +kernel
theorem dX7_init_5 : decode cX7_init 5 = .ok (.new 7, 3) := by decide +kernel
theorem dX7_init_8 : decode cX7_init 8 = .ok (.dup, 1) := by decide +kernel
theorem dX7_init_9 : decode cX7_init 9 = .ok (.invokespecial 9, 3) := by decide +kernel
theorem dX7_init_12 : decode cX7_init 12 = .ok (.putfield 10, 3) := by decide +kernel
theorem dX7_init_15 : decode cX7_init 15 = .ok (.aload_n 0, 1) := by decide +kernel
theorem dX7_init_16 : decode cX7_init 16 = .ok (.new 16, 3) := by decide +kernel
theorem dX7_init_19 : decode cX7_init 19 = .ok (.dup, 1) := by decide +kernel
theorem dX7_init_20 : decode cX7_init 20 = .ok (.invokespecial 18, 3) := by decide +kernel
theorem dX7_init_23 : decode cX7_init 23 = .ok (.putfield 19, 3) := by decide +kernel
theorem dX7_init_26 : decode cX7_init 26 = .ok (.aload_n 0, 1) := by decide +kernel
theorem dX7_init_27 : decode cX7_init 27 = .ok (.new 16, 3) := by decide +kernel
theorem dX7_init_30 : decode cX7_init 30 = .ok (.dup, 1) := by decide +kernel
theorem dX7_init_31 : decode cX7_init 31 = .ok (.invokespecial 18, 3) := by decide +kernel
theorem dX7_init_34 : decode cX7_init 34 = .ok (.putfield 23, 3) := by decide +kernel
theorem dX7_init_37 : decode cX7_init 37 = .ok (.aload_n 0, 1) := by decide +kernel
theorem dX7_init_38 : decode cX7_init 38 = .ok (.new 26, 3) := by decide +kernel
theorem dX7_init_41 : decode cX7_init 41 = .ok (.dup, 1) := by decide +kernel
theorem dX7_init_42 : decode cX7_init 42 = .ok (.invokespecial 28, 3) := by decide +kernel
theorem dX7_init_45 : decode cX7_init 45 = .ok (.putfield 29, 3) := by decide +kernel
theorem dX7_init_48 : decode cX7_init 48 = .ok (.aload_n 0, 1) := by decide +kernel
theorem dX7_init_49 : decode cX7_init 49 = .ok (.new 33, 3) := by decide +kernel
theorem dX7_init_52 : decode cX7_init 52 = .ok (.dup, 1) := by decide +kernel
theorem dX7_init_53 : decode cX7_init 53 = .ok (.aload_n 0, 1) := by decide +kernel
theorem dX7_init_54 : decode cX7_init 54 = .ok (.getfield 19, 3) := by decide +kernel
theorem dX7_init_57 : decode cX7_init 57 = .ok (.invokespecial 35, 3) := by decide +kernel
theorem dX7_init_60 : decode cX7_init 60 = .ok (.putfield 38, 3) := by decide +kernel
theorem dX7_init_63 : decode cX7_init 63 = .ok (.aload_n 0, 1) := by decide +kernel
theorem dX7_init_64 : decode cX7_init 64 = .ok (.new 42, 3) := by decide +kernel
theorem dX7_init_67 : decode cX7_init 67 = .ok (.dup, 1) := by decide +kernel
theorem dX7_init_68 : decode cX7_init 68 = .ok (.aload_n 0, 1) := by decide +kernel
theorem dX7_init_69 : decode cX7_init 69 = .ok (.getfield 19, 3) := by decide +kernel
theorem dX7_init_72 : decode cX7_init 72 = .ok (.aload_n 0, 1) := by decide +kernel
theorem dX7_init_73 : decode cX7_init 73 = .ok (.getfield 38, 3) := by decide +kernel
theorem dX7_init_76 : decode cX7_init 76 = .ok (.invokespecial 44, 3) := by decide +kernel
theorem dX7_init_79 : decode cX7_init 79 = .ok (.putfield 47, 3) := by decide +kernel
theorem dX7_init_82 : decode cX7_init 82 = .ok (.aload_n 0, 1) := by decide +kernel
theorem dX7_init_83 : decode cX7_init 83 = .ok (.new 51, 3) := by decide +kernel
theorem dX7_init_86 : decode cX7_init 86 = .ok (.dup, 1) := by decide +kernel
theorem dX7_init_87 : decode cX7_init 87 = .ok (.invokespecial 53, 3) := by decide +kernel
theorem dX7_init_90 : decode cX7_init 90 = .ok (.putfield 54, 3) := by decide +kernel
theorem dX7_init_93 : decode cX7_init 93 = .ok (.aload_n 0, 1) := by decide +kernel
theorem dX7_init_94 : decode cX7_init 94 = .ok (.new 51, 3) := by decide +kernel
theorem dX7_init_97 : decode cX7_init 97 = .ok (.dup, 1) := by decide +kernel
theorem dX7_init_98 : decode cX7_init 98 = .ok (.invokespecial 53, 3) := by decide +kernel
theorem dX7_init_101 : decode cX7_init 101 = .ok (.putfield 58, 3) := by decide +kernel
theorem dX7_init_104 : decode cX7_init 104 = .ok (.aload_n 0, 1) := by decide +kernel
theorem dX7_init_105 : decode cX7_init 105 = .ok (.new 61, 3) := by decide +kernel
theorem dX7_init_108 : decode cX7_init 108 = .ok (.dup, 1) := by decide +kernel
theorem dX7_init_109 : decode cX7_init 109 = .ok (.invokespecial 63, 3) := by decide +kernel
theorem dX7_init_112 : decode cX7_init 112 = .ok (.putfield 64, 3) := by decide +kernel
theorem dX7_init_115 : decode cX7_init 115 = .ok (.aload_n 0, 1) := by decide +kernel
theorem dX7_init_116 : decode cX7_init 116 = .ok (.bipush 12, 2) := by decide +kernel
theorem dX7_init_118 : decode cX7_init 118 = .ok (.newarray .int, 2) := by decide +kernel
theorem dX7_init_120 : decode cX7_init 120 = .ok (.putfield 68, 3) := by decide +kernel
theorem dX7_init_123 : decode cX7_init 123 = .ok (.iconst 0, 1) := by decide +kernel
theorem dX7_init_124 : decode cX7_init 124 = .ok (.istore_n 1, 1) := by decide +kernel
theorem dX7_init_125 : decode cX7_init 125 = .ok (.iload_n 1, 1) := by decide +kernel
theorem dX7_init_126 : decode cX7_init 126 = .ok (.ldc 72, 2) := by decide +kernel
theorem dX7_init_128 : decode cX7_init 128 = .ok (.invokevirtual 74, 3) := by decide +kernel
theorem dX7_init_131 : decode cX7_init 131 = .ok (.if_icmp .ge 23, 3) := by decide +kernel
theorem dX7_init_134 : decode cX7_init 134 = .ok (.aload_n 0, 1) := by decide +kernel
theorem dX7_init_135 : decode cX7_init 135 = .ok (.getfield 10, 3) := by decide +kernel
theorem dX7_init_138 : decode cX7_init 138 = .ok (.ldc 72, 2) := by decide +kernel
theorem dX7_init_140 : decode cX7_init 140 = .ok (.iload_n 1, 1) := by decide +kernel
theorem dX7_init_141 : decode cX7_init 141 = .ok (.invokevirtual 80, 3) := by decide +kernel
theorem dX7_init_144 : decode cX7_init 144 = .ok (.invokevirtual 84, 3) := by decide +kernel
theorem dX7_init_147 : decode cX7_init 147 = .ok (.pop, 1) := by decide +kernel
theorem dX7_init_148 : decode cX7_init 148 = .ok (.iinc 1 1, 3) := by decide +kernel
theorem dX7_init_151 : decode cX7_init 151 = .ok (.goto (-26), 3) := by decide +kernel
theorem dX7_init_154 : decode cX7_init 154 = .ok (.aload_n 0, 1) := by decide +kernel
theorem dX7_init_155 : decode cX7_init 155 = .ok (.invokevirtual 88, 3) := by decide +kernel
theorem dX7_init_158 : decode cX7_init 158 = .ok (.pop, 1) := by decide +kernel
theorem dX7_init_159 : decode cX7_init 159 = .ok (.aload_n 0, 1) := by decide +kernel
theorem dX7_init_160 : decode cX7_init 160 = .ok (.getfield 10, 3) := by decide +kernel
theorem dX7_init_163 : decode cX7_init 163 = .ok (.iconst 0, 1) := by decide +kernel
theorem dX7_init_164 : decode cX7_init 164 = .ok (.putfield 92, 3) := by decide +kernel
theorem dX7_init_167 : decode cX7_init 167 = .ok (.return_, 1) := by decide +kernel
theorem dX7_write_0 : decode cX7_write 0 = .ok (.iload_n 1, 1) := by decide +kernel
theorem dX7_write_1 : decode cX7_write 1 = .ok (.bipush 32, 2) := by decide +kernel
theorem dX7_write_3 : decode cX7_write 3 = .ok (.if_icmp .lt 9, 3) := by decide +kernel
theorem dX7_write_6 : decode cX7_write 6 = .ok (.iload_n 1, 1) := by decide +kernel
theorem dX7_write_7 : decode cX7_write 7 = .ok (.bipush 126, 2) := by decide +kernel
theorem dX7_write_9 : decode cX7_write 9 = .ok (.if_icmp .le 5, 3) := by decide +kernel
theorem dX7_write_12 : decode cX7_write 12 = .ok (.iconst (-1), 1) := by decide +kernel
theorem dX7_write_13 : decode cX7_write 13 = .ok (.ireturn, 1) := by decide +kernel
theorem dX7_write_14 : decode cX7_write 14 = .ok (.aload_n 0, 1) := by decide +kernel
theorem dX7_write_15 : decode cX7_write 15 = .ok (.getfield 10, 3) := by decide +kernel
theorem dX7_write_18 : decode cX7_write 18 = .ok (.iload_n 1, 1) := by decide +kernel
theorem dX7_write_19 : decode cX7_write 19 = .ok (.invokevirtual 84, 3) := by decide +kernel
theorem dX7_write_22 : decode cX7_write 22 = .ok (.ifCond .eq 13, 3) := by decide +kernel
theorem dX7_write_25 : decode cX7_write 25 = .ok (.aload_n 0, 1) := by decide +kernel
theorem dX7_write_26 : decode cX7_write 26 = .ok (.getfield 10, 3) := by decide +kernel
theorem dX7_write_29 : decode cX7_write 29 = .ok (.getfield 92, 3) := by decide +kernel
theorem dX7_write_32 : decode cX7_write 32 = .ok (.goto 5, 3) := by decide +kernel
theorem dX7_write_35 : decode cX7_write 35 = .ok (.bipush (-3), 2) := by decide +kernel
theorem dX7_write_37 : decode cX7_write 37 = .ok (.ireturn, 1) := by decide +kernel
theorem dX7_wipe_0 : decode cX7_wipe 0 = .ok (.aload_n 0, 1) := by decide +kernel
theorem dX7_wipe_1 : decode cX7_wipe 1 = .ok (.getfield 10, 3) := by decide +kernel
theorem dX7_wipe_4 : decode cX7_wipe 4 = .ok (.getfield 92, 3) := by decide +kernel
theorem dX7_wipe_7 : decode cX7_wipe 7 = .ok (.istore_n 1, 1) := by decide +kernel
theorem dX7_wipe_8 : decode cX7_wipe 8 = .ok (.aload_n 0, 1) := by decide +kernel
theorem dX7_wipe_9 : decode cX7_wipe 9 = .ok (.getfield 10, 3) := by decide +kernel
theorem dX7_wipe_12 : decode cX7_wipe 12 = .ok (.iconst 0, 1) := by decide +kernel
theorem dX7_wipe_13 : decode cX7_wipe 13 = .ok (.putfield 92, 3) := by decide +kernel
theorem dX7_wipe_16 : decode cX7_wipe 16 = .ok (.iload_n 1, 1) := by decide +kernel
theorem dX7_wipe_17 : decode cX7_wipe 17 = .ok (.ireturn, 1) := by decide +kernel
theorem dX7_fault_0 : decode cX7_fault 0 = .ok (.aload_n 0, 1) := by decide +kernel
theorem dX7_fault_1 : decode cX7_fault 1 = .ok (.getfield 29, 3) := by decide +kernel
theorem dX7_fault_4 : decode cX7_fault 4 = .ok (.aload_n 0, 1) := by decide +kernel
theorem dX7_fault_5 : decode cX7_fault 5 = .ok (.getfield 10, 3) := by decide +kernel
theorem dX7_fault_8 : decode cX7_fault 8 = .ok (.aload_n 0, 1) := by decide +kernel
theorem dX7_fault_9 : decode cX7_fault 9 = .ok (.getfield 23, 3) := by decide +kernel
theorem dX7_fault_12 : decode cX7_fault 12 = .ok (.invokevirtual 95, 3) := by decide +kernel
theorem dX7_fault_15 : decode cX7_fault 15 = .ok (.ireturn, 1) := by decide +kernel
theorem dX7_lay_0 : decode cX7_lay 0 = .ok (.aload_n 0, 1) := by decide +kernel
theorem dX7_lay_1 : decode cX7_lay 1 = .ok (.invokevirtual 88, 3) := by decide +kernel
theorem dX7_lay_4 : decode cX7_lay 4 = .ok (.ifCond .eq 13, 3) := by decide +kernel
theorem dX7_lay_7 : decode cX7_lay 7 = .ok (.aload_n 0, 1) := by decide +kernel
theorem dX7_lay_8 : decode cX7_lay 8 = .ok (.getfield 19, 3) := by decide +kernel
theorem dX7_lay_11 : decode cX7_lay 11 = .ok (.getfield 99, 3) := by decide +kernel
theorem dX7_lay_14 : decode cX7_lay 14 = .ok (.goto 5, 3) := by decide +kernel
theorem dX7_lay_17 : decode cX7_lay 17 = .ok (.bipush (-2), 2) := by decide +kernel
theorem dX7_lay_19 : decode cX7_lay 19 = .ok (.ireturn, 1) := by decide +kernel
theorem dX7_move_0 : decode cX7_move 0 = .ok (.aload_n 0, 1) := by decide +kernel
theorem dX7_move_1 : decode cX7_move 1 = .ok (.getfield 19, 3) := by decide +kernel
theorem dX7_move_4 : decode cX7_move 4 = .ok (.iload_n 1, 1) := by decide +kernel
theorem dX7_move_5 : decode cX7_move 5 = .ok (.invokevirtual 102, 3) := by decide +kernel
theorem dX7_move_8 : decode cX7_move 8 = .ok (.ifCond .eq 10, 3) := by decide +kernel
theorem dX7_move_11 : decode cX7_move 11 = .ok (.iload_n 2, 1) := by decide +kernel
theorem dX7_move_12 : decode cX7_move 12 = .ok (.invokestatic 105, 3) := by decide +kernel
theorem dX7_move_15 : decode cX7_move 15 = .ok (.ifCond .ne 5, 3) := by decide +kernel
theorem dX7_move_18 : decode cX7_move 18 = .ok (.iconst (-1), 1) := by decide +kernel
theorem dX7_move_19 : decode cX7_move 19 = .ok (.ireturn, 1) := by decide +kernel
theorem dX7_move_20 : decode cX7_move 20 = .ok (.aload_n 0, 1) := by decide +kernel
theorem dX7_move_21 : decode cX7_move 21 = .ok (.getfield 54, 3) := by decide +kernel
theorem dX7_move_24 : decode cX7_move 24 = .ok (.getfield 108, 3) := by decide +kernel
theorem dX7_move_27 : decode cX7_move 27 = .ok (.iload_n 1, 1) := by decide +kernel
theorem dX7_move_28 : decode cX7_move 28 = .ok (.iaload, 1) := by decide +kernel
theorem dX7_move_29 : decode cX7_move 29 = .ok (.istore_n 3, 1) := by decide +kernel
theorem dX7_move_30 : decode cX7_move 30 = .ok (.iload_n 3, 1) := by decide +kernel
theorem dX7_move_31 : decode cX7_move 31 = .ok (.iload_n 2, 1) := by decide +kernel
theorem dX7_move_32 : decode cX7_move 32 = .ok (.if_icmp .ne 6, 3) := by decide +kernel
theorem dX7_move_35 : decode cX7_move 35 = .ok (.bipush (-2), 2) := by decide +kernel
theorem dX7_move_37 : decode cX7_move 37 = .ok (.ireturn, 1) := by decide +kernel
theorem dX7_move_38 : decode cX7_move 38 = .ok (.aload_n 0, 1) := by decide +kernel
theorem dX7_move_39 : decode cX7_move 39 = .ok (.getfield 64, 3) := by decide +kernel
theorem dX7_move_42 : decode cX7_move 42 = .ok (.aload_n 0, 1) := by decide +kernel
theorem dX7_move_43 : decode cX7_move 43 = .ok (.getfield 54, 3) := by decide +kernel
theorem dX7_move_46 : decode cX7_move 46 = .ok (.invokevirtual 111, 3) := by decide +kernel
theorem dX7_move_49 : decode cX7_move 49 = .ok (.aload_n 0, 1) := by decide +kernel
theorem dX7_move_50 : decode cX7_move 50 = .ok (.getfield 54, 3) := by decide +kernel
theorem dX7_move_53 : decode cX7_move 53 = .ok (.getfield 108, 3) := by decide +kernel
theorem dX7_move_56 : decode cX7_move 56 = .ok (.iload_n 1, 1) := by decide +kernel
theorem dX7_move_57 : decode cX7_move 57 = .ok (.iload_n 2, 1) := by decide +kernel
theorem dX7_move_58 : decode cX7_move 58 = .ok (.iastore, 1) := by decide +kernel
theorem dX7_move_59 : decode cX7_move 59 = .ok (.aload_n 0, 1) := by decide +kernel
theorem dX7_move_60 : decode cX7_move 60 = .ok (.getfield 54, 3) := by decide +kernel
theorem dX7_move_63 : decode cX7_move 63 = .ok (.aload_n 0, 1) := by decide +kernel
theorem dX7_move_64 : decode cX7_move 64 = .ok (.getfield 38, 3) := by decide +kernel
theorem dX7_move_67 : decode cX7_move 67 = .ok (.aload_n 0, 1) := by decide +kernel
theorem dX7_move_68 : decode cX7_move 68 = .ok (.getfield 54, 3) := by decide +kernel
theorem dX7_move_71 : decode cX7_move 71 = .ok (.invokevirtual 115, 3) := by decide +kernel
theorem dX7_move_74 : decode cX7_move 74 = .ok (.invokevirtual 119, 3) := by decide +kernel
theorem dX7_move_77 : decode cX7_move 77 = .ok (.iload_n 3, 1) := by decide +kernel
theorem dX7_move_78 : decode cX7_move 78 = .ok (.ireturn, 1) := by decide +kernel
theorem dX7_even_0 : decode cX7_even 0 = .ok (.aload_n 0, 1) := by decide +kernel
theorem dX7_even_1 : decode cX7_even 1 = .ok (.getfield 19, 3) := by decide +kernel
theorem dX7_even_4 : decode cX7_even 4 = .ok (.iload_n 1, 1) := by decide +kernel
theorem dX7_even_5 : decode cX7_even 5 = .ok (.invokevirtual 123, 3) := by decide +kernel
theorem dX7_even_8 : decode cX7_even 8 = .ok (.ifCond .eq 14, 3) := by decide +kernel
theorem dX7_even_11 : decode cX7_even 11 = .ok (.aload_n 0, 1) := by decide +kernel
theorem dX7_even_12 : decode cX7_even 12 = .ok (.getfield 19, 3) := by decide +kernel
theorem dX7_even_15 : decode cX7_even 15 = .ok (.iload_n 2, 1) := by decide +kernel
theorem dX7_even_16 : decode cX7_even 16 = .ok (.invokevirtual 123, 3) := by decide +kernel
theorem dX7_even_19 : decode cX7_even 19 = .ok (.ifCond .ne 5, 3) := by decide +kernel
theorem dX7_even_22 : decode cX7_even 22 = .ok (.iconst (-1), 1) := by decide +kernel
theorem dX7_even_23 : decode cX7_even 23 = .ok (.ireturn, 1) := by decide +kernel
theorem dX7_even_24 : decode cX7_even 24 = .ok (.iload_n 1, 1) := by decide +kernel
theorem dX7_even_25 : decode cX7_even 25 = .ok (.iload_n 2, 1) := by decide +kernel
theorem dX7_even_26 : decode cX7_even 26 = .ok (.if_icmp .ne 7, 3) := by decide +kernel
theorem dX7_even_29 : decode cX7_even 29 = .ok (.iconst 0, 1) := by decide +kernel
theorem dX7_even_30 : decode cX7_even 30 = .ok (.goto 9, 3) := by decide +kernel
theorem dX7_even_33 : decode cX7_even 33 = .ok (.aload_n 0, 1) := by decide +kernel
theorem dX7_even_34 : decode cX7_even 34 = .ok (.iload_n 1, 1) := by decide +kernel
theorem dX7_even_35 : decode cX7_even 35 = .ok (.iload_n 2, 1) := by decide +kernel
theorem dX7_even_36 : decode cX7_even 36 = .ok (.invokevirtual 126, 3) := by decide +kernel
theorem dX7_even_39 : decode cX7_even 39 = .ok (.istore_n 3, 1) := by decide +kernel
theorem dX7_even_40 : decode cX7_even 40 = .ok (.iload_n 3, 1) := by decide +kernel
theorem dX7_even_41 : decode cX7_even 41 = .ok (.ifCond .ne 6, 3) := by decide +kernel
theorem dX7_even_44 : decode cX7_even 44 = .ok (.bipush (-2), 2) := by decide +kernel
theorem dX7_even_46 : decode cX7_even 46 = .ok (.ireturn, 1) := by decide +kernel
theorem dX7_even_47 : decode cX7_even 47 = .ok (.aload_n 0, 1) := by decide +kernel
theorem dX7_even_48 : decode cX7_even 48 = .ok (.getfield 64, 3) := by decide +kernel
theorem dX7_even_51 : decode cX7_even 51 = .ok (.aload_n 0, 1) := by decide +kernel
theorem dX7_even_52 : decode cX7_even 52 = .ok (.getfield 54, 3) := by decide +kernel
theorem dX7_even_55 : decode cX7_even 55 = .ok (.invokevirtual 111, 3) := by decide +kernel
theorem dX7_even_58 : decode cX7_even 58 = .ok (.iconst 0, 1) := by decide +kernel
theorem dX7_even_59 : decode cX7_even 59 = .ok (.istore 4, 2) := by decide +kernel
theorem dX7_even_61 : decode cX7_even 61 = .ok (.iload 4, 2) := by decide +kernel
theorem dX7_even_63 : decode cX7_even 63 = .ok (.aload_n 0, 1) := by decide +kernel
theorem dX7_even_64 : decode cX7_even 64 = .ok (.getfield 19, 3) := by decide +kernel
theorem dX7_even_67 : decode cX7_even 67 = .ok (.getfield 99, 3) := by decide +kernel
theorem dX7_even_70 : decode cX7_even 70 = .ok (.if_icmp .ge 26, 3) := by decide +kernel
theorem dX7_even_73 : decode cX7_even 73 = .ok (.aload_n 0, 1) := by decide +kernel
theorem dX7_even_74 : decode cX7_even 74 = .ok (.getfield 54, 3) := by decide +kernel
theorem dX7_even_77 : decode cX7_even 77 = .ok (.getfield 108, 3) := by decide +kernel
theorem dX7_even_80 : decode cX7_even 80 = .ok (.iload 4, 2) := by decide +kernel
theorem dX7_even_82 : decode cX7_even 82 = .ok (.aload_n 0, 1) := by decide +kernel
theorem dX7_even_83 : decode cX7_even 83 = .ok (.getfield 68, 3) := by decide +kernel
theorem dX7_even_86 : decode cX7_even 86 = .ok (.iload 4, 2) := by decide +kernel
theorem dX7_even_88 : decode cX7_even 88 = .ok (.iaload, 1) := by decide +kernel
theorem dX7_even_89 : decode cX7_even 89 = .ok (.iastore, 1) := by decide +kernel
theorem dX7_even_90 : decode cX7_even 90 = .ok (.iinc 4 1, 3) := by decide +kernel
theorem dX7_even_93 : decode cX7_even 93 = .ok (.goto (-32), 3) := by decide +kernel
theorem dX7_even_96 : decode cX7_even 96 = .ok (.aload_n 0, 1) := by decide +kernel
theorem dX7_even_97 : decode cX7_even 97 = .ok (.getfield 54, 3) := by decide +kernel
theorem dX7_even_100 : decode cX7_even 100 = .ok (.aload_n 0, 1) := by decide +kernel
theorem dX7_even_101 : decode cX7_even 101 = .ok (.getfield 38, 3) := by decide +kernel
theorem dX7_even_104 : decode cX7_even 104 = .ok (.aload_n 0, 1) := by decide +kernel
theorem dX7_even_105 : decode cX7_even 105 = .ok (.getfield 54, 3) := by decide +kernel
theorem dX7_even_108 : decode cX7_even 108 = .ok (.invokevirtual 115, 3) := by decide +kernel
theorem dX7_even_111 : decode cX7_even 111 = .ok (.invokevirtual 119, 3) := by decide +kernel
theorem dX7_even_114 : decode cX7_even 114 = .ok (.iload_n 3, 1) := by decide +kernel
theorem dX7_even_115 : decode cX7_even 115 = .ok (.ireturn, 1) := by decide +kernel
theorem dX7_step_0 : decode cX7_step 0 = .ok (.iload_n 1, 1) := by decide +kernel
theorem dX7_step_1 : decode cX7_step 1 = .ok (.iconst 1, 1) := by decide +kernel
theorem dX7_step_2 : decode cX7_step 2 = .ok (.if_icmp .lt 8, 3) := by decide +kernel
theorem dX7_step_5 : decode cX7_step 5 = .ok (.iload_n 1, 1) := by decide +kernel
theorem dX7_step_6 : decode cX7_step 6 = .ok (.iconst 3, 1) := by decide +kernel
theorem dX7_step_7 : decode cX7_step 7 = .ok (.if_icmp .le 5, 3) := by decide +kernel
theorem dX7_step_10 : decode cX7_step 10 = .ok (.iconst (-1), 1) := by decide +kernel
theorem dX7_step_11 : decode cX7_step 11 = .ok (.ireturn, 1) := by decide +kernel
theorem dX7_step_12 : decode cX7_step 12 = .ok (.bipush (-2), 2) := by decide +kernel
theorem dX7_step_14 : decode cX7_step 14 = .ok (.istore_n 2, 1) := by decide +kernel
theorem dX7_step_15 : decode cX7_step 15 = .ok (.iconst 0, 1) := by decide +kernel
theorem dX7_step_16 : decode cX7_step 16 = .ok (.istore_n 3, 1) := by decide +kernel
theorem dX7_step_17 : decode cX7_step 17 = .ok (.iload_n 3, 1) := by decide +kernel
theorem dX7_step_18 : decode cX7_step 18 = .ok (.iload_n 1, 1) := by decide +kernel
theorem dX7_step_19 : decode cX7_step 19 = .ok (.if_icmp .ge 94, 3) := by decide +kernel
theorem dX7_step_22 : decode cX7_step 22 = .ok (.aload_n 0, 1) := by decide +kernel
theorem dX7_step_23 : decode cX7_step 23 = .ok (.getfield 47, 3) := by decide +kernel
theorem dX7_step_26 : decode cX7_step 26 = .ok (.aload_n 0, 1) := by decide +kernel
theorem dX7_step_27 : decode cX7_step 27 = .ok (.getfield 54, 3) := by decide +kernel
theorem dX7_step_30 : decode cX7_step 30 = .ok (.iconst (-1), 1) := by decide +kernel
theorem dX7_step_31 : decode cX7_step 31 = .ok (.iconst 1, 1) := by decide +kernel
theorem dX7_step_32 : decode cX7_step 32 = .ok (.invokevirtual 130, 3) := by decide +kernel
theorem dX7_step_35 : decode cX7_step 35 = .ok (.ifCond .ne 5, 3) := by decide +kernel
theorem dX7_step_38 : decode cX7_step 38 = .ok (.iload_n 2, 1) := by decide +kernel
theorem dX7_step_39 : decode cX7_step 39 = .ok (.ireturn, 1) := by decide +kernel
theorem dX7_step_40 : decode cX7_step 40 = .ok (.iload_n 3, 1) := by decide +kernel
theorem dX7_step_41 : decode cX7_step 41 = .ok (.ifCond .ne 14, 3) := by decide +kernel
theorem dX7_step_44 : decode cX7_step 44 = .ok (.aload_n 0, 1) := by decide +kernel
theorem dX7_step_45 : decode cX7_step 45 = .ok (.getfield 64, 3) := by decide +kernel
theorem dX7_step_48 : decode cX7_step 48 = .ok (.aload_n 0, 1) := by decide +kernel
theorem dX7_step_49 : decode cX7_step 49 = .ok (.getfield 54, 3) := by decide +kernel
theorem dX7_step_52 : decode cX7_step 52 = .ok (.invokevirtual 111, 3) := by decide +kernel
theorem dX7_step_55 : decode cX7_step 55 = .ok (.aload_n 0, 1) := by decide +kernel
theorem dX7_step_56 : decode cX7_step 56 = .ok (.getfield 54, 3) := by decide +kernel
theorem dX7_step_59 : decode cX7_step 59 = .ok (.aload_n 0, 1) := by decide +kernel
theorem dX7_step_60 : decode cX7_step 60 = .ok (.getfield 54, 3) := by decide +kernel
theorem dX7_step_63 : decode cX7_step 63 = .ok (.invokevirtual 134, 3) := by decide +kernel
theorem dX7_step_66 : decode cX7_step 66 = .ok (.invokevirtual 137, 3) := by decide +kernel
theorem dX7_step_69 : decode cX7_step 69 = .ok (.aload_n 0, 1) := by decide +kernel
theorem dX7_step_70 : decode cX7_step 70 = .ok (.getfield 54, 3) := by decide +kernel
theorem dX7_step_73 : decode cX7_step 73 = .ok (.getfield 108, 3) := by decide +kernel
theorem dX7_step_76 : decode cX7_step 76 = .ok (.aload_n 0, 1) := by decide +kernel
theorem dX7_step_77 : decode cX7_step 77 = .ok (.getfield 47, 3) := by decide +kernel
theorem dX7_step_80 : decode cX7_step 80 = .ok (.getfield 140, 3) := by decide +kernel
theorem dX7_step_83 : decode cX7_step 83 = .ok (.aload_n 0, 1) := by decide +kernel
theorem dX7_step_84 : decode cX7_step 84 = .ok (.getfield 47, 3) := by decide +kernel
theorem dX7_step_87 : decode cX7_step 87 = .ok (.getfield 143, 3) := by decide +kernel
theorem dX7_step_90 : decode cX7_step 90 = .ok (.iastore, 1) := by decide +kernel
theorem dX7_step_91 : decode cX7_step 91 = .ok (.aload_n 0, 1) := by decide +kernel
theorem dX7_step_92 : decode cX7_step 92 = .ok (.getfield 47, 3) := by decide +kernel
theorem dX7_step_95 : decode cX7_step 95 = .ok (.getfield 145, 3) := by decide +kernel
theorem dX7_step_98 : decode cX7_step 98 = .ok (.istore_n 2, 1) := by decide +kernel
theorem dX7_step_99 : decode cX7_step 99 = .ok (.aload_n 0, 1) := by decide +kernel
theorem dX7_step_100 : decode cX7_step 100 = .ok (.getfield 54, 3) := by decide +kernel
theorem dX7_step_103 : decode cX7_step 103 = .ok (.iload_n 2, 1) := by decide +kernel
theorem dX7_step_104 : decode cX7_step 104 = .ok (.invokevirtual 119, 3) := by decide +kernel
theorem dX7_step_107 : decode cX7_step 107 = .ok (.iinc 3 1, 3) := by decide +kernel
theorem dX7_step_110 : decode cX7_step 110 = .ok (.goto (-93), 3) := by decide +kernel
theorem dX7_step_113 : decode cX7_step 113 = .ok (.iload_n 2, 1) := by decide +kernel
theorem dX7_step_114 : decode cX7_step 114 = .ok (.ireturn, 1) := by decide +kernel
theorem dX7_turn_0 : decode cX7_turn 0 = .ok (.aload_n 0, 1) := by decide +kernel
theorem dX7_turn_1 : decode cX7_turn 1 = .ok (.getfield 19, 3) := by decide +kernel
theorem dX7_turn_4 : decode cX7_turn 4 = .ok (.iload_n 1, 1) := by decide +kernel
theorem dX7_turn_5 : decode cX7_turn 5 = .ok (.invokevirtual 102, 3) := by decide +kernel
theorem dX7_turn_8 : decode cX7_turn 8 = .ok (.ifCond .eq 12, 3) := by decide +kernel
theorem dX7_turn_11 : decode cX7_turn 11 = .ok (.iload_n 2, 1) := by decide +kernel
theorem dX7_turn_12 : decode cX7_turn 12 = .ok (.ifCond .lt 8, 3) := by decide +kernel
theorem dX7_turn_15 : decode cX7_turn 15 = .ok (.iload_n 2, 1) := by decide +kernel
theorem dX7_turn_16 : decode cX7_turn 16 = .ok (.iconst 1, 1) := by decide +kernel
theorem dX7_turn_17 : decode cX7_turn 17 = .ok (.if_icmp .le 5, 3) := by decide +kernel
theorem dX7_turn_20 : decode cX7_turn 20 = .ok (.iconst (-1), 1) := by decide +kernel
theorem dX7_turn_21 : decode cX7_turn 21 = .ok (.ireturn, 1) := by decide +kernel
theorem dX7_turn_22 : decode cX7_turn 22 = .ok (.iload_n 2, 1) := by decide +kernel
theorem dX7_turn_23 : decode cX7_turn 23 = .ok (.iconst 1, 1) := by decide +kernel
theorem dX7_turn_24 : decode cX7_turn 24 = .ok (.if_icmp .ne 7, 3) := by decide +kernel
theorem dX7_turn_27 : decode cX7_turn 27 = .ok (.iconst 1, 1) := by decide +kernel
theorem dX7_turn_28 : decode cX7_turn 28 = .ok (.goto 4, 3) := by decide +kernel
theorem dX7_turn_31 : decode cX7_turn 31 = .ok (.iconst 0, 1) := by decide +kernel
theorem dX7_turn_32 : decode cX7_turn 32 = .ok (.istore_n 3, 1) := by decide +kernel
theorem dX7_turn_33 : decode cX7_turn 33 = .ok (.aload_n 0, 1) := by decide +kernel
theorem dX7_turn_34 : decode cX7_turn 34 = .ok (.getfield 54, 3) := by decide +kernel
theorem dX7_turn_37 : decode cX7_turn 37 = .ok (.getfield 148, 3) := by decide +kernel
theorem dX7_turn_40 : decode cX7_turn 40 = .ok (.iload_n 1, 1) := by decide +kernel
theorem dX7_turn_41 : decode cX7_turn 41 = .ok (.baload, 1) := by decide +kernel
theorem dX7_turn_42 : decode cX7_turn 42 = .ok (.iload_n 3, 1) := by decide +kernel
theorem dX7_turn_43 : decode cX7_turn 43 = .ok (.if_icmp .ne 6, 3) := by decide +kernel
theorem dX7_turn_46 : decode cX7_turn 46 = .ok (.bipush (-2), 2) := by decide +kernel
theorem dX7_turn_48 : decode cX7_turn 48 = .ok (.ireturn, 1) := by decide +kernel
theorem dX7_turn_49 : decode cX7_turn 49 = .ok (.aload_n 0, 1) := by decide +kernel
theorem dX7_turn_50 : decode cX7_turn 50 = .ok (.getfield 64, 3) := by decide +kernel
theorem dX7_turn_53 : decode cX7_turn 53 = .ok (.aload_n 0, 1) := by decide +kernel
theorem dX7_turn_54 : decode cX7_turn 54 = .ok (.getfield 54, 3) := by decide +kernel
theorem dX7_turn_57 : decode cX7_turn 57 = .ok (.invokevirtual 111, 3) := by decide +kernel
theorem dX7_turn_60 : decode cX7_turn 60 = .ok (.aload_n 0, 1) := by decide +kernel
theorem dX7_turn_61 : decode cX7_turn 61 = .ok (.getfield 54, 3) := by decide +kernel
theorem dX7_turn_64 : decode cX7_turn 64 = .ok (.getfield 148, 3) := by decide +kernel
theorem dX7_turn_67 : decode cX7_turn 67 = .ok (.iload_n 1, 1) := by decide +kernel
theorem dX7_turn_68 : decode cX7_turn 68 = .ok (.iload_n 3, 1) := by decide +kernel
theorem dX7_turn_69 : decode cX7_turn 69 = .ok (.bastore, 1) := by decide +kernel
theorem dX7_turn_70 : decode cX7_turn 70 = .ok (.aload_n 0, 1) := by decide +kernel
theorem dX7_turn_71 : decode cX7_turn 71 = .ok (.getfield 38, 3) := by decide +kernel
theorem dX7_turn_74 : decode cX7_turn 74 = .ok (.aload_n 0, 1) := by decide +kernel
theorem dX7_turn_75 : decode cX7_turn 75 = .ok (.getfield 54, 3) := by decide +kernel
theorem dX7_turn_78 : decode cX7_turn 78 = .ok (.invokevirtual 115, 3) := by decide +kernel
theorem dX7_turn_81 : decode cX7_turn 81 = .ok (.ireturn, 1) := by decide +kernel
theorem dX7_undo_0 : decode cX7_undo 0 = .ok (.aload_n 0, 1) := by decide +kernel
theorem dX7_undo_1 : decode cX7_undo 1 = .ok (.getfield 64, 3) := by decide +kernel
theorem dX7_undo_4 : decode cX7_undo 4 = .ok (.aload_n 0, 1) := by decide +kernel
theorem dX7_undo_5 : decode cX7_undo 5 = .ok (.getfield 54, 3) := by decide +kernel
theorem dX7_undo_8 : decode cX7_undo 8 = .ok (.invokevirtual 152, 3) := by decide +kernel
theorem dX7_undo_11 : decode cX7_undo 11 = .ok (.ifCond .eq 13, 3) := by decide +kernel
theorem dX7_undo_14 : decode cX7_undo 14 = .ok (.aload_n 0, 1) := by decide +kernel
theorem dX7_undo_15 : decode cX7_undo 15 = .ok (.getfield 64, 3) := by decide +kernel
theorem dX7_undo_18 : decode cX7_undo 18 = .ok (.getfield 156, 3) := by decide +kernel
theorem dX7_undo_21 : decode cX7_undo 21 = .ok (.goto 5, 3) := by decide +kernel
theorem dX7_undo_24 : decode cX7_undo 24 = .ok (.bipush (-2), 2) := by decide +kernel
theorem dX7_undo_26 : decode cX7_undo 26 = .ok (.ireturn, 1) := by decide +kernel
theorem dX7_link_0 : decode cX7_link 0 = .ok (.aload_n 0, 1) := by decide +kernel
theorem dX7_link_1 : decode cX7_link 1 = .ok (.getfield 19, 3) := by decide +kernel
theorem dX7_link_4 : decode cX7_link 4 = .ok (.iload_n 1, 1) := by decide +kernel
theorem dX7_link_5 : decode cX7_link 5 = .ok (.invokevirtual 102, 3) := by decide +kernel
theorem dX7_link_8 : decode cX7_link 8 = .ok (.ifCond .ne 5, 3) := by decide +kernel
theorem dX7_link_11 : decode cX7_link 11 = .ok (.iconst (-1), 1) := by decide +kernel
theorem dX7_link_12 : decode cX7_link 12 = .ok (.ireturn, 1) := by decide +kernel
theorem dX7_link_13 : decode cX7_link 13 = .ok (.aload_n 0, 1) := by decide +kernel
theorem dX7_link_14 : decode cX7_link 14 = .ok (.getfield 38, 3) := by decide +kernel
theorem dX7_link_17 : decode cX7_link 17 = .ok (.aload_n 0, 1) := by decide +kernel
theorem dX7_link_18 : decode cX7_link 18 = .ok (.getfield 54, 3) := by decide +kernel
theorem dX7_link_21 : decode cX7_link 21 = .ok (.invokevirtual 115, 3) := by decide +kernel
theorem dX7_link_24 : decode cX7_link 24 = .ok (.pop, 1) := by decide +kernel
theorem dX7_link_25 : decode cX7_link 25 = .ok (.iload_n 2, 1) := by decide +kernel
theorem dX7_link_26 : decode cX7_link 26 = .ok (.tableswitch 136 0 7 #[46, 56, 66, 76, 86, 104, 114, 123], 46) := by decide +kernel
theorem dX7_link_72 : decode cX7_link 72 = .ok (.aload_n 0, 1) := by decide +kernel
theorem dX7_link_73 : decode cX7_link 73 = .ok (.getfield 19, 3) := by decide +kernel
theorem dX7_link_76 : decode cX7_link 76 = .ok (.getfield 159, 3) := by decide +kernel
theorem dX7_link_79 : decode cX7_link 79 = .ok (.iload_n 1, 1) := by decide +kernel
theorem dX7_link_80 : decode cX7_link 80 = .ok (.iaload, 1) := by decide +kernel
theorem dX7_link_81 : decode cX7_link 81 = .ok (.ireturn, 1) := by decide +kernel
theorem dX7_link_82 : decode cX7_link 82 = .ok (.aload_n 0, 1) := by decide +kernel
theorem dX7_link_83 : decode cX7_link 83 = .ok (.getfield 19, 3) := by decide +kernel
theorem dX7_link_86 : decode cX7_link 86 = .ok (.getfield 162, 3) := by decide +kernel
theorem dX7_link_89 : decode cX7_link 89 = .ok (.iload_n 1, 1) := by decide +kernel
theorem dX7_link_90 : decode cX7_link 90 = .ok (.iaload, 1) := by decide +kernel
theorem dX7_link_91 : decode cX7_link 91 = .ok (.ireturn, 1) := by decide +kernel
theorem dX7_link_92 : decode cX7_link 92 = .ok (.aload_n 0, 1) := by decide +kernel
theorem dX7_link_93 : decode cX7_link 93 = .ok (.getfield 19, 3) := by decide +kernel
theorem dX7_link_96 : decode cX7_link 96 = .ok (.getfield 165, 3) := by decide +kernel
theorem dX7_link_99 : decode cX7_link 99 = .ok (.iload_n 1, 1) := by decide +kernel
theorem dX7_link_100 : decode cX7_link 100 = .ok (.iaload, 1) := by decide +kernel
theorem dX7_link_101 : decode cX7_link 101 = .ok (.ireturn, 1) := by decide +kernel
theorem dX7_link_102 : decode cX7_link 102 = .ok (.aload_n 0, 1) := by decide +kernel
theorem dX7_link_103 : decode cX7_link 103 = .ok (.getfield 54, 3) := by decide +kernel
theorem dX7_link_106 : decode cX7_link 106 = .ok (.getfield 108, 3) := by decide +kernel
theorem dX7_link_109 : decode cX7_link 109 = .ok (.iload_n 1, 1) := by decide +kernel
theorem dX7_link_110 : decode cX7_link 110 = .ok (.iaload, 1) := by decide +kernel
theorem dX7_link_111 : decode cX7_link 111 = .ok (.ireturn, 1) := by decide +kernel
theorem dX7_link_112 : decode cX7_link 112 = .ok (.aload_n 0, 1) := by decide +kernel
theorem dX7_link_113 : decode cX7_link 113 = .ok (.getfield 54, 3) := by decide +kernel
theorem dX7_link_116 : decode cX7_link 116 = .ok (.getfield 148, 3) := by decide +kernel
theorem dX7_link_119 : decode cX7_link 119 = .ok (.iload_n 1, 1) := by decide +kernel
theorem dX7_link_120 : decode cX7_link 120 = .ok (.baload, 1) := by decide +kernel
theorem dX7_link_121 : decode cX7_link 121 = .ok (.ifCond .eq 7, 3) := by decide +kernel
theorem dX7_link_124 : decode cX7_link 124 = .ok (.iconst 1, 1) := by decide +kernel
theorem dX7_link_125 : decode cX7_link 125 = .ok (.goto 4, 3) := by decide +kernel
theorem dX7_link_128 : decode cX7_link 128 = .ok (.iconst 0, 1) := by decide +kernel
theorem dX7_link_129 : decode cX7_link 129 = .ok (.ireturn, 1) := by decide +kernel
theorem dX7_link_130 : decode cX7_link 130 = .ok (.aload_n 0, 1) := by decide +kernel
theorem dX7_link_131 : decode cX7_link 131 = .ok (.getfield 38, 3) := by decide +kernel
theorem dX7_link_134 : decode cX7_link 134 = .ok (.getfield 168, 3) := by decide +kernel
theorem dX7_link_137 : decode cX7_link 137 = .ok (.iload_n 1, 1) := by decide +kernel
theorem dX7_link_138 : decode cX7_link 138 = .ok (.iaload, 1) := by decide +kernel
theorem dX7_link_139 : decode cX7_link 139 = .ok (.ireturn, 1) := by decide +kernel
theorem dX7_link_140 : decode cX7_link 140 = .ok (.aload_n 0, 1) := by decide +kernel
theorem dX7_link_141 : decode cX7_link 141 = .ok (.getfield 38, 3) := by decide +kernel
theorem dX7_link_144 : decode cX7_link 144 = .ok (.iload_n 1, 1) := by decide +kernel
theorem dX7_link_145 : decode cX7_link 145 = .ok (.invokevirtual 171, 3) := by decide +kernel
theorem dX7_link_148 : decode cX7_link 148 = .ok (.ireturn, 1) := by decide +kernel
theorem dX7_link_149 : decode cX7_link 149 = .ok (.aload_n 0, 1) := by decide +kernel
theorem dX7_link_150 : decode cX7_link 150 = .ok (.getfield 38, 3) := by decide +kernel
theorem dX7_link_153 : decode cX7_link 153 = .ok (.aload_n 0, 1) := by decide +kernel
theorem dX7_link_154 : decode cX7_link 154 = .ok (.getfield 54, 3) := by decide +kernel
theorem dX7_link_157 : decode cX7_link 157 = .ok (.iload_n 1, 1) := by decide +kernel
theorem dX7_link_158 : decode cX7_link 158 = .ok (.invokevirtual 175, 3) := by decide +kernel
theorem dX7_link_161 : decode cX7_link 161 = .ok (.ireturn, 1) := by decide +kernel
theorem dX7_link_162 : decode cX7_link 162 = .ok (.iconst (-1), 1) := by decide +kernel
theorem dX7_link_163 : decode cX7_link 163 = .ok (.ireturn, 1) := by decide +kernel
theorem dX7_far_0 : decode cX7_far 0 = .ok (.aload_n 0, 1) := by decide +kernel
theorem dX7_far_1 : decode cX7_far 1 = .ok (.getfield 19, 3) := by decide +kernel
theorem dX7_far_4 : decode cX7_far 4 = .ok (.iload_n 1, 1) := by decide +kernel
theorem dX7_far_5 : decode cX7_far 5 = .ok (.invokevirtual 123, 3) := by decide +kernel
theorem dX7_far_8 : decode cX7_far 8 = .ok (.ifCond .eq 14, 3) := by decide +kernel
theorem dX7_far_11 : decode cX7_far 11 = .ok (.aload_n 0, 1) := by decide +kernel
theorem dX7_far_12 : decode cX7_far 12 = .ok (.getfield 19, 3) := by decide +kernel
theorem dX7_far_15 : decode cX7_far 15 = .ok (.iload_n 2, 1) := by decide +kernel
theorem dX7_far_16 : decode cX7_far 16 = .ok (.invokevirtual 123, 3) := by decide +kernel
theorem dX7_far_19 : decode cX7_far 19 = .ok (.ifCond .ne 5, 3) := by decide +kernel
theorem dX7_far_22 : decode cX7_far 22 = .ok (.iconst (-1), 1) := by decide +kernel
theorem dX7_far_23 : decode cX7_far 23 = .ok (.ireturn, 1) := by decide +kernel
theorem dX7_far_24 : decode cX7_far 24 = .ok (.aload_n 0, 1) := by decide +kernel
theorem dX7_far_25 : decode cX7_far 25 = .ok (.getfield 38, 3) := by decide +kernel
theorem dX7_far_28 : decode cX7_far 28 = .ok (.aload_n 0, 1) := by decide +kernel
theorem dX7_far_29 : decode cX7_far 29 = .ok (.getfield 54, 3) := by decide +kernel
theorem dX7_far_32 : decode cX7_far 32 = .ok (.iload_n 2, 1) := by decide +kernel
theorem dX7_far_33 : decode cX7_far 33 = .ok (.invokevirtual 179, 3) := by decide +kernel
theorem dX7_far_36 : decode cX7_far 36 = .ok (.aload_n 0, 1) := by decide +kernel
theorem dX7_far_37 : decode cX7_far 37 = .ok (.getfield 38, 3) := by decide +kernel
theorem dX7_far_40 : decode cX7_far 40 = .ok (.getfield 183, 3) := by decide +kernel
theorem dX7_far_43 : decode cX7_far 43 = .ok (.iload_n 2, 1) := by decide +kernel
theorem dX7_far_44 : decode cX7_far 44 = .ok (.aaload, 1) := by decide +kernel
theorem dX7_far_45 : decode cX7_far 45 = .ok (.iload_n 1, 1) := by decide +kernel
theorem dX7_far_46 : decode cX7_far 46 = .ok (.iaload, 1) := by decide +kernel
theorem dX7_far_47 : decode cX7_far 47 = .ok (.istore_n 3, 1) := by decide +kernel
theorem dX7_far_48 : decode cX7_far 48 = .ok (.iload_n 3, 1) := by decide +kernel
theorem dX7_far_49 : decode cX7_far 49 = .ok (.iconst (-1), 1) := by decide +kernel
theorem dX7_far_50 : decode cX7_far 50 = .ok (.if_icmp .ne 8, 3) := by decide +kernel
theorem dX7_far_53 : decode cX7_far 53 = .ok (.bipush (-4), 2) := by decide +kernel
theorem dX7_far_55 : decode cX7_far 55 = .ok (.goto 4, 3) := by decide +kernel
theorem dX7_far_58 : decode cX7_far 58 = .ok (.iload_n 3, 1) := by decide +kernel
theorem dX7_far_59 : decode cX7_far 59 = .ok (.ireturn, 1) := by decide +kernel
theorem dX7_share_0 : decode cX7_share 0 = .ok (.aload_n 0, 1) := by decide +kernel
theorem dX7_share_1 : decode cX7_share 1 = .ok (.getfield 19, 3) := by decide +kernel
theorem dX7_share_4 : decode cX7_share 4 = .ok (.iload_n 1, 1) := by decide +kernel
theorem dX7_share_5 : decode cX7_share 5 = .ok (.invokevirtual 187, 3) := by decide +kernel
theorem dX7_share_8 : decode cX7_share 8 = .ok (.ifCond .eq 14, 3) := by decide +kernel
theorem dX7_share_11 : decode cX7_share 11 = .ok (.aload_n 0, 1) := by decide +kernel
theorem dX7_share_12 : decode cX7_share 12 = .ok (.getfield 19, 3) := by decide +kernel
theorem dX7_share_15 : decode cX7_share 15 = .ok (.iload_n 2, 1) := by decide +kernel
theorem dX7_share_16 : decode cX7_share 16 = .ok (.invokevirtual 102, 3) := by decide +kernel
theorem dX7_share_19 : decode cX7_share 19 = .ok (.ifCond .ne 5, 3) := by decide +kernel
theorem dX7_share_22 : decode cX7_share 22 = .ok (.iconst (-1), 1) := by decide +kernel
theorem dX7_share_23 : decode cX7_share 23 = .ok (.ireturn, 1) := by decide +kernel
theorem dX7_share_24 : decode cX7_share 24 = .ok (.aload_n 0, 1) := by decide +kernel
theorem dX7_share_25 : decode cX7_share 25 = .ok (.getfield 38, 3) := by decide +kernel
theorem dX7_share_28 : decode cX7_share 28 = .ok (.aload_n 0, 1) := by decide +kernel
theorem dX7_share_29 : decode cX7_share 29 = .ok (.getfield 54, 3) := by decide +kernel
theorem dX7_share_32 : decode cX7_share 32 = .ok (.invokevirtual 115, 3) := by decide +kernel
theorem dX7_share_35 : decode cX7_share 35 = .ok (.pop, 1) := by decide +kernel
theorem dX7_share_36 : decode cX7_share 36 = .ok (.aload_n 0, 1) := by decide +kernel
theorem dX7_share_37 : decode cX7_share 37 = .ok (.getfield 38, 3) := by decide +kernel
theorem dX7_share_40 : decode cX7_share 40 = .ok (.getfield 190, 3) := by decide +kernel
theorem dX7_share_43 : decode cX7_share 43 = .ok (.iload_n 1, 1) := by decide +kernel
theorem dX7_share_44 : decode cX7_share 44 = .ok (.aaload, 1) := by decide +kernel
theorem dX7_share_45 : decode cX7_share 45 = .ok (.iload_n 2, 1) := by decide +kernel
theorem dX7_share_46 : decode cX7_share 46 = .ok (.iaload, 1) := by decide +kernel
theorem dX7_share_47 : decode cX7_share 47 = .ok (.ireturn, 1) := by decide +kernel
theorem dX7_cost_0 : decode cX7_cost 0 = .ok (.aload_n 0, 1) := by decide +kernel
theorem dX7_cost_1 : decode cX7_cost 1 = .ok (.getfield 38, 3) := by decide +kernel
theorem dX7_cost_4 : decode cX7_cost 4 = .ok (.aload_n 0, 1) := by decide +kernel
theorem dX7_cost_5 : decode cX7_cost 5 = .ok (.getfield 54, 3) := by decide +kernel
theorem dX7_cost_8 : decode cX7_cost 8 = .ok (.invokevirtual 115, 3) := by decide +kernel
theorem dX7_cost_11 : decode cX7_cost 11 = .ok (.ireturn, 1) := by decide +kernel
theorem dX7_tabu_0 : decode cX7_tabu 0 = .ok (.aload_n 0, 1) := by decide +kernel
theorem dX7_tabu_1 : decode cX7_tabu 1 = .ok (.getfield 19, 3) := by decide +kernel
theorem dX7_tabu_4 : decode cX7_tabu 4 = .ok (.iload_n 1, 1) := by decide +kernel
theorem dX7_tabu_5 : decode cX7_tabu 5 = .ok (.invokevirtual 102, 3) := by decide +kernel
theorem dX7_tabu_8 : decode cX7_tabu 8 = .ok (.ifCond .eq 10, 3) := by decide +kernel
theorem dX7_tabu_11 : decode cX7_tabu 11 = .ok (.iload_n 2, 1) := by decide +kernel
theorem dX7_tabu_12 : decode cX7_tabu 12 = .ok (.invokestatic 105, 3) := by decide +kernel
theorem dX7_tabu_15 : decode cX7_tabu 15 = .ok (.ifCond .ne 5, 3) := by decide +kernel
theorem dX7_tabu_18 : decode cX7_tabu 18 = .ok (.iconst (-1), 1) := by decide +kernel
theorem dX7_tabu_19 : decode cX7_tabu 19 = .ok (.ireturn, 1) := by decide +kernel
theorem dX7_tabu_20 : decode cX7_tabu 20 = .ok (.aload_n 0, 1) := by decide +kernel
theorem dX7_tabu_21 : decode cX7_tabu 21 = .ok (.getfield 54, 3) := by decide +kernel
theorem dX7_tabu_24 : decode cX7_tabu 24 = .ok (.aload_n 0, 1) := by decide +kernel
theorem dX7_tabu_25 : decode cX7_tabu 25 = .ok (.getfield 54, 3) := by decide +kernel
theorem dX7_tabu_28 : decode cX7_tabu 28 = .ok (.iload_n 1, 1) := by decide +kernel
theorem dX7_tabu_29 : decode cX7_tabu 29 = .ok (.iload_n 2, 1) := by decide +kernel
theorem dX7_tabu_30 : decode cX7_tabu 30 = .ok (.invokevirtual 193, 3) := by decide +kernel
theorem dX7_tabu_33 : decode cX7_tabu 33 = .ok (.invokevirtual 196, 3) := by decide +kernel
theorem dX7_tabu_36 : decode cX7_tabu 36 = .ok (.ifCond .eq 7, 3) := by decide +kernel
theorem dX7_tabu_39 : decode cX7_tabu 39 = .ok (.iconst 1, 1) := by decide +kernel
theorem dX7_tabu_40 : decode cX7_tabu 40 = .ok (.goto 4, 3) := by decide +kernel
theorem dX7_tabu_43 : decode cX7_tabu 43 = .ok (.iconst 0, 1) := by decide +kernel
theorem dX7_tabu_44 : decode cX7_tabu 44 = .ok (.ireturn, 1) := by decide +kernel
theorem dX7_best_0 : decode cX7_best 0 = .ok (.iload_n 1, 1) := by decide +kernel
theorem dX7_best_1 : decode cX7_best 1 = .ok (.ifCond .lt 8, 3) := by decide +kernel
theorem dX7_best_4 : decode cX7_best 4 = .ok (.iload_n 1, 1) := by decide +kernel
theorem dX7_best_5 : decode cX7_best 5 = .ok (.iconst 2, 1) := by decide +kernel
theorem dX7_best_6 : decode cX7_best 6 = .ok (.if_icmp .le 5, 3) := by decide +kernel
theorem dX7_best_9 : decode cX7_best 9 = .ok (.iconst (-1), 1) := by decide +kernel
theorem dX7_best_10 : decode cX7_best 10 = .ok (.ireturn, 1) := by decide +kernel
theorem dX7_best_11 : decode cX7_best 11 = .ok (.aload_n 0, 1) := by decide +kernel
theorem dX7_best_12 : decode cX7_best 12 = .ok (.getfield 47, 3) := by decide +kernel
theorem dX7_best_15 : decode cX7_best 15 = .ok (.aload_n 0, 1) := by decide +kernel
theorem dX7_best_16 : decode cX7_best 16 = .ok (.getfield 54, 3) := by decide +kernel
theorem dX7_best_19 : decode cX7_best 19 = .ok (.iconst (-1), 1) := by decide +kernel
theorem dX7_best_20 : decode cX7_best 20 = .ok (.iconst 0, 1) := by decide +kernel
theorem dX7_best_21 : decode cX7_best 21 = .ok (.invokevirtual 130, 3) := by decide +kernel
theorem dX7_best_24 : decode cX7_best 24 = .ok (.ifCond .eq 14, 3) := by decide +kernel
theorem dX7_best_27 : decode cX7_best 27 = .ok (.aload_n 0, 1) := by decide +kernel
theorem dX7_best_28 : decode cX7_best 28 = .ok (.getfield 47, 3) := by decide +kernel
theorem dX7_best_31 : decode cX7_best 31 = .ok (.iload_n 1, 1) := by decide +kernel
theorem dX7_best_32 : decode cX7_best 32 = .ok (.invokevirtual 199, 3) := by decide +kernel
theorem dX7_best_35 : decode cX7_best 35 = .ok (.goto 5, 3) := by decide +kernel
theorem dX7_best_38 : decode cX7_best 38 = .ok (.bipush (-4), 2) := by decide +kernel
theorem dX7_best_40 : decode cX7_best 40 = .ok (.ireturn, 1) := by decide +kernel
theorem dX7_worst_0 : decode cX7_worst 0 = .ok (.iload_n 1, 1) := by decide +kernel
theorem dX7_worst_1 : decode cX7_worst 1 = .ok (.ifCond .lt 8, 3) := by decide +kernel
theorem dX7_worst_4 : decode cX7_worst 4 = .ok (.iload_n 1, 1) := by decide +kernel
theorem dX7_worst_5 : decode cX7_worst 5 = .ok (.iconst 1, 1) := by decide +kernel
theorem dX7_worst_6 : decode cX7_worst 6 = .ok (.if_icmp .le 5, 3) := by decide +kernel
theorem dX7_worst_9 : decode cX7_worst 9 = .ok (.iconst (-1), 1) := by decide +kernel
theorem dX7_worst_10 : decode cX7_worst 10 = .ok (.ireturn, 1) := by decide +kernel
theorem dX7_worst_11 : decode cX7_worst 11 = .ok (.iconst (-1), 1) := by decide +kernel
theorem dX7_worst_12 : decode cX7_worst 12 = .ok (.istore_n 2, 1) := by decide +kernel
theorem dX7_worst_13 : decode cX7_worst 13 = .ok (.iconst 0, 1) := by decide +kernel
theorem dX7_worst_14 : decode cX7_worst 14 = .ok (.istore_n 3, 1) := by decide +kernel
theorem dX7_worst_15 : decode cX7_worst 15 = .ok (.iconst 0, 1) := by decide +kernel
theorem dX7_worst_16 : decode cX7_worst 16 = .ok (.istore 4, 2) := by decide +kernel
theorem dX7_worst_18 : decode cX7_worst 18 = .ok (.iload 4, 2) := by decide +kernel
theorem dX7_worst_20 : decode cX7_worst 20 = .ok (.aload_n 0, 1) := by decide +kernel
theorem dX7_worst_21 : decode cX7_worst 21 = .ok (.getfield 19, 3) := by decide +kernel
theorem dX7_worst_24 : decode cX7_worst 24 = .ok (.getfield 99, 3) := by decide +kernel
theorem dX7_worst_27 : decode cX7_worst 27 = .ok (.if_icmp .ge 47, 3) := by decide +kernel
theorem dX7_worst_30 : decode cX7_worst 30 = .ok (.aload_n 0, 1) := by decide +kernel
theorem dX7_worst_31 : decode cX7_worst 31 = .ok (.getfield 54, 3) := by decide +kernel
theorem dX7_worst_34 : decode cX7_worst 34 = .ok (.getfield 148, 3) := by decide +kernel
theorem dX7_worst_37 : decode cX7_worst 37 = .ok (.iload 4, 2) := by decide +kernel
theorem dX7_worst_39 : decode cX7_worst 39 = .ok (.baload, 1) := by decide +kernel
theorem dX7_worst_40 : decode cX7_worst 40 = .ok (.ifCond .eq 28, 3) := by decide +kernel
theorem dX7_worst_43 : decode cX7_worst 43 = .ok (.aload_n 0, 1) := by decide +kernel
theorem dX7_worst_44 : decode cX7_worst 44 = .ok (.iload 4, 2) := by decide +kernel
theorem dX7_worst_46 : decode cX7_worst 46 = .ok (.invokevirtual 202, 3) := by decide +kernel
theorem dX7_worst_49 : decode cX7_worst 49 = .ok (.istore 5, 2) := by decide +kernel
theorem dX7_worst_51 : decode cX7_worst 51 = .ok (.iload_n 2, 1) := by decide +kernel
theorem dX7_worst_52 : decode cX7_worst 52 = .ok (.iconst (-1), 1) := by decide +kernel
theorem dX7_worst_53 : decode cX7_worst 53 = .ok (.if_icmp .eq 9, 3) := by decide +kernel
theorem dX7_worst_56 : decode cX7_worst 56 = .ok (.iload 5, 2) := by decide +kernel
theorem dX7_worst_58 : decode cX7_worst 58 = .ok (.iload_n 3, 1) := by decide +kernel
theorem dX7_worst_59 : decode cX7_worst 59 = .ok (.if_icmp .le 9, 3) := by decide +kernel
theorem dX7_worst_62 : decode cX7_worst 62 = .ok (.iload 4, 2) := by decide +kernel
theorem dX7_worst_64 : decode cX7_worst 64 = .ok (.istore_n 2, 1) := by decide +kernel
theorem dX7_worst_65 : decode cX7_worst 65 = .ok (.iload 5, 2) := by decide +kernel
theorem dX7_worst_67 : decode cX7_worst 67 = .ok (.istore_n 3, 1) := by decide +kernel
theorem dX7_worst_68 : decode cX7_worst 68 = .ok (.iinc 4 1, 3) := by decide +kernel
theorem dX7_worst_71 : decode cX7_worst 71 = .ok (.goto (-53), 3) := by decide +kernel
theorem dX7_worst_74 : decode cX7_worst 74 = .ok (.iload_n 2, 1) := by decide +kernel
theorem dX7_worst_75 : decode cX7_worst 75 = .ok (.iconst (-1), 1) := by decide +kernel
theorem dX7_worst_76 : decode cX7_worst 76 = .ok (.if_icmp .ne 6, 3) := by decide +kernel
theorem dX7_worst_79 : decode cX7_worst 79 = .ok (.bipush (-4), 2) := by decide +kernel
theorem dX7_worst_81 : decode cX7_worst 81 = .ok (.ireturn, 1) := by decide +kernel
theorem dX7_worst_82 : decode cX7_worst 82 = .ok (.iload_n 1, 1) := by decide +kernel
theorem dX7_worst_83 : decode cX7_worst 83 = .ok (.ifCond .ne 7, 3) := by decide +kernel
theorem dX7_worst_86 : decode cX7_worst 86 = .ok (.iload_n 2, 1) := by decide +kernel
theorem dX7_worst_87 : decode cX7_worst 87 = .ok (.goto 4, 3) := by decide +kernel
theorem dX7_worst_90 : decode cX7_worst 90 = .ok (.iload_n 3, 1) := by decide +kernel
theorem dX7_worst_91 : decode cX7_worst 91 = .ok (.ireturn, 1) := by decide +kernel
theorem dX7_rescue_0 : decode cX7_rescue 0 = .ok (.aload_n 0, 1) := by decide +kernel
theorem dX7_rescue_1 : decode cX7_rescue 1 = .ok (.getfield 19, 3) := by decide +kernel
theorem dX7_rescue_4 : decode cX7_rescue 4 = .ok (.iload_n 1, 1) := by decide +kernel
theorem dX7_rescue_5 : decode cX7_rescue 5 = .ok (.invokevirtual 102, 3) := by decide +kernel
theorem dX7_rescue_8 : decode cX7_rescue 8 = .ok (.ifCond .eq 12, 3) := by decide +kernel
theorem dX7_rescue_11 : decode cX7_rescue 11 = .ok (.iload_n 2, 1) := by decide +kernel
theorem dX7_rescue_12 : decode cX7_rescue 12 = .ok (.ifCond .lt 8, 3) := by decide +kernel
theorem dX7_rescue_15 : decode cX7_rescue 15 = .ok (.iload_n 2, 1) := by decide +kernel
theorem dX7_rescue_16 : decode cX7_rescue 16 = .ok (.iconst 2, 1) := by decide +kernel
theorem dX7_rescue_17 : decode cX7_rescue 17 = .ok (.if_icmp .le 5, 3) := by decide +kernel
theorem dX7_rescue_20 : decode cX7_rescue 20 = .ok (.iconst (-1), 1) := by decide +kernel
theorem dX7_rescue_21 : decode cX7_rescue 21 = .ok (.ireturn, 1) := by decide +kernel
theorem dX7_rescue_22 : decode cX7_rescue 22 = .ok (.aload_n 0, 1) := by decide +kernel
theorem dX7_rescue_23 : decode cX7_rescue 23 = .ok (.getfield 54, 3) := by decide +kernel
theorem dX7_rescue_26 : decode cX7_rescue 26 = .ok (.getfield 148, 3) := by decide +kernel
theorem dX7_rescue_29 : decode cX7_rescue 29 = .ok (.iload_n 1, 1) := by decide +kernel
theorem dX7_rescue_30 : decode cX7_rescue 30 = .ok (.baload, 1) := by decide +kernel
theorem dX7_rescue_31 : decode cX7_rescue 31 = .ok (.ifCond .ne 6, 3) := by decide +kernel
theorem dX7_rescue_34 : decode cX7_rescue 34 = .ok (.bipush (-2), 2) := by decide +kernel
theorem dX7_rescue_36 : decode cX7_rescue 36 = .ok (.ireturn, 1) := by decide +kernel
theorem dX7_rescue_37 : decode cX7_rescue 37 = .ok (.aload_n 0, 1) := by decide +kernel
theorem dX7_rescue_38 : decode cX7_rescue 38 = .ok (.iload_n 1, 1) := by decide +kernel
theorem dX7_rescue_39 : decode cX7_rescue 39 = .ok (.invokevirtual 202, 3) := by decide +kernel
theorem dX7_rescue_42 : decode cX7_rescue 42 = .ok (.istore_n 3, 1) := by decide +kernel
theorem dX7_rescue_43 : decode cX7_rescue 43 = .ok (.aload_n 0, 1) := by decide +kernel
theorem dX7_rescue_44 : decode cX7_rescue 44 = .ok (.getfield 47, 3) := by decide +kernel
theorem dX7_rescue_47 : decode cX7_rescue 47 = .ok (.aload_n 0, 1) := by decide +kernel
theorem dX7_rescue_48 : decode cX7_rescue 48 = .ok (.getfield 58, 3) := by decide +kernel
theorem dX7_rescue_51 : decode cX7_rescue 51 = .ok (.iload_n 1, 1) := by decide +kernel
theorem dX7_rescue_52 : decode cX7_rescue 52 = .ok (.iconst 0, 1) := by decide +kernel
theorem dX7_rescue_53 : decode cX7_rescue 53 = .ok (.invokevirtual 130, 3) := by decide +kernel
theorem dX7_rescue_56 : decode cX7_rescue 56 = .ok (.ifCond .eq 14, 3) := by decide +kernel
theorem dX7_rescue_59 : decode cX7_rescue 59 = .ok (.aload_n 0, 1) := by decide +kernel
theorem dX7_rescue_60 : decode cX7_rescue 60 = .ok (.getfield 47, 3) := by decide +kernel
theorem dX7_rescue_63 : decode cX7_rescue 63 = .ok (.getfield 145, 3) := by decide +kernel
theorem dX7_rescue_66 : decode cX7_rescue 66 = .ok (.iload_n 3, 1) := by decide +kernel
theorem dX7_rescue_67 : decode cX7_rescue 67 = .ok (.if_icmp .lt 6, 3) := by decide +kernel
theorem dX7_rescue_70 : decode cX7_rescue 70 = .ok (.bipush (-4), 2) := by decide +kernel
theorem dX7_rescue_72 : decode cX7_rescue 72 = .ok (.ireturn, 1) := by decide +kernel
theorem dX7_rescue_73 : decode cX7_rescue 73 = .ok (.aload_n 0, 1) := by decide +kernel
theorem dX7_rescue_74 : decode cX7_rescue 74 = .ok (.getfield 47, 3) := by decide +kernel
theorem dX7_rescue_77 : decode cX7_rescue 77 = .ok (.iload_n 2, 1) := by decide +kernel
theorem dX7_rescue_78 : decode cX7_rescue 78 = .ok (.invokevirtual 199, 3) := by decide +kernel
theorem dX7_rescue_81 : decode cX7_rescue 81 = .ok (.ireturn, 1) := by decide +kernel
theorem dX7_count_0 : decode cX7_count 0 = .ok (.aload_n 0, 1) := by decide +kernel
theorem dX7_count_1 : decode cX7_count 1 = .ok (.getfield 38, 3) := by decide +kernel
theorem dX7_count_4 : decode cX7_count 4 = .ok (.aload_n 0, 1) := by decide +kernel
theorem dX7_count_5 : decode cX7_count 5 = .ok (.getfield 54, 3) := by decide +kernel
theorem dX7_count_8 : decode cX7_count 8 = .ok (.invokevirtual 115, 3) := by decide +kernel
theorem dX7_count_11 : decode cX7_count 11 = .ok (.pop, 1) := by decide +kernel
theorem dX7_count_12 : decode cX7_count 12 = .ok (.iload_n 1, 1) := by decide +kernel
theorem dX7_count_13 : decode cX7_count 13 = .ok (.tableswitch 147 0 10 #[59, 67, 75, 83, 91, 99, 107, 115, 123, 131, 139], 59) := by decide +kernel
theorem dX7_count_72 : decode cX7_count 72 = .ok (.aload_n 0, 1) := by decide +kernel
theorem dX7_count_73 : decode cX7_count 73 = .ok (.getfield 19, 3) := by decide +kernel
theorem dX7_count_76 : decode cX7_count 76 = .ok (.getfield 205, 3) := by decide +kernel
theorem dX7_count_79 : decode cX7_count 79 = .ok (.ireturn, 1) := by decide +kernel
theorem dX7_count_80 : decode cX7_count 80 = .ok (.aload_n 0, 1) := by decide +kernel
theorem dX7_count_81 : decode cX7_count 81 = .ok (.getfield 19, 3) := by decide +kernel
theorem dX7_count_84 : decode cX7_count 84 = .ok (.getfield 99, 3) := by decide +kernel
theorem dX7_count_87 : decode cX7_count 87 = .ok (.ireturn, 1) := by decide +kernel
theorem dX7_count_88 : decode cX7_count 88 = .ok (.aload_n 0, 1) := by decide +kernel
theorem dX7_count_89 : decode cX7_count 89 = .ok (.getfield 19, 3) := by decide +kernel
theorem dX7_count_92 : decode cX7_count 92 = .ok (.getfield 208, 3) := by decide +kernel
theorem dX7_count_95 : decode cX7_count 95 = .ok (.ireturn, 1) := by decide +kernel
theorem dX7_count_96 : decode cX7_count 96 = .ok (.aload_n 0, 1) := by decide +kernel
theorem dX7_count_97 : decode cX7_count 97 = .ok (.getfield 54, 3) := by decide +kernel
theorem dX7_count_100 : decode cX7_count 100 = .ok (.invokevirtual 211, 3) := by decide +kernel
theorem dX7_count_103 : decode cX7_count 103 = .ok (.ireturn, 1) := by decide +kernel
theorem dX7_count_104 : decode cX7_count 104 = .ok (.aload_n 0, 1) := by decide +kernel
theorem dX7_count_105 : decode cX7_count 105 = .ok (.getfield 38, 3) := by decide +kernel
theorem dX7_count_108 : decode cX7_count 108 = .ok (.invokevirtual 214, 3) := by decide +kernel
theorem dX7_count_111 : decode cX7_count 111 = .ok (.ireturn, 1) := by decide +kernel
theorem dX7_count_112 : decode cX7_count 112 = .ok (.aload_n 0, 1) := by decide +kernel
theorem dX7_count_113 : decode cX7_count 113 = .ok (.getfield 38, 3) := by decide +kernel
theorem dX7_count_116 : decode cX7_count 116 = .ok (.invokevirtual 217, 3) := by decide +kernel
theorem dX7_count_119 : decode cX7_count 119 = .ok (.ireturn, 1) := by decide +kernel
theorem dX7_count_120 : decode cX7_count 120 = .ok (.aload_n 0, 1) := by decide +kernel
theorem dX7_count_121 : decode cX7_count 121 = .ok (.getfield 54, 3) := by decide +kernel
theorem dX7_count_124 : decode cX7_count 124 = .ok (.getfield 220, 3) := by decide +kernel
theorem dX7_count_127 : decode cX7_count 127 = .ok (.ireturn, 1) := by decide +kernel
theorem dX7_count_128 : decode cX7_count 128 = .ok (.aload_n 0, 1) := by decide +kernel
theorem dX7_count_129 : decode cX7_count 129 = .ok (.getfield 54, 3) := by decide +kernel
theorem dX7_count_132 : decode cX7_count 132 = .ok (.invokevirtual 134, 3) := by decide +kernel
theorem dX7_count_135 : decode cX7_count 135 = .ok (.ireturn, 1) := by decide +kernel
theorem dX7_count_136 : decode cX7_count 136 = .ok (.aload_n 0, 1) := by decide +kernel
theorem dX7_count_137 : decode cX7_count 137 = .ok (.getfield 54, 3) := by decide +kernel
theorem dX7_count_140 : decode cX7_count 140 = .ok (.getfield 223, 3) := by decide +kernel
theorem dX7_count_143 : decode cX7_count 143 = .ok (.ireturn, 1) := by decide +kernel
theorem dX7_count_144 : decode cX7_count 144 = .ok (.aload_n 0, 1) := by decide +kernel
theorem dX7_count_145 : decode cX7_count 145 = .ok (.getfield 64, 3) := by decide +kernel
theorem dX7_count_148 : decode cX7_count 148 = .ok (.getfield 156, 3) := by decide +kernel
theorem dX7_count_151 : decode cX7_count 151 = .ok (.ireturn, 1) := by decide +kernel
theorem dX7_count_152 : decode cX7_count 152 = .ok (.aload_n 0, 1) := by decide +kernel
theorem dX7_count_153 : decode cX7_count 153 = .ok (.getfield 10, 3) := by decide +kernel
theorem dX7_count_156 : decode cX7_count 156 = .ok (.getfield 92, 3) := by decide +kernel
theorem dX7_count_159 : decode cX7_count 159 = .ok (.ireturn, 1) := by decide +kernel
theorem dX7_count_160 : decode cX7_count 160 = .ok (.iconst (-1), 1) := by decide +kernel
theorem dX7_count_161 : decode cX7_count 161 = .ok (.ireturn, 1) := by decide +kernel
theorem dX7_isWeight_0 : decode cX7_isWeight 0 = .ok (.iload_n 0, 1) := by decide +kernel
theorem dX7_isWeight_1 : decode cX7_isWeight 1 = .ok (.iconst 1, 1) := by decide +kernel
theorem dX7_isWeight_2 : decode cX7_isWeight 2 = .ok (.if_icmp .lt 13, 3) := by decide +kernel
theorem dX7_isWeight_5 : decode cX7_isWeight 5 = .ok (.iload_n 0, 1) := by decide +kernel
theorem dX7_isWeight_6 : decode cX7_isWeight 6 = .ok (.bipush 20, 2) := by decide +kernel
theorem dX7_isWeight_8 : decode cX7_isWeight 8 = .ok (.if_icmp .gt 7, 3) := by decide +kernel
theorem dX7_isWeight_11 : decode cX7_isWeight 11 = .ok (.iconst 1, 1) := by decide +kernel
theorem dX7_isWeight_12 : decode cX7_isWeight 12 = .ok (.goto 4, 3) := by decide +kernel
theorem dX7_isWeight_15 : decode cX7_isWeight 15 = .ok (.iconst 0, 1) := by decide +kernel
theorem dX7_isWeight_16 : decode cX7_isWeight 16 = .ok (.ireturn, 1) := by decide +kernel
theorem dX7_layText_0 : decode cX7_layText 0 = .ok (.aload_n 0, 1) := by decide +kernel
theorem dX7_layText_1 : decode cX7_layText 1 = .ok (.getfield 29, 3) := by decide +kernel
theorem dX7_layText_4 : decode cX7_layText 4 = .ok (.aload_n 0, 1) := by decide +kernel
theorem dX7_layText_5 : decode cX7_layText 5 = .ok (.getfield 10, 3) := by decide +kernel
theorem dX7_layText_8 : decode cX7_layText 8 = .ok (.aload_n 0, 1) := by decide +kernel
theorem dX7_layText_9 : decode cX7_layText 9 = .ok (.getfield 23, 3) := by decide +kernel
theorem dX7_layText_12 : decode cX7_layText 12 = .ok (.invokevirtual 95, 3) := by decide +kernel
theorem dX7_layText_15 : decode cX7_layText 15 = .ok (.bipush (-4), 2) := by decide +kernel
theorem dX7_layText_17 : decode cX7_layText 17 = .ok (.if_icmp .ne 23, 3) := by decide +kernel
theorem dX7_layText_20 : decode cX7_layText 20 = .ok (.aload_n 0, 1) := by decide +kernel
theorem dX7_layText_21 : decode cX7_layText 21 = .ok (.getfield 23, 3) := by decide +kernel
theorem dX7_layText_24 : decode cX7_layText 24 = .ok (.getfield 99, 3) := by decide +kernel
theorem dX7_layText_27 : decode cX7_layText 27 = .ok (.ifCond .eq 13, 3) := by decide +kernel
theorem dX7_layText_30 : decode cX7_layText 30 = .ok (.aload_n 0, 1) := by decide +kernel
theorem dX7_layText_31 : decode cX7_layText 31 = .ok (.getfield 23, 3) := by decide +kernel
theorem dX7_layText_34 : decode cX7_layText 34 = .ok (.getfield 208, 3) := by decide +kernel
theorem dX7_layText_37 : decode cX7_layText 37 = .ok (.ifCond .ne 5, 3) := by decide +kernel
theorem dX7_layText_40 : decode cX7_layText 40 = .ok (.iconst 0, 1) := by decide +kernel
theorem dX7_layText_41 : decode cX7_layText 41 = .ok (.ireturn, 1) := by decide +kernel
theorem dX7_layText_42 : decode cX7_layText 42 = .ok (.aload_n 0, 1) := by decide +kernel
theorem dX7_layText_43 : decode cX7_layText 43 = .ok (.getfield 29, 3) := by decide +kernel
theorem dX7_layText_46 : decode cX7_layText 46 = .ok (.aload_n 0, 1) := by decide +kernel
theorem dX7_layText_47 : decode cX7_layText 47 = .ok (.getfield 10, 3) := by decide +kernel
theorem dX7_layText_50 : decode cX7_layText 50 = .ok (.aload_n 0, 1) := by decide +kernel
theorem dX7_layText_51 : decode cX7_layText 51 = .ok (.getfield 19, 3) := by decide +kernel
theorem dX7_layText_54 : decode cX7_layText 54 = .ok (.invokevirtual 95, 3) := by decide +kernel
theorem dX7_layText_57 : decode cX7_layText 57 = .ok (.pop, 1) := by decide +kernel
theorem dX7_layText_58 : decode cX7_layText 58 = .ok (.aload_n 0, 1) := by decide +kernel
theorem dX7_layText_59 : decode cX7_layText 59 = .ok (.getfield 54, 3) := by decide +kernel
theorem dX7_layText_62 : decode cX7_layText 62 = .ok (.aload_n 0, 1) := by decide +kernel
theorem dX7_layText_63 : decode cX7_layText 63 = .ok (.getfield 19, 3) := by decide +kernel
theorem dX7_layText_66 : decode cX7_layText 66 = .ok (.invokevirtual 226, 3) := by decide +kernel
theorem dX7_layText_69 : decode cX7_layText 69 = .ok (.aload_n 0, 1) := by decide +kernel
theorem dX7_layText_70 : decode cX7_layText 70 = .ok (.getfield 54, 3) := by decide +kernel
theorem dX7_layText_73 : decode cX7_layText 73 = .ok (.aload_n 0, 1) := by decide +kernel
theorem dX7_layText_74 : decode cX7_layText 74 = .ok (.getfield 38, 3) := by decide +kernel
theorem dX7_layText_77 : decode cX7_layText 77 = .ok (.aload_n 0, 1) := by decide +kernel
theorem dX7_layText_78 : decode cX7_layText 78 = .ok (.getfield 54, 3) := by decide +kernel
theorem dX7_layText_81 : decode cX7_layText 81 = .ok (.invokevirtual 115, 3) := by decide +kernel
theorem dX7_layText_84 : decode cX7_layText 84 = .ok (.putfield 220, 3) := by decide +kernel
theorem dX7_layText_87 : decode cX7_layText 87 = .ok (.aload_n 0, 1) := by decide +kernel
theorem dX7_layText_88 : decode cX7_layText 88 = .ok (.getfield 64, 3) := by decide +kernel
theorem dX7_layText_91 : decode cX7_layText 91 = .ok (.iconst 0, 1) := by decide +kernel
theorem dX7_layText_92 : decode cX7_layText 92 = .ok (.putfield 156, 3) := by decide +kernel
theorem dX7_layText_95 : decode cX7_layText 95 = .ok (.iconst 1, 1) := by decide +kernel
theorem dX7_layText_96 : decode cX7_layText 96 = .ok (.ireturn, 1) := by decide +kernel
theorem dX7_planEvening_0 : decode cX7_planEvening 0 = .ok (.aload_n 0, 1) := by decide +kernel
theorem dX7_planEvening_1 : decode cX7_planEvening 1 = .ok (.getfield 38, 3) := by decide +kernel
theorem dX7_planEvening_4 : decode cX7_planEvening 4 = .ok (.aload_n 0, 1) := by decide +kernel
theorem dX7_planEvening_5 : decode cX7_planEvening 5 = .ok (.getfield 54, 3) := by decide +kernel
theorem dX7_planEvening_8 : decode cX7_planEvening 8 = .ok (.iload_n 2, 1) := by decide +kernel
theorem dX7_planEvening_9 : decode cX7_planEvening 9 = .ok (.invokevirtual 179, 3) := by decide +kernel
theorem dX7_planEvening_12 : decode cX7_planEvening 12 = .ok (.iconst 0, 1) := by decide +kernel
theorem dX7_planEvening_13 : decode cX7_planEvening 13 = .ok (.istore_n 3, 1) := by decide +kernel
theorem dX7_planEvening_14 : decode cX7_planEvening 14 = .ok (.iconst 0, 1) := by decide +kernel
theorem dX7_planEvening_15 : decode cX7_planEvening 15 = .ok (.istore 4, 2) := by decide +kernel
theorem dX7_planEvening_17 : decode cX7_planEvening 17 = .ok (.iconst 0, 1) := by decide +kernel
theorem dX7_planEvening_18 : decode cX7_planEvening 18 = .ok (.istore 5, 2) := by decide +kernel
theorem dX7_planEvening_20 : decode cX7_planEvening 20 = .ok (.iload 5, 2) := by decide +kernel
theorem dX7_planEvening_22 : decode cX7_planEvening 22 = .ok (.aload_n 0, 1) := by decide +kernel
theorem dX7_planEvening_23 : decode cX7_planEvening 23 = .ok (.getfield 19, 3) := by decide +kernel
theorem dX7_planEvening_26 : decode cX7_planEvening 26 = .ok (.getfield 99, 3) := by decide +kernel
theorem dX7_planEvening_29 : decode cX7_planEvening 29 = .ok (.if_icmp .ge 50, 3) := by decide +kernel
theorem dX7_planEvening_32 : decode cX7_planEvening 32 = .ok (.aload_n 0, 1) := by decide +kernel
theorem dX7_planEvening_33 : decode cX7_planEvening 33 = .ok (.iload_n 1, 1) := by decide +kernel
theorem dX7_planEvening_34 : decode cX7_planEvening 34 = .ok (.iload_n 2, 1) := by decide +kernel
theorem dX7_planEvening_35 : decode cX7_planEvening 35 = .ok (.iload 5, 2) := by decide +kernel
theorem dX7_planEvening_37 : decode cX7_planEvening 37 = .ok (.invokevirtual 229, 3) := by decide +kernel
theorem dX7_planEvening_40 : decode cX7_planEvening 40 = .ok (.ifCond .eq 33, 3) := by decide +kernel
theorem dX7_planEvening_43 : decode cX7_planEvening 43 = .ok (.iinc 3 1, 3) := by decide +kernel
theorem dX7_planEvening_46 : decode cX7_planEvening 46 = .ok (.iload 4, 2) := by decide +kernel
theorem dX7_planEvening_48 : decode cX7_planEvening 48 = .ok (.aload_n 0, 1) := by decide +kernel
theorem dX7_planEvening_49 : decode cX7_planEvening 49 = .ok (.getfield 38, 3) := by decide +kernel
theorem dX7_planEvening_52 : decode cX7_planEvening 52 = .ok (.getfield 183, 3) := by decide +kernel
theorem dX7_planEvening_55 : decode cX7_planEvening 55 = .ok (.iload_n 2, 1) := by decide +kernel
theorem dX7_planEvening_56 : decode cX7_planEvening 56 = .ok (.aaload, 1) := by decide +kernel
theorem dX7_planEvening_57 : decode cX7_planEvening 57 = .ok (.aload_n 0, 1) := by decide +kernel
theorem dX7_planEvening_58 : decode cX7_planEvening 58 = .ok (.getfield 19, 3) := by decide +kernel
theorem dX7_planEvening_61 : decode cX7_planEvening 61 = .ok (.getfield 162, 3) := by decide +kernel
theorem dX7_planEvening_64 : decode cX7_planEvening 64 = .ok (.iload 5, 2) := by decide +kernel
theorem dX7_planEvening_66 : decode cX7_planEvening 66 = .ok (.iaload, 1) := by decide +kernel
theorem dX7_planEvening_67 : decode cX7_planEvening 67 = .ok (.iaload, 1) := by decide +kernel
theorem dX7_planEvening_68 : decode cX7_planEvening 68 = .ok (.invokestatic 233, 3) := by decide +kernel
theorem dX7_planEvening_71 : decode cX7_planEvening 71 = .ok (.istore 4, 2) := by decide +kernel
theorem dX7_planEvening_73 : decode cX7_planEvening 73 = .ok (.iinc 5 1, 3) := by decide +kernel
theorem dX7_planEvening_76 : decode cX7_planEvening 76 = .ok (.goto (-56), 3) := by decide +kernel
theorem dX7_planEvening_79 : decode cX7_planEvening 79 = .ok (.iload_n 3, 1) := by decide +kernel
theorem dX7_planEvening_80 : decode cX7_planEvening 80 = .ok (.iconst 2, 1) := by decide +kernel
theorem dX7_planEvening_81 : decode cX7_planEvening 81 = .ok (.if_icmp .ge 5, 3) := by decide +kernel
theorem dX7_planEvening_84 : decode cX7_planEvening 84 = .ok (.iconst 0, 1) := by decide +kernel
theorem dX7_planEvening_85 : decode cX7_planEvening 85 = .ok (.ireturn, 1) := by decide +kernel
theorem dX7_planEvening_86 : decode cX7_planEvening 86 = .ok (.iconst 0, 1) := by decide +kernel
theorem dX7_planEvening_87 : decode cX7_planEvening 87 = .ok (.istore 5, 2) := by decide +kernel
theorem dX7_planEvening_89 : decode cX7_planEvening 89 = .ok (.iconst 0, 1) := by decide +kernel
theorem dX7_planEvening_90 : decode cX7_planEvening 90 = .ok (.istore 6, 2) := by decide +kernel
theorem dX7_planEvening_92 : decode cX7_planEvening 92 = .ok (.iload 6, 2) := by decide +kernel
theorem dX7_planEvening_94 : decode cX7_planEvening 94 = .ok (.aload_n 0, 1) := by decide +kernel
theorem dX7_planEvening_95 : decode cX7_planEvening 95 = .ok (.getfield 19, 3) := by decide +kernel
theorem dX7_planEvening_98 : decode cX7_planEvening 98 = .ok (.getfield 99, 3) := by decide +kernel
theorem dX7_planEvening_101 : decode cX7_planEvening 101 = .ok (.if_icmp .ge 106, 3) := by decide +kernel
theorem dX7_planEvening_104 : decode cX7_planEvening 104 = .ok (.aload_n 0, 1) := by decide +kernel
theorem dX7_planEvening_105 : decode cX7_planEvening 105 = .ok (.iload_n 1, 1) := by decide +kernel
theorem dX7_planEvening_106 : decode cX7_planEvening 106 = .ok (.iload_n 2, 1) := by decide +kernel
theorem dX7_planEvening_107 : decode cX7_planEvening 107 = .ok (.iload 6, 2) := by decide +kernel
theorem dX7_planEvening_109 : decode cX7_planEvening 109 = .ok (.invokevirtual 229, 3) := by decide +kernel
theorem dX7_planEvening_112 : decode cX7_planEvening 112 = .ok (.istore 7, 2) := by decide +kernel
theorem dX7_planEvening_114 : decode cX7_planEvening 114 = .ok (.aload_n 0, 1) := by decide +kernel
theorem dX7_planEvening_115 : decode cX7_planEvening 115 = .ok (.getfield 68, 3) := by decide +kernel
theorem dX7_planEvening_118 : decode cX7_planEvening 118 = .ok (.iload 6, 2) := by decide +kernel
theorem dX7_planEvening_120 : decode cX7_planEvening 120 = .ok (.iload 7, 2) := by decide +kernel
theorem dX7_planEvening_122 : decode cX7_planEvening 122 = .ok (.ifCond .eq 31, 3) := by decide +kernel
theorem dX7_planEvening_125 : decode cX7_planEvening 125 = .ok (.iload 4, 2) := by decide +kernel
theorem dX7_planEvening_127 : decode cX7_planEvening 127 = .ok (.iconst 1, 1) := by decide +kernel
theorem dX7_planEvening_128 : decode cX7_planEvening 128 = .ok (.iadd, 1) := by decide +kernel
theorem dX7_planEvening_129 : decode cX7_planEvening 129 = .ok (.aload_n 0, 1) := by decide +kernel
theorem dX7_planEvening_130 : decode cX7_planEvening 130 = .ok (.getfield 38, 3) := by decide +kernel
theorem dX7_planEvening_133 : decode cX7_planEvening 133 = .ok (.getfield 183, 3) := by decide +kernel
theorem dX7_planEvening_136 : decode cX7_planEvening 136 = .ok (.iload_n 2, 1) := by decide +kernel
theorem dX7_planEvening_137 : decode cX7_planEvening 137 = .ok (.aaload, 1) := by decide +kernel
theorem dX7_planEvening_138 : decode cX7_planEvening 138 = .ok (.aload_n 0, 1) := by decide +kernel
theorem dX7_planEvening_139 : decode cX7_planEvening 139 = .ok (.getfield 19, 3) := by decide +kernel
theorem dX7_planEvening_142 : decode cX7_planEvening 142 = .ok (.getfield 162, 3) := by decide +kernel
theorem dX7_planEvening_145 : decode cX7_planEvening 145 = .ok (.iload 6, 2) := by decide +kernel
theorem dX7_planEvening_147 : decode cX7_planEvening 147 = .ok (.iaload, 1) := by decide +kernel
theorem dX7_planEvening_148 : decode cX7_planEvening 148 = .ok (.iaload, 1) := by decide +kernel
theorem dX7_planEvening_149 : decode cX7_planEvening 149 = .ok (.isub, 1) := by decide +kernel
theorem dX7_planEvening_150 : decode cX7_planEvening 150 = .ok (.goto 13, 3) := by decide +kernel
theorem dX7_planEvening_153 : decode cX7_planEvening 153 = .ok (.aload_n 0, 1) := by decide +kernel
theorem dX7_planEvening_154 : decode cX7_planEvening 154 = .ok (.getfield 54, 3) := by decide +kernel
theorem dX7_planEvening_157 : decode cX7_planEvening 157 = .ok (.getfield 108, 3) := by decide +kernel
theorem dX7_planEvening_160 : decode cX7_planEvening 160 = .ok (.iload 6, 2) := by decide +kernel
theorem dX7_planEvening_162 : decode cX7_planEvening 162 = .ok (.iaload, 1) := by decide +kernel
theorem dX7_planEvening_163 : decode cX7_planEvening 163 = .ok (.iastore, 1) := by decide +kernel
theorem dX7_planEvening_164 : decode cX7_planEvening 164 = .ok (.aload_n 0, 1) := by decide +kernel
theorem dX7_planEvening_165 : decode cX7_planEvening 165 = .ok (.getfield 68, 3) := by decide +kernel
theorem dX7_planEvening_168 : decode cX7_planEvening 168 = .ok (.iload 6, 2) := by decide +kernel
theorem dX7_planEvening_170 : decode cX7_planEvening 170 = .ok (.iaload, 1) := by decide +kernel
theorem dX7_planEvening_171 : decode cX7_planEvening 171 = .ok (.bipush 20, 2) := by decide +kernel
theorem dX7_planEvening_173 : decode cX7_planEvening 173 = .ok (.if_icmp .le 5, 3) := by decide +kernel
theorem dX7_planEvening_176 : decode cX7_planEvening 176 = .ok (.iconst 0, 1) := by decide +kernel
theorem dX7_planEvening_177 : decode cX7_planEvening 177 = .ok (.ireturn, 1) := by decide +kernel
theorem dX7_planEvening_178 : decode cX7_planEvening 178 = .ok (.aload_n 0, 1) := by decide +kernel
theorem dX7_planEvening_179 : decode cX7_planEvening 179 = .ok (.getfield 68, 3) := by decide +kernel
theorem dX7_planEvening_182 : decode cX7_planEvening 182 = .ok (.iload 6, 2) := by decide +kernel
theorem dX7_planEvening_184 : decode cX7_planEvening 184 = .ok (.iaload, 1) := by decide +kernel
theorem dX7_planEvening_185 : decode cX7_planEvening 185 = .ok (.aload_n 0, 1) := by decide +kernel
theorem dX7_planEvening_186 : decode cX7_planEvening 186 = .ok (.getfield 54, 3) := by decide +kernel
theorem dX7_planEvening_189 : decode cX7_planEvening 189 = .ok (.getfield 108, 3) := by decide +kernel
theorem dX7_planEvening_192 : decode cX7_planEvening 192 = .ok (.iload 6, 2) := by decide +kernel
theorem dX7_planEvening_194 : decode cX7_planEvening 194 = .ok (.iaload, 1) := by decide +kernel
theorem dX7_planEvening_195 : decode cX7_planEvening 195 = .ok (.if_icmp .eq 6, 3) := by decide +kernel
theorem dX7_planEvening_198 : decode cX7_planEvening 198 = .ok (.iinc 5 1, 3) := by decide +kernel
theorem dX7_planEvening_201 : decode cX7_planEvening 201 = .ok (.iinc 6 1, 3) := by decide +kernel
theorem dX7_planEvening_204 : decode cX7_planEvening 204 = .ok (.goto (-112), 3) := by decide +kernel
theorem dX7_planEvening_207 : decode cX7_planEvening 207 = .ok (.iload 5, 2) := by decide +kernel
theorem dX7_planEvening_209 : decode cX7_planEvening 209 = .ok (.ireturn, 1) := by decide +kernel
theorem dX7_leadsOn_0 : decode cX7_leadsOn 0 = .ok (.aload_n 0, 1) := by decide +kernel
theorem dX7_leadsOn_1 : decode cX7_leadsOn 1 = .ok (.getfield 19, 3) := by decide +kernel
theorem dX7_leadsOn_4 : decode cX7_leadsOn 4 = .ok (.getfield 159, 3) := by decide +kernel
theorem dX7_leadsOn_7 : decode cX7_leadsOn 7 = .ok (.iload_n 3, 1) := by decide +kernel
theorem dX7_leadsOn_8 : decode cX7_leadsOn 8 = .ok (.iaload, 1) := by decide +kernel
theorem dX7_leadsOn_9 : decode cX7_leadsOn 9 = .ok (.iload_n 1, 1) := by decide +kernel
theorem dX7_leadsOn_10 : decode cX7_leadsOn 10 = .ok (.if_icmp .ne 42, 3) := by decide +kernel
theorem dX7_leadsOn_13 : decode cX7_leadsOn 13 = .ok (.aload_n 0, 1) := by decide +kernel
theorem dX7_leadsOn_14 : decode cX7_leadsOn 14 = .ok (.getfield 54, 3) := by decide +kernel
theorem dX7_leadsOn_17 : decode cX7_leadsOn 17 = .ok (.getfield 148, 3) := by decide +kernel
theorem dX7_leadsOn_20 : decode cX7_leadsOn 20 = .ok (.iload_n 3, 1) := by decide +kernel
theorem dX7_leadsOn_21 : decode cX7_leadsOn 21 = .ok (.baload, 1) := by decide +kernel
theorem dX7_leadsOn_22 : decode cX7_leadsOn 22 = .ok (.ifCond .eq 30, 3) := by decide +kernel
theorem dX7_leadsOn_25 : decode cX7_leadsOn 25 = .ok (.aload_n 0, 1) := by decide +kernel
theorem dX7_leadsOn_26 : decode cX7_leadsOn 26 = .ok (.getfield 38, 3) := by decide +kernel
theorem dX7_leadsOn_29 : decode cX7_leadsOn 29 = .ok (.getfield 183, 3) := by decide +kernel
theorem dX7_leadsOn_32 : decode cX7_leadsOn 32 = .ok (.iload_n 2, 1) := by decide +kernel
theorem dX7_leadsOn_33 : decode cX7_leadsOn 33 = .ok (.aaload, 1) := by decide +kernel
theorem dX7_leadsOn_34 : decode cX7_leadsOn 34 = .ok (.aload_n 0, 1) := by decide +kernel
theorem dX7_leadsOn_35 : decode cX7_leadsOn 35 = .ok (.getfield 19, 3) := by decide +kernel
theorem dX7_leadsOn_38 : decode cX7_leadsOn 38 = .ok (.getfield 162, 3) := by decide +kernel
theorem dX7_leadsOn_41 : decode cX7_leadsOn 41 = .ok (.iload_n 3, 1) := by decide +kernel
theorem dX7_leadsOn_42 : decode cX7_leadsOn 42 = .ok (.iaload, 1) := by decide +kernel
theorem dX7_leadsOn_43 : decode cX7_leadsOn 43 = .ok (.iaload, 1) := by decide +kernel
theorem dX7_leadsOn_44 : decode cX7_leadsOn 44 = .ok (.iconst (-1), 1) := by decide +kernel
theorem dX7_leadsOn_45 : decode cX7_leadsOn 45 = .ok (.if_icmp .eq 7, 3) := by decide +kernel
theorem dX7_leadsOn_48 : decode cX7_leadsOn 48 = .ok (.iconst 1, 1) := by decide +kernel
theorem dX7_leadsOn_49 : decode cX7_leadsOn 49 = .ok (.goto 4, 3) := by decide +kernel
theorem dX7_leadsOn_52 : decode cX7_leadsOn 52 = .ok (.iconst 0, 1) := by decide +kernel
theorem dX7_leadsOn_53 : decode cX7_leadsOn 53 = .ok (.ireturn, 1) := by decide +kernel
theorem dX7_costWithout_0 : decode cX7_costWithout 0 = .ok (.aload_n 0, 1) := by decide +kernel
theorem dX7_costWithout_1 : decode cX7_costWithout 1 = .ok (.getfield 58, 3) := by decide +kernel
theorem dX7_costWithout_4 : decode cX7_costWithout 4 = .ok (.aload_n 0, 1) := by decide +kernel
theorem dX7_costWithout_5 : decode cX7_costWithout 5 = .ok (.getfield 54, 3) := by decide +kernel
theorem dX7_costWithout_8 : decode cX7_costWithout 8 = .ok (.invokevirtual 238, 3) := by decide +kernel
theorem dX7_costWithout_11 : decode cX7_costWithout 11 = .ok (.aload_n 0, 1) := by decide +kernel
theorem dX7_costWithout_12 : decode cX7_costWithout 12 = .ok (.getfield 58, 3) := by decide +kernel
theorem dX7_costWithout_15 : decode cX7_costWithout 15 = .ok (.getfield 148, 3) := by decide +kernel
theorem dX7_costWithout_18 : decode cX7_costWithout 18 = .ok (.iload_n 1, 1) := by decide +kernel
theorem dX7_costWithout_19 : decode cX7_costWithout 19 = .ok (.iconst 0, 1) := by decide +kernel
theorem dX7_costWithout_20 : decode cX7_costWithout 20 = .ok (.bastore, 1) := by decide +kernel
theorem dX7_costWithout_21 : decode cX7_costWithout 21 = .ok (.aload_n 0, 1) := by decide +kernel
theorem dX7_costWithout_22 : decode cX7_costWithout 22 = .ok (.getfield 38, 3) := by decide +kernel
theorem dX7_costWithout_25 : decode cX7_costWithout 25 = .ok (.aload_n 0, 1) := by decide +kernel
theorem dX7_costWithout_26 : decode cX7_costWithout 26 = .ok (.getfield 58, 3) := by decide +kernel
theorem dX7_costWithout_29 : decode cX7_costWithout 29 = .ok (.invokevirtual 115, 3) := by decide +kernel
theorem dX7_costWithout_32 : decode cX7_costWithout 32 = .ok (.ireturn, 1) := by decide +kernel
theorem dX8_init_0 : decode cX8_init 0 = .ok (.aload_n 0, 1) := by decide +kernel
theorem dX8_init_1 : decode cX8_init 1 = .ok (.invokespecial 1, 3) := by decide +kernel
theorem dX8_init_4 : decode cX8_init 4 = .ok (.aload_n 0, 1) := by decide +kernel
theorem dX8_init_5 : decode cX8_init 5 = .ok (.sipush 200, 3) := by decide +kernel
theorem dX8_init_8 : decode cX8_init 8 = .ok (.newarray .int, 2) := by decide +kernel
theorem dX8_init_10 : decode cX8_init 10 = .ok (.putfield 7, 3) := by decide +kernel
theorem dX8_init_13 : decode cX8_init 13 = .ok (.aload_n 0, 1) := by decide +kernel
theorem dX8_init_14 : decode cX8_init 14 = .ok (.bipush 48, 2) := by decide +kernel
theorem dX8_init_16 : decode cX8_init 16 = .ok (.newarray .int, 2) := by decide +kernel
theorem dX8_init_18 : decode cX8_init 18 = .ok (.putfield 13, 3) := by decide +kernel
theorem dX8_init_21 : decode cX8_init 21 = .ok (.aload_n 0, 1) := by decide +kernel
theorem dX8_init_22 : decode cX8_init 22 = .ok (.bipush 18, 2) := by decide +kernel
theorem dX8_init_24 : decode cX8_init 24 = .ok (.newarray .int, 2) := by decide +kernel
theorem dX8_init_26 : decode cX8_init 26 = .ok (.putfield 16, 3) := by decide +kernel
theorem dX8_init_29 : decode cX8_init 29 = .ok (.aload_n 0, 1) := by decide +kernel
theorem dX8_init_30 : decode cX8_init 30 = .ok (.bipush 48, 2) := by decide +kernel
theorem dX8_init_32 : decode cX8_init 32 = .ok (.newarray .int, 2) := by decide +kernel
theorem dX8_init_34 : decode cX8_init 34 = .ok (.putfield 19, 3) := by decide +kernel
theorem dX8_init_37 : decode cX8_init 37 = .ok (.aload_n 0, 1) := by decide +kernel
theorem dX8_init_38 : decode cX8_init 38 = .ok (.bipush 18, 2) := by decide +kernel
theorem dX8_init_40 : decode cX8_init 40 = .ok (.newarray .int, 2) := by decide +kernel
theorem dX8_init_42 : decode cX8_init 42 = .ok (.putfield 22, 3) := by decide +kernel
theorem dX8_init_45 : decode cX8_init 45 = .ok (.aload_n 0, 1) := by decide +kernel
theorem dX8_init_46 : decode cX8_init 46 = .ok (.bipush 21, 2) := by decide +kernel
theorem dX8_init_48 : decode cX8_init 48 = .ok (.newarray .int, 2) := by decide +kernel
theorem dX8_init_50 : decode cX8_init 50 = .ok (.putfield 25, 3) := by decide +kernel
theorem dX8_init_53 : decode cX8_init 53 = .ok (.aload_n 0, 1) := by decide +kernel
theorem dX8_init_54 : decode cX8_init 54 = .ok (.bipush 126, 2) := by decide +kernel
theorem dX8_init_56 : decode cX8_init 56 = .ok (.newarray .int, 2) := by decide +kernel
theorem dX8_init_58 : decode cX8_init 58 = .ok (.putfield 28, 3) := by decide +kernel
theorem dX8_init_61 : decode cX8_init 61 = .ok (.aload_n 0, 1) := by decide +kernel
theorem dX8_init_62 : decode cX8_init 62 = .ok (.iconst 4, 1) := by decide +kernel
theorem dX8_init_63 : decode cX8_init 63 = .ok (.newarray .int, 2) := by decide +kernel
theorem dX8_init_65 : decode cX8_init 65 = .ok (.putfield 31, 3) := by decide +kernel
theorem dX8_init_68 : decode cX8_init 68 = .ok (.aload_n 0, 1) := by decide +kernel
theorem dX8_init_69 : decode cX8_init 69 = .ok (.bipush 7, 2) := by decide +kernel
theorem dX8_init_71 : decode cX8_init 71 = .ok (.newarray .int, 2) := by decide +kernel
theorem dX8_init_73 : decode cX8_init 73 = .ok (.putfield 34, 3) := by decide +kernel
theorem dX8_init_76 : decode cX8_init 76 = .ok (.aload_n 0, 1) := by decide +kernel
theorem dX8_init_77 : decode cX8_init 77 = .ok (.bipush 12, 2) := by decide +kernel
theorem dX8_init_79 : decode cX8_init 79 = .ok (.newarray .int, 2) := by decide +kernel
theorem dX8_init_81 : decode cX8_init 81 = .ok (.putfield 37, 3) := by decide +kernel
theorem dX8_init_84 : decode cX8_init 84 = .ok (.aload_n 0, 1) := by decide +kernel
theorem dX8_init_85 : decode cX8_init 85 = .ok (.bipush 7, 2) := by decide +kernel
theorem dX8_init_87 : decode cX8_init 87 = .ok (.newarray .int, 2) := by decide +kernel
theorem dX8_init_89 : decode cX8_init 89 = .ok (.putfield 40, 3) := by decide +kernel
theorem dX8_init_92 : decode cX8_init 92 = .ok (.aload_n 0, 1) := by decide +kernel
theorem dX8_init_93 : decode cX8_init 93 = .ok (.bipush 12, 2) := by decide +kernel
theorem dX8_init_95 : decode cX8_init 95 = .ok (.newarray .int, 2) := by decide +kernel
theorem dX8_init_97 : decode cX8_init 97 = .ok (.putfield 43, 3) := by decide +kernel
theorem dX8_init_100 : decode cX8_init 100 = .ok (.aload_n 0, 1) := by decide +kernel
theorem dX8_init_101 : decode cX8_init 101 = .ok (.invokevirtual 46, 3) := by decide +kernel
theorem dX8_init_104 : decode cX8_init 104 = .ok (.aload_n 0, 1) := by decide +kernel
theorem dX8_init_105 : decode cX8_init 105 = .ok (.iconst 5, 1) := by decide +kernel
theorem dX8_init_106 : decode cX8_init 106 = .ok (.putfield 49, 3) := by decide +kernel
theorem dX8_init_109 : decode cX8_init 109 = .ok (.aload_n 0, 1) := by decide +kernel
theorem dX8_init_110 : decode cX8_init 110 = .ok (.iconst 0, 1) := by decide +kernel
theorem dX8_init_111 : decode cX8_init 111 = .ok (.iconst 1, 1) := by decide +kernel
theorem dX8_init_112 : decode cX8_init 112 = .ok (.bipush 10, 2) := by decide +kernel
theorem dX8_init_114 : decode cX8_init 114 = .ok (.iconst 2, 1) := by decide +kernel
theorem dX8_init_115 : decode cX8_init 115 = .ok (.invokevirtual 53, 3) := by decide +kernel
theorem dX8_init_118 : decode cX8_init 118 = .ok (.aload_n 0, 1) := by decide +kernel
theorem dX8_init_119 : decode cX8_init 119 = .ok (.iconst 1, 1) := by decide +kernel
theorem dX8_init_120 : decode cX8_init 120 = .ok (.iconst 4, 1) := by decide +kernel
theorem dX8_init_121 : decode cX8_init 121 = .ok (.bipush 8, 2) := by decide +kernel
theorem dX8_init_123 : decode cX8_init 123 = .ok (.iconst 2, 1) := by decide +kernel
theorem dX8_init_124 : decode cX8_init 124 = .ok (.invokevirtual 53, 3) := by decide +kernel
theorem dX8_init_127 : decode cX8_init 127 = .ok (.aload_n 0, 1) := by decide +kernel
theorem dX8_init_128 : decode cX8_init 128 = .ok (.iconst 0, 1) := by decide +kernel
theorem dX8_init_129 : decode cX8_init 129 = .ok (.iconst 2, 1) := by decide +kernel
theorem dX8_init_130 : decode cX8_init 130 = .ok (.bipush 9, 2) := by decide +kernel
theorem dX8_init_132 : decode cX8_init 132 = .ok (.iconst 1, 1) := by decide +kernel
theorem dX8_init_133 : decode cX8_init 133 = .ok (.invokevirtual 53, 3) := by decide +kernel
theorem dX8_init_136 : decode cX8_init 136 = .ok (.aload_n 0, 1) := by decide +kernel
theorem dX8_init_137 : decode cX8_init 137 = .ok (.iconst 2, 1) := by decide +kernel
theorem dX8_init_138 : decode cX8_init 138 = .ok (.iconst 4, 1) := by decide +kernel
theorem dX8_init_139 : decode cX8_init 139 = .ok (.bipush 6, 2) := by decide +kernel
theorem dX8_init_141 : decode cX8_init 141 = .ok (.iconst 3, 1) := by decide +kernel
theorem dX8_init_142 : decode cX8_init 142 = .ok (.invokevirtual 53, 3) := by decide +kernel
theorem dX8_init_145 : decode cX8_init 145 = .ok (.aload_n 0, 1) := by decide +kernel
theorem dX8_init_146 : decode cX8_init 146 = .ok (.iconst 0, 1) := by decide +kernel
theorem dX8_init_147 : decode cX8_init 147 = .ok (.iconst 3, 1) := by decide +kernel
theorem dX8_init_148 : decode cX8_init 148 = .ok (.bipush 20, 2) := by decide +kernel
theorem dX8_init_150 : decode cX8_init 150 = .ok (.iconst 4, 1) := by decide +kernel
theorem dX8_init_151 : decode cX8_init 151 = .ok (.invokevirtual 53, 3) := by decide +kernel
theorem dX8_init_154 : decode cX8_init 154 = .ok (.aload_n 0, 1) := by decide +kernel
theorem dX8_init_155 : decode cX8_init 155 = .ok (.iconst 3, 1) := by decide +kernel
theorem dX8_init_156 : decode cX8_init 156 = .ok (.iconst 4, 1) := by decide +kernel
theorem dX8_init_157 : decode cX8_init 157 = .ok (.bipush 20, 2) := by decide +kernel
theorem dX8_init_159 : decode cX8_init 159 = .ok (.iconst 4, 1) := by decide +kernel
theorem dX8_init_160 : decode cX8_init 160 = .ok (.invokevirtual 53, 3) := by decide +kernel
theorem dX8_init_163 : decode cX8_init 163 = .ok (.aload_n 0, 1) := by decide +kernel
theorem dX8_init_164 : decode cX8_init 164 = .ok (.iconst 2, 1) := by decide +kernel
theorem dX8_init_165 : decode cX8_init 165 = .ok (.iconst 1, 1) := by decide +kernel
theorem dX8_init_166 : decode cX8_init 166 = .ok (.iconst 5, 1) := by decide +kernel
theorem dX8_init_167 : decode cX8_init 167 = .ok (.iconst 1, 1) := by decide +kernel
theorem dX8_init_168 : decode cX8_init 168 = .ok (.invokevirtual 53, 3) := by decide +kernel
theorem dX8_init_171 : decode cX8_init 171 = .ok (.aload_n 0, 1) := by decide +kernel
theorem dX8_init_172 : decode cX8_init 172 = .ok (.iconst 0, 1) := by decide +kernel
theorem dX8_init_173 : decode cX8_init 173 = .ok (.iconst 4, 1) := by decide +kernel
theorem dX8_init_174 : decode cX8_init 174 = .ok (.bipush 12, 2) := by decide +kernel
theorem dX8_init_176 : decode cX8_init 176 = .ok (.invokevirtual 57, 3) := by decide +kernel
theorem dX8_init_179 : decode cX8_init 179 = .ok (.aload_n 0, 1) := by decide +kernel
theorem dX8_init_180 : decode cX8_init 180 = .ok (.iconst 2, 1) := by decide +kernel
theorem dX8_init_181 : decode cX8_init 181 = .ok (.iconst 4, 1) := by decide +kernel
theorem dX8_init_182 : decode cX8_init 182 = .ok (.iconst 5, 1) := by decide +kernel
theorem dX8_init_183 : decode cX8_init 183 = .ok (.invokevirtual 57, 3) := by decide +kernel
theorem dX8_init_186 : decode cX8_init 186 = .ok (.aload_n 0, 1) := by decide +kernel
theorem dX8_init_187 : decode cX8_init 187 = .ok (.invokevirtual 61, 3) := by decide +kernel
theorem dX8_init_190 : decode cX8_init 190 = .ok (.return_, 1) := by decide +kernel
theorem dX8_in_0 : decode cX8_in 0 = .ok (.iload_n 0, 1) := by decide +kernel
theorem dX8_in_1 : decode cX8_in 1 = .ok (.iload_n 1, 1) := by decide +kernel
theorem dX8_in_2 : decode cX8_in 2 = .ok (.if_icmp .lt 12, 3) := by decide +kernel
theorem dX8_in_5 : decode cX8_in 5 = .ok (.iload_n 0, 1) := by decide +kernel
theorem dX8_in_6 : decode cX8_in 6 = .ok (.iload_n 2, 1) := by decide +kernel
theorem dX8_in_7 : decode cX8_in 7 = .ok (.if_icmp .gt 7, 3) := by decide +kernel
theorem dX8_in_10 : decode cX8_in 10 = .ok (.iconst 1, 1) := by decide +kernel
theorem dX8_in_11 : decode cX8_in 11 = .ok (.goto 4, 3) := by decide +kernel
theorem dX8_in_14 : decode cX8_in 14 = .ok (.iconst 0, 1) := by decide +kernel
theorem dX8_in_15 : decode cX8_in 15 = .ok (.ireturn, 1) := by decide +kernel
theorem dX8_beginRead_0 : decode cX8_beginRead 0 = .ok (.aload_n 0, 1) := by decide +kernel
theorem dX8_beginRead_1 : decode cX8_beginRead 1 = .ok (.iconst 4, 1) := by decide +kernel
theorem dX8_beginRead_2 : decode cX8_beginRead 2 = .ok (.putfield 49, 3) := by decide +kernel
theorem dX8_beginRead_5 : decode cX8_beginRead 5 = .ok (.aload_n 0, 1) := by decide +kernel
theorem dX8_beginRead_6 : decode cX8_beginRead 6 = .ok (.iconst 0, 1) := by decide +kernel
theorem dX8_beginRead_7 : decode cX8_beginRead 7 = .ok (.putfield 64, 3) := by decide +kernel
theorem dX8_beginRead_10 : decode cX8_beginRead 10 = .ok (.aload_n 0, 1) := by decide +kernel
theorem dX8_beginRead_11 : decode cX8_beginRead 11 = .ok (.iconst 0, 1) := by decide +kernel
theorem dX8_beginRead_12 : decode cX8_beginRead 12 = .ok (.putfield 67, 3) := by decide +kernel
theorem dX8_beginRead_15 : decode cX8_beginRead 15 = .ok (.aload_n 0, 1) := by decide +kernel
theorem dX8_beginRead_16 : decode cX8_beginRead 16 = .ok (.iconst 0, 1) := by decide +kernel
theorem dX8_beginRead_17 : decode cX8_beginRead 17 = .ok (.putfield 70, 3) := by decide +kernel
theorem dX8_beginRead_20 : decode cX8_beginRead 20 = .ok (.return_, 1) := by decide +kernel
theorem dX8_putLink_0 : decode cX8_putLink 0 = .ok (.aload_n 0, 1) := by decide +kernel
theorem dX8_putLink_1 : decode cX8_putLink 1 = .ok (.getfield 13, 3) := by decide +kernel
theorem dX8_putLink_4 : decode cX8_putLink 4 = .ok (.iconst 4, 1) := by decide +kernel
theorem dX8_putLink_5 : decode cX8_putLink 5 = .ok (.aload_n 0, 1) := by decide +kernel
theorem dX8_putLink_6 : decode cX8_putLink 6 = .ok (.getfield 64, 3) := by decide +kernel
theorem dX8_putLink_9 : decode cX8_putLink 9 = .ok (.imul, 1) := by decide +kernel
theorem dX8_putLink_10 : decode cX8_putLink 10 = .ok (.iload_n 1, 1) := by decide +kernel
theorem dX8_putLink_11 : decode cX8_putLink 11 = .ok (.iastore, 1) := by decide +kernel
theorem dX8_putLink_12 : decode cX8_putLink 12 = .ok (.aload_n 0, 1) := by decide +kernel
theorem dX8_putLink_13 : decode cX8_putLink 13 = .ok (.getfield 13, 3) := by decide +kernel
theorem dX8_putLink_16 : decode cX8_putLink 16 = .ok (.iconst 4, 1) := by decide +kernel
theorem dX8_putLink_17 : decode cX8_putLink 17 = .ok (.aload_n 0, 1) := by decide +kernel
theorem dX8_putLink_18 : decode cX8_putLink 18 = .ok (.getfield 64, 3) := by decide +kernel
theorem dX8_putLink_21 : decode cX8_putLink 21 = .ok (.imul, 1) := by decide +kernel
theorem dX8_putLink_22 : decode cX8_putLink 22 = .ok (.iconst 1, 1) := by decide +kernel
theorem dX8_putLink_23 : decode cX8_putLink 23 = .ok (.iadd, 1) := by decide +kernel
theorem dX8_putLink_24 : decode cX8_putLink 24 = .ok (.iload_n 2, 1) := by decide +kernel
theorem dX8_putLink_25 : decode cX8_putLink 25 = .ok (.iastore, 1) := by decide +kernel
theorem dX8_putLink_26 : decode cX8_putLink 26 = .ok (.aload_n 0, 1) := by decide +kernel
theorem dX8_putLink_27 : decode cX8_putLink 27 = .ok (.getfield 13, 3) := by decide +kernel
theorem dX8_putLink_30 : decode cX8_putLink 30 = .ok (.iconst 4, 1) := by decide +kernel
theorem dX8_putLink_31 : decode cX8_putLink 31 = .ok (.aload_n 0, 1) := by decide +kernel
theorem dX8_putLink_32 : decode cX8_putLink 32 = .ok (.getfield 64, 3) := by decide +kernel
theorem dX8_putLink_35 : decode cX8_putLink 35 = .ok (.imul, 1) := by decide +kernel
theorem dX8_putLink_36 : decode cX8_putLink 36 = .ok (.iconst 2, 1) := by decide +kernel
theorem dX8_putLink_37 : decode cX8_putLink 37 = .ok (.iadd, 1) := by decide +kernel
theorem dX8_putLink_38 : decode cX8_putLink 38 = .ok (.iload_n 3, 1) := by decide +kernel
theorem dX8_putLink_39 : decode cX8_putLink 39 = .ok (.iastore, 1) := by decide +kernel
theorem dX8_putLink_40 : decode cX8_putLink 40 = .ok (.aload_n 0, 1) := by decide +kernel
theorem dX8_putLink_41 : decode cX8_putLink 41 = .ok (.getfield 13, 3) := by decide +kernel
theorem dX8_putLink_44 : decode cX8_putLink 44 = .ok (.iconst 4, 1) := by decide +kernel
theorem dX8_putLink_45 : decode cX8_putLink 45 = .ok (.aload_n 0, 1) := by decide +kernel
theorem dX8_putLink_46 : decode cX8_putLink 46 = .ok (.getfield 64, 3) := by decide +kernel
theorem dX8_putLink_49 : decode cX8_putLink 49 = .ok (.imul, 1) := by decide +kernel
theorem dX8_putLink_50 : decode cX8_putLink 50 = .ok (.iconst 3, 1) := by decide +kernel
theorem dX8_putLink_51 : decode cX8_putLink 51 = .ok (.iadd, 1) := by decide +kernel
theorem dX8_putLink_52 : decode cX8_putLink 52 = .ok (.iload 4, 2) := by decide +kernel
theorem dX8_putLink_54 : decode cX8_putLink 54 = .ok (.iastore, 1) := by decide +kernel
theorem dX8_putLink_55 : decode cX8_putLink 55 = .ok (.aload_n 0, 1) := by decide +kernel
theorem dX8_putLink_56 : decode cX8_putLink 56 = .ok (.dup, 1) := by decide +kernel
theorem dX8_putLink_57 : decode cX8_putLink 57 = .ok (.getfield 64, 3) := by decide +kernel
theorem dX8_putLink_60 : decode cX8_putLink 60 = .ok (.iconst 1, 1) := by decide +kernel
theorem dX8_putLink_61 : decode cX8_putLink 61 = .ok (.iadd, 1) := by decide +kernel
theorem dX8_putLink_62 : decode cX8_putLink 62 = .ok (.putfield 64, 3) := by decide +kernel
theorem dX8_putLink_65 : decode cX8_putLink 65 = .ok (.return_, 1) := by decide +kernel
theorem dX8_putDemand_0 : decode cX8_putDemand 0 = .ok (.aload_n 0, 1) := by decide +kernel
theorem dX8_putDemand_1 : decode cX8_putDemand 1 = .ok (.getfield 16, 3) := by decide +kernel
theorem dX8_putDemand_4 : decode cX8_putDemand 4 = .ok (.iconst 3, 1) := by decide +kernel
theorem dX8_putDemand_5 : decode cX8_putDemand 5 = .ok (.aload_n 0, 1) := by decide +kernel
theorem dX8_putDemand_6 : decode cX8_putDemand 6 = .ok (.getfield 67, 3) := by decide +kernel
theorem dX8_putDemand_9 : decode cX8_putDemand 9 = .ok (.imul, 1) := by decide +kernel
theorem dX8_putDemand_10 : decode cX8_putDemand 10 = .ok (.iload_n 1, 1) := by decide +kernel
theorem dX8_putDemand_11 : decode cX8_putDemand 11 = .ok (.iastore, 1) := by decide +kernel
theorem dX8_putDemand_12 : decode cX8_putDemand 12 = .ok (.aload_n 0, 1) := by decide +kernel
theorem dX8_putDemand_13 : decode cX8_putDemand 13 = .ok (.getfield 16, 3) := by decide +kernel
theorem dX8_putDemand_16 : decode cX8_putDemand 16 = .ok (.iconst 3, 1) := by decide +kernel
theorem dX8_putDemand_17 : decode cX8_putDemand 17 = .ok (.aload_n 0, 1) := by decide +kernel
theorem dX8_putDemand_18 : decode cX8_putDemand 18 = .ok (.getfield 67, 3) := by decide +kernel
theorem dX8_putDemand_21 : decode cX8_putDemand 21 = .ok (.imul, 1) := by decide +kernel
theorem dX8_putDemand_22 : decode cX8_putDemand 22 = .ok (.iconst 1, 1) := by decide +kernel
theorem dX8_putDemand_23 : decode cX8_putDemand 23 = .ok (.iadd, 1) := by decide +kernel
theorem dX8_putDemand_24 : decode cX8_putDemand 24 = .ok (.iload_n 2, 1) := by decide +kernel
theorem dX8_putDemand_25 : decode cX8_putDemand 25 = .ok (.iastore, 1) := by decide +kernel
theorem dX8_putDemand_26 : decode cX8_putDemand 26 = .ok (.aload_n 0, 1) := by decide +kernel
theorem dX8_putDemand_27 : decode cX8_putDemand 27 = .ok (.getfield 16, 3) := by decide +kernel
theorem dX8_putDemand_30 : decode cX8_putDemand 30 = .ok (.iconst 3, 1) := by decide +kernel
theorem dX8_putDemand_31 : decode cX8_putDemand 31 = .ok (.aload_n 0, 1) := by decide +kernel
theorem dX8_putDemand_32 : decode cX8_putDemand 32 = .ok (.getfield 67, 3) := by decide +kernel
theorem dX8_putDemand_35 : decode cX8_putDemand 35 = .ok (.imul, 1) := by decide +kernel
theorem dX8_putDemand_36 : decode cX8_putDemand 36 = .ok (.iconst 2, 1) := by decide +kernel
theorem dX8_putDemand_37 : decode cX8_putDemand 37 = .ok (.iadd, 1) := by decide +kernel
theorem dX8_putDemand_38 : decode cX8_putDemand 38 = .ok (.iload_n 3, 1) := by decide +kernel
theorem dX8_putDemand_39 : decode cX8_putDemand 39 = .ok (.iastore, 1) := by decide +kernel
theorem dX8_putDemand_40 : decode cX8_putDemand 40 = .ok (.aload_n 0, 1) := by decide +kernel
theorem dX8_putDemand_41 : decode cX8_putDemand 41 = .ok (.dup, 1) := by decide +kernel
theorem dX8_putDemand_42 : decode cX8_putDemand 42 = .ok (.getfield 67, 3) := by decide +kernel
theorem dX8_putDemand_45 : decode cX8_putDemand 45 = .ok (.iconst 1, 1) := by decide +kernel
theorem dX8_putDemand_46 : decode cX8_putDemand 46 = .ok (.iadd, 1) := by decide +kernel
theorem dX8_putDemand_47 : decode cX8_putDemand 47 = .ok (.putfield 67, 3) := by decide +kernel
theorem dX8_putDemand_50 : decode cX8_putDemand 50 = .ok (.return_, 1) := by decide +kernel
theorem dX8_takeRead_0 : decode cX8_takeRead 0 = .ok (.iconst 0, 1) := by decide +kernel
theorem dX8_takeRead_1 : decode cX8_takeRead 1 = .ok (.istore_n 1, 1) := by decide +kernel
theorem dX8_takeRead_2 : decode cX8_takeRead 2 = .ok (.iload_n 1, 1) := by decide +kernel
theorem dX8_takeRead_3 : decode cX8_takeRead 3 = .ok (.bipush 48, 2) := by decide +kernel
theorem dX8_takeRead_5 : decode cX8_takeRead 5 = .ok (.if_icmp .ge 21, 3) := by decide +kernel
theorem dX8_takeRead_8 : decode cX8_takeRead 8 = .ok (.aload_n 0, 1) := by decide +kernel
theorem dX8_takeRead_9 : decode cX8_takeRead 9 = .ok (.getfield 19, 3) := by decide +kernel
theorem dX8_takeRead_12 : decode cX8_takeRead 12 = .ok (.iload_n 1, 1) := by decide +kernel
theorem dX8_takeRead_13 : decode cX8_takeRead 13 = .ok (.aload_n 0, 1) := by decide +kernel
theorem dX8_takeRead_14 : decode cX8_takeRead 14 = .ok (.getfield 13, 3) := by decide +kernel
theorem dX8_takeRead_17 : decode cX8_takeRead 17 = .ok (.iload_n 1, 1) := by decide +kernel
theorem dX8_takeRead_18 : decode cX8_takeRead 18 = .ok (.iaload, 1) := by decide +kernel
theorem dX8_takeRead_19 : decode cX8_takeRead 19 = .ok (.iastore, 1) := by decide +kernel
theorem dX8_takeRead_20 : decode cX8_takeRead 20 = .ok (.iinc 1 1, 3) := by decide +kernel
theorem dX8_takeRead_23 : decode cX8_takeRead 23 = .ok (.goto (-21), 3) := by decide +kernel
theorem dX8_takeRead_26 : decode cX8_takeRead 26 = .ok (.iconst 0, 1) := by decide +kernel
theorem dX8_takeRead_27 : decode cX8_takeRead 27 = .ok (.istore_n 1, 1) := by decide +kernel
theorem dX8_takeRead_28 : decode cX8_takeRead 28 = .ok (.iload_n 1, 1) := by decide +kernel
theorem dX8_takeRead_29 : decode cX8_takeRead 29 = .ok (.bipush 18, 2) := by decide +kernel
theorem dX8_takeRead_31 : decode cX8_takeRead 31 = .ok (.if_icmp .ge 21, 3) := by decide +kernel
theorem dX8_takeRead_34 : decode cX8_takeRead 34 = .ok (.aload_n 0, 1) := by decide +kernel
theorem dX8_takeRead_35 : decode cX8_takeRead 35 = .ok (.getfield 22, 3) := by decide +kernel
theorem dX8_takeRead_38 : decode cX8_takeRead 38 = .ok (.iload_n 1, 1) := by decide +kernel
theorem dX8_takeRead_39 : decode cX8_takeRead 39 = .ok (.aload_n 0, 1) := by decide +kernel
theorem dX8_takeRead_40 : decode cX8_takeRead 40 = .ok (.getfield 16, 3) := by decide +kernel
theorem dX8_takeRead_43 : decode cX8_takeRead 43 = .ok (.iload_n 1, 1) := by decide +kernel
theorem dX8_takeRead_44 : decode cX8_takeRead 44 = .ok (.iaload, 1) := by decide +kernel
theorem dX8_takeRead_45 : decode cX8_takeRead 45 = .ok (.iastore, 1) := by decide +kernel
theorem dX8_takeRead_46 : decode cX8_takeRead 46 = .ok (.iinc 1 1, 3) := by decide +kernel
theorem dX8_takeRead_49 : decode cX8_takeRead 49 = .ok (.goto (-21), 3) := by decide +kernel
theorem dX8_takeRead_52 : decode cX8_takeRead 52 = .ok (.aload_n 0, 1) := by decide +kernel
theorem dX8_takeRead_53 : decode cX8_takeRead 53 = .ok (.aload_n 0, 1) := by decide +kernel
theorem dX8_takeRead_54 : decode cX8_takeRead 54 = .ok (.getfield 49, 3) := by decide +kernel
theorem dX8_takeRead_57 : decode cX8_takeRead 57 = .ok (.putfield 74, 3) := by decide +kernel
theorem dX8_takeRead_60 : decode cX8_takeRead 60 = .ok (.aload_n 0, 1) := by decide +kernel
theorem dX8_takeRead_61 : decode cX8_takeRead 61 = .ok (.aload_n 0, 1) := by decide +kernel
theorem dX8_takeRead_62 : decode cX8_takeRead 62 = .ok (.getfield 64, 3) := by decide +kernel
theorem dX8_takeRead_65 : decode cX8_takeRead 65 = .ok (.putfield 77, 3) := by decide +kernel
theorem dX8_takeRead_68 : decode cX8_takeRead 68 = .ok (.aload_n 0, 1) := by decide +kernel
theorem dX8_takeRead_69 : decode cX8_takeRead 69 = .ok (.aload_n 0, 1) := by decide +kernel
theorem dX8_takeRead_70 : decode cX8_takeRead 70 = .ok (.getfield 67, 3) := by decide +kernel
theorem dX8_takeRead_73 : decode cX8_takeRead 73 = .ok (.putfield 80, 3) := by decide +kernel
theorem dX8_takeRead_76 : decode cX8_takeRead 76 = .ok (.iconst 0, 1) := by decide +kernel
theorem dX8_takeRead_77 : decode cX8_takeRead 77 = .ok (.istore_n 1, 1) := by decide +kernel
theorem dX8_takeRead_78 : decode cX8_takeRead 78 = .ok (.iload_n 1, 1) := by decide +kernel
theorem dX8_takeRead_79 : decode cX8_takeRead 79 = .ok (.bipush 12, 2) := by decide +kernel
theorem dX8_takeRead_81 : decode cX8_takeRead 81 = .ok (.if_icmp .ge 37, 3) := by decide +kernel
theorem dX8_takeRead_84 : decode cX8_takeRead 84 = .ok (.aload_n 0, 1) := by decide +kernel
theorem dX8_takeRead_85 : decode cX8_takeRead 85 = .ok (.getfield 25, 3) := by decide +kernel
theorem dX8_takeRead_88 : decode cX8_takeRead 88 = .ok (.iload_n 1, 1) := by decide +kernel
theorem dX8_takeRead_89 : decode cX8_takeRead 89 = .ok (.iload_n 1, 1) := by decide +kernel
theorem dX8_takeRead_90 : decode cX8_takeRead 90 = .ok (.aload_n 0, 1) := by decide +kernel
theorem dX8_takeRead_91 : decode cX8_takeRead 91 = .ok (.getfield 77, 3) := by decide +kernel
theorem dX8_takeRead_94 : decode cX8_takeRead 94 = .ok (.if_icmp .ge 16, 3) := by decide +kernel
theorem dX8_takeRead_97 : decode cX8_takeRead 97 = .ok (.aload_n 0, 1) := by decide +kernel
theorem dX8_takeRead_98 : decode cX8_takeRead 98 = .ok (.getfield 19, 3) := by decide +kernel
theorem dX8_takeRead_101 : decode cX8_takeRead 101 = .ok (.iconst 4, 1) := by decide +kernel
theorem dX8_takeRead_102 : decode cX8_takeRead 102 = .ok (.iload_n 1, 1) := by decide +kernel
theorem dX8_takeRead_103 : decode cX8_takeRead 103 = .ok (.imul, 1) := by decide +kernel
theorem dX8_takeRead_104 : decode cX8_takeRead 104 = .ok (.iconst 3, 1) := by decide +kernel
theorem dX8_takeRead_105 : decode cX8_takeRead 105 = .ok (.iadd, 1) := by decide +kernel
theorem dX8_takeRead_106 : decode cX8_takeRead 106 = .ok (.iaload, 1) := by decide +kernel
theorem dX8_takeRead_107 : decode cX8_takeRead 107 = .ok (.goto 4, 3) := by decide +kernel
theorem dX8_takeRead_110 : decode cX8_takeRead 110 = .ok (.iconst 0, 1) := by decide +kernel
theorem dX8_takeRead_111 : decode cX8_takeRead 111 = .ok (.iastore, 1) := by decide +kernel
theorem dX8_takeRead_112 : decode cX8_takeRead 112 = .ok (.iinc 1 1, 3) := by decide +kernel
theorem dX8_takeRead_115 : decode cX8_takeRead 115 = .ok (.goto (-37), 3) := by decide +kernel
theorem dX8_takeRead_118 : decode cX8_takeRead 118 = .ok (.aload_n 0, 1) := by decide +kernel
theorem dX8_takeRead_119 : decode cX8_takeRead 119 = .ok (.getfield 25, 3) := by decide +kernel
theorem dX8_takeRead_122 : decode cX8_takeRead 122 = .ok (.bipush 12, 2) := by decide +kernel
theorem dX8_takeRead_124 : decode cX8_takeRead 124 = .ok (.iconst 1, 1) := by decide +kernel
theorem dX8_takeRead_125 : decode cX8_takeRead 125 = .ok (.aload_n 0, 1) := by decide +kernel
theorem dX8_takeRead_126 : decode cX8_takeRead 126 = .ok (.getfield 77, 3) := by decide +kernel
theorem dX8_takeRead_129 : decode cX8_takeRead 129 = .ok (.ishl, 1) := by decide +kernel
theorem dX8_takeRead_130 : decode cX8_takeRead 130 = .ok (.iconst 1, 1) := by decide +kernel
theorem dX8_takeRead_131 : decode cX8_takeRead 131 = .ok (.isub, 1) := by decide +kernel
theorem dX8_takeRead_132 : decode cX8_takeRead 132 = .ok (.iastore, 1) := by decide +kernel
theorem dX8_takeRead_133 : decode cX8_takeRead 133 = .ok (.aload_n 0, 1) := by decide +kernel
theorem dX8_takeRead_134 : decode cX8_takeRead 134 = .ok (.getfield 25, 3) := by decide +kernel
theorem dX8_takeRead_137 : decode cX8_takeRead 137 = .ok (.bipush 14, 2) := by decide +kernel
theorem dX8_takeRead_139 : decode cX8_takeRead 139 = .ok (.iconst 0, 1) := by decide +kernel
theorem dX8_takeRead_140 : decode cX8_takeRead 140 = .ok (.iastore, 1) := by decide +kernel
theorem dX8_takeRead_141 : decode cX8_takeRead 141 = .ok (.aload_n 0, 1) := by decide +kernel
theorem dX8_takeRead_142 : decode cX8_takeRead 142 = .ok (.getfield 25, 3) := by decide +kernel
theorem dX8_takeRead_145 : decode cX8_takeRead 145 = .ok (.bipush 13, 2) := by decide +kernel
theorem dX8_takeRead_147 : decode cX8_takeRead 147 = .ok (.aload_n 0, 1) := by decide +kernel
theorem dX8_takeRead_148 : decode cX8_takeRead 148 = .ok (.invokevirtual 83, 3) := by decide +kernel
theorem dX8_takeRead_151 : decode cX8_takeRead 151 = .ok (.iastore, 1) := by decide +kernel
theorem dX8_takeRead_152 : decode cX8_takeRead 152 = .ok (.aload_n 0, 1) := by decide +kernel
theorem dX8_takeRead_153 : decode cX8_takeRead 153 = .ok (.iconst 0, 1) := by decide +kernel
theorem dX8_takeRead_154 : decode cX8_takeRead 154 = .ok (.putfield 87, 3) := by decide +kernel
theorem dX8_takeRead_157 : decode cX8_takeRead 157 = .ok (.return_, 1) := by decide +kernel
theorem dX8_isFigure_0 : decode cX8_isFigure 0 = .ok (.aload_n 0, 1) := by decide +kernel
theorem dX8_isFigure_1 : decode cX8_isFigure 1 = .ok (.getfield 90, 3) := by decide +kernel
theorem dX8_isFigure_4 : decode cX8_isFigure 4 = .ok (.aload_n 0, 1) := by decide +kernel
theorem dX8_isFigure_5 : decode cX8_isFigure 5 = .ok (.getfield 93, 3) := by decide +kernel
theorem dX8_isFigure_8 : decode cX8_isFigure 8 = .ok (.if_icmp .ge 26, 3) := by decide +kernel
theorem dX8_isFigure_11 : decode cX8_isFigure 11 = .ok (.aload_n 0, 1) := by decide +kernel
theorem dX8_isFigure_12 : decode cX8_isFigure 12 = .ok (.getfield 7, 3) := by decide +kernel
theorem dX8_isFigure_15 : decode cX8_isFigure 15 = .ok (.aload_n 0, 1) := by decide +kernel
theorem dX8_isFigure_16 : decode cX8_isFigure 16 = .ok (.getfield 90, 3) := by decide +kernel
theorem dX8_isFigure_19 : decode cX8_isFigure 19 = .ok (.iaload, 1) := by decide +kernel
theorem dX8_isFigure_20 : decode cX8_isFigure 20 = .ok (.bipush 48, 2) := by decide +kernel
theorem dX8_isFigure_22 : decode cX8_isFigure 22 = .ok (.bipush 57, 2) := by decide +kernel
theorem dX8_isFigure_24 : decode cX8_isFigure 24 = .ok (.invokestatic 96, 3) := by decide +kernel
theorem dX8_isFigure_27 : decode cX8_isFigure 27 = .ok (.ifCond .eq 7, 3) := by decide +kernel
theorem dX8_isFigure_30 : decode cX8_isFigure 30 = .ok (.iconst 1, 1) := by decide +kernel
theorem dX8_isFigure_31 : decode cX8_isFigure 31 = .ok (.goto 4, 3) := by decide +kernel
theorem dX8_isFigure_34 : decode cX8_isFigure 34 = .ok (.iconst 0, 1) := by decide +kernel
theorem dX8_isFigure_35 : decode cX8_isFigure 35 = .ok (.ireturn, 1) := by decide +kernel
theorem dX8_readNumbers_0 : decode cX8_readNumbers 0 = .ok (.iconst 0, 1) := by decide +kernel
theorem dX8_readNumbers_1 : decode cX8_readNumbers 1 = .ok (.istore_n 2, 1) := by decide +kernel
theorem dX8_readNumbers_2 : decode cX8_readNumbers 2 = .ok (.iload_n 2, 1) := by decide +kernel
theorem dX8_readNumbers_3 : decode cX8_readNumbers 3 = .ok (.iload_n 1, 1) := by decide +kernel
theorem dX8_readNumbers_4 : decode cX8_readNumbers 4 = .ok (.if_icmp .ge 132, 3) := by decide +kernel
theorem dX8_readNumbers_7 : decode cX8_readNumbers 7 = .ok (.aload_n 0, 1) := by decide +kernel
theorem dX8_readNumbers_8 : decode cX8_readNumbers 8 = .ok (.getfield 90, 3) := by decide +kernel
theorem dX8_readNumbers_11 : decode cX8_readNumbers 11 = .ok (.istore_n 3, 1) := by decide +kernel
theorem dX8_readNumbers_12 : decode cX8_readNumbers 12 = .ok (.iconst 0, 1) := by decide +kernel
theorem dX8_readNumbers_13 : decode cX8_readNumbers 13 = .ok (.istore 4, 2) := by decide +kernel
theorem dX8_readNumbers_15 : decode cX8_readNumbers 15 = .ok (.aload_n 0, 1) := by decide +kernel
theorem dX8_readNumbers_16 : decode cX8_readNumbers 16 = .ok (.invokevirtual 100, 3) := by decide +kernel
theorem dX8_readNumbers_19 : decode cX8_readNumbers 19 = .ok (.ifCond .eq 46, 3) := by decide +kernel
theorem dX8_readNumbers_22 : decode cX8_readNumbers 22 = .ok (.aload_n 0, 1) := by decide +kernel
theorem dX8_readNumbers_23 : decode cX8_readNumbers 23 = .ok (.getfield 90, 3) := by decide +kernel
theorem dX8_readNumbers_26 : decode cX8_readNumbers 26 = .ok (.iload_n 3, 1) := by decide +kernel
theorem dX8_readNumbers_27 : decode cX8_readNumbers 27 = .ok (.iconst 2, 1) := by decide +kernel
theorem dX8_readNumbers_28 : decode cX8_readNumbers 28 = .ok (.iadd, 1) := by decide +kernel
theorem dX8_readNumbers_29 : decode cX8_readNumbers 29 = .ok (.if_icmp .ge 36, 3) := by decide +kernel
theorem dX8_readNumbers_32 : decode cX8_readNumbers 32 = .ok (.bipush 10, 2) := by decide +kernel
theorem dX8_readNumbers_34 : decode cX8_readNumbers 34 = .ok (.iload 4, 2) := by decide +kernel
theorem dX8_readNumbers_36 : decode cX8_readNumbers 36 = .ok (.imul, 1) := by decide +kernel
theorem dX8_readNumbers_37 : decode cX8_readNumbers 37 = .ok (.aload_n 0, 1) := by decide +kernel
theorem dX8_readNumbers_38 : decode cX8_readNumbers 38 = .ok (.getfield 7, 3) := by decide +kernel
theorem dX8_readNumbers_41 : decode cX8_readNumbers 41 = .ok (.aload_n 0, 1) := by decide +kernel
theorem dX8_readNumbers_42 : decode cX8_readNumbers 42 = .ok (.getfield 90, 3) := by decide +kernel
theorem dX8_readNumbers_45 : decode cX8_readNumbers 45 = .ok (.iaload, 1) := by decide +kernel
theorem dX8_readNumbers_46 : decode cX8_readNumbers 46 = .ok (.iadd, 1) := by decide +kernel
theorem dX8_readNumbers_47 : decode cX8_readNumbers 47 = .ok (.bipush 48, 2) := by decide +kernel
theorem dX8_readNumbers_49 : decode cX8_readNumbers 49 = .ok (.isub, 1) := by decide +kernel
theorem dX8_readNumbers_50 : decode cX8_readNumbers 50 = .ok (.istore 4, 2) := by decide +kernel
theorem dX8_readNumbers_52 : decode cX8_readNumbers 52 = .ok (.aload_n 0, 1) := by decide +kernel
theorem dX8_readNumbers_53 : decode cX8_readNumbers 53 = .ok (.dup, 1) := by decide +kernel
theorem dX8_readNumbers_54 : decode cX8_readNumbers 54 = .ok (.getfield 90, 3) := by decide +kernel
theorem dX8_readNumbers_57 : decode cX8_readNumbers 57 = .ok (.iconst 1, 1) := by decide +kernel
theorem dX8_readNumbers_58 : decode cX8_readNumbers 58 = .ok (.iadd, 1) := by decide +kernel
theorem dX8_readNumbers_59 : decode cX8_readNumbers 59 = .ok (.putfield 90, 3) := by decide +kernel
theorem dX8_readNumbers_62 : decode cX8_readNumbers 62 = .ok (.goto (-47), 3) := by decide +kernel
theorem dX8_readNumbers_65 : decode cX8_readNumbers 65 = .ok (.aload_n 0, 1) := by decide +kernel
theorem dX8_readNumbers_66 : decode cX8_readNumbers 66 = .ok (.getfield 90, 3) := by decide +kernel
theorem dX8_readNumbers_69 : decode cX8_readNumbers 69 = .ok (.iload_n 3, 1) := by decide +kernel
theorem dX8_readNumbers_70 : decode cX8_readNumbers 70 = .ok (.if_icmp .eq 40, 3) := by decide +kernel
theorem dX8_readNumbers_73 : decode cX8_readNumbers 73 = .ok (.aload_n 0, 1) := by decide +kernel
theorem dX8_readNumbers_74 : decode cX8_readNumbers 74 = .ok (.getfield 90, 3) := by decide +kernel
theorem dX8_readNumbers_77 : decode cX8_readNumbers 77 = .ok (.aload_n 0, 1) := by decide +kernel
theorem dX8_readNumbers_78 : decode cX8_readNumbers 78 = .ok (.getfield 93, 3) := by decide +kernel
theorem dX8_readNumbers_81 : decode cX8_readNumbers 81 = .ok (.if_icmp .eq 29, 3) := by decide +kernel
theorem dX8_readNumbers_84 : decode cX8_readNumbers 84 = .ok (.aload_n 0, 1) := by decide +kernel
theorem dX8_readNumbers_85 : decode cX8_readNumbers 85 = .ok (.getfield 7, 3) := by decide +kernel
theorem dX8_readNumbers_88 : decode cX8_readNumbers 88 = .ok (.aload_n 0, 1) := by decide +kernel
theorem dX8_readNumbers_89 : decode cX8_readNumbers 89 = .ok (.getfield 90, 3) := by decide +kernel
theorem dX8_readNumbers_92 : decode cX8_readNumbers 92 = .ok (.iaload, 1) := by decide +kernel
theorem dX8_readNumbers_93 : decode cX8_readNumbers 93 = .ok (.iload_n 2, 1) := by decide +kernel
theorem dX8_readNumbers_94 : decode cX8_readNumbers 94 = .ok (.iconst 1, 1) := by decide +kernel
theorem dX8_readNumbers_95 : decode cX8_readNumbers 95 = .ok (.iadd, 1) := by decide +kernel
theorem dX8_readNumbers_96 : decode cX8_readNumbers 96 = .ok (.iload_n 1, 1) := by decide +kernel
theorem dX8_readNumbers_97 : decode cX8_readNumbers 97 = .ok (.if_icmp .ne 8, 3) := by decide +kernel
theorem dX8_readNumbers_100 : decode cX8_readNumbers 100 = .ok (.bipush 59, 2) := by decide +kernel
theorem dX8_readNumbers_102 : decode cX8_readNumbers 102 = .ok (.goto 5, 3) := by decide +kernel
theorem dX8_readNumbers_105 : decode cX8_readNumbers 105 = .ok (.bipush 44, 2) := by decide +kernel
theorem dX8_readNumbers_107 : decode cX8_readNumbers 107 = .ok (.if_icmp .eq 5, 3) := by decide +kernel
theorem dX8_readNumbers_110 : decode cX8_readNumbers 110 = .ok (.iconst 0, 1) := by decide +kernel
theorem dX8_readNumbers_111 : decode cX8_readNumbers 111 = .ok (.ireturn, 1) := by decide +kernel
theorem dX8_readNumbers_112 : decode cX8_readNumbers 112 = .ok (.aload_n 0, 1) := by decide +kernel
theorem dX8_readNumbers_113 : decode cX8_readNumbers 113 = .ok (.getfield 31, 3) := by decide +kernel
theorem dX8_readNumbers_116 : decode cX8_readNumbers 116 = .ok (.iload_n 2, 1) := by decide +kernel
theorem dX8_readNumbers_117 : decode cX8_readNumbers 117 = .ok (.iload 4, 2) := by decide +kernel
theorem dX8_readNumbers_119 : decode cX8_readNumbers 119 = .ok (.iastore, 1) := by decide +kernel
theorem dX8_readNumbers_120 : decode cX8_readNumbers 120 = .ok (.aload_n 0, 1) := by decide +kernel
theorem dX8_readNumbers_121 : decode cX8_readNumbers 121 = .ok (.dup, 1) := by decide +kernel
theorem dX8_readNumbers_122 : decode cX8_readNumbers 122 = .ok (.getfield 90, 3) := by decide +kernel
theorem dX8_readNumbers_125 : decode cX8_readNumbers 125 = .ok (.iconst 1, 1) := by decide +kernel
theorem dX8_readNumbers_126 : decode cX8_readNumbers 126 = .ok (.iadd, 1) := by decide +kernel
theorem dX8_readNumbers_127 : decode cX8_readNumbers 127 = .ok (.putfield 90, 3) := by decide +kernel
theorem dX8_readNumbers_130 : decode cX8_readNumbers 130 = .ok (.iinc 2 1, 3) := by decide +kernel
theorem dX8_readNumbers_133 : decode cX8_readNumbers 133 = .ok (.goto (-131), 3) := by decide +kernel
theorem dX8_readNumbers_136 : decode cX8_readNumbers 136 = .ok (.iconst 1, 1) := by decide +kernel
theorem dX8_readNumbers_137 : decode cX8_readNumbers 137 = .ok (.ireturn, 1) := by decide +kernel
theorem dX8_isNumber_0 : decode cX8_isNumber 0 = .ok (.aload_n 0, 1) := by decide +kernel
theorem dX8_isNumber_1 : decode cX8_isNumber 1 = .ok (.getfield 31, 3) := by decide +kernel
theorem dX8_isNumber_4 : decode cX8_isNumber 4 = .ok (.iload_n 1, 1) := by decide +kernel
theorem dX8_isNumber_5 : decode cX8_isNumber 5 = .ok (.iaload, 1) := by decide +kernel
theorem dX8_isNumber_6 : decode cX8_isNumber 6 = .ok (.iload_n 2, 1) := by decide +kernel
theorem dX8_isNumber_7 : decode cX8_isNumber 7 = .ok (.iload_n 3, 1) := by decide +kernel
theorem dX8_isNumber_8 : decode cX8_isNumber 8 = .ok (.invokestatic 96, 3) := by decide +kernel
theorem dX8_isNumber_11 : decode cX8_isNumber 11 = .ok (.ireturn, 1) := by decide +kernel
theorem dX8_areEnds_0 : decode cX8_areEnds 0 = .ok (.aload_n 0, 1) := by decide +kernel
theorem dX8_areEnds_1 : decode cX8_areEnds 1 = .ok (.iconst 0, 1) := by decide +kernel
theorem dX8_areEnds_2 : decode cX8_areEnds 2 = .ok (.iconst 0, 1) := by decide +kernel
theorem dX8_areEnds_3 : decode cX8_areEnds 3 = .ok (.aload_n 0, 1) := by decide +kernel
theorem dX8_areEnds_4 : decode cX8_areEnds 4 = .ok (.getfield 49, 3) := by decide +kernel
theorem dX8_areEnds_7 : decode cX8_areEnds 7 = .ok (.iconst 1, 1) := by decide +kernel
theorem dX8_areEnds_8 : decode cX8_areEnds 8 = .ok (.isub, 1) := by decide +kernel
theorem dX8_areEnds_9 : decode cX8_areEnds 9 = .ok (.invokevirtual 104, 3) := by decide +kernel
theorem dX8_areEnds_12 : decode cX8_areEnds 12 = .ok (.ifCond .eq 37, 3) := by decide +kernel
theorem dX8_areEnds_15 : decode cX8_areEnds 15 = .ok (.aload_n 0, 1) := by decide +kernel
theorem dX8_areEnds_16 : decode cX8_areEnds 16 = .ok (.iconst 1, 1) := by decide +kernel
theorem dX8_areEnds_17 : decode cX8_areEnds 17 = .ok (.iconst 0, 1) := by decide +kernel
theorem dX8_areEnds_18 : decode cX8_areEnds 18 = .ok (.aload_n 0, 1) := by decide +kernel
theorem dX8_areEnds_19 : decode cX8_areEnds 19 = .ok (.getfield 49, 3) := by decide +kernel
theorem dX8_areEnds_22 : decode cX8_areEnds 22 = .ok (.iconst 1, 1) := by decide +kernel
theorem dX8_areEnds_23 : decode cX8_areEnds 23 = .ok (.isub, 1) := by decide +kernel
theorem dX8_areEnds_24 : decode cX8_areEnds 24 = .ok (.invokevirtual 104, 3) := by decide +kernel
theorem dX8_areEnds_27 : decode cX8_areEnds 27 = .ok (.ifCond .eq 22, 3) := by decide +kernel
theorem dX8_areEnds_30 : decode cX8_areEnds 30 = .ok (.aload_n 0, 1) := by decide +kernel
theorem dX8_areEnds_31 : decode cX8_areEnds 31 = .ok (.getfield 31, 3) := by decide +kernel
theorem dX8_areEnds_34 : decode cX8_areEnds 34 = .ok (.iconst 0, 1) := by decide +kernel
theorem dX8_areEnds_35 : decode cX8_areEnds 35 = .ok (.iaload, 1) := by decide +kernel
theorem dX8_areEnds_36 : decode cX8_areEnds 36 = .ok (.aload_n 0, 1) := by decide +kernel
theorem dX8_areEnds_37 : decode cX8_areEnds 37 = .ok (.getfield 31, 3) := by decide +kernel
theorem dX8_areEnds_40 : decode cX8_areEnds 40 = .ok (.iconst 1, 1) := by decide +kernel
theorem dX8_areEnds_41 : decode cX8_areEnds 41 = .ok (.iaload, 1) := by decide +kernel
theorem dX8_areEnds_42 : decode cX8_areEnds 42 = .ok (.if_icmp .eq 7, 3) := by decide +kernel
theorem dX8_areEnds_45 : decode cX8_areEnds 45 = .ok (.iconst 1, 1) := by decide +kernel
theorem dX8_areEnds_46 : decode cX8_areEnds 46 = .ok (.goto 4, 3) := by decide +kernel
theorem dX8_areEnds_49 : decode cX8_areEnds 49 = .ok (.iconst 0, 1) := by decide +kernel
theorem dX8_areEnds_50 : decode cX8_areEnds 50 = .ok (.ireturn, 1) := by decide +kernel
theorem dX8_readItem_0 : decode cX8_readItem 0 = .ok (.iload_n 1, 1) := by decide +kernel
theorem dX8_readItem_1 : decode cX8_readItem 1 = .ok (.bipush 110, 2) := by decide +kernel
theorem dX8_readItem_3 : decode cX8_readItem 3 = .ok (.if_icmp .ne 58, 3) := by decide +kernel
theorem dX8_readItem_6 : decode cX8_readItem 6 = .ok (.aload_n 0, 1) := by decide +kernel
theorem dX8_readItem_7 : decode cX8_readItem 7 = .ok (.getfield 70, 3) := by decide +kernel
theorem dX8_readItem_10 : decode cX8_readItem 10 = .ok (.ifCond .ne 26, 3) := by decide +kernel
theorem dX8_readItem_13 : decode cX8_readItem 13 = .ok (.aload_n 0, 1) := by decide +kernel
theorem dX8_readItem_14 : decode cX8_readItem 14 = .ok (.iconst 1, 1) := by decide +kernel
theorem dX8_readItem_15 : decode cX8_readItem 15 = .ok (.invokevirtual 107, 3) := by decide +kernel
theorem dX8_readItem_18 : decode cX8_readItem 18 = .ok (.ifCond .eq 18, 3) := by decide +kernel
theorem dX8_readItem_21 : decode cX8_readItem 21 = .ok (.aload_n 0, 1) := by decide +kernel
theorem dX8_readItem_22 : decode cX8_readItem 22 = .ok (.iconst 0, 1) := by decide +kernel
theorem dX8_readItem_23 : decode cX8_readItem 23 = .ok (.iconst 2, 1) := by decide +kernel
theorem dX8_readItem_24 : decode cX8_readItem 24 = .ok (.bipush 7, 2) := by decide +kernel
theorem dX8_readItem_26 : decode cX8_readItem 26 = .ok (.invokevirtual 104, 3) := by decide +kernel
theorem dX8_readItem_29 : decode cX8_readItem 29 = .ok (.ifCond .eq 7, 3) := by decide +kernel
theorem dX8_readItem_32 : decode cX8_readItem 32 = .ok (.iconst 1, 1) := by decide +kernel
theorem dX8_readItem_33 : decode cX8_readItem 33 = .ok (.goto 4, 3) := by decide +kernel
theorem dX8_readItem_36 : decode cX8_readItem 36 = .ok (.iconst 0, 1) := by decide +kernel
theorem dX8_readItem_37 : decode cX8_readItem 37 = .ok (.istore_n 2, 1) := by decide +kernel
theorem dX8_readItem_38 : decode cX8_readItem 38 = .ok (.aload_n 0, 1) := by decide +kernel
theorem dX8_readItem_39 : decode cX8_readItem 39 = .ok (.iload_n 2, 1) := by decide +kernel
theorem dX8_readItem_40 : decode cX8_readItem 40 = .ok (.ifCond .eq 12, 3) := by decide +kernel
theorem dX8_readItem_43 : decode cX8_readItem 43 = .ok (.aload_n 0, 1) := by decide +kernel
theorem dX8_readItem_44 : decode cX8_readItem 44 = .ok (.getfield 31, 3) := by decide +kernel
theorem dX8_readItem_47 : decode cX8_readItem 47 = .ok (.iconst 0, 1) := by decide +kernel
theorem dX8_readItem_48 : decode cX8_readItem 48 = .ok (.iaload, 1) := by decide +kernel
theorem dX8_readItem_49 : decode cX8_readItem 49 = .ok (.goto 7, 3) := by decide +kernel
theorem dX8_readItem_52 : decode cX8_readItem 52 = .ok (.aload_n 0, 1) := by decide +kernel
theorem dX8_readItem_53 : decode cX8_readItem 53 = .ok (.getfield 49, 3) := by decide +kernel
theorem dX8_readItem_56 : decode cX8_readItem 56 = .ok (.putfield 49, 3) := by decide +kernel
theorem dX8_readItem_59 : decode cX8_readItem 59 = .ok (.iload_n 2, 1) := by decide +kernel
theorem dX8_readItem_60 : decode cX8_readItem 60 = .ok (.ireturn, 1) := by decide +kernel
theorem dX8_readItem_61 : decode cX8_readItem 61 = .ok (.aload_n 0, 1) := by decide +kernel
theorem dX8_readItem_62 : decode cX8_readItem 62 = .ok (.iconst 1, 1) := by decide +kernel
theorem dX8_readItem_63 : decode cX8_readItem 63 = .ok (.putfield 70, 3) := by decide +kernel
theorem dX8_readItem_66 : decode cX8_readItem 66 = .ok (.iconst 0, 1) := by decide +kernel
theorem dX8_readItem_67 : decode cX8_readItem 67 = .ok (.istore_n 2, 1) := by decide +kernel
theorem dX8_readItem_68 : decode cX8_readItem 68 = .ok (.iload_n 1, 1) := by decide +kernel
theorem dX8_readItem_69 : decode cX8_readItem 69 = .ok (.bipush 108, 2) := by decide +kernel
theorem dX8_readItem_71 : decode cX8_readItem 71 = .ok (.if_icmp .ne 90, 3) := by decide +kernel
theorem dX8_readItem_74 : decode cX8_readItem 74 = .ok (.aload_n 0, 1) := by decide +kernel
theorem dX8_readItem_75 : decode cX8_readItem 75 = .ok (.getfield 64, 3) := by decide +kernel
theorem dX8_readItem_78 : decode cX8_readItem 78 = .ok (.bipush 12, 2) := by decide +kernel
theorem dX8_readItem_80 : decode cX8_readItem 80 = .ok (.if_icmp .ge 44, 3) := by decide +kernel
theorem dX8_readItem_83 : decode cX8_readItem 83 = .ok (.aload_n 0, 1) := by decide +kernel
theorem dX8_readItem_84 : decode cX8_readItem 84 = .ok (.iconst 4, 1) := by decide +kernel
theorem dX8_readItem_85 : decode cX8_readItem 85 = .ok (.invokevirtual 107, 3) := by decide +kernel
theorem dX8_readItem_88 : decode cX8_readItem 88 = .ok (.ifCond .eq 36, 3) := by decide +kernel
theorem dX8_readItem_91 : decode cX8_readItem 91 = .ok (.aload_n 0, 1) := by decide +kernel
theorem dX8_readItem_92 : decode cX8_readItem 92 = .ok (.invokevirtual 111, 3) := by decide +kernel
theorem dX8_readItem_95 : decode cX8_readItem 95 = .ok (.ifCond .eq 29, 3) := by decide +kernel
theorem dX8_readItem_98 : decode cX8_readItem 98 = .ok (.aload_n 0, 1) := by decide +kernel
theorem dX8_readItem_99 : decode cX8_readItem 99 = .ok (.iconst 2, 1) := by decide +kernel
theorem dX8_readItem_100 : decode cX8_readItem 100 = .ok (.iconst 1, 1) := by decide +kernel
theorem dX8_readItem_101 : decode cX8_readItem 101 = .ok (.bipush 99, 2) := by decide +kernel
theorem dX8_readItem_103 : decode cX8_readItem 103 = .ok (.invokevirtual 104, 3) := by decide +kernel
theorem dX8_readItem_106 : decode cX8_readItem 106 = .ok (.ifCond .eq 18, 3) := by decide +kernel
theorem dX8_readItem_109 : decode cX8_readItem 109 = .ok (.aload_n 0, 1) := by decide +kernel
theorem dX8_readItem_110 : decode cX8_readItem 110 = .ok (.iconst 3, 1) := by decide +kernel
theorem dX8_readItem_111 : decode cX8_readItem 111 = .ok (.iconst 1, 1) := by decide +kernel
theorem dX8_readItem_112 : decode cX8_readItem 112 = .ok (.bipush 20, 2) := by decide +kernel
theorem dX8_readItem_114 : decode cX8_readItem 114 = .ok (.invokevirtual 104, 3) := by decide +kernel
theorem dX8_readItem_117 : decode cX8_readItem 117 = .ok (.ifCond .eq 7, 3) := by decide +kernel
theorem dX8_readItem_120 : decode cX8_readItem 120 = .ok (.iconst 1, 1) := by decide +kernel
theorem dX8_readItem_121 : decode cX8_readItem 121 = .ok (.goto 4, 3) := by decide +kernel
theorem dX8_readItem_124 : decode cX8_readItem 124 = .ok (.iconst 0, 1) := by decide +kernel
theorem dX8_readItem_125 : decode cX8_readItem 125 = .ok (.istore_n 2, 1) := by decide +kernel
theorem dX8_readItem_126 : decode cX8_readItem 126 = .ok (.iload_n 2, 1) := by decide +kernel
theorem dX8_readItem_127 : decode cX8_readItem 127 = .ok (.ifCond .eq 107, 3) := by decide +kernel
theorem dX8_readItem_130 : decode cX8_readItem 130 = .ok (.aload_n 0, 1) := by decide +kernel
theorem dX8_readItem_131 : decode cX8_readItem 131 = .ok (.aload_n 0, 1) := by decide +kernel
theorem dX8_readItem_132 : decode cX8_readItem 132 = .ok (.getfield 31, 3) := by decide +kernel
theorem dX8_readItem_135 : decode cX8_readItem 135 = .ok (.iconst 0, 1) := by decide +kernel
theorem dX8_readItem_136 : decode cX8_readItem 136 = .ok (.iaload, 1) := by decide +kernel
theorem dX8_readItem_137 : decode cX8_readItem 137 = .ok (.aload_n 0, 1) := by decide +kernel
theorem dX8_readItem_138 : decode cX8_readItem 138 = .ok (.getfield 31, 3) := by decide +kernel
theorem dX8_readItem_141 : decode cX8_readItem 141 = .ok (.iconst 1, 1) := by decide +kernel
theorem dX8_readItem_142 : decode cX8_readItem 142 = .ok (.iaload, 1) := by decide +kernel
theorem dX8_readItem_143 : decode cX8_readItem 143 = .ok (.aload_n 0, 1) := by decide +kernel
theorem dX8_readItem_144 : decode cX8_readItem 144 = .ok (.getfield 31, 3) := by decide +kernel
theorem dX8_readItem_147 : decode cX8_readItem 147 = .ok (.iconst 2, 1) := by decide +kernel
theorem dX8_readItem_148 : decode cX8_readItem 148 = .ok (.iaload, 1) := by decide +kernel
theorem dX8_readItem_149 : decode cX8_readItem 149 = .ok (.aload_n 0, 1) := by decide +kernel
theorem dX8_readItem_150 : decode cX8_readItem 150 = .ok (.getfield 31, 3) := by decide +kernel
theorem dX8_readItem_153 : decode cX8_readItem 153 = .ok (.iconst 3, 1) := by decide +kernel
theorem dX8_readItem_154 : decode cX8_readItem 154 = .ok (.iaload, 1) := by decide +kernel
theorem dX8_readItem_155 : decode cX8_readItem 155 = .ok (.invokevirtual 53, 3) := by decide +kernel
theorem dX8_readItem_158 : decode cX8_readItem 158 = .ok (.goto 76, 3) := by decide +kernel
theorem dX8_readItem_161 : decode cX8_readItem 161 = .ok (.iload_n 1, 1) := by decide +kernel
theorem dX8_readItem_162 : decode cX8_readItem 162 = .ok (.bipush 100, 2) := by decide +kernel
theorem dX8_readItem_164 : decode cX8_readItem 164 = .ok (.if_icmp .ne 70, 3) := by decide +kernel
theorem dX8_readItem_167 : decode cX8_readItem 167 = .ok (.aload_n 0, 1) := by decide +kernel
theorem dX8_readItem_168 : decode cX8_readItem 168 = .ok (.getfield 67, 3) := by decide +kernel
theorem dX8_readItem_171 : decode cX8_readItem 171 = .ok (.bipush 6, 2) := by decide +kernel
theorem dX8_readItem_173 : decode cX8_readItem 173 = .ok (.if_icmp .ge 33, 3) := by decide +kernel
theorem dX8_readItem_176 : decode cX8_readItem 176 = .ok (.aload_n 0, 1) := by decide +kernel
theorem dX8_readItem_177 : decode cX8_readItem 177 = .ok (.iconst 3, 1) := by decide +kernel
theorem dX8_readItem_178 : decode cX8_readItem 178 = .ok (.invokevirtual 107, 3) := by decide +kernel
theorem dX8_readItem_181 : decode cX8_readItem 181 = .ok (.ifCond .eq 25, 3) := by decide +kernel
theorem dX8_readItem_184 : decode cX8_readItem 184 = .ok (.aload_n 0, 1) := by decide +kernel
theorem dX8_readItem_185 : decode cX8_readItem 185 = .ok (.invokevirtual 111, 3) := by decide +kernel
theorem dX8_readItem_188 : decode cX8_readItem 188 = .ok (.ifCond .eq 18, 3) := by decide +kernel
theorem dX8_readItem_191 : decode cX8_readItem 191 = .ok (.aload_n 0, 1) := by decide +kernel
theorem dX8_readItem_192 : decode cX8_readItem 192 = .ok (.iconst 2, 1) := by decide +kernel
theorem dX8_readItem_193 : decode cX8_readItem 193 = .ok (.iconst 1, 1) := by decide +kernel
theorem dX8_readItem_194 : decode cX8_readItem 194 = .ok (.bipush 99, 2) := by decide +kernel
theorem dX8_readItem_196 : decode cX8_readItem 196 = .ok (.invokevirtual 104, 3) := by decide +kernel
theorem dX8_readItem_199 : decode cX8_readItem 199 = .ok (.ifCond .eq 7, 3) := by decide +kernel
theorem dX8_readItem_202 : decode cX8_readItem 202 = .ok (.iconst 1, 1) := by decide +kernel
theorem dX8_readItem_203 : decode cX8_readItem 203 = .ok (.goto 4, 3) := by decide +kernel
theorem dX8_readItem_206 : decode cX8_readItem 206 = .ok (.iconst 0, 1) := by decide +kernel
theorem dX8_readItem_207 : decode cX8_readItem 207 = .ok (.istore_n 2, 1) := by decide +kernel
theorem dX8_readItem_208 : decode cX8_readItem 208 = .ok (.iload_n 2, 1) := by decide +kernel
theorem dX8_readItem_209 : decode cX8_readItem 209 = .ok (.ifCond .eq 25, 3) := by decide +kernel
theorem dX8_readItem_212 : decode cX8_readItem 212 = .ok (.aload_n 0, 1) := by decide +kernel
theorem dX8_readItem_213 : decode cX8_readItem 213 = .ok (.aload_n 0, 1) := by decide +kernel
theorem dX8_readItem_214 : decode cX8_readItem 214 = .ok (.getfield 31, 3) := by decide +kernel
theorem dX8_readItem_217 : decode cX8_readItem 217 = .ok (.iconst 0, 1) := by decide +kernel
theorem dX8_readItem_218 : decode cX8_readItem 218 = .ok (.iaload, 1) := by decide +kernel
theorem dX8_readItem_219 : decode cX8_readItem 219 = .ok (.aload_n 0, 1) := by decide +kernel
theorem dX8_readItem_220 : decode cX8_readItem 220 = .ok (.getfield 31, 3) := by decide +kernel
theorem dX8_readItem_223 : decode cX8_readItem 223 = .ok (.iconst 1, 1) := by decide +kernel
theorem dX8_readItem_224 : decode cX8_readItem 224 = .ok (.iaload, 1) := by decide +kernel
theorem dX8_readItem_225 : decode cX8_readItem 225 = .ok (.aload_n 0, 1) := by decide +kernel
theorem dX8_readItem_226 : decode cX8_readItem 226 = .ok (.getfield 31, 3) := by decide +kernel
theorem dX8_readItem_229 : decode cX8_readItem 229 = .ok (.iconst 2, 1) := by decide +kernel
theorem dX8_readItem_230 : decode cX8_readItem 230 = .ok (.iaload, 1) := by decide +kernel
theorem dX8_readItem_231 : decode cX8_readItem 231 = .ok (.invokevirtual 57, 3) := by decide +kernel
theorem dX8_readItem_234 : decode cX8_readItem 234 = .ok (.iload_n 2, 1) := by decide +kernel
theorem dX8_readItem_235 : decode cX8_readItem 235 = .ok (.ireturn, 1) := by decide +kernel
theorem dX8_readText_0 : decode cX8_readText 0 = .ok (.aload_n 0, 1) := by decide +kernel
theorem dX8_readText_1 : decode cX8_readText 1 = .ok (.invokevirtual 46, 3) := by decide +kernel
theorem dX8_readText_4 : decode cX8_readText 4 = .ok (.aload_n 0, 1) := by decide +kernel
theorem dX8_readText_5 : decode cX8_readText 5 = .ok (.iconst 0, 1) := by decide +kernel
theorem dX8_readText_6 : decode cX8_readText 6 = .ok (.putfield 90, 3) := by decide +kernel
theorem dX8_readText_9 : decode cX8_readText 9 = .ok (.aload_n 0, 1) := by decide +kernel
theorem dX8_readText_10 : decode cX8_readText 10 = .ok (.getfield 90, 3) := by decide +kernel
theorem dX8_readText_13 : decode cX8_readText 13 = .ok (.aload_n 0, 1) := by decide +kernel
theorem dX8_readText_14 : decode cX8_readText 14 = .ok (.getfield 93, 3) := by decide +kernel
theorem dX8_readText_17 : decode cX8_readText 17 = .ok (.if_icmp .ge 41, 3) := by decide +kernel
theorem dX8_readText_20 : decode cX8_readText 20 = .ok (.aload_n 0, 1) := by decide +kernel
theorem dX8_readText_21 : decode cX8_readText 21 = .ok (.getfield 90, 3) := by decide +kernel
theorem dX8_readText_24 : decode cX8_readText 24 = .ok (.istore_n 1, 1) := by decide +kernel
theorem dX8_readText_25 : decode cX8_readText 25 = .ok (.aload_n 0, 1) := by decide +kernel
theorem dX8_readText_26 : decode cX8_readText 26 = .ok (.getfield 7, 3) := by decide +kernel
theorem dX8_readText_29 : decode cX8_readText 29 = .ok (.aload_n 0, 1) := by decide +kernel
theorem dX8_readText_30 : decode cX8_readText 30 = .ok (.getfield 90, 3) := by decide +kernel
theorem dX8_readText_33 : decode cX8_readText 33 = .ok (.iaload, 1) := by decide +kernel
theorem dX8_readText_34 : decode cX8_readText 34 = .ok (.istore_n 2, 1) := by decide +kernel
theorem dX8_readText_35 : decode cX8_readText 35 = .ok (.aload_n 0, 1) := by decide +kernel
theorem dX8_readText_36 : decode cX8_readText 36 = .ok (.dup, 1) := by decide +kernel
theorem dX8_readText_37 : decode cX8_readText 37 = .ok (.getfield 90, 3) := by decide +kernel
theorem dX8_readText_40 : decode cX8_readText 40 = .ok (.iconst 1, 1) := by decide +kernel
theorem dX8_readText_41 : decode cX8_readText 41 = .ok (.iadd, 1) := by decide +kernel
theorem dX8_readText_42 : decode cX8_readText 42 = .ok (.putfield 90, 3) := by decide +kernel
theorem dX8_readText_45 : decode cX8_readText 45 = .ok (.aload_n 0, 1) := by decide +kernel
theorem dX8_readText_46 : decode cX8_readText 46 = .ok (.iload_n 2, 1) := by decide +kernel
theorem dX8_readText_47 : decode cX8_readText 47 = .ok (.invokevirtual 114, 3) := by decide +kernel
theorem dX8_readText_50 : decode cX8_readText 50 = .ok (.ifCond .ne 5, 3) := by decide +kernel
theorem dX8_readText_53 : decode cX8_readText 53 = .ok (.iload_n 1, 1) := by decide +kernel
theorem dX8_readText_54 : decode cX8_readText 54 = .ok (.ireturn, 1) := by decide +kernel
theorem dX8_readText_55 : decode cX8_readText 55 = .ok (.goto (-46), 3) := by decide +kernel
theorem dX8_readText_58 : decode cX8_readText 58 = .ok (.bipush (-4), 2) := by decide +kernel
theorem dX8_readText_60 : decode cX8_readText 60 = .ok (.ireturn, 1) := by decide +kernel
theorem dX8_write_0 : decode cX8_write 0 = .ok (.iload_n 1, 1) := by decide +kernel
theorem dX8_write_1 : decode cX8_write 1 = .ok (.bipush 32, 2) := by decide +kernel
theorem dX8_write_3 : decode cX8_write 3 = .ok (.bipush 126, 2) := by decide +kernel
theorem dX8_write_5 : decode cX8_write 5 = .ok (.invokestatic 96, 3) := by decide +kernel
theorem dX8_write_8 : decode cX8_write 8 = .ok (.ifCond .ne 5, 3) := by decide +kernel
theorem dX8_write_11 : decode cX8_write 11 = .ok (.iconst (-1), 1) := by decide +kernel
theorem dX8_write_12 : decode cX8_write 12 = .ok (.ireturn, 1) := by decide +kernel
theorem dX8_write_13 : decode cX8_write 13 = .ok (.aload_n 0, 1) := by decide +kernel
theorem dX8_write_14 : decode cX8_write 14 = .ok (.getfield 93, 3) := by decide +kernel
theorem dX8_write_17 : decode cX8_write 17 = .ok (.sipush 200, 3) := by decide +kernel
theorem dX8_write_20 : decode cX8_write 20 = .ok (.if_icmp .ne 6, 3) := by decide +kernel
theorem dX8_write_23 : decode cX8_write 23 = .ok (.bipush (-3), 2) := by decide +kernel
theorem dX8_write_25 : decode cX8_write 25 = .ok (.ireturn, 1) := by decide +kernel
theorem dX8_write_26 : decode cX8_write 26 = .ok (.aload_n 0, 1) := by decide +kernel
theorem dX8_write_27 : decode cX8_write 27 = .ok (.getfield 7, 3) := by decide +kernel
theorem dX8_write_30 : decode cX8_write 30 = .ok (.aload_n 0, 1) := by decide +kernel
theorem dX8_write_31 : decode cX8_write 31 = .ok (.getfield 93, 3) := by decide +kernel
theorem dX8_write_34 : decode cX8_write 34 = .ok (.iload_n 1, 1) := by decide +kernel
theorem dX8_write_35 : decode cX8_write 35 = .ok (.iastore, 1) := by decide +kernel
theorem dX8_write_36 : decode cX8_write 36 = .ok (.aload_n 0, 1) := by decide +kernel
theorem dX8_write_37 : decode cX8_write 37 = .ok (.dup, 1) := by decide +kernel
theorem dX8_write_38 : decode cX8_write 38 = .ok (.getfield 93, 3) := by decide +kernel
theorem dX8_write_41 : decode cX8_write 41 = .ok (.iconst 1, 1) := by decide +kernel
theorem dX8_write_42 : decode cX8_write 42 = .ok (.iadd, 1) := by decide +kernel
theorem dX8_write_43 : decode cX8_write 43 = .ok (.putfield 93, 3) := by decide +kernel
theorem dX8_write_46 : decode cX8_write 46 = .ok (.aload_n 0, 1) := by decide +kernel
theorem dX8_write_47 : decode cX8_write 47 = .ok (.getfield 93, 3) := by decide +kernel
theorem dX8_write_50 : decode cX8_write 50 = .ok (.ireturn, 1) := by decide +kernel
theorem dX8_wipe_0 : decode cX8_wipe 0 = .ok (.aload_n 0, 1) := by decide +kernel
theorem dX8_wipe_1 : decode cX8_wipe 1 = .ok (.getfield 93, 3) := by decide +kernel
theorem dX8_wipe_4 : decode cX8_wipe 4 = .ok (.istore_n 1, 1) := by decide +kernel
theorem dX8_wipe_5 : decode cX8_wipe 5 = .ok (.aload_n 0, 1) := by decide +kernel
theorem dX8_wipe_6 : decode cX8_wipe 6 = .ok (.iconst 0, 1) := by decide +kernel
theorem dX8_wipe_7 : decode cX8_wipe 7 = .ok (.putfield 93, 3) := by decide +kernel
theorem dX8_wipe_10 : decode cX8_wipe 10 = .ok (.iload_n 1, 1) := by decide +kernel
theorem dX8_wipe_11 : decode cX8_wipe 11 = .ok (.ireturn, 1) := by decide +kernel
theorem dX8_fault_0 : decode cX8_fault 0 = .ok (.aload_n 0, 1) := by decide +kernel
theorem dX8_fault_1 : decode cX8_fault 1 = .ok (.invokevirtual 117, 3) := by decide +kernel
theorem dX8_fault_4 : decode cX8_fault 4 = .ok (.ireturn, 1) := by decide +kernel
theorem dX8_lay_0 : decode cX8_lay 0 = .ok (.aload_n 0, 1) := by decide +kernel
theorem dX8_lay_1 : decode cX8_lay 1 = .ok (.invokevirtual 117, 3) := by decide +kernel
theorem dX8_lay_4 : decode cX8_lay 4 = .ok (.bipush (-4), 2) := by decide +kernel
theorem dX8_lay_6 : decode cX8_lay 6 = .ok (.if_icmp .ne 17, 3) := by decide +kernel
theorem dX8_lay_9 : decode cX8_lay 9 = .ok (.aload_n 0, 1) := by decide +kernel
theorem dX8_lay_10 : decode cX8_lay 10 = .ok (.getfield 64, 3) := by decide +kernel
theorem dX8_lay_13 : decode cX8_lay 13 = .ok (.ifCond .eq 10, 3) := by decide +kernel
theorem dX8_lay_16 : decode cX8_lay 16 = .ok (.aload_n 0, 1) := by decide +kernel
theorem dX8_lay_17 : decode cX8_lay 17 = .ok (.getfield 67, 3) := by decide +kernel
theorem dX8_lay_20 : decode cX8_lay 20 = .ok (.ifCond .ne 6, 3) := by decide +kernel
theorem dX8_lay_23 : decode cX8_lay 23 = .ok (.bipush (-2), 2) := by decide +kernel
theorem dX8_lay_25 : decode cX8_lay 25 = .ok (.ireturn, 1) := by decide +kernel
theorem dX8_lay_26 : decode cX8_lay 26 = .ok (.aload_n 0, 1) := by decide +kernel
theorem dX8_lay_27 : decode cX8_lay 27 = .ok (.invokevirtual 61, 3) := by decide +kernel
theorem dX8_lay_30 : decode cX8_lay 30 = .ok (.aload_n 0, 1) := by decide +kernel
theorem dX8_lay_31 : decode cX8_lay 31 = .ok (.getfield 77, 3) := by decide +kernel
theorem dX8_lay_34 : decode cX8_lay 34 = .ok (.ireturn, 1) := by decide +kernel
theorem dX8_isLink_0 : decode cX8_isLink 0 = .ok (.iload_n 1, 1) := by decide +kernel
theorem dX8_isLink_1 : decode cX8_isLink 1 = .ok (.iconst 0, 1) := by decide +kernel
theorem dX8_isLink_2 : decode cX8_isLink 2 = .ok (.aload_n 0, 1) := by decide +kernel
theorem dX8_isLink_3 : decode cX8_isLink 3 = .ok (.getfield 77, 3) := by decide +kernel
theorem dX8_isLink_6 : decode cX8_isLink 6 = .ok (.iconst 1, 1) := by decide +kernel
theorem dX8_isLink_7 : decode cX8_isLink 7 = .ok (.isub, 1) := by decide +kernel
theorem dX8_isLink_8 : decode cX8_isLink 8 = .ok (.invokestatic 96, 3) := by decide +kernel
theorem dX8_isLink_11 : decode cX8_isLink 11 = .ok (.ireturn, 1) := by decide +kernel
theorem dX8_isNode_0 : decode cX8_isNode 0 = .ok (.iload_n 1, 1) := by decide +kernel
theorem dX8_isNode_1 : decode cX8_isNode 1 = .ok (.iconst 0, 1) := by decide +kernel
theorem dX8_isNode_2 : decode cX8_isNode 2 = .ok (.aload_n 0, 1) := by decide +kernel
theorem dX8_isNode_3 : decode cX8_isNode 3 = .ok (.getfield 74, 3) := by decide +kernel
theorem dX8_isNode_6 : decode cX8_isNode 6 = .ok (.iconst 1, 1) := by decide +kernel
theorem dX8_isNode_7 : decode cX8_isNode 7 = .ok (.isub, 1) := by decide +kernel
theorem dX8_isNode_8 : decode cX8_isNode 8 = .ok (.invokestatic 96, 3) := by decide +kernel
theorem dX8_isNode_11 : decode cX8_isNode 11 = .ok (.ireturn, 1) := by decide +kernel
theorem dX8_isUp_0 : decode cX8_isUp 0 = .ok (.aload_n 0, 1) := by decide +kernel
theorem dX8_isUp_1 : decode cX8_isUp 1 = .ok (.getfield 25, 3) := by decide +kernel
theorem dX8_isUp_4 : decode cX8_isUp 4 = .ok (.bipush 12, 2) := by decide +kernel
theorem dX8_isUp_6 : decode cX8_isUp 6 = .ok (.iaload, 1) := by decide +kernel
theorem dX8_isUp_7 : decode cX8_isUp 7 = .ok (.iload_n 1, 1) := by decide +kernel
theorem dX8_isUp_8 : decode cX8_isUp 8 = .ok (.ishr, 1) := by decide +kernel
theorem dX8_isUp_9 : decode cX8_isUp 9 = .ok (.iconst 1, 1) := by decide +kernel
theorem dX8_isUp_10 : decode cX8_isUp 10 = .ok (.iand, 1) := by decide +kernel
theorem dX8_isUp_11 : decode cX8_isUp 11 = .ok (.iconst 1, 1) := by decide +kernel
theorem dX8_isUp_12 : decode cX8_isUp 12 = .ok (.if_icmp .ne 7, 3) := by decide +kernel
theorem dX8_isUp_15 : decode cX8_isUp 15 = .ok (.iconst 1, 1) := by decide +kernel
theorem dX8_isUp_16 : decode cX8_isUp 16 = .ok (.goto 4, 3) := by decide +kernel
theorem dX8_isUp_19 : decode cX8_isUp 19 = .ok (.iconst 0, 1) := by decide +kernel
theorem dX8_isUp_20 : decode cX8_isUp 20 = .ok (.ireturn, 1) := by decide +kernel
theorem dX8_begin_0 : decode cX8_begin 0 = .ok (.aload_n 0, 1) := by decide +kernel
theorem dX8_begin_1 : decode cX8_begin 1 = .ok (.getfield 19, 3) := by decide +kernel
theorem dX8_begin_4 : decode cX8_begin 4 = .ok (.iconst 4, 1) := by decide +kernel
theorem dX8_begin_5 : decode cX8_begin 5 = .ok (.iload_n 1, 1) := by decide +kernel
theorem dX8_begin_6 : decode cX8_begin 6 = .ok (.imul, 1) := by decide +kernel
theorem dX8_begin_7 : decode cX8_begin 7 = .ok (.iaload, 1) := by decide +kernel
theorem dX8_begin_8 : decode cX8_begin 8 = .ok (.ireturn, 1) := by decide +kernel
theorem dX8_end_0 : decode cX8_end 0 = .ok (.aload_n 0, 1) := by decide +kernel
theorem dX8_end_1 : decode cX8_end 1 = .ok (.getfield 19, 3) := by decide +kernel
theorem dX8_end_4 : decode cX8_end 4 = .ok (.iconst 4, 1) := by decide +kernel
theorem dX8_end_5 : decode cX8_end 5 = .ok (.iload_n 1, 1) := by decide +kernel
theorem dX8_end_6 : decode cX8_end 6 = .ok (.imul, 1) := by decide +kernel
theorem dX8_end_7 : decode cX8_end 7 = .ok (.iconst 1, 1) := by decide +kernel
theorem dX8_end_8 : decode cX8_end 8 = .ok (.iadd, 1) := by decide +kernel
theorem dX8_end_9 : decode cX8_end 9 = .ok (.iaload, 1) := by decide +kernel
theorem dX8_end_10 : decode cX8_end 10 = .ok (.ireturn, 1) := by decide +kernel
theorem dX8_findFar_0 : decode cX8_findFar 0 = .ok (.iconst 0, 1) := by decide +kernel
theorem dX8_findFar_1 : decode cX8_findFar 1 = .ok (.istore_n 2, 1) := by decide +kernel
theorem dX8_findFar_2 : decode cX8_findFar 2 = .ok (.iload_n 2, 1) := by decide +kernel
theorem dX8_findFar_3 : decode cX8_findFar 3 = .ok (.bipush 7, 2) := by decide +kernel
theorem dX8_findFar_5 : decode cX8_findFar 5 = .ok (.if_icmp .ge 26, 3) := by decide +kernel
theorem dX8_findFar_8 : decode cX8_findFar 8 = .ok (.aload_n 0, 1) := by decide +kernel
theorem dX8_findFar_9 : decode cX8_findFar 9 = .ok (.getfield 34, 3) := by decide +kernel
theorem dX8_findFar_12 : decode cX8_findFar 12 = .ok (.iload_n 2, 1) := by decide +kernel
theorem dX8_findFar_13 : decode cX8_findFar 13 = .ok (.iload_n 2, 1) := by decide +kernel
theorem dX8_findFar_14 : decode cX8_findFar 14 = .ok (.iload_n 1, 1) := by decide +kernel
theorem dX8_findFar_15 : decode cX8_findFar 15 = .ok (.if_icmp .ne 7, 3) := by decide +kernel
theorem dX8_findFar_18 : decode cX8_findFar 18 = .ok (.iconst 0, 1) := by decide +kernel
theorem dX8_findFar_19 : decode cX8_findFar 19 = .ok (.goto 5, 3) := by decide +kernel
theorem dX8_findFar_22 : decode cX8_findFar 22 = .ok (.bipush (-4), 2) := by decide +kernel
theorem dX8_findFar_24 : decode cX8_findFar 24 = .ok (.iastore, 1) := by decide +kernel
theorem dX8_findFar_25 : decode cX8_findFar 25 = .ok (.iinc 2 1, 3) := by decide +kernel
theorem dX8_findFar_28 : decode cX8_findFar 28 = .ok (.goto (-26), 3) := by decide +kernel
theorem dX8_findFar_31 : decode cX8_findFar 31 = .ok (.iconst 1, 1) := by decide +kernel
theorem dX8_findFar_32 : decode cX8_findFar 32 = .ok (.istore_n 2, 1) := by decide +kernel
theorem dX8_findFar_33 : decode cX8_findFar 33 = .ok (.iload_n 2, 1) := by decide +kernel
theorem dX8_findFar_34 : decode cX8_findFar 34 = .ok (.aload_n 0, 1) := by decide +kernel
theorem dX8_findFar_35 : decode cX8_findFar 35 = .ok (.getfield 74, 3) := by decide +kernel
theorem dX8_findFar_38 : decode cX8_findFar 38 = .ok (.if_icmp .ge 134, 3) := by decide +kernel
theorem dX8_findFar_41 : decode cX8_findFar 41 = .ok (.iconst 0, 1) := by decide +kernel
theorem dX8_findFar_42 : decode cX8_findFar 42 = .ok (.istore_n 3, 1) := by decide +kernel
theorem dX8_findFar_43 : decode cX8_findFar 43 = .ok (.iload_n 3, 1) := by decide +kernel
theorem dX8_findFar_44 : decode cX8_findFar 44 = .ok (.aload_n 0, 1) := by decide +kernel
theorem dX8_findFar_45 : decode cX8_findFar 45 = .ok (.getfield 77, 3) := by decide +kernel
theorem dX8_findFar_48 : decode cX8_findFar 48 = .ok (.if_icmp .ge 118, 3) := by decide +kernel
theorem dX8_findFar_51 : decode cX8_findFar 51 = .ok (.aload_n 0, 1) := by decide +kernel
theorem dX8_findFar_52 : decode cX8_findFar 52 = .ok (.getfield 34, 3) := by decide +kernel
theorem dX8_findFar_55 : decode cX8_findFar 55 = .ok (.aload_n 0, 1) := by decide +kernel
theorem dX8_findFar_56 : decode cX8_findFar 56 = .ok (.iload_n 3, 1) := by decide +kernel
theorem dX8_findFar_57 : decode cX8_findFar 57 = .ok (.invokevirtual 120, 3) := by decide +kernel
theorem dX8_findFar_60 : decode cX8_findFar 60 = .ok (.iaload, 1) := by decide +kernel
theorem dX8_findFar_61 : decode cX8_findFar 61 = .ok (.aload_n 0, 1) := by decide +kernel
theorem dX8_findFar_62 : decode cX8_findFar 62 = .ok (.getfield 25, 3) := by decide +kernel
theorem dX8_findFar_65 : decode cX8_findFar 65 = .ok (.iload_n 3, 1) := by decide +kernel
theorem dX8_findFar_66 : decode cX8_findFar 66 = .ok (.iaload, 1) := by decide +kernel
theorem dX8_findFar_67 : decode cX8_findFar 67 = .ok (.iadd, 1) := by decide +kernel
theorem dX8_findFar_68 : decode cX8_findFar 68 = .ok (.istore 4, 2) := by decide +kernel
theorem dX8_findFar_70 : decode cX8_findFar 70 = .ok (.aload_n 0, 1) := by decide +kernel
theorem dX8_findFar_71 : decode cX8_findFar 71 = .ok (.iload_n 3, 1) := by decide +kernel
theorem dX8_findFar_72 : decode cX8_findFar 72 = .ok (.invokevirtual 124, 3) := by decide +kernel
theorem dX8_findFar_75 : decode cX8_findFar 75 = .ok (.ifCond .eq 22, 3) := by decide +kernel
theorem dX8_findFar_78 : decode cX8_findFar 78 = .ok (.aload_n 0, 1) := by decide +kernel
theorem dX8_findFar_79 : decode cX8_findFar 79 = .ok (.getfield 34, 3) := by decide +kernel
theorem dX8_findFar_82 : decode cX8_findFar 82 = .ok (.aload_n 0, 1) := by decide +kernel
theorem dX8_findFar_83 : decode cX8_findFar 83 = .ok (.iload_n 3, 1) := by decide +kernel
theorem dX8_findFar_84 : decode cX8_findFar 84 = .ok (.invokevirtual 120, 3) := by decide +kernel
theorem dX8_findFar_87 : decode cX8_findFar 87 = .ok (.iaload, 1) := by decide +kernel
theorem dX8_findFar_88 : decode cX8_findFar 88 = .ok (.bipush (-4), 2) := by decide +kernel
theorem dX8_findFar_90 : decode cX8_findFar 90 = .ok (.if_icmp .eq 7, 3) := by decide +kernel
theorem dX8_findFar_93 : decode cX8_findFar 93 = .ok (.iconst 1, 1) := by decide +kernel
theorem dX8_findFar_94 : decode cX8_findFar 94 = .ok (.goto 4, 3) := by decide +kernel
theorem dX8_findFar_97 : decode cX8_findFar 97 = .ok (.iconst 0, 1) := by decide +kernel
theorem dX8_findFar_98 : decode cX8_findFar 98 = .ok (.istore 5, 2) := by decide +kernel
theorem dX8_findFar_100 : decode cX8_findFar 100 = .ok (.aload_n 0, 1) := by decide +kernel
theorem dX8_findFar_101 : decode cX8_findFar 101 = .ok (.getfield 34, 3) := by decide +kernel
theorem dX8_findFar_104 : decode cX8_findFar 104 = .ok (.aload_n 0, 1) := by decide +kernel
theorem dX8_findFar_105 : decode cX8_findFar 105 = .ok (.iload_n 3, 1) := by decide +kernel
theorem dX8_findFar_106 : decode cX8_findFar 106 = .ok (.invokevirtual 127, 3) := by decide +kernel
theorem dX8_findFar_109 : decode cX8_findFar 109 = .ok (.iload 5, 2) := by decide +kernel
theorem dX8_findFar_111 : decode cX8_findFar 111 = .ok (.ifCond .eq 38, 3) := by decide +kernel
theorem dX8_findFar_114 : decode cX8_findFar 114 = .ok (.aload_n 0, 1) := by decide +kernel
theorem dX8_findFar_115 : decode cX8_findFar 115 = .ok (.getfield 34, 3) := by decide +kernel
theorem dX8_findFar_118 : decode cX8_findFar 118 = .ok (.aload_n 0, 1) := by decide +kernel
theorem dX8_findFar_119 : decode cX8_findFar 119 = .ok (.iload_n 3, 1) := by decide +kernel
theorem dX8_findFar_120 : decode cX8_findFar 120 = .ok (.invokevirtual 127, 3) := by decide +kernel
theorem dX8_findFar_123 : decode cX8_findFar 123 = .ok (.iaload, 1) := by decide +kernel
theorem dX8_findFar_124 : decode cX8_findFar 124 = .ok (.bipush (-4), 2) := by decide +kernel
theorem dX8_findFar_126 : decode cX8_findFar 126 = .ok (.if_icmp .eq 18, 3) := by decide +kernel
theorem dX8_findFar_129 : decode cX8_findFar 129 = .ok (.iload 4, 2) := by decide +kernel
theorem dX8_findFar_131 : decode cX8_findFar 131 = .ok (.aload_n 0, 1) := by decide +kernel
theorem dX8_findFar_132 : decode cX8_findFar 132 = .ok (.getfield 34, 3) := by decide +kernel
theorem dX8_findFar_135 : decode cX8_findFar 135 = .ok (.aload_n 0, 1) := by decide +kernel
theorem dX8_findFar_136 : decode cX8_findFar 136 = .ok (.iload_n 3, 1) := by decide +kernel
theorem dX8_findFar_137 : decode cX8_findFar 137 = .ok (.invokevirtual 127, 3) := by decide +kernel
theorem dX8_findFar_140 : decode cX8_findFar 140 = .ok (.iaload, 1) := by decide +kernel
theorem dX8_findFar_141 : decode cX8_findFar 141 = .ok (.if_icmp .ge 8, 3) := by decide +kernel
theorem dX8_findFar_144 : decode cX8_findFar 144 = .ok (.iload 4, 2) := by decide +kernel
theorem dX8_findFar_146 : decode cX8_findFar 146 = .ok (.goto 13, 3) := by decide +kernel
theorem dX8_findFar_149 : decode cX8_findFar 149 = .ok (.aload_n 0, 1) := by decide +kernel
theorem dX8_findFar_150 : decode cX8_findFar 150 = .ok (.getfield 34, 3) := by decide +kernel
theorem dX8_findFar_153 : decode cX8_findFar 153 = .ok (.aload_n 0, 1) := by decide +kernel
theorem dX8_findFar_154 : decode cX8_findFar 154 = .ok (.iload_n 3, 1) := by decide +kernel
theorem dX8_findFar_155 : decode cX8_findFar 155 = .ok (.invokevirtual 127, 3) := by decide +kernel
theorem dX8_findFar_158 : decode cX8_findFar 158 = .ok (.iaload, 1) := by decide +kernel
theorem dX8_findFar_159 : decode cX8_findFar 159 = .ok (.iastore, 1) := by decide +kernel
theorem dX8_findFar_160 : decode cX8_findFar 160 = .ok (.iinc 3 1, 3) := by decide +kernel
theorem dX8_findFar_163 : decode cX8_findFar 163 = .ok (.goto (-120), 3) := by decide +kernel
theorem dX8_findFar_166 : decode cX8_findFar 166 = .ok (.iinc 2 1, 3) := by decide +kernel
theorem dX8_findFar_169 : decode cX8_findFar 169 = .ok (.goto (-136), 3) := by decide +kernel
theorem dX8_findFar_172 : decode cX8_findFar 172 = .ok (.return_, 1) := by decide +kernel
theorem dX8_isShort_0 : decode cX8_isShort 0 = .ok (.aload_n 0, 1) := by decide +kernel
theorem dX8_isShort_1 : decode cX8_isShort 1 = .ok (.iload_n 1, 1) := by decide +kernel
theorem dX8_isShort_2 : decode cX8_isShort 2 = .ok (.invokevirtual 124, 3) := by decide +kernel
theorem dX8_isShort_5 : decode cX8_isShort 5 = .ok (.ifCond .eq 52, 3) := by decide +kernel
theorem dX8_isShort_8 : decode cX8_isShort 8 = .ok (.aload_n 0, 1) := by decide +kernel
theorem dX8_isShort_9 : decode cX8_isShort 9 = .ok (.getfield 34, 3) := by decide +kernel
theorem dX8_isShort_12 : decode cX8_isShort 12 = .ok (.aload_n 0, 1) := by decide +kernel
theorem dX8_isShort_13 : decode cX8_isShort 13 = .ok (.iload_n 1, 1) := by decide +kernel
theorem dX8_isShort_14 : decode cX8_isShort 14 = .ok (.invokevirtual 120, 3) := by decide +kernel
theorem dX8_isShort_17 : decode cX8_isShort 17 = .ok (.iaload, 1) := by decide +kernel
theorem dX8_isShort_18 : decode cX8_isShort 18 = .ok (.bipush (-4), 2) := by decide +kernel
theorem dX8_isShort_20 : decode cX8_isShort 20 = .ok (.if_icmp .eq 37, 3) := by decide +kernel
theorem dX8_isShort_23 : decode cX8_isShort 23 = .ok (.aload_n 0, 1) := by decide +kernel
theorem dX8_isShort_24 : decode cX8_isShort 24 = .ok (.getfield 34, 3) := by decide +kernel
theorem dX8_isShort_27 : decode cX8_isShort 27 = .ok (.aload_n 0, 1) := by decide +kernel
theorem dX8_isShort_28 : decode cX8_isShort 28 = .ok (.iload_n 1, 1) := by decide +kernel
theorem dX8_isShort_29 : decode cX8_isShort 29 = .ok (.invokevirtual 127, 3) := by decide +kernel
theorem dX8_isShort_32 : decode cX8_isShort 32 = .ok (.iaload, 1) := by decide +kernel
theorem dX8_isShort_33 : decode cX8_isShort 33 = .ok (.aload_n 0, 1) := by decide +kernel
theorem dX8_isShort_34 : decode cX8_isShort 34 = .ok (.getfield 25, 3) := by decide +kernel
theorem dX8_isShort_37 : decode cX8_isShort 37 = .ok (.iload_n 1, 1) := by decide +kernel
theorem dX8_isShort_38 : decode cX8_isShort 38 = .ok (.iaload, 1) := by decide +kernel
theorem dX8_isShort_39 : decode cX8_isShort 39 = .ok (.aload_n 0, 1) := by decide +kernel
theorem dX8_isShort_40 : decode cX8_isShort 40 = .ok (.getfield 34, 3) := by decide +kernel
theorem dX8_isShort_43 : decode cX8_isShort 43 = .ok (.aload_n 0, 1) := by decide +kernel
theorem dX8_isShort_44 : decode cX8_isShort 44 = .ok (.iload_n 1, 1) := by decide +kernel
theorem dX8_isShort_45 : decode cX8_isShort 45 = .ok (.invokevirtual 120, 3) := by decide +kernel
theorem dX8_isShort_48 : decode cX8_isShort 48 = .ok (.iaload, 1) := by decide +kernel
theorem dX8_isShort_49 : decode cX8_isShort 49 = .ok (.iadd, 1) := by decide +kernel
theorem dX8_isShort_50 : decode cX8_isShort 50 = .ok (.if_icmp .ne 7, 3) := by decide +kernel
theorem dX8_isShort_53 : decode cX8_isShort 53 = .ok (.iconst 1, 1) := by decide +kernel
theorem dX8_isShort_54 : decode cX8_isShort 54 = .ok (.goto 4, 3) := by decide +kernel
theorem dX8_isShort_57 : decode cX8_isShort 57 = .ok (.iconst 0, 1) := by decide +kernel
theorem dX8_isShort_58 : decode cX8_isShort 58 = .ok (.ireturn, 1) := by decide +kernel
theorem dX8_goOn_0 : decode cX8_goOn 0 = .ok (.iconst 0, 1) := by decide +kernel
theorem dX8_goOn_1 : decode cX8_goOn 1 = .ok (.istore_n 2, 1) := by decide +kernel
theorem dX8_goOn_2 : decode cX8_goOn 2 = .ok (.iconst 0, 1) := by decide +kernel
theorem dX8_goOn_3 : decode cX8_goOn 3 = .ok (.istore_n 3, 1) := by decide +kernel
theorem dX8_goOn_4 : decode cX8_goOn 4 = .ok (.iload_n 3, 1) := by decide +kernel
theorem dX8_goOn_5 : decode cX8_goOn 5 = .ok (.aload_n 0, 1) := by decide +kernel
theorem dX8_goOn_6 : decode cX8_goOn 6 = .ok (.getfield 77, 3) := by decide +kernel
theorem dX8_goOn_9 : decode cX8_goOn 9 = .ok (.if_icmp .ge 34, 3) := by decide +kernel
theorem dX8_goOn_12 : decode cX8_goOn 12 = .ok (.iload_n 2, 1) := by decide +kernel
theorem dX8_goOn_13 : decode cX8_goOn 13 = .ok (.aload_n 0, 1) := by decide +kernel
theorem dX8_goOn_14 : decode cX8_goOn 14 = .ok (.iload_n 3, 1) := by decide +kernel
theorem dX8_goOn_15 : decode cX8_goOn 15 = .ok (.invokevirtual 127, 3) := by decide +kernel
theorem dX8_goOn_18 : decode cX8_goOn 18 = .ok (.iload_n 1, 1) := by decide +kernel
theorem dX8_goOn_19 : decode cX8_goOn 19 = .ok (.if_icmp .ne 15, 3) := by decide +kernel
theorem dX8_goOn_22 : decode cX8_goOn 22 = .ok (.aload_n 0, 1) := by decide +kernel
theorem dX8_goOn_23 : decode cX8_goOn 23 = .ok (.iload_n 3, 1) := by decide +kernel
theorem dX8_goOn_24 : decode cX8_goOn 24 = .ok (.invokevirtual 130, 3) := by decide +kernel
theorem dX8_goOn_27 : decode cX8_goOn 27 = .ok (.ifCond .eq 7, 3) := by decide +kernel
theorem dX8_goOn_30 : decode cX8_goOn 30 = .ok (.iconst 1, 1) := by decide +kernel
theorem dX8_goOn_31 : decode cX8_goOn 31 = .ok (.goto 4, 3) := by decide +kernel
theorem dX8_goOn_34 : decode cX8_goOn 34 = .ok (.iconst 0, 1) := by decide +kernel
theorem dX8_goOn_35 : decode cX8_goOn 35 = .ok (.iadd, 1) := by decide +kernel
theorem dX8_goOn_36 : decode cX8_goOn 36 = .ok (.istore_n 2, 1) := by decide +kernel
theorem dX8_goOn_37 : decode cX8_goOn 37 = .ok (.iinc 3 1, 3) := by decide +kernel
theorem dX8_goOn_40 : decode cX8_goOn 40 = .ok (.goto (-36), 3) := by decide +kernel
theorem dX8_goOn_43 : decode cX8_goOn 43 = .ok (.iload_n 2, 1) := by decide +kernel
theorem dX8_goOn_44 : decode cX8_goOn 44 = .ok (.ifCond .ne 7, 3) := by decide +kernel
theorem dX8_goOn_47 : decode cX8_goOn 47 = .ok (.iconst 0, 1) := by decide +kernel
theorem dX8_goOn_48 : decode cX8_goOn 48 = .ok (.goto 11, 3) := by decide +kernel
theorem dX8_goOn_51 : decode cX8_goOn 51 = .ok (.aload_n 0, 1) := by decide +kernel
theorem dX8_goOn_52 : decode cX8_goOn 52 = .ok (.getfield 40, 3) := by decide +kernel
theorem dX8_goOn_55 : decode cX8_goOn 55 = .ok (.iload_n 1, 1) := by decide +kernel
theorem dX8_goOn_56 : decode cX8_goOn 56 = .ok (.iaload, 1) := by decide +kernel
theorem dX8_goOn_57 : decode cX8_goOn 57 = .ok (.iload_n 2, 1) := by decide +kernel
theorem dX8_goOn_58 : decode cX8_goOn 58 = .ok (.irem, 1) := by decide +kernel
theorem dX8_goOn_59 : decode cX8_goOn 59 = .ok (.istore_n 3, 1) := by decide +kernel
theorem dX8_goOn_60 : decode cX8_goOn 60 = .ok (.iconst 0, 1) := by decide +kernel
theorem dX8_goOn_61 : decode cX8_goOn 61 = .ok (.istore 4, 2) := by decide +kernel
theorem dX8_goOn_63 : decode cX8_goOn 63 = .ok (.iload 4, 2) := by decide +kernel
theorem dX8_goOn_65 : decode cX8_goOn 65 = .ok (.aload_n 0, 1) := by decide +kernel
theorem dX8_goOn_66 : decode cX8_goOn 66 = .ok (.getfield 77, 3) := by decide +kernel
theorem dX8_goOn_69 : decode cX8_goOn 69 = .ok (.if_icmp .ge 76, 3) := by decide +kernel
theorem dX8_goOn_72 : decode cX8_goOn 72 = .ok (.aload_n 0, 1) := by decide +kernel
theorem dX8_goOn_73 : decode cX8_goOn 73 = .ok (.iload 4, 2) := by decide +kernel
theorem dX8_goOn_75 : decode cX8_goOn 75 = .ok (.invokevirtual 127, 3) := by decide +kernel
theorem dX8_goOn_78 : decode cX8_goOn 78 = .ok (.iload_n 1, 1) := by decide +kernel
theorem dX8_goOn_79 : decode cX8_goOn 79 = .ok (.if_icmp .ne 60, 3) := by decide +kernel
theorem dX8_goOn_82 : decode cX8_goOn 82 = .ok (.aload_n 0, 1) := by decide +kernel
theorem dX8_goOn_83 : decode cX8_goOn 83 = .ok (.iload 4, 2) := by decide +kernel
theorem dX8_goOn_85 : decode cX8_goOn 85 = .ok (.invokevirtual 130, 3) := by decide +kernel
theorem dX8_goOn_88 : decode cX8_goOn 88 = .ok (.ifCond .eq 51, 3) := by decide +kernel
theorem dX8_goOn_91 : decode cX8_goOn 91 = .ok (.aload_n 0, 1) := by decide +kernel
theorem dX8_goOn_92 : decode cX8_goOn 92 = .ok (.getfield 40, 3) := by decide +kernel
theorem dX8_goOn_95 : decode cX8_goOn 95 = .ok (.iload_n 1, 1) := by decide +kernel
theorem dX8_goOn_96 : decode cX8_goOn 96 = .ok (.iaload, 1) := by decide +kernel
theorem dX8_goOn_97 : decode cX8_goOn 97 = .ok (.iload_n 2, 1) := by decide +kernel
theorem dX8_goOn_98 : decode cX8_goOn 98 = .ok (.idiv, 1) := by decide +kernel
theorem dX8_goOn_99 : decode cX8_goOn 99 = .ok (.iload_n 3, 1) := by decide +kernel
theorem dX8_goOn_100 : decode cX8_goOn 100 = .ok (.ifCond .le 7, 3) := by decide +kernel
theorem dX8_goOn_103 : decode cX8_goOn 103 = .ok (.iconst 1, 1) := by decide +kernel
theorem dX8_goOn_104 : decode cX8_goOn 104 = .ok (.goto 4, 3) := by decide +kernel
theorem dX8_goOn_107 : decode cX8_goOn 107 = .ok (.iconst 0, 1) := by decide +kernel
theorem dX8_goOn_108 : decode cX8_goOn 108 = .ok (.iadd, 1) := by decide +kernel
theorem dX8_goOn_109 : decode cX8_goOn 109 = .ok (.istore 5, 2) := by decide +kernel
theorem dX8_goOn_111 : decode cX8_goOn 111 = .ok (.iinc 3 (-1), 3) := by decide +kernel
theorem dX8_goOn_114 : decode cX8_goOn 114 = .ok (.aload_n 0, 1) := by decide +kernel
theorem dX8_goOn_115 : decode cX8_goOn 115 = .ok (.getfield 37, 3) := by decide +kernel
theorem dX8_goOn_118 : decode cX8_goOn 118 = .ok (.iload 4, 2) := by decide +kernel
theorem dX8_goOn_120 : decode cX8_goOn 120 = .ok (.iload 5, 2) := by decide +kernel
theorem dX8_goOn_122 : decode cX8_goOn 122 = .ok (.iastore, 1) := by decide +kernel
theorem dX8_goOn_123 : decode cX8_goOn 123 = .ok (.aload_n 0, 1) := by decide +kernel
theorem dX8_goOn_124 : decode cX8_goOn 124 = .ok (.getfield 40, 3) := by decide +kernel
theorem dX8_goOn_127 : decode cX8_goOn 127 = .ok (.aload_n 0, 1) := by decide +kernel
theorem dX8_goOn_128 : decode cX8_goOn 128 = .ok (.iload 4, 2) := by decide +kernel
theorem dX8_goOn_130 : decode cX8_goOn 130 = .ok (.invokevirtual 120, 3) := by decide +kernel
theorem dX8_goOn_133 : decode cX8_goOn 133 = .ok (.dup2, 1) := by decide +kernel
theorem dX8_goOn_134 : decode cX8_goOn 134 = .ok (.iaload, 1) := by decide +kernel
theorem dX8_goOn_135 : decode cX8_goOn 135 = .ok (.iload 5, 2) := by decide +kernel
theorem dX8_goOn_137 : decode cX8_goOn 137 = .ok (.iadd, 1) := by decide +kernel
theorem dX8_goOn_138 : decode cX8_goOn 138 = .ok (.iastore, 1) := by decide +kernel
theorem dX8_goOn_139 : decode cX8_goOn 139 = .ok (.iinc 4 1, 3) := by decide +kernel
theorem dX8_goOn_142 : decode cX8_goOn 142 = .ok (.goto (-79), 3) := by decide +kernel
theorem dX8_goOn_145 : decode cX8_goOn 145 = .ok (.return_, 1) := by decide +kernel
theorem dX8_layShares_0 : decode cX8_layShares 0 = .ok (.aload_n 0, 1) := by decide +kernel
theorem dX8_layShares_1 : decode cX8_layShares 1 = .ok (.getfield 22, 3) := by decide +kernel
theorem dX8_layShares_4 : decode cX8_layShares 4 = .ok (.iconst 3, 1) := by decide +kernel
theorem dX8_layShares_5 : decode cX8_layShares 5 = .ok (.iload_n 1, 1) := by decide +kernel
theorem dX8_layShares_6 : decode cX8_layShares 6 = .ok (.imul, 1) := by decide +kernel
theorem dX8_layShares_7 : decode cX8_layShares 7 = .ok (.iaload, 1) := by decide +kernel
theorem dX8_layShares_8 : decode cX8_layShares 8 = .ok (.istore_n 2, 1) := by decide +kernel
theorem dX8_layShares_9 : decode cX8_layShares 9 = .ok (.aload_n 0, 1) := by decide +kernel
theorem dX8_layShares_10 : decode cX8_layShares 10 = .ok (.getfield 22, 3) := by decide +kernel
theorem dX8_layShares_13 : decode cX8_layShares 13 = .ok (.iconst 3, 1) := by decide +kernel
theorem dX8_layShares_14 : decode cX8_layShares 14 = .ok (.iload_n 1, 1) := by decide +kernel
theorem dX8_layShares_15 : decode cX8_layShares 15 = .ok (.imul, 1) := by decide +kernel
theorem dX8_layShares_16 : decode cX8_layShares 16 = .ok (.iconst 1, 1) := by decide +kernel
theorem dX8_layShares_17 : decode cX8_layShares 17 = .ok (.iadd, 1) := by decide +kernel
theorem dX8_layShares_18 : decode cX8_layShares 18 = .ok (.iaload, 1) := by decide +kernel
theorem dX8_layShares_19 : decode cX8_layShares 19 = .ok (.istore_n 3, 1) := by decide +kernel
theorem dX8_layShares_20 : decode cX8_layShares 20 = .ok (.iconst 0, 1) := by decide +kernel
theorem dX8_layShares_21 : decode cX8_layShares 21 = .ok (.istore 4, 2) := by decide +kernel
theorem dX8_layShares_23 : decode cX8_layShares 23 = .ok (.iload 4, 2) := by decide +kernel
theorem dX8_layShares_25 : decode cX8_layShares 25 = .ok (.bipush 12, 2) := by decide +kernel
theorem dX8_layShares_27 : decode cX8_layShares 27 = .ok (.if_icmp .ge 17, 3) := by decide +kernel
theorem dX8_layShares_30 : decode cX8_layShares 30 = .ok (.aload_n 0, 1) := by decide +kernel
theorem dX8_layShares_31 : decode cX8_layShares 31 = .ok (.getfield 37, 3) := by decide +kernel
theorem dX8_layShares_34 : decode cX8_layShares 34 = .ok (.iload 4, 2) := by decide +kernel
theorem dX8_layShares_36 : decode cX8_layShares 36 = .ok (.iconst 0, 1) := by decide +kernel
theorem dX8_layShares_37 : decode cX8_layShares 37 = .ok (.iastore, 1) := by decide +kernel
theorem dX8_layShares_38 : decode cX8_layShares 38 = .ok (.iinc 4 1, 3) := by decide +kernel
theorem dX8_layShares_41 : decode cX8_layShares 41 = .ok (.goto (-18), 3) := by decide +kernel
theorem dX8_layShares_44 : decode cX8_layShares 44 = .ok (.aload_n 0, 1) := by decide +kernel
theorem dX8_layShares_45 : decode cX8_layShares 45 = .ok (.iload_n 3, 1) := by decide +kernel
theorem dX8_layShares_46 : decode cX8_layShares 46 = .ok (.invokevirtual 133, 3) := by decide +kernel
theorem dX8_layShares_49 : decode cX8_layShares 49 = .ok (.iconst 0, 1) := by decide +kernel
theorem dX8_layShares_50 : decode cX8_layShares 50 = .ok (.istore 4, 2) := by decide +kernel
theorem dX8_layShares_52 : decode cX8_layShares 52 = .ok (.iload 4, 2) := by decide +kernel
theorem dX8_layShares_54 : decode cX8_layShares 54 = .ok (.bipush 7, 2) := by decide +kernel
theorem dX8_layShares_56 : decode cX8_layShares 56 = .ok (.if_icmp .ge 39, 3) := by decide +kernel
theorem dX8_layShares_59 : decode cX8_layShares 59 = .ok (.aload_n 0, 1) := by decide +kernel
theorem dX8_layShares_60 : decode cX8_layShares 60 = .ok (.getfield 40, 3) := by decide +kernel
theorem dX8_layShares_63 : decode cX8_layShares 63 = .ok (.iload 4, 2) := by decide +kernel
theorem dX8_layShares_65 : decode cX8_layShares 65 = .ok (.iload 4, 2) := by decide +kernel
theorem dX8_layShares_67 : decode cX8_layShares 67 = .ok (.iload_n 2, 1) := by decide +kernel
theorem dX8_layShares_68 : decode cX8_layShares 68 = .ok (.if_icmp .ne 19, 3) := by decide +kernel
theorem dX8_layShares_71 : decode cX8_layShares 71 = .ok (.bipush 12, 2) := by decide +kernel
theorem dX8_layShares_73 : decode cX8_layShares 73 = .ok (.aload_n 0, 1) := by decide +kernel
theorem dX8_layShares_74 : decode cX8_layShares 74 = .ok (.getfield 22, 3) := by decide +kernel
theorem dX8_layShares_77 : decode cX8_layShares 77 = .ok (.iconst 3, 1) := by decide +kernel
theorem dX8_layShares_78 : decode cX8_layShares 78 = .ok (.iload_n 1, 1) := by decide +kernel
theorem dX8_layShares_79 : decode cX8_layShares 79 = .ok (.imul, 1) := by decide +kernel
theorem dX8_layShares_80 : decode cX8_layShares 80 = .ok (.iconst 2, 1) := by decide +kernel
theorem dX8_layShares_81 : decode cX8_layShares 81 = .ok (.iadd, 1) := by decide +kernel
theorem dX8_layShares_82 : decode cX8_layShares 82 = .ok (.iaload, 1) := by decide +kernel
theorem dX8_layShares_83 : decode cX8_layShares 83 = .ok (.imul, 1) := by decide +kernel
theorem dX8_layShares_84 : decode cX8_layShares 84 = .ok (.goto 4, 3) := by decide +kernel
theorem dX8_layShares_87 : decode cX8_layShares 87 = .ok (.iconst 0, 1) := by decide +kernel
theorem dX8_layShares_88 : decode cX8_layShares 88 = .ok (.iastore, 1) := by decide +kernel
theorem dX8_layShares_89 : decode cX8_layShares 89 = .ok (.iinc 4 1, 3) := by decide +kernel
theorem dX8_layShares_92 : decode cX8_layShares 92 = .ok (.goto (-40), 3) := by decide +kernel
theorem dX8_layShares_95 : decode cX8_layShares 95 = .ok (.aload_n 0, 1) := by decide +kernel
theorem dX8_layShares_96 : decode cX8_layShares 96 = .ok (.getfield 34, 3) := by decide +kernel
theorem dX8_layShares_99 : decode cX8_layShares 99 = .ok (.iload_n 2, 1) := by decide +kernel
theorem dX8_layShares_100 : decode cX8_layShares 100 = .ok (.iaload, 1) := by decide +kernel
theorem dX8_layShares_101 : decode cX8_layShares 101 = .ok (.bipush (-4), 2) := by decide +kernel
theorem dX8_layShares_103 : decode cX8_layShares 103 = .ok (.if_icmp .ne 5, 3) := by decide +kernel
theorem dX8_layShares_106 : decode cX8_layShares 106 = .ok (.iconst 0, 1) := by decide +kernel
theorem dX8_layShares_107 : decode cX8_layShares 107 = .ok (.ireturn, 1) := by decide +kernel
theorem dX8_layShares_108 : decode cX8_layShares 108 = .ok (.iconst 1, 1) := by decide +kernel
theorem dX8_layShares_109 : decode cX8_layShares 109 = .ok (.iload_n 3, 1) := by decide +kernel
theorem dX8_layShares_110 : decode cX8_layShares 110 = .ok (.ishl, 1) := by decide +kernel
theorem dX8_layShares_111 : decode cX8_layShares 111 = .ok (.istore 4, 2) := by decide +kernel
theorem dX8_layShares_113 : decode cX8_layShares 113 = .ok (.iconst 1, 1) := by decide +kernel
theorem dX8_layShares_114 : decode cX8_layShares 114 = .ok (.istore 5, 2) := by decide +kernel
theorem dX8_layShares_116 : decode cX8_layShares 116 = .ok (.iload 5, 2) := by decide +kernel
theorem dX8_layShares_118 : decode cX8_layShares 118 = .ok (.aload_n 0, 1) := by decide +kernel
theorem dX8_layShares_119 : decode cX8_layShares 119 = .ok (.getfield 74, 3) := by decide +kernel
theorem dX8_layShares_122 : decode cX8_layShares 122 = .ok (.if_icmp .ge 120, 3) := by decide +kernel
theorem dX8_layShares_125 : decode cX8_layShares 125 = .ok (.bipush (-4), 2) := by decide +kernel
theorem dX8_layShares_127 : decode cX8_layShares 127 = .ok (.istore 6, 2) := by decide +kernel
theorem dX8_layShares_129 : decode cX8_layShares 129 = .ok (.iconst 0, 1) := by decide +kernel
theorem dX8_layShares_130 : decode cX8_layShares 130 = .ok (.istore 7, 2) := by decide +kernel
theorem dX8_layShares_132 : decode cX8_layShares 132 = .ok (.iload 7, 2) := by decide +kernel
theorem dX8_layShares_134 : decode cX8_layShares 134 = .ok (.aload_n 0, 1) := by decide +kernel
theorem dX8_layShares_135 : decode cX8_layShares 135 = .ok (.getfield 74, 3) := by decide +kernel
theorem dX8_layShares_138 : decode cX8_layShares 138 = .ok (.if_icmp .ge 76, 3) := by decide +kernel
theorem dX8_layShares_141 : decode cX8_layShares 141 = .ok (.iload 4, 2) := by decide +kernel
theorem dX8_layShares_143 : decode cX8_layShares 143 = .ok (.iload 7, 2) := by decide +kernel
theorem dX8_layShares_145 : decode cX8_layShares 145 = .ok (.ishr, 1) := by decide +kernel
theorem dX8_layShares_146 : decode cX8_layShares 146 = .ok (.iconst 1, 1) := by decide +kernel
theorem dX8_layShares_147 : decode cX8_layShares 147 = .ok (.iand, 1) := by decide +kernel
theorem dX8_layShares_148 : decode cX8_layShares 148 = .ok (.ifCond .ne 19, 3) := by decide +kernel
theorem dX8_layShares_151 : decode cX8_layShares 151 = .ok (.aload_n 0, 1) := by decide +kernel
theorem dX8_layShares_152 : decode cX8_layShares 152 = .ok (.getfield 34, 3) := by decide +kernel
theorem dX8_layShares_155 : decode cX8_layShares 155 = .ok (.iload 7, 2) := by decide +kernel
theorem dX8_layShares_157 : decode cX8_layShares 157 = .ok (.iaload, 1) := by decide +kernel
theorem dX8_layShares_158 : decode cX8_layShares 158 = .ok (.bipush (-4), 2) := by decide +kernel
theorem dX8_layShares_160 : decode cX8_layShares 160 = .ok (.if_icmp .eq 7, 3) := by decide +kernel
theorem dX8_layShares_163 : decode cX8_layShares 163 = .ok (.iconst 1, 1) := by decide +kernel
theorem dX8_layShares_164 : decode cX8_layShares 164 = .ok (.goto 4, 3) := by decide +kernel
theorem dX8_layShares_167 : decode cX8_layShares 167 = .ok (.iconst 0, 1) := by decide +kernel
theorem dX8_layShares_168 : decode cX8_layShares 168 = .ok (.istore 8, 2) := by decide +kernel
theorem dX8_layShares_170 : decode cX8_layShares 170 = .ok (.iload 8, 2) := by decide +kernel
theorem dX8_layShares_172 : decode cX8_layShares 172 = .ok (.ifCond .eq 32, 3) := by decide +kernel
theorem dX8_layShares_175 : decode cX8_layShares 175 = .ok (.iload 6, 2) := by decide +kernel
theorem dX8_layShares_177 : decode cX8_layShares 177 = .ok (.bipush (-4), 2) := by decide +kernel
theorem dX8_layShares_179 : decode cX8_layShares 179 = .ok (.if_icmp .eq 20, 3) := by decide +kernel
theorem dX8_layShares_182 : decode cX8_layShares 182 = .ok (.aload_n 0, 1) := by decide +kernel
theorem dX8_layShares_183 : decode cX8_layShares 183 = .ok (.getfield 34, 3) := by decide +kernel
theorem dX8_layShares_186 : decode cX8_layShares 186 = .ok (.iload 7, 2) := by decide +kernel
theorem dX8_layShares_188 : decode cX8_layShares 188 = .ok (.iaload, 1) := by decide +kernel
theorem dX8_layShares_189 : decode cX8_layShares 189 = .ok (.aload_n 0, 1) := by decide +kernel
theorem dX8_layShares_190 : decode cX8_layShares 190 = .ok (.getfield 34, 3) := by decide +kernel
theorem dX8_layShares_193 : decode cX8_layShares 193 = .ok (.iload 6, 2) := by decide +kernel
theorem dX8_layShares_195 : decode cX8_layShares 195 = .ok (.iaload, 1) := by decide +kernel
theorem dX8_layShares_196 : decode cX8_layShares 196 = .ok (.if_icmp .le 8, 3) := by decide +kernel
theorem dX8_layShares_199 : decode cX8_layShares 199 = .ok (.iload 7, 2) := by decide +kernel
theorem dX8_layShares_201 : decode cX8_layShares 201 = .ok (.goto 5, 3) := by decide +kernel
theorem dX8_layShares_204 : decode cX8_layShares 204 = .ok (.iload 6, 2) := by decide +kernel
theorem dX8_layShares_206 : decode cX8_layShares 206 = .ok (.istore 6, 2) := by decide +kernel
theorem dX8_layShares_208 : decode cX8_layShares 208 = .ok (.iinc 7 1, 3) := by decide +kernel
theorem dX8_layShares_211 : decode cX8_layShares 211 = .ok (.goto (-79), 3) := by decide +kernel
theorem dX8_layShares_214 : decode cX8_layShares 214 = .ok (.iload 6, 2) := by decide +kernel
theorem dX8_layShares_216 : decode cX8_layShares 216 = .ok (.bipush (-4), 2) := by decide +kernel
theorem dX8_layShares_218 : decode cX8_layShares 218 = .ok (.if_icmp .eq 18, 3) := by decide +kernel
theorem dX8_layShares_221 : decode cX8_layShares 221 = .ok (.iload 4, 2) := by decide +kernel
theorem dX8_layShares_223 : decode cX8_layShares 223 = .ok (.iconst 1, 1) := by decide +kernel
theorem dX8_layShares_224 : decode cX8_layShares 224 = .ok (.iload 6, 2) := by decide +kernel
theorem dX8_layShares_226 : decode cX8_layShares 226 = .ok (.ishl, 1) := by decide +kernel
theorem dX8_layShares_227 : decode cX8_layShares 227 = .ok (.ior, 1) := by decide +kernel
theorem dX8_layShares_228 : decode cX8_layShares 228 = .ok (.istore 4, 2) := by decide +kernel
theorem dX8_layShares_230 : decode cX8_layShares 230 = .ok (.aload_n 0, 1) := by decide +kernel
theorem dX8_layShares_231 : decode cX8_layShares 231 = .ok (.iload 6, 2) := by decide +kernel
theorem dX8_layShares_233 : decode cX8_layShares 233 = .ok (.invokevirtual 137, 3) := by decide +kernel
theorem dX8_layShares_236 : decode cX8_layShares 236 = .ok (.iinc 5 1, 3) := by decide +kernel
theorem dX8_layShares_239 : decode cX8_layShares 239 = .ok (.goto (-123), 3) := by decide +kernel
theorem dX8_layShares_242 : decode cX8_layShares 242 = .ok (.iconst 1, 1) := by decide +kernel
theorem dX8_layShares_243 : decode cX8_layShares 243 = .ok (.ireturn, 1) := by decide +kernel
theorem dX8_layLoads_0 : decode cX8_layLoads 0 = .ok (.aload_n 0, 1) := by decide +kernel
theorem dX8_layLoads_1 : decode cX8_layLoads 1 = .ok (.iconst 0, 1) := by decide +kernel
theorem dX8_layLoads_2 : decode cX8_layLoads 2 = .ok (.putfield 140, 3) := by decide +kernel
theorem dX8_layLoads_5 : decode cX8_layLoads 5 = .ok (.iconst 0, 1) := by decide +kernel
theorem dX8_layLoads_6 : decode cX8_layLoads 6 = .ok (.istore_n 1, 1) := by decide +kernel
theorem dX8_layLoads_7 : decode cX8_layLoads 7 = .ok (.iload_n 1, 1) := by decide +kernel
theorem dX8_layLoads_8 : decode cX8_layLoads 8 = .ok (.bipush 12, 2) := by decide +kernel
theorem dX8_layLoads_10 : decode cX8_layLoads 10 = .ok (.if_icmp .ge 16, 3) := by decide +kernel
theorem dX8_layLoads_13 : decode cX8_layLoads 13 = .ok (.aload_n 0, 1) := by decide +kernel
theorem dX8_layLoads_14 : decode cX8_layLoads 14 = .ok (.getfield 43, 3) := by decide +kernel
theorem dX8_layLoads_17 : decode cX8_layLoads 17 = .ok (.iload_n 1, 1) := by decide +kernel
theorem dX8_layLoads_18 : decode cX8_layLoads 18 = .ok (.iconst 0, 1) := by decide +kernel
theorem dX8_layLoads_19 : decode cX8_layLoads 19 = .ok (.iastore, 1) := by decide +kernel
theorem dX8_layLoads_20 : decode cX8_layLoads 20 = .ok (.iinc 1 1, 3) := by decide +kernel
theorem dX8_layLoads_23 : decode cX8_layLoads 23 = .ok (.goto (-16), 3) := by decide +kernel
theorem dX8_layLoads_26 : decode cX8_layLoads 26 = .ok (.iconst 0, 1) := by decide +kernel
theorem dX8_layLoads_27 : decode cX8_layLoads 27 = .ok (.istore_n 1, 1) := by decide +kernel
theorem dX8_layLoads_28 : decode cX8_layLoads 28 = .ok (.iload_n 1, 1) := by decide +kernel
theorem dX8_layLoads_29 : decode cX8_layLoads 29 = .ok (.aload_n 0, 1) := by decide +kernel
theorem dX8_layLoads_30 : decode cX8_layLoads 30 = .ok (.getfield 80, 3) := by decide +kernel
theorem dX8_layLoads_33 : decode cX8_layLoads 33 = .ok (.if_icmp .ge 63, 3) := by decide +kernel
theorem dX8_layLoads_36 : decode cX8_layLoads 36 = .ok (.aload_n 0, 1) := by decide +kernel
theorem dX8_layLoads_37 : decode cX8_layLoads 37 = .ok (.iload_n 1, 1) := by decide +kernel
theorem dX8_layLoads_38 : decode cX8_layLoads 38 = .ok (.invokevirtual 143, 3) := by decide +kernel
theorem dX8_layLoads_41 : decode cX8_layLoads 41 = .ok (.ifCond .eq 37, 3) := by decide +kernel
theorem dX8_layLoads_44 : decode cX8_layLoads 44 = .ok (.iconst 0, 1) := by decide +kernel
theorem dX8_layLoads_45 : decode cX8_layLoads 45 = .ok (.istore_n 2, 1) := by decide +kernel
theorem dX8_layLoads_46 : decode cX8_layLoads 46 = .ok (.iload_n 2, 1) := by decide +kernel
theorem dX8_layLoads_47 : decode cX8_layLoads 47 = .ok (.aload_n 0, 1) := by decide +kernel
theorem dX8_layLoads_48 : decode cX8_layLoads 48 = .ok (.getfield 77, 3) := by decide +kernel
theorem dX8_layLoads_51 : decode cX8_layLoads 51 = .ok (.if_icmp .ge 24, 3) := by decide +kernel
theorem dX8_layLoads_54 : decode cX8_layLoads 54 = .ok (.aload_n 0, 1) := by decide +kernel
theorem dX8_layLoads_55 : decode cX8_layLoads 55 = .ok (.getfield 43, 3) := by decide +kernel
theorem dX8_layLoads_58 : decode cX8_layLoads 58 = .ok (.iload_n 2, 1) := by decide +kernel
theorem dX8_layLoads_59 : decode cX8_layLoads 59 = .ok (.dup2, 1) := by decide +kernel
theorem dX8_layLoads_60 : decode cX8_layLoads 60 = .ok (.iaload, 1) := by decide +kernel
theorem dX8_layLoads_61 : decode cX8_layLoads 61 = .ok (.aload_n 0, 1) := by decide +kernel
theorem dX8_layLoads_62 : decode cX8_layLoads 62 = .ok (.getfield 37, 3) := by decide +kernel
theorem dX8_layLoads_65 : decode cX8_layLoads 65 = .ok (.iload_n 2, 1) := by decide +kernel
theorem dX8_layLoads_66 : decode cX8_layLoads 66 = .ok (.iaload, 1) := by decide +kernel
theorem dX8_layLoads_67 : decode cX8_layLoads 67 = .ok (.iadd, 1) := by decide +kernel
theorem dX8_layLoads_68 : decode cX8_layLoads 68 = .ok (.iastore, 1) := by decide +kernel
theorem dX8_layLoads_69 : decode cX8_layLoads 69 = .ok (.iinc 2 1, 3) := by decide +kernel
theorem dX8_layLoads_72 : decode cX8_layLoads 72 = .ok (.goto (-26), 3) := by decide +kernel
theorem dX8_layLoads_75 : decode cX8_layLoads 75 = .ok (.goto 15, 3) := by decide +kernel
theorem dX8_layLoads_78 : decode cX8_layLoads 78 = .ok (.aload_n 0, 1) := by decide +kernel
theorem dX8_layLoads_79 : decode cX8_layLoads 79 = .ok (.dup, 1) := by decide +kernel
theorem dX8_layLoads_80 : decode cX8_layLoads 80 = .ok (.getfield 140, 3) := by decide +kernel
theorem dX8_layLoads_83 : decode cX8_layLoads 83 = .ok (.iconst 1, 1) := by decide +kernel
theorem dX8_layLoads_84 : decode cX8_layLoads 84 = .ok (.iload_n 1, 1) := by decide +kernel
theorem dX8_layLoads_85 : decode cX8_layLoads 85 = .ok (.ishl, 1) := by decide +kernel
theorem dX8_layLoads_86 : decode cX8_layLoads 86 = .ok (.ior, 1) := by decide +kernel
theorem dX8_layLoads_87 : decode cX8_layLoads 87 = .ok (.putfield 140, 3) := by decide +kernel
theorem dX8_layLoads_90 : decode cX8_layLoads 90 = .ok (.iinc 1 1, 3) := by decide +kernel
theorem dX8_layLoads_93 : decode cX8_layLoads 93 = .ok (.goto (-65), 3) := by decide +kernel
theorem dX8_layLoads_96 : decode cX8_layLoads 96 = .ok (.return_, 1) := by decide +kernel
theorem dX8_piece_0 : decode cX8_piece 0 = .ok (.iload_n 0, 1) := by decide +kernel
theorem dX8_piece_1 : decode cX8_piece 1 = .ok (.iload_n 1, 1) := by decide +kernel
theorem dX8_piece_2 : decode cX8_piece 2 = .ok (.if_icmp .gt 7, 3) := by decide +kernel
theorem dX8_piece_5 : decode cX8_piece 5 = .ok (.iconst 0, 1) := by decide +kernel
theorem dX8_piece_6 : decode cX8_piece 6 = .ok (.goto 15, 3) := by decide +kernel
theorem dX8_piece_9 : decode cX8_piece 9 = .ok (.iload_n 0, 1) := by decide +kernel
theorem dX8_piece_10 : decode cX8_piece 10 = .ok (.iload_n 2, 1) := by decide +kernel
theorem dX8_piece_11 : decode cX8_piece 11 = .ok (.if_icmp .ge 7, 3) := by decide +kernel
theorem dX8_piece_14 : decode cX8_piece 14 = .ok (.iload_n 0, 1) := by decide +kernel
theorem dX8_piece_15 : decode cX8_piece 15 = .ok (.goto 4, 3) := by decide +kernel
theorem dX8_piece_18 : decode cX8_piece 18 = .ok (.iload_n 2, 1) := by decide +kernel
theorem dX8_piece_19 : decode cX8_piece 19 = .ok (.iload_n 1, 1) := by decide +kernel
theorem dX8_piece_20 : decode cX8_piece 20 = .ok (.isub, 1) := by decide +kernel
theorem dX8_piece_21 : decode cX8_piece 21 = .ok (.ireturn, 1) := by decide +kernel
theorem dX8_costOf_0 : decode cX8_costOf 0 = .ok (.aload_n 0, 1) := by decide +kernel
theorem dX8_costOf_1 : decode cX8_costOf 1 = .ok (.getfield 19, 3) := by decide +kernel
theorem dX8_costOf_4 : decode cX8_costOf 4 = .ok (.iconst 4, 1) := by decide +kernel
theorem dX8_costOf_5 : decode cX8_costOf 5 = .ok (.iload_n 1, 1) := by decide +kernel
theorem dX8_costOf_6 : decode cX8_costOf 6 = .ok (.imul, 1) := by decide +kernel
theorem dX8_costOf_7 : decode cX8_costOf 7 = .ok (.iconst 2, 1) := by decide +kernel
theorem dX8_costOf_8 : decode cX8_costOf 8 = .ok (.iadd, 1) := by decide +kernel
theorem dX8_costOf_9 : decode cX8_costOf 9 = .ok (.iaload, 1) := by decide +kernel
theorem dX8_costOf_10 : decode cX8_costOf 10 = .ok (.istore_n 2, 1) := by decide +kernel
theorem dX8_costOf_11 : decode cX8_costOf 11 = .ok (.aload_n 0, 1) := by decide +kernel
theorem dX8_costOf_12 : decode cX8_costOf 12 = .ok (.getfield 43, 3) := by decide +kernel
theorem dX8_costOf_15 : decode cX8_costOf 15 = .ok (.iload_n 1, 1) := by decide +kernel
theorem dX8_costOf_16 : decode cX8_costOf 16 = .ok (.iaload, 1) := by decide +kernel
theorem dX8_costOf_17 : decode cX8_costOf 17 = .ok (.istore_n 3, 1) := by decide +kernel
theorem dX8_costOf_18 : decode cX8_costOf 18 = .ok (.iload_n 3, 1) := by decide +kernel
theorem dX8_costOf_19 : decode cX8_costOf 19 = .ok (.iconst 0, 1) := by decide +kernel
theorem dX8_costOf_20 : decode cX8_costOf 20 = .ok (.iconst 4, 1) := by decide +kernel
theorem dX8_costOf_21 : decode cX8_costOf 21 = .ok (.iload_n 2, 1) := by decide +kernel
theorem dX8_costOf_22 : decode cX8_costOf 22 = .ok (.imul, 1) := by decide +kernel
theorem dX8_costOf_23 : decode cX8_costOf 23 = .ok (.invokestatic 146, 3) := by decide +kernel
theorem dX8_costOf_26 : decode cX8_costOf 26 = .ok (.iconst 3, 1) := by decide +kernel
theorem dX8_costOf_27 : decode cX8_costOf 27 = .ok (.iload_n 3, 1) := by decide +kernel
theorem dX8_costOf_28 : decode cX8_costOf 28 = .ok (.iconst 4, 1) := by decide +kernel
theorem dX8_costOf_29 : decode cX8_costOf 29 = .ok (.iload_n 2, 1) := by decide +kernel
theorem dX8_costOf_30 : decode cX8_costOf 30 = .ok (.imul, 1) := by decide +kernel
theorem dX8_costOf_31 : decode cX8_costOf 31 = .ok (.bipush 8, 2) := by decide +kernel
theorem dX8_costOf_33 : decode cX8_costOf 33 = .ok (.iload_n 2, 1) := by decide +kernel
theorem dX8_costOf_34 : decode cX8_costOf 34 = .ok (.imul, 1) := by decide +kernel
theorem dX8_costOf_35 : decode cX8_costOf 35 = .ok (.invokestatic 146, 3) := by decide +kernel
theorem dX8_costOf_38 : decode cX8_costOf 38 = .ok (.imul, 1) := by decide +kernel
theorem dX8_costOf_39 : decode cX8_costOf 39 = .ok (.iadd, 1) := by decide +kernel
theorem dX8_costOf_40 : decode cX8_costOf 40 = .ok (.bipush 10, 2) := by decide +kernel
theorem dX8_costOf_42 : decode cX8_costOf 42 = .ok (.iload_n 3, 1) := by decide +kernel
theorem dX8_costOf_43 : decode cX8_costOf 43 = .ok (.bipush 8, 2) := by decide +kernel
theorem dX8_costOf_45 : decode cX8_costOf 45 = .ok (.iload_n 2, 1) := by decide +kernel
theorem dX8_costOf_46 : decode cX8_costOf 46 = .ok (.imul, 1) := by decide +kernel
theorem dX8_costOf_47 : decode cX8_costOf 47 = .ok (.bipush 11, 2) := by decide +kernel
theorem dX8_costOf_49 : decode cX8_costOf 49 = .ok (.iload_n 2, 1) := by decide +kernel
theorem dX8_costOf_50 : decode cX8_costOf 50 = .ok (.imul, 1) := by decide +kernel
theorem dX8_costOf_51 : decode cX8_costOf 51 = .ok (.invokestatic 146, 3) := by decide +kernel
theorem dX8_costOf_54 : decode cX8_costOf 54 = .ok (.imul, 1) := by decide +kernel
theorem dX8_costOf_55 : decode cX8_costOf 55 = .ok (.iadd, 1) := by decide +kernel
theorem dX8_costOf_56 : decode cX8_costOf 56 = .ok (.istore 4, 2) := by decide +kernel
theorem dX8_costOf_58 : decode cX8_costOf 58 = .ok (.iload 4, 2) := by decide +kernel
theorem dX8_costOf_60 : decode cX8_costOf 60 = .ok (.bipush 70, 2) := by decide +kernel
theorem dX8_costOf_62 : decode cX8_costOf 62 = .ok (.iload_n 3, 1) := by decide +kernel
theorem dX8_costOf_63 : decode cX8_costOf 63 = .ok (.bipush 11, 2) := by decide +kernel
theorem dX8_costOf_65 : decode cX8_costOf 65 = .ok (.iload_n 2, 1) := by decide +kernel
theorem dX8_costOf_66 : decode cX8_costOf 66 = .ok (.imul, 1) := by decide +kernel
theorem dX8_costOf_67 : decode cX8_costOf 67 = .ok (.bipush 12, 2) := by decide +kernel
theorem dX8_costOf_69 : decode cX8_costOf 69 = .ok (.iload_n 2, 1) := by decide +kernel
theorem dX8_costOf_70 : decode cX8_costOf 70 = .ok (.imul, 1) := by decide +kernel
theorem dX8_costOf_71 : decode cX8_costOf 71 = .ok (.invokestatic 146, 3) := by decide +kernel
theorem dX8_costOf_74 : decode cX8_costOf 74 = .ok (.imul, 1) := by decide +kernel
theorem dX8_costOf_75 : decode cX8_costOf 75 = .ok (.iadd, 1) := by decide +kernel
theorem dX8_costOf_76 : decode cX8_costOf 76 = .ok (.sipush 500, 3) := by decide +kernel
theorem dX8_costOf_79 : decode cX8_costOf 79 = .ok (.iload_n 3, 1) := by decide +kernel
theorem dX8_costOf_80 : decode cX8_costOf 80 = .ok (.bipush 12, 2) := by decide +kernel
theorem dX8_costOf_82 : decode cX8_costOf 82 = .ok (.iload_n 2, 1) := by decide +kernel
theorem dX8_costOf_83 : decode cX8_costOf 83 = .ok (.imul, 1) := by decide +kernel
theorem dX8_costOf_84 : decode cX8_costOf 84 = .ok (.ldc 150, 2) := by decide +kernel
theorem dX8_costOf_86 : decode cX8_costOf 86 = .ok (.invokestatic 146, 3) := by decide +kernel
theorem dX8_costOf_89 : decode cX8_costOf 89 = .ok (.imul, 1) := by decide +kernel
theorem dX8_costOf_90 : decode cX8_costOf 90 = .ok (.iadd, 1) := by decide +kernel
theorem dX8_costOf_91 : decode cX8_costOf 91 = .ok (.ireturn, 1) := by decide +kernel
theorem dX8_costNow_0 : decode cX8_costNow 0 = .ok (.aload_n 0, 1) := by decide +kernel
theorem dX8_costNow_1 : decode cX8_costNow 1 = .ok (.invokevirtual 151, 3) := by decide +kernel
theorem dX8_costNow_4 : decode cX8_costNow 4 = .ok (.iconst 0, 1) := by decide +kernel
theorem dX8_costNow_5 : decode cX8_costNow 5 = .ok (.istore_n 1, 1) := by decide +kernel
theorem dX8_costNow_6 : decode cX8_costNow 6 = .ok (.iconst 0, 1) := by decide +kernel
theorem dX8_costNow_7 : decode cX8_costNow 7 = .ok (.istore_n 2, 1) := by decide +kernel
theorem dX8_costNow_8 : decode cX8_costNow 8 = .ok (.iload_n 2, 1) := by decide +kernel
theorem dX8_costNow_9 : decode cX8_costNow 9 = .ok (.aload_n 0, 1) := by decide +kernel
theorem dX8_costNow_10 : decode cX8_costNow 10 = .ok (.getfield 77, 3) := by decide +kernel
theorem dX8_costNow_13 : decode cX8_costNow 13 = .ok (.if_icmp .ge 17, 3) := by decide +kernel
theorem dX8_costNow_16 : decode cX8_costNow 16 = .ok (.iload_n 1, 1) := by decide +kernel
theorem dX8_costNow_17 : decode cX8_costNow 17 = .ok (.aload_n 0, 1) := by decide +kernel
theorem dX8_costNow_18 : decode cX8_costNow 18 = .ok (.iload_n 2, 1) := by decide +kernel
theorem dX8_costNow_19 : decode cX8_costNow 19 = .ok (.invokevirtual 154, 3) := by decide +kernel
theorem dX8_costNow_22 : decode cX8_costNow 22 = .ok (.iadd, 1) := by decide +kernel
theorem dX8_costNow_23 : decode cX8_costNow 23 = .ok (.istore_n 1, 1) := by decide +kernel
theorem dX8_costNow_24 : decode cX8_costNow 24 = .ok (.iinc 2 1, 3) := by decide +kernel
theorem dX8_costNow_27 : decode cX8_costNow 27 = .ok (.goto (-19), 3) := by decide +kernel
theorem dX8_costNow_30 : decode cX8_costNow 30 = .ok (.iconst 0, 1) := by decide +kernel
theorem dX8_costNow_31 : decode cX8_costNow 31 = .ok (.istore_n 2, 1) := by decide +kernel
theorem dX8_costNow_32 : decode cX8_costNow 32 = .ok (.iload_n 2, 1) := by decide +kernel
theorem dX8_costNow_33 : decode cX8_costNow 33 = .ok (.aload_n 0, 1) := by decide +kernel
theorem dX8_costNow_34 : decode cX8_costNow 34 = .ok (.getfield 80, 3) := by decide +kernel
theorem dX8_costNow_37 : decode cX8_costNow 37 = .ok (.if_icmp .ge 42, 3) := by decide +kernel
theorem dX8_costNow_40 : decode cX8_costNow 40 = .ok (.iload_n 1, 1) := by decide +kernel
theorem dX8_costNow_41 : decode cX8_costNow 41 = .ok (.aload_n 0, 1) := by decide +kernel
theorem dX8_costNow_42 : decode cX8_costNow 42 = .ok (.getfield 140, 3) := by decide +kernel
theorem dX8_costNow_45 : decode cX8_costNow 45 = .ok (.iload_n 2, 1) := by decide +kernel
theorem dX8_costNow_46 : decode cX8_costNow 46 = .ok (.ishr, 1) := by decide +kernel
theorem dX8_costNow_47 : decode cX8_costNow 47 = .ok (.iconst 1, 1) := by decide +kernel
theorem dX8_costNow_48 : decode cX8_costNow 48 = .ok (.iand, 1) := by decide +kernel
theorem dX8_costNow_49 : decode cX8_costNow 49 = .ok (.iconst 1, 1) := by decide +kernel
theorem dX8_costNow_50 : decode cX8_costNow 50 = .ok (.if_icmp .ne 20, 3) := by decide +kernel
theorem dX8_costNow_53 : decode cX8_costNow 53 = .ok (.sipush 12000, 3) := by decide +kernel
theorem dX8_costNow_56 : decode cX8_costNow 56 = .ok (.aload_n 0, 1) := by decide +kernel
theorem dX8_costNow_57 : decode cX8_costNow 57 = .ok (.getfield 22, 3) := by decide +kernel
theorem dX8_costNow_60 : decode cX8_costNow 60 = .ok (.iconst 3, 1) := by decide +kernel
theorem dX8_costNow_61 : decode cX8_costNow 61 = .ok (.iload_n 2, 1) := by decide +kernel
theorem dX8_costNow_62 : decode cX8_costNow 62 = .ok (.imul, 1) := by decide +kernel
theorem dX8_costNow_63 : decode cX8_costNow 63 = .ok (.iconst 2, 1) := by decide +kernel
theorem dX8_costNow_64 : decode cX8_costNow 64 = .ok (.iadd, 1) := by decide +kernel
theorem dX8_costNow_65 : decode cX8_costNow 65 = .ok (.iaload, 1) := by decide +kernel
theorem dX8_costNow_66 : decode cX8_costNow 66 = .ok (.imul, 1) := by decide +kernel
theorem dX8_costNow_67 : decode cX8_costNow 67 = .ok (.goto 4, 3) := by decide +kernel
theorem dX8_costNow_70 : decode cX8_costNow 70 = .ok (.iconst 0, 1) := by decide +kernel
theorem dX8_costNow_71 : decode cX8_costNow 71 = .ok (.iadd, 1) := by decide +kernel
theorem dX8_costNow_72 : decode cX8_costNow 72 = .ok (.istore_n 1, 1) := by decide +kernel
theorem dX8_costNow_73 : decode cX8_costNow 73 = .ok (.iinc 2 1, 3) := by decide +kernel
theorem dX8_costNow_76 : decode cX8_costNow 76 = .ok (.goto (-44), 3) := by decide +kernel
theorem dX8_costNow_79 : decode cX8_costNow 79 = .ok (.iload_n 1, 1) := by decide +kernel
theorem dX8_costNow_80 : decode cX8_costNow 80 = .ok (.ireturn, 1) := by decide +kernel
theorem dX8_costBy_0 : decode cX8_costBy 0 = .ok (.aload_n 0, 1) := by decide +kernel
theorem dX8_costBy_1 : decode cX8_costBy 1 = .ok (.getfield 25, 3) := by decide +kernel
theorem dX8_costBy_4 : decode cX8_costBy 4 = .ok (.iload_n 1, 1) := by decide +kernel
theorem dX8_costBy_5 : decode cX8_costBy 5 = .ok (.iaload, 1) := by decide +kernel
theorem dX8_costBy_6 : decode cX8_costBy 6 = .ok (.istore_n 3, 1) := by decide +kernel
theorem dX8_costBy_7 : decode cX8_costBy 7 = .ok (.aload_n 0, 1) := by decide +kernel
theorem dX8_costBy_8 : decode cX8_costBy 8 = .ok (.getfield 25, 3) := by decide +kernel
theorem dX8_costBy_11 : decode cX8_costBy 11 = .ok (.iload_n 1, 1) := by decide +kernel
theorem dX8_costBy_12 : decode cX8_costBy 12 = .ok (.iload_n 2, 1) := by decide +kernel
theorem dX8_costBy_13 : decode cX8_costBy 13 = .ok (.iastore, 1) := by decide +kernel
theorem dX8_costBy_14 : decode cX8_costBy 14 = .ok (.aload_n 0, 1) := by decide +kernel
theorem dX8_costBy_15 : decode cX8_costBy 15 = .ok (.invokevirtual 83, 3) := by decide +kernel
theorem dX8_costBy_18 : decode cX8_costBy 18 = .ok (.istore 4, 2) := by decide +kernel
theorem dX8_costBy_20 : decode cX8_costBy 20 = .ok (.aload_n 0, 1) := by decide +kernel
theorem dX8_costBy_21 : decode cX8_costBy 21 = .ok (.getfield 25, 3) := by decide +kernel
theorem dX8_costBy_24 : decode cX8_costBy 24 = .ok (.iload_n 1, 1) := by decide +kernel
theorem dX8_costBy_25 : decode cX8_costBy 25 = .ok (.iload_n 3, 1) := by decide +kernel
theorem dX8_costBy_26 : decode cX8_costBy 26 = .ok (.iastore, 1) := by decide +kernel
theorem dX8_costBy_27 : decode cX8_costBy 27 = .ok (.iload 4, 2) := by decide +kernel
theorem dX8_costBy_29 : decode cX8_costBy 29 = .ok (.ireturn, 1) := by decide +kernel
theorem dX8_costTurned_0 : decode cX8_costTurned 0 = .ok (.aload_n 0, 1) := by decide +kernel
theorem dX8_costTurned_1 : decode cX8_costTurned 1 = .ok (.getfield 25, 3) := by decide +kernel
theorem dX8_costTurned_4 : decode cX8_costTurned 4 = .ok (.bipush 12, 2) := by decide +kernel
theorem dX8_costTurned_6 : decode cX8_costTurned 6 = .ok (.dup2, 1) := by decide +kernel
theorem dX8_costTurned_7 : decode cX8_costTurned 7 = .ok (.iaload, 1) := by decide +kernel
theorem dX8_costTurned_8 : decode cX8_costTurned 8 = .ok (.iconst 1, 1) := by decide +kernel
theorem dX8_costTurned_9 : decode cX8_costTurned 9 = .ok (.iload_n 1, 1) := by decide +kernel
theorem dX8_costTurned_10 : decode cX8_costTurned 10 = .ok (.ishl, 1) := by decide +kernel
theorem dX8_costTurned_11 : decode cX8_costTurned 11 = .ok (.ixor, 1) := by decide +kernel
theorem dX8_costTurned_12 : decode cX8_costTurned 12 = .ok (.iastore, 1) := by decide +kernel
theorem dX8_costTurned_13 : decode cX8_costTurned 13 = .ok (.aload_n 0, 1) := by decide +kernel
theorem dX8_costTurned_14 : decode cX8_costTurned 14 = .ok (.invokevirtual 83, 3) := by decide +kernel
theorem dX8_costTurned_17 : decode cX8_costTurned 17 = .ok (.istore_n 2, 1) := by decide +kernel
theorem dX8_costTurned_18 : decode cX8_costTurned 18 = .ok (.aload_n 0, 1) := by decide +kernel
theorem dX8_costTurned_19 : decode cX8_costTurned 19 = .ok (.getfield 25, 3) := by decide +kernel
theorem dX8_costTurned_22 : decode cX8_costTurned 22 = .ok (.bipush 12, 2) := by decide +kernel
theorem dX8_costTurned_24 : decode cX8_costTurned 24 = .ok (.dup2, 1) := by decide +kernel
theorem dX8_costTurned_25 : decode cX8_costTurned 25 = .ok (.iaload, 1) := by decide +kernel
theorem dX8_costTurned_26 : decode cX8_costTurned 26 = .ok (.iconst 1, 1) := by decide +kernel
theorem dX8_costTurned_27 : decode cX8_costTurned 27 = .ok (.iload_n 1, 1) := by decide +kernel
theorem dX8_costTurned_28 : decode cX8_costTurned 28 = .ok (.ishl, 1) := by decide +kernel
theorem dX8_costTurned_29 : decode cX8_costTurned 29 = .ok (.ixor, 1) := by decide +kernel
theorem dX8_costTurned_30 : decode cX8_costTurned 30 = .ok (.iastore, 1) := by decide +kernel
theorem dX8_costTurned_31 : decode cX8_costTurned 31 = .ok (.iload_n 2, 1) := by decide +kernel
theorem dX8_costTurned_32 : decode cX8_costTurned 32 = .ok (.ireturn, 1) := by decide +kernel
theorem dX8_markNow_0 : decode cX8_markNow 0 = .ok (.bipush 7, 2) := by decide +kernel
theorem dX8_markNow_2 : decode cX8_markNow 2 = .ok (.istore_n 1, 1) := by decide +kernel
theorem dX8_markNow_3 : decode cX8_markNow 3 = .ok (.iconst 0, 1) := by decide +kernel
theorem dX8_markNow_4 : decode cX8_markNow 4 = .ok (.istore_n 2, 1) := by decide +kernel
theorem dX8_markNow_5 : decode cX8_markNow 5 = .ok (.iload_n 2, 1) := by decide +kernel
theorem dX8_markNow_6 : decode cX8_markNow 6 = .ok (.aload_n 0, 1) := by decide +kernel
theorem dX8_markNow_7 : decode cX8_markNow 7 = .ok (.getfield 77, 3) := by decide +kernel
theorem dX8_markNow_10 : decode cX8_markNow 10 = .ok (.if_icmp .ge 25, 3) := by decide +kernel
theorem dX8_markNow_13 : decode cX8_markNow 13 = .ok (.bipush 31, 2) := by decide +kernel
theorem dX8_markNow_15 : decode cX8_markNow 15 = .ok (.iload_n 1, 1) := by decide +kernel
theorem dX8_markNow_16 : decode cX8_markNow 16 = .ok (.imul, 1) := by decide +kernel
theorem dX8_markNow_17 : decode cX8_markNow 17 = .ok (.aload_n 0, 1) := by decide +kernel
theorem dX8_markNow_18 : decode cX8_markNow 18 = .ok (.getfield 25, 3) := by decide +kernel
theorem dX8_markNow_21 : decode cX8_markNow 21 = .ok (.iload_n 2, 1) := by decide +kernel
theorem dX8_markNow_22 : decode cX8_markNow 22 = .ok (.iaload, 1) := by decide +kernel
theorem dX8_markNow_23 : decode cX8_markNow 23 = .ok (.iadd, 1) := by decide +kernel
theorem dX8_markNow_24 : decode cX8_markNow 24 = .ok (.sipush 997, 3) := by decide +kernel
theorem dX8_markNow_27 : decode cX8_markNow 27 = .ok (.irem, 1) := by decide +kernel
theorem dX8_markNow_28 : decode cX8_markNow 28 = .ok (.istore_n 1, 1) := by decide +kernel
theorem dX8_markNow_29 : decode cX8_markNow 29 = .ok (.iinc 2 1, 3) := by decide +kernel
theorem dX8_markNow_32 : decode cX8_markNow 32 = .ok (.goto (-27), 3) := by decide +kernel
theorem dX8_markNow_35 : decode cX8_markNow 35 = .ok (.iload_n 1, 1) := by decide +kernel
theorem dX8_markNow_36 : decode cX8_markNow 36 = .ok (.ireturn, 1) := by decide +kernel
theorem dX8_isTabu_0 : decode cX8_isTabu 0 = .ok (.iconst 0, 1) := by decide +kernel
theorem dX8_isTabu_1 : decode cX8_isTabu 1 = .ok (.istore_n 2, 1) := by decide +kernel
theorem dX8_isTabu_2 : decode cX8_isTabu 2 = .ok (.iconst 0, 1) := by decide +kernel
theorem dX8_isTabu_3 : decode cX8_isTabu 3 = .ok (.istore_n 3, 1) := by decide +kernel
theorem dX8_isTabu_4 : decode cX8_isTabu 4 = .ok (.iload_n 3, 1) := by decide +kernel
theorem dX8_isTabu_5 : decode cX8_isTabu 5 = .ok (.aload_n 0, 1) := by decide +kernel
theorem dX8_isTabu_6 : decode cX8_isTabu 6 = .ok (.getfield 25, 3) := by decide +kernel
theorem dX8_isTabu_9 : decode cX8_isTabu 9 = .ok (.bipush 14, 2) := by decide +kernel
theorem dX8_isTabu_11 : decode cX8_isTabu 11 = .ok (.iaload, 1) := by decide +kernel
theorem dX8_isTabu_12 : decode cX8_isTabu 12 = .ok (.if_icmp .ge 32, 3) := by decide +kernel
theorem dX8_isTabu_15 : decode cX8_isTabu 15 = .ok (.iload_n 2, 1) := by decide +kernel
theorem dX8_isTabu_16 : decode cX8_isTabu 16 = .ok (.ifCond .ne 16, 3) := by decide +kernel
theorem dX8_isTabu_19 : decode cX8_isTabu 19 = .ok (.aload_n 0, 1) := by decide +kernel
theorem dX8_isTabu_20 : decode cX8_isTabu 20 = .ok (.getfield 25, 3) := by decide +kernel
theorem dX8_isTabu_23 : decode cX8_isTabu 23 = .ok (.bipush 15, 2) := by decide +kernel
theorem dX8_isTabu_25 : decode cX8_isTabu 25 = .ok (.iload_n 3, 1) := by decide +kernel
theorem dX8_isTabu_26 : decode cX8_isTabu 26 = .ok (.iadd, 1) := by decide +kernel
theorem dX8_isTabu_27 : decode cX8_isTabu 27 = .ok (.iaload, 1) := by decide +kernel
theorem dX8_isTabu_28 : decode cX8_isTabu 28 = .ok (.iload_n 1, 1) := by decide +kernel
theorem dX8_isTabu_29 : decode cX8_isTabu 29 = .ok (.if_icmp .ne 7, 3) := by decide +kernel
theorem dX8_isTabu_32 : decode cX8_isTabu 32 = .ok (.iconst 1, 1) := by decide +kernel
theorem dX8_isTabu_33 : decode cX8_isTabu 33 = .ok (.goto 4, 3) := by decide +kernel
theorem dX8_isTabu_36 : decode cX8_isTabu 36 = .ok (.iconst 0, 1) := by decide +kernel
theorem dX8_isTabu_37 : decode cX8_isTabu 37 = .ok (.istore_n 2, 1) := by decide +kernel
theorem dX8_isTabu_38 : decode cX8_isTabu 38 = .ok (.iinc 3 1, 3) := by decide +kernel
theorem dX8_isTabu_41 : decode cX8_isTabu 41 = .ok (.goto (-37), 3) := by decide +kernel
theorem dX8_isTabu_44 : decode cX8_isTabu 44 = .ok (.iload_n 2, 1) := by decide +kernel
theorem dX8_isTabu_45 : decode cX8_isTabu 45 = .ok (.ireturn, 1) := by decide +kernel
theorem dX8_isTabuBy_0 : decode cX8_isTabuBy 0 = .ok (.aload_n 0, 1) := by decide +kernel
theorem dX8_isTabuBy_1 : decode cX8_isTabuBy 1 = .ok (.getfield 25, 3) := by decide +kernel
theorem dX8_isTabuBy_4 : decode cX8_isTabuBy 4 = .ok (.iload_n 1, 1) := by decide +kernel
theorem dX8_isTabuBy_5 : decode cX8_isTabuBy 5 = .ok (.iaload, 1) := by decide +kernel
theorem dX8_isTabuBy_6 : decode cX8_isTabuBy 6 = .ok (.istore_n 3, 1) := by decide +kernel
theorem dX8_isTabuBy_7 : decode cX8_isTabuBy 7 = .ok (.aload_n 0, 1) := by decide +kernel
theorem dX8_isTabuBy_8 : decode cX8_isTabuBy 8 = .ok (.getfield 25, 3) := by decide +kernel
theorem dX8_isTabuBy_11 : decode cX8_isTabuBy 11 = .ok (.iload_n 1, 1) := by decide +kernel
theorem dX8_isTabuBy_12 : decode cX8_isTabuBy 12 = .ok (.iload_n 2, 1) := by decide +kernel
theorem dX8_isTabuBy_13 : decode cX8_isTabuBy 13 = .ok (.iastore, 1) := by decide +kernel
theorem dX8_isTabuBy_14 : decode cX8_isTabuBy 14 = .ok (.aload_n 0, 1) := by decide +kernel
theorem dX8_isTabuBy_15 : decode cX8_isTabuBy 15 = .ok (.aload_n 0, 1) := by decide +kernel
theorem dX8_isTabuBy_16 : decode cX8_isTabuBy 16 = .ok (.invokevirtual 157, 3) := by decide +kernel
theorem dX8_isTabuBy_19 : decode cX8_isTabuBy 19 = .ok (.invokevirtual 160, 3) := by decide +kernel
theorem dX8_isTabuBy_22 : decode cX8_isTabuBy 22 = .ok (.istore 4, 2) := by decide +kernel
theorem dX8_isTabuBy_24 : decode cX8_isTabuBy 24 = .ok (.aload_n 0, 1) := by decide +kernel
theorem dX8_isTabuBy_25 : decode cX8_isTabuBy 25 = .ok (.getfield 25, 3) := by decide +kernel
theorem dX8_isTabuBy_28 : decode cX8_isTabuBy 28 = .ok (.iload_n 1, 1) := by decide +kernel
theorem dX8_isTabuBy_29 : decode cX8_isTabuBy 29 = .ok (.iload_n 3, 1) := by decide +kernel
theorem dX8_isTabuBy_30 : decode cX8_isTabuBy 30 = .ok (.iastore, 1) := by decide +kernel
theorem dX8_isTabuBy_31 : decode cX8_isTabuBy 31 = .ok (.iload 4, 2) := by decide +kernel
theorem dX8_isTabuBy_33 : decode cX8_isTabuBy 33 = .ok (.ireturn, 1) := by decide +kernel
theorem dX8_becomesTabu_0 : decode cX8_becomesTabu 0 = .ok (.aload_n 0, 1) := by decide +kernel
theorem dX8_becomesTabu_1 : decode cX8_becomesTabu 1 = .ok (.getfield 25, 3) := by decide +kernel
theorem dX8_becomesTabu_4 : decode cX8_becomesTabu 4 = .ok (.bipush 14, 2) := by decide +kernel
theorem dX8_becomesTabu_6 : decode cX8_becomesTabu 6 = .ok (.iaload, 1) := by decide +kernel
theorem dX8_becomesTabu_7 : decode cX8_becomesTabu 7 = .ok (.bipush 6, 2) := by decide +kernel
theorem dX8_becomesTabu_9 : decode cX8_becomesTabu 9 = .ok (.if_icmp .ne 48, 3) := by decide +kernel
theorem dX8_becomesTabu_12 : decode cX8_becomesTabu 12 = .ok (.iconst 1, 1) := by decide +kernel
theorem dX8_becomesTabu_13 : decode cX8_becomesTabu 13 = .ok (.istore_n 2, 1) := by decide +kernel
theorem dX8_becomesTabu_14 : decode cX8_becomesTabu 14 = .ok (.iload_n 2, 1) := by decide +kernel
theorem dX8_becomesTabu_15 : decode cX8_becomesTabu 15 = .ok (.bipush 6, 2) := by decide +kernel
theorem dX8_becomesTabu_17 : decode cX8_becomesTabu 17 = .ok (.if_icmp .ge 29, 3) := by decide +kernel
theorem dX8_becomesTabu_20 : decode cX8_becomesTabu 20 = .ok (.aload_n 0, 1) := by decide +kernel
theorem dX8_becomesTabu_21 : decode cX8_becomesTabu 21 = .ok (.getfield 25, 3) := by decide +kernel
theorem dX8_becomesTabu_24 : decode cX8_becomesTabu 24 = .ok (.bipush 15, 2) := by decide +kernel
theorem dX8_becomesTabu_26 : decode cX8_becomesTabu 26 = .ok (.iload_n 2, 1) := by decide +kernel
theorem dX8_becomesTabu_27 : decode cX8_becomesTabu 27 = .ok (.iadd, 1) := by decide +kernel
theorem dX8_becomesTabu_28 : decode cX8_becomesTabu 28 = .ok (.iconst 1, 1) := by decide +kernel
theorem dX8_becomesTabu_29 : decode cX8_becomesTabu 29 = .ok (.isub, 1) := by decide +kernel
theorem dX8_becomesTabu_30 : decode cX8_becomesTabu 30 = .ok (.aload_n 0, 1) := by decide +kernel
theorem dX8_becomesTabu_31 : decode cX8_becomesTabu 31 = .ok (.getfield 25, 3) := by decide +kernel
theorem dX8_becomesTabu_34 : decode cX8_becomesTabu 34 = .ok (.bipush 15, 2) := by decide +kernel
theorem dX8_becomesTabu_36 : decode cX8_becomesTabu 36 = .ok (.iload_n 2, 1) := by decide +kernel
theorem dX8_becomesTabu_37 : decode cX8_becomesTabu 37 = .ok (.iadd, 1) := by decide +kernel
theorem dX8_becomesTabu_38 : decode cX8_becomesTabu 38 = .ok (.iaload, 1) := by decide +kernel
theorem dX8_becomesTabu_39 : decode cX8_becomesTabu 39 = .ok (.iastore, 1) := by decide +kernel
theorem dX8_becomesTabu_40 : decode cX8_becomesTabu 40 = .ok (.iinc 2 1, 3) := by decide +kernel
theorem dX8_becomesTabu_43 : decode cX8_becomesTabu 43 = .ok (.goto (-29), 3) := by decide +kernel
theorem dX8_becomesTabu_46 : decode cX8_becomesTabu 46 = .ok (.aload_n 0, 1) := by decide +kernel
theorem dX8_becomesTabu_47 : decode cX8_becomesTabu 47 = .ok (.getfield 25, 3) := by decide +kernel
theorem dX8_becomesTabu_50 : decode cX8_becomesTabu 50 = .ok (.bipush 14, 2) := by decide +kernel
theorem dX8_becomesTabu_52 : decode cX8_becomesTabu 52 = .ok (.dup2, 1) := by decide +kernel
theorem dX8_becomesTabu_53 : decode cX8_becomesTabu 53 = .ok (.iaload, 1) := by decide +kernel
theorem dX8_becomesTabu_54 : decode cX8_becomesTabu 54 = .ok (.iconst 1, 1) := by decide +kernel
theorem dX8_becomesTabu_55 : decode cX8_becomesTabu 55 = .ok (.isub, 1) := by decide +kernel
theorem dX8_becomesTabu_56 : decode cX8_becomesTabu 56 = .ok (.iastore, 1) := by decide +kernel
theorem dX8_becomesTabu_57 : decode cX8_becomesTabu 57 = .ok (.aload_n 0, 1) := by decide +kernel
theorem dX8_becomesTabu_58 : decode cX8_becomesTabu 58 = .ok (.getfield 25, 3) := by decide +kernel
theorem dX8_becomesTabu_61 : decode cX8_becomesTabu 61 = .ok (.bipush 15, 2) := by decide +kernel
theorem dX8_becomesTabu_63 : decode cX8_becomesTabu 63 = .ok (.aload_n 0, 1) := by decide +kernel
theorem dX8_becomesTabu_64 : decode cX8_becomesTabu 64 = .ok (.getfield 25, 3) := by decide +kernel
theorem dX8_becomesTabu_67 : decode cX8_becomesTabu 67 = .ok (.bipush 14, 2) := by decide +kernel
theorem dX8_becomesTabu_69 : decode cX8_becomesTabu 69 = .ok (.iaload, 1) := by decide +kernel
theorem dX8_becomesTabu_70 : decode cX8_becomesTabu 70 = .ok (.iadd, 1) := by decide +kernel
theorem dX8_becomesTabu_71 : decode cX8_becomesTabu 71 = .ok (.iload_n 1, 1) := by decide +kernel
theorem dX8_becomesTabu_72 : decode cX8_becomesTabu 72 = .ok (.iastore, 1) := by decide +kernel
theorem dX8_becomesTabu_73 : decode cX8_becomesTabu 73 = .ok (.aload_n 0, 1) := by decide +kernel
theorem dX8_becomesTabu_74 : decode cX8_becomesTabu 74 = .ok (.getfield 25, 3) := by decide +kernel
theorem dX8_becomesTabu_77 : decode cX8_becomesTabu 77 = .ok (.bipush 14, 2) := by decide +kernel
theorem dX8_becomesTabu_79 : decode cX8_becomesTabu 79 = .ok (.dup2, 1) := by decide +kernel
theorem dX8_becomesTabu_80 : decode cX8_becomesTabu 80 = .ok (.iaload, 1) := by decide +kernel
theorem dX8_becomesTabu_81 : decode cX8_becomesTabu 81 = .ok (.iconst 1, 1) := by decide +kernel
theorem dX8_becomesTabu_82 : decode cX8_becomesTabu 82 = .ok (.iadd, 1) := by decide +kernel
theorem dX8_becomesTabu_83 : decode cX8_becomesTabu 83 = .ok (.iastore, 1) := by decide +kernel
theorem dX8_becomesTabu_84 : decode cX8_becomesTabu 84 = .ok (.return_, 1) := by decide +kernel
theorem dX8_findMove_0 : decode cX8_findMove 0 = .ok (.aload_n 0, 1) := by decide +kernel
theorem dX8_findMove_1 : decode cX8_findMove 1 = .ok (.bipush (-4), 2) := by decide +kernel
theorem dX8_findMove_3 : decode cX8_findMove 3 = .ok (.putfield 163, 3) := by decide +kernel
theorem dX8_findMove_6 : decode cX8_findMove 6 = .ok (.aload_n 0, 1) := by decide +kernel
theorem dX8_findMove_7 : decode cX8_findMove 7 = .ok (.ldc 150, 2) := by decide +kernel
theorem dX8_findMove_9 : decode cX8_findMove 9 = .ok (.putfield 166, 3) := by decide +kernel
theorem dX8_findMove_12 : decode cX8_findMove 12 = .ok (.iconst 0, 1) := by decide +kernel
theorem dX8_findMove_13 : decode cX8_findMove 13 = .ok (.istore_n 3, 1) := by decide +kernel
theorem dX8_findMove_14 : decode cX8_findMove 14 = .ok (.iload_n 3, 1) := by decide +kernel
theorem dX8_findMove_15 : decode cX8_findMove 15 = .ok (.aload_n 0, 1) := by decide +kernel
theorem dX8_findMove_16 : decode cX8_findMove 16 = .ok (.getfield 77, 3) := by decide +kernel
theorem dX8_findMove_19 : decode cX8_findMove 19 = .ok (.if_icmp .ge 157, 3) := by decide +kernel
theorem dX8_findMove_22 : decode cX8_findMove 22 = .ok (.iconst 1, 1) := by decide +kernel
theorem dX8_findMove_23 : decode cX8_findMove 23 = .ok (.istore 4, 2) := by decide +kernel
theorem dX8_findMove_25 : decode cX8_findMove 25 = .ok (.iload 4, 2) := by decide +kernel
theorem dX8_findMove_27 : decode cX8_findMove 27 = .ok (.bipush 20, 2) := by decide +kernel
theorem dX8_findMove_29 : decode cX8_findMove 29 = .ok (.if_icmp .gt 141, 3) := by decide +kernel
theorem dX8_findMove_32 : decode cX8_findMove 32 = .ok (.iload_n 3, 1) := by decide +kernel
theorem dX8_findMove_33 : decode cX8_findMove 33 = .ok (.iload_n 1, 1) := by decide +kernel
theorem dX8_findMove_34 : decode cX8_findMove 34 = .ok (.if_icmp .eq 136, 3) := by decide +kernel
theorem dX8_findMove_37 : decode cX8_findMove 37 = .ok (.iload 4, 2) := by decide +kernel
theorem dX8_findMove_39 : decode cX8_findMove 39 = .ok (.aload_n 0, 1) := by decide +kernel
theorem dX8_findMove_40 : decode cX8_findMove 40 = .ok (.getfield 25, 3) := by decide +kernel
theorem dX8_findMove_43 : decode cX8_findMove 43 = .ok (.iload_n 3, 1) := by decide +kernel
theorem dX8_findMove_44 : decode cX8_findMove 44 = .ok (.iaload, 1) := by decide +kernel
theorem dX8_findMove_45 : decode cX8_findMove 45 = .ok (.if_icmp .eq 119, 3) := by decide +kernel
theorem dX8_findMove_48 : decode cX8_findMove 48 = .ok (.aload_n 0, 1) := by decide +kernel
theorem dX8_findMove_49 : decode cX8_findMove 49 = .ok (.iload_n 3, 1) := by decide +kernel
theorem dX8_findMove_50 : decode cX8_findMove 50 = .ok (.iload 4, 2) := by decide +kernel
theorem dX8_findMove_52 : decode cX8_findMove 52 = .ok (.invokevirtual 169, 3) := by decide +kernel
theorem dX8_findMove_55 : decode cX8_findMove 55 = .ok (.istore 5, 2) := by decide +kernel
theorem dX8_findMove_57 : decode cX8_findMove 57 = .ok (.iload_n 2, 1) := by decide +kernel
theorem dX8_findMove_58 : decode cX8_findMove 58 = .ok (.ifCond .ne 25, 3) := by decide +kernel
theorem dX8_findMove_61 : decode cX8_findMove 61 = .ok (.aload_n 0, 1) := by decide +kernel
theorem dX8_findMove_62 : decode cX8_findMove 62 = .ok (.iload_n 3, 1) := by decide +kernel
theorem dX8_findMove_63 : decode cX8_findMove 63 = .ok (.iload 4, 2) := by decide +kernel
theorem dX8_findMove_65 : decode cX8_findMove 65 = .ok (.invokevirtual 173, 3) := by decide +kernel
theorem dX8_findMove_68 : decode cX8_findMove 68 = .ok (.ifCond .eq 15, 3) := by decide +kernel
theorem dX8_findMove_71 : decode cX8_findMove 71 = .ok (.iload 5, 2) := by decide +kernel
theorem dX8_findMove_73 : decode cX8_findMove 73 = .ok (.aload_n 0, 1) := by decide +kernel
theorem dX8_findMove_74 : decode cX8_findMove 74 = .ok (.getfield 25, 3) := by decide +kernel
theorem dX8_findMove_77 : decode cX8_findMove 77 = .ok (.bipush 13, 2) := by decide +kernel
theorem dX8_findMove_79 : decode cX8_findMove 79 = .ok (.iaload, 1) := by decide +kernel
theorem dX8_findMove_80 : decode cX8_findMove 80 = .ok (.if_icmp .ge 7, 3) := by decide +kernel
theorem dX8_findMove_83 : decode cX8_findMove 83 = .ok (.iconst 1, 1) := by decide +kernel
theorem dX8_findMove_84 : decode cX8_findMove 84 = .ok (.goto 4, 3) := by decide +kernel
theorem dX8_findMove_87 : decode cX8_findMove 87 = .ok (.iconst 0, 1) := by decide +kernel
theorem dX8_findMove_88 : decode cX8_findMove 88 = .ok (.istore 6, 2) := by decide +kernel
theorem dX8_findMove_90 : decode cX8_findMove 90 = .ok (.iload 6, 2) := by decide +kernel
theorem dX8_findMove_92 : decode cX8_findMove 92 = .ok (.ifCond .eq 16, 3) := by decide +kernel
theorem dX8_findMove_95 : decode cX8_findMove 95 = .ok (.iload 5, 2) := by decide +kernel
theorem dX8_findMove_97 : decode cX8_findMove 97 = .ok (.aload_n 0, 1) := by decide +kernel
theorem dX8_findMove_98 : decode cX8_findMove 98 = .ok (.getfield 166, 3) := by decide +kernel
theorem dX8_findMove_101 : decode cX8_findMove 101 = .ok (.if_icmp .ge 7, 3) := by decide +kernel
theorem dX8_findMove_104 : decode cX8_findMove 104 = .ok (.iconst 1, 1) := by decide +kernel
theorem dX8_findMove_105 : decode cX8_findMove 105 = .ok (.goto 4, 3) := by decide +kernel
theorem dX8_findMove_108 : decode cX8_findMove 108 = .ok (.iconst 0, 1) := by decide +kernel
theorem dX8_findMove_109 : decode cX8_findMove 109 = .ok (.istore 7, 2) := by decide +kernel
theorem dX8_findMove_111 : decode cX8_findMove 111 = .ok (.aload_n 0, 1) := by decide +kernel
theorem dX8_findMove_112 : decode cX8_findMove 112 = .ok (.iload 7, 2) := by decide +kernel
theorem dX8_findMove_114 : decode cX8_findMove 114 = .ok (.ifCond .eq 7, 3) := by decide +kernel
theorem dX8_findMove_117 : decode cX8_findMove 117 = .ok (.iload_n 3, 1) := by decide +kernel
theorem dX8_findMove_118 : decode cX8_findMove 118 = .ok (.goto 7, 3) := by decide +kernel
theorem dX8_findMove_121 : decode cX8_findMove 121 = .ok (.aload_n 0, 1) := by decide +kernel
theorem dX8_findMove_122 : decode cX8_findMove 122 = .ok (.getfield 163, 3) := by decide +kernel
theorem dX8_findMove_125 : decode cX8_findMove 125 = .ok (.putfield 163, 3) := by decide +kernel
theorem dX8_findMove_128 : decode cX8_findMove 128 = .ok (.aload_n 0, 1) := by decide +kernel
theorem dX8_findMove_129 : decode cX8_findMove 129 = .ok (.iload 7, 2) := by decide +kernel
theorem dX8_findMove_131 : decode cX8_findMove 131 = .ok (.ifCond .eq 8, 3) := by decide +kernel
theorem dX8_findMove_134 : decode cX8_findMove 134 = .ok (.iload 4, 2) := by decide +kernel
theorem dX8_findMove_136 : decode cX8_findMove 136 = .ok (.goto 7, 3) := by decide +kernel
theorem dX8_findMove_139 : decode cX8_findMove 139 = .ok (.aload_n 0, 1) := by decide +kernel
theorem dX8_findMove_140 : decode cX8_findMove 140 = .ok (.getfield 177, 3) := by decide +kernel
theorem dX8_findMove_143 : decode cX8_findMove 143 = .ok (.putfield 177, 3) := by decide +kernel
theorem dX8_findMove_146 : decode cX8_findMove 146 = .ok (.aload_n 0, 1) := by decide +kernel
theorem dX8_findMove_147 : decode cX8_findMove 147 = .ok (.iload 7, 2) := by decide +kernel
theorem dX8_findMove_149 : decode cX8_findMove 149 = .ok (.ifCond .eq 8, 3) := by decide +kernel
theorem dX8_findMove_152 : decode cX8_findMove 152 = .ok (.iload 5, 2) := by decide +kernel
theorem dX8_findMove_154 : decode cX8_findMove 154 = .ok (.goto 7, 3) := by decide +kernel
theorem dX8_findMove_157 : decode cX8_findMove 157 = .ok (.aload_n 0, 1) := by decide +kernel
theorem dX8_findMove_158 : decode cX8_findMove 158 = .ok (.getfield 166, 3) := by decide +kernel
theorem dX8_findMove_161 : decode cX8_findMove 161 = .ok (.putfield 166, 3) := by decide +kernel
theorem dX8_findMove_164 : decode cX8_findMove 164 = .ok (.iinc 4 1, 3) := by decide +kernel
theorem dX8_findMove_167 : decode cX8_findMove 167 = .ok (.goto (-142), 3) := by decide +kernel
theorem dX8_findMove_170 : decode cX8_findMove 170 = .ok (.iinc 3 1, 3) := by decide +kernel
theorem dX8_findMove_173 : decode cX8_findMove 173 = .ok (.goto (-159), 3) := by decide +kernel
theorem dX8_findMove_176 : decode cX8_findMove 176 = .ok (.aload_n 0, 1) := by decide +kernel
theorem dX8_findMove_177 : decode cX8_findMove 177 = .ok (.getfield 163, 3) := by decide +kernel
theorem dX8_findMove_180 : decode cX8_findMove 180 = .ok (.bipush (-4), 2) := by decide +kernel
theorem dX8_findMove_182 : decode cX8_findMove 182 = .ok (.if_icmp .eq 7, 3) := by decide +kernel
theorem dX8_findMove_185 : decode cX8_findMove 185 = .ok (.iconst 1, 1) := by decide +kernel
theorem dX8_findMove_186 : decode cX8_findMove 186 = .ok (.goto 4, 3) := by decide +kernel
theorem dX8_findMove_189 : decode cX8_findMove 189 = .ok (.iconst 0, 1) := by decide +kernel
theorem dX8_findMove_190 : decode cX8_findMove 190 = .ok (.ireturn, 1) := by decide +kernel
theorem dX8_note_0 : decode cX8_note 0 = .ok (.aload_n 0, 1) := by decide +kernel
theorem dX8_note_1 : decode cX8_note 1 = .ok (.getfield 87, 3) := by decide +kernel
theorem dX8_note_4 : decode cX8_note 4 = .ok (.bipush 6, 2) := by decide +kernel
theorem dX8_note_6 : decode cX8_note 6 = .ok (.if_icmp .ne 42, 3) := by decide +kernel
theorem dX8_note_9 : decode cX8_note 9 = .ok (.iconst 0, 1) := by decide +kernel
theorem dX8_note_10 : decode cX8_note 10 = .ok (.istore_n 1, 1) := by decide +kernel
theorem dX8_note_11 : decode cX8_note 11 = .ok (.iload_n 1, 1) := by decide +kernel
theorem dX8_note_12 : decode cX8_note 12 = .ok (.bipush 105, 2) := by decide +kernel
theorem dX8_note_14 : decode cX8_note 14 = .ok (.if_icmp .ge 24, 3) := by decide +kernel
theorem dX8_note_17 : decode cX8_note 17 = .ok (.aload_n 0, 1) := by decide +kernel
theorem dX8_note_18 : decode cX8_note 18 = .ok (.getfield 28, 3) := by decide +kernel
theorem dX8_note_21 : decode cX8_note 21 = .ok (.iload_n 1, 1) := by decide +kernel
theorem dX8_note_22 : decode cX8_note 22 = .ok (.aload_n 0, 1) := by decide +kernel
theorem dX8_note_23 : decode cX8_note 23 = .ok (.getfield 28, 3) := by decide +kernel
theorem dX8_note_26 : decode cX8_note 26 = .ok (.iload_n 1, 1) := by decide +kernel
theorem dX8_note_27 : decode cX8_note 27 = .ok (.bipush 21, 2) := by decide +kernel
theorem dX8_note_29 : decode cX8_note 29 = .ok (.iadd, 1) := by decide +kernel
theorem dX8_note_30 : decode cX8_note 30 = .ok (.iaload, 1) := by decide +kernel
theorem dX8_note_31 : decode cX8_note 31 = .ok (.iastore, 1) := by decide +kernel
theorem dX8_note_32 : decode cX8_note 32 = .ok (.iinc 1 1, 3) := by decide +kernel
theorem dX8_note_35 : decode cX8_note 35 = .ok (.goto (-24), 3) := by decide +kernel
theorem dX8_note_38 : decode cX8_note 38 = .ok (.aload_n 0, 1) := by decide +kernel
theorem dX8_note_39 : decode cX8_note 39 = .ok (.dup, 1) := by decide +kernel
theorem dX8_note_40 : decode cX8_note 40 = .ok (.getfield 87, 3) := by decide +kernel
theorem dX8_note_43 : decode cX8_note 43 = .ok (.iconst 1, 1) := by decide +kernel
theorem dX8_note_44 : decode cX8_note 44 = .ok (.isub, 1) := by decide +kernel
theorem dX8_note_45 : decode cX8_note 45 = .ok (.putfield 87, 3) := by decide +kernel
theorem dX8_note_48 : decode cX8_note 48 = .ok (.iconst 0, 1) := by decide +kernel
theorem dX8_note_49 : decode cX8_note 49 = .ok (.istore_n 1, 1) := by decide +kernel
theorem dX8_note_50 : decode cX8_note 50 = .ok (.iload_n 1, 1) := by decide +kernel
theorem dX8_note_51 : decode cX8_note 51 = .ok (.bipush 21, 2) := by decide +kernel
theorem dX8_note_53 : decode cX8_note 53 = .ok (.if_icmp .ge 29, 3) := by decide +kernel
theorem dX8_note_56 : decode cX8_note 56 = .ok (.aload_n 0, 1) := by decide +kernel
theorem dX8_note_57 : decode cX8_note 57 = .ok (.getfield 28, 3) := by decide +kernel
theorem dX8_note_60 : decode cX8_note 60 = .ok (.bipush 21, 2) := by decide +kernel
theorem dX8_note_62 : decode cX8_note 62 = .ok (.aload_n 0, 1) := by decide +kernel
theorem dX8_note_63 : decode cX8_note 63 = .ok (.getfield 87, 3) := by decide +kernel
theorem dX8_note_66 : decode cX8_note 66 = .ok (.imul, 1) := by decide +kernel
theorem dX8_note_67 : decode cX8_note 67 = .ok (.iload_n 1, 1) := by decide +kernel
theorem dX8_note_68 : decode cX8_note 68 = .ok (.iadd, 1) := by decide +kernel
theorem dX8_note_69 : decode cX8_note 69 = .ok (.aload_n 0, 1) := by decide +kernel
theorem dX8_note_70 : decode cX8_note 70 = .ok (.getfield 25, 3) := by decide +kernel
theorem dX8_note_73 : decode cX8_note 73 = .ok (.iload_n 1, 1) := by decide +kernel
theorem dX8_note_74 : decode cX8_note 74 = .ok (.iaload, 1) := by decide +kernel
theorem dX8_note_75 : decode cX8_note 75 = .ok (.iastore, 1) := by decide +kernel
theorem dX8_note_76 : decode cX8_note 76 = .ok (.iinc 1 1, 3) := by decide +kernel
theorem dX8_note_79 : decode cX8_note 79 = .ok (.goto (-29), 3) := by decide +kernel
theorem dX8_note_82 : decode cX8_note 82 = .ok (.aload_n 0, 1) := by decide +kernel
theorem dX8_note_83 : decode cX8_note 83 = .ok (.dup, 1) := by decide +kernel
theorem dX8_note_84 : decode cX8_note 84 = .ok (.getfield 87, 3) := by decide +kernel
theorem dX8_note_87 : decode cX8_note 87 = .ok (.iconst 1, 1) := by decide +kernel
theorem dX8_note_88 : decode cX8_note 88 = .ok (.iadd, 1) := by decide +kernel
theorem dX8_note_89 : decode cX8_note 89 = .ok (.putfield 87, 3) := by decide +kernel
theorem dX8_note_92 : decode cX8_note 92 = .ok (.return_, 1) := by decide +kernel
theorem dX8_tellLeast_0 : decode cX8_tellLeast 0 = .ok (.aload_n 0, 1) := by decide +kernel
theorem dX8_tellLeast_1 : decode cX8_tellLeast 1 = .ok (.invokevirtual 83, 3) := by decide +kernel
theorem dX8_tellLeast_4 : decode cX8_tellLeast 4 = .ok (.istore_n 1, 1) := by decide +kernel
theorem dX8_tellLeast_5 : decode cX8_tellLeast 5 = .ok (.aload_n 0, 1) := by decide +kernel
theorem dX8_tellLeast_6 : decode cX8_tellLeast 6 = .ok (.getfield 25, 3) := by decide +kernel
theorem dX8_tellLeast_9 : decode cX8_tellLeast 9 = .ok (.bipush 13, 2) := by decide +kernel
theorem dX8_tellLeast_11 : decode cX8_tellLeast 11 = .ok (.iload_n 1, 1) := by decide +kernel
theorem dX8_tellLeast_12 : decode cX8_tellLeast 12 = .ok (.aload_n 0, 1) := by decide +kernel
theorem dX8_tellLeast_13 : decode cX8_tellLeast 13 = .ok (.getfield 25, 3) := by decide +kernel
theorem dX8_tellLeast_16 : decode cX8_tellLeast 16 = .ok (.bipush 13, 2) := by decide +kernel
theorem dX8_tellLeast_18 : decode cX8_tellLeast 18 = .ok (.iaload, 1) := by decide +kernel
theorem dX8_tellLeast_19 : decode cX8_tellLeast 19 = .ok (.if_icmp .ge 7, 3) := by decide +kernel
theorem dX8_tellLeast_22 : decode cX8_tellLeast 22 = .ok (.iload_n 1, 1) := by decide +kernel
theorem dX8_tellLeast_23 : decode cX8_tellLeast 23 = .ok (.goto 10, 3) := by decide +kernel
theorem dX8_tellLeast_26 : decode cX8_tellLeast 26 = .ok (.aload_n 0, 1) := by decide +kernel
theorem dX8_tellLeast_27 : decode cX8_tellLeast 27 = .ok (.getfield 25, 3) := by decide +kernel
theorem dX8_tellLeast_30 : decode cX8_tellLeast 30 = .ok (.bipush 13, 2) := by decide +kernel
theorem dX8_tellLeast_32 : decode cX8_tellLeast 32 = .ok (.iaload, 1) := by decide +kernel
theorem dX8_tellLeast_33 : decode cX8_tellLeast 33 = .ok (.iastore, 1) := by decide +kernel
theorem dX8_tellLeast_34 : decode cX8_tellLeast 34 = .ok (.return_, 1) := by decide +kernel
theorem dX8_undo_0 : decode cX8_undo 0 = .ok (.aload_n 0, 1) := by decide +kernel
theorem dX8_undo_1 : decode cX8_undo 1 = .ok (.getfield 87, 3) := by decide +kernel
theorem dX8_undo_4 : decode cX8_undo 4 = .ok (.ifCond .ne 6, 3) := by decide +kernel
theorem dX8_undo_7 : decode cX8_undo 7 = .ok (.bipush (-2), 2) := by decide +kernel
theorem dX8_undo_9 : decode cX8_undo 9 = .ok (.ireturn, 1) := by decide +kernel
theorem dX8_undo_10 : decode cX8_undo 10 = .ok (.aload_n 0, 1) := by decide +kernel
theorem dX8_undo_11 : decode cX8_undo 11 = .ok (.dup, 1) := by decide +kernel
theorem dX8_undo_12 : decode cX8_undo 12 = .ok (.getfield 87, 3) := by decide +kernel
theorem dX8_undo_15 : decode cX8_undo 15 = .ok (.iconst 1, 1) := by decide +kernel
theorem dX8_undo_16 : decode cX8_undo 16 = .ok (.isub, 1) := by decide +kernel
theorem dX8_undo_17 : decode cX8_undo 17 = .ok (.putfield 87, 3) := by decide +kernel
theorem dX8_undo_20 : decode cX8_undo 20 = .ok (.iconst 0, 1) := by decide +kernel
theorem dX8_undo_21 : decode cX8_undo 21 = .ok (.istore_n 1, 1) := by decide +kernel
theorem dX8_undo_22 : decode cX8_undo 22 = .ok (.iload_n 1, 1) := by decide +kernel
theorem dX8_undo_23 : decode cX8_undo 23 = .ok (.bipush 21, 2) := by decide +kernel
theorem dX8_undo_25 : decode cX8_undo 25 = .ok (.if_icmp .ge 29, 3) := by decide +kernel
theorem dX8_undo_28 : decode cX8_undo 28 = .ok (.aload_n 0, 1) := by decide +kernel
theorem dX8_undo_29 : decode cX8_undo 29 = .ok (.getfield 25, 3) := by decide +kernel
theorem dX8_undo_32 : decode cX8_undo 32 = .ok (.iload_n 1, 1) := by decide +kernel
theorem dX8_undo_33 : decode cX8_undo 33 = .ok (.aload_n 0, 1) := by decide +kernel
theorem dX8_undo_34 : decode cX8_undo 34 = .ok (.getfield 28, 3) := by decide +kernel
theorem dX8_undo_37 : decode cX8_undo 37 = .ok (.bipush 21, 2) := by decide +kernel
theorem dX8_undo_39 : decode cX8_undo 39 = .ok (.aload_n 0, 1) := by decide +kernel
theorem dX8_undo_40 : decode cX8_undo 40 = .ok (.getfield 87, 3) := by decide +kernel
theorem dX8_undo_43 : decode cX8_undo 43 = .ok (.imul, 1) := by decide +kernel
theorem dX8_undo_44 : decode cX8_undo 44 = .ok (.iload_n 1, 1) := by decide +kernel
theorem dX8_undo_45 : decode cX8_undo 45 = .ok (.iadd, 1) := by decide +kernel
theorem dX8_undo_46 : decode cX8_undo 46 = .ok (.iaload, 1) := by decide +kernel
theorem dX8_undo_47 : decode cX8_undo 47 = .ok (.iastore, 1) := by decide +kernel
theorem dX8_undo_48 : decode cX8_undo 48 = .ok (.iinc 1 1, 3) := by decide +kernel
theorem dX8_undo_51 : decode cX8_undo 51 = .ok (.goto (-29), 3) := by decide +kernel
theorem dX8_undo_54 : decode cX8_undo 54 = .ok (.aload_n 0, 1) := by decide +kernel
theorem dX8_undo_55 : decode cX8_undo 55 = .ok (.getfield 87, 3) := by decide +kernel
theorem dX8_undo_58 : decode cX8_undo 58 = .ok (.ireturn, 1) := by decide +kernel
theorem dX8_move_0 : decode cX8_move 0 = .ok (.aload_n 0, 1) := by decide +kernel
theorem dX8_move_1 : decode cX8_move 1 = .ok (.iload_n 1, 1) := by decide +kernel
theorem dX8_move_2 : decode cX8_move 2 = .ok (.invokevirtual 180, 3) := by decide +kernel
theorem dX8_move_5 : decode cX8_move 5 = .ok (.ifCond .eq 13, 3) := by decide +kernel
theorem dX8_move_8 : decode cX8_move 8 = .ok (.iload_n 2, 1) := by decide +kernel
theorem dX8_move_9 : decode cX8_move 9 = .ok (.iconst 1, 1) := by decide +kernel
theorem dX8_move_10 : decode cX8_move 10 = .ok (.bipush 20, 2) := by decide +kernel
theorem dX8_move_12 : decode cX8_move 12 = .ok (.invokestatic 96, 3) := by decide +kernel
theorem dX8_move_15 : decode cX8_move 15 = .ok (.ifCond .ne 5, 3) := by decide +kernel
theorem dX8_move_18 : decode cX8_move 18 = .ok (.iconst (-1), 1) := by decide +kernel
theorem dX8_move_19 : decode cX8_move 19 = .ok (.ireturn, 1) := by decide +kernel
theorem dX8_move_20 : decode cX8_move 20 = .ok (.aload_n 0, 1) := by decide +kernel
theorem dX8_move_21 : decode cX8_move 21 = .ok (.getfield 25, 3) := by decide +kernel
theorem dX8_move_24 : decode cX8_move 24 = .ok (.iload_n 1, 1) := by decide +kernel
theorem dX8_move_25 : decode cX8_move 25 = .ok (.iaload, 1) := by decide +kernel
theorem dX8_move_26 : decode cX8_move 26 = .ok (.istore_n 3, 1) := by decide +kernel
theorem dX8_move_27 : decode cX8_move 27 = .ok (.iload_n 3, 1) := by decide +kernel
theorem dX8_move_28 : decode cX8_move 28 = .ok (.iload_n 2, 1) := by decide +kernel
theorem dX8_move_29 : decode cX8_move 29 = .ok (.if_icmp .ne 6, 3) := by decide +kernel
theorem dX8_move_32 : decode cX8_move 32 = .ok (.bipush (-2), 2) := by decide +kernel
theorem dX8_move_34 : decode cX8_move 34 = .ok (.ireturn, 1) := by decide +kernel
theorem dX8_move_35 : decode cX8_move 35 = .ok (.aload_n 0, 1) := by decide +kernel
theorem dX8_move_36 : decode cX8_move 36 = .ok (.invokevirtual 183, 3) := by decide +kernel
theorem dX8_move_39 : decode cX8_move 39 = .ok (.aload_n 0, 1) := by decide +kernel
theorem dX8_move_40 : decode cX8_move 40 = .ok (.getfield 25, 3) := by decide +kernel
theorem dX8_move_43 : decode cX8_move 43 = .ok (.iload_n 1, 1) := by decide +kernel
theorem dX8_move_44 : decode cX8_move 44 = .ok (.iload_n 2, 1) := by decide +kernel
theorem dX8_move_45 : decode cX8_move 45 = .ok (.iastore, 1) := by decide +kernel
theorem dX8_move_46 : decode cX8_move 46 = .ok (.aload_n 0, 1) := by decide +kernel
theorem dX8_move_47 : decode cX8_move 47 = .ok (.invokevirtual 186, 3) := by decide +kernel
theorem dX8_move_50 : decode cX8_move 50 = .ok (.iload_n 3, 1) := by decide +kernel
theorem dX8_move_51 : decode cX8_move 51 = .ok (.ireturn, 1) := by decide +kernel
theorem dX8_isEvened_0 : decode cX8_isEvened 0 = .ok (.aload_n 0, 1) := by decide +kernel
theorem dX8_isEvened_1 : decode cX8_isEvened 1 = .ok (.iload_n 1, 1) := by decide +kernel
theorem dX8_isEvened_2 : decode cX8_isEvened 2 = .ok (.invokevirtual 127, 3) := by decide +kernel
theorem dX8_isEvened_5 : decode cX8_isEvened 5 = .ok (.iload_n 2, 1) := by decide +kernel
theorem dX8_isEvened_6 : decode cX8_isEvened 6 = .ok (.if_icmp .ne 30, 3) := by decide +kernel
theorem dX8_isEvened_9 : decode cX8_isEvened 9 = .ok (.aload_n 0, 1) := by decide +kernel
theorem dX8_isEvened_10 : decode cX8_isEvened 10 = .ok (.iload_n 1, 1) := by decide +kernel
theorem dX8_isEvened_11 : decode cX8_isEvened 11 = .ok (.invokevirtual 124, 3) := by decide +kernel
theorem dX8_isEvened_14 : decode cX8_isEvened 14 = .ok (.ifCond .eq 22, 3) := by decide +kernel
theorem dX8_isEvened_17 : decode cX8_isEvened 17 = .ok (.aload_n 0, 1) := by decide +kernel
theorem dX8_isEvened_18 : decode cX8_isEvened 18 = .ok (.getfield 34, 3) := by decide +kernel
theorem dX8_isEvened_21 : decode cX8_isEvened 21 = .ok (.aload_n 0, 1) := by decide +kernel
theorem dX8_isEvened_22 : decode cX8_isEvened 22 = .ok (.iload_n 1, 1) := by decide +kernel
theorem dX8_isEvened_23 : decode cX8_isEvened 23 = .ok (.invokevirtual 120, 3) := by decide +kernel
theorem dX8_isEvened_26 : decode cX8_isEvened 26 = .ok (.iaload, 1) := by decide +kernel
theorem dX8_isEvened_27 : decode cX8_isEvened 27 = .ok (.bipush (-4), 2) := by decide +kernel
theorem dX8_isEvened_29 : decode cX8_isEvened 29 = .ok (.if_icmp .eq 7, 3) := by decide +kernel
theorem dX8_isEvened_32 : decode cX8_isEvened 32 = .ok (.iconst 1, 1) := by decide +kernel
theorem dX8_isEvened_33 : decode cX8_isEvened 33 = .ok (.goto 4, 3) := by decide +kernel
theorem dX8_isEvened_36 : decode cX8_isEvened 36 = .ok (.iconst 0, 1) := by decide +kernel
theorem dX8_isEvened_37 : decode cX8_isEvened 37 = .ok (.ireturn, 1) := by decide +kernel
theorem dX8_even_0 : decode cX8_even 0 = .ok (.aload_n 0, 1) := by decide +kernel
theorem dX8_even_1 : decode cX8_even 1 = .ok (.iload_n 1, 1) := by decide +kernel
theorem dX8_even_2 : decode cX8_even 2 = .ok (.invokevirtual 189, 3) := by decide +kernel
theorem dX8_even_5 : decode cX8_even 5 = .ok (.ifCond .eq 11, 3) := by decide +kernel
theorem dX8_even_8 : decode cX8_even 8 = .ok (.aload_n 0, 1) := by decide +kernel
theorem dX8_even_9 : decode cX8_even 9 = .ok (.iload_n 2, 1) := by decide +kernel
theorem dX8_even_10 : decode cX8_even 10 = .ok (.invokevirtual 189, 3) := by decide +kernel
theorem dX8_even_13 : decode cX8_even 13 = .ok (.ifCond .ne 5, 3) := by decide +kernel
theorem dX8_even_16 : decode cX8_even 16 = .ok (.iconst (-1), 1) := by decide +kernel
theorem dX8_even_17 : decode cX8_even 17 = .ok (.ireturn, 1) := by decide +kernel
theorem dX8_even_18 : decode cX8_even 18 = .ok (.aload_n 0, 1) := by decide +kernel
theorem dX8_even_19 : decode cX8_even 19 = .ok (.iload_n 2, 1) := by decide +kernel
theorem dX8_even_20 : decode cX8_even 20 = .ok (.invokevirtual 133, 3) := by decide +kernel
theorem dX8_even_23 : decode cX8_even 23 = .ok (.iconst 0, 1) := by decide +kernel
theorem dX8_even_24 : decode cX8_even 24 = .ok (.istore_n 3, 1) := by decide +kernel
theorem dX8_even_25 : decode cX8_even 25 = .ok (.iconst 0, 1) := by decide +kernel
theorem dX8_even_26 : decode cX8_even 26 = .ok (.istore 4, 2) := by decide +kernel
theorem dX8_even_28 : decode cX8_even 28 = .ok (.iconst 0, 1) := by decide +kernel
theorem dX8_even_29 : decode cX8_even 29 = .ok (.istore 5, 2) := by decide +kernel
theorem dX8_even_31 : decode cX8_even 31 = .ok (.iload 5, 2) := by decide +kernel
theorem dX8_even_33 : decode cX8_even 33 = .ok (.aload_n 0, 1) := by decide +kernel
theorem dX8_even_34 : decode cX8_even 34 = .ok (.getfield 77, 3) := by decide +kernel
theorem dX8_even_37 : decode cX8_even 37 = .ok (.if_icmp .ge 56, 3) := by decide +kernel
theorem dX8_even_40 : decode cX8_even 40 = .ok (.aload_n 0, 1) := by decide +kernel
theorem dX8_even_41 : decode cX8_even 41 = .ok (.iload 5, 2) := by decide +kernel
theorem dX8_even_43 : decode cX8_even 43 = .ok (.iload_n 1, 1) := by decide +kernel
theorem dX8_even_44 : decode cX8_even 44 = .ok (.invokevirtual 192, 3) := by decide +kernel
theorem dX8_even_47 : decode cX8_even 47 = .ok (.ifCond .eq 40, 3) := by decide +kernel
theorem dX8_even_50 : decode cX8_even 50 = .ok (.iinc 3 1, 3) := by decide +kernel
theorem dX8_even_53 : decode cX8_even 53 = .ok (.aload_n 0, 1) := by decide +kernel
theorem dX8_even_54 : decode cX8_even 54 = .ok (.getfield 34, 3) := by decide +kernel
theorem dX8_even_57 : decode cX8_even 57 = .ok (.aload_n 0, 1) := by decide +kernel
theorem dX8_even_58 : decode cX8_even 58 = .ok (.iload 5, 2) := by decide +kernel
theorem dX8_even_60 : decode cX8_even 60 = .ok (.invokevirtual 120, 3) := by decide +kernel
theorem dX8_even_63 : decode cX8_even 63 = .ok (.iaload, 1) := by decide +kernel
theorem dX8_even_64 : decode cX8_even 64 = .ok (.iload 4, 2) := by decide +kernel
theorem dX8_even_66 : decode cX8_even 66 = .ok (.if_icmp .le 17, 3) := by decide +kernel
theorem dX8_even_69 : decode cX8_even 69 = .ok (.aload_n 0, 1) := by decide +kernel
theorem dX8_even_70 : decode cX8_even 70 = .ok (.getfield 34, 3) := by decide +kernel
theorem dX8_even_73 : decode cX8_even 73 = .ok (.aload_n 0, 1) := by decide +kernel
theorem dX8_even_74 : decode cX8_even 74 = .ok (.iload 5, 2) := by decide +kernel
theorem dX8_even_76 : decode cX8_even 76 = .ok (.invokevirtual 120, 3) := by decide +kernel
theorem dX8_even_79 : decode cX8_even 79 = .ok (.iaload, 1) := by decide +kernel
theorem dX8_even_80 : decode cX8_even 80 = .ok (.goto 5, 3) := by decide +kernel
theorem dX8_even_83 : decode cX8_even 83 = .ok (.iload 4, 2) := by decide +kernel
theorem dX8_even_85 : decode cX8_even 85 = .ok (.istore 4, 2) := by decide +kernel
theorem dX8_even_87 : decode cX8_even 87 = .ok (.iinc 5 1, 3) := by decide +kernel
theorem dX8_even_90 : decode cX8_even 90 = .ok (.goto (-59), 3) := by decide +kernel
theorem dX8_even_93 : decode cX8_even 93 = .ok (.iconst 0, 1) := by decide +kernel
theorem dX8_even_94 : decode cX8_even 94 = .ok (.istore 5, 2) := by decide +kernel
theorem dX8_even_96 : decode cX8_even 96 = .ok (.iload_n 1, 1) := by decide +kernel
theorem dX8_even_97 : decode cX8_even 97 = .ok (.iload_n 2, 1) := by decide +kernel
theorem dX8_even_98 : decode cX8_even 98 = .ok (.if_icmp .eq 12, 3) := by decide +kernel
theorem dX8_even_101 : decode cX8_even 101 = .ok (.iload_n 3, 1) := by decide +kernel
theorem dX8_even_102 : decode cX8_even 102 = .ok (.iconst 1, 1) := by decide +kernel
theorem dX8_even_103 : decode cX8_even 103 = .ok (.if_icmp .le 7, 3) := by decide +kernel
theorem dX8_even_106 : decode cX8_even 106 = .ok (.iconst 1, 1) := by decide +kernel
theorem dX8_even_107 : decode cX8_even 107 = .ok (.goto 4, 3) := by decide +kernel
theorem dX8_even_110 : decode cX8_even 110 = .ok (.iconst 0, 1) := by decide +kernel
theorem dX8_even_111 : decode cX8_even 111 = .ok (.istore 6, 2) := by decide +kernel
theorem dX8_even_113 : decode cX8_even 113 = .ok (.iconst 0, 1) := by decide +kernel
theorem dX8_even_114 : decode cX8_even 114 = .ok (.istore 7, 2) := by decide +kernel
theorem dX8_even_116 : decode cX8_even 116 = .ok (.iload 7, 2) := by decide +kernel
theorem dX8_even_118 : decode cX8_even 118 = .ok (.aload_n 0, 1) := by decide +kernel
theorem dX8_even_119 : decode cX8_even 119 = .ok (.getfield 77, 3) := by decide +kernel
theorem dX8_even_122 : decode cX8_even 122 = .ok (.if_icmp .ge 78, 3) := by decide +kernel
theorem dX8_even_125 : decode cX8_even 125 = .ok (.aload_n 0, 1) := by decide +kernel
theorem dX8_even_126 : decode cX8_even 126 = .ok (.iload 7, 2) := by decide +kernel
theorem dX8_even_128 : decode cX8_even 128 = .ok (.iload_n 1, 1) := by decide +kernel
theorem dX8_even_129 : decode cX8_even 129 = .ok (.invokevirtual 192, 3) := by decide +kernel
theorem dX8_even_132 : decode cX8_even 132 = .ok (.ifCond .eq 62, 3) := by decide +kernel
theorem dX8_even_135 : decode cX8_even 135 = .ok (.iload 4, 2) := by decide +kernel
theorem dX8_even_137 : decode cX8_even 137 = .ok (.iconst 1, 1) := by decide +kernel
theorem dX8_even_138 : decode cX8_even 138 = .ok (.iadd, 1) := by decide +kernel
theorem dX8_even_139 : decode cX8_even 139 = .ok (.aload_n 0, 1) := by decide +kernel
theorem dX8_even_140 : decode cX8_even 140 = .ok (.getfield 34, 3) := by decide +kernel
theorem dX8_even_143 : decode cX8_even 143 = .ok (.aload_n 0, 1) := by decide +kernel
theorem dX8_even_144 : decode cX8_even 144 = .ok (.iload 7, 2) := by decide +kernel
theorem dX8_even_146 : decode cX8_even 146 = .ok (.invokevirtual 120, 3) := by decide +kernel
theorem dX8_even_149 : decode cX8_even 149 = .ok (.iaload, 1) := by decide +kernel
theorem dX8_even_150 : decode cX8_even 150 = .ok (.isub, 1) := by decide +kernel
theorem dX8_even_151 : decode cX8_even 151 = .ok (.istore 8, 2) := by decide +kernel
theorem dX8_even_153 : decode cX8_even 153 = .ok (.iload 6, 2) := by decide +kernel
theorem dX8_even_155 : decode cX8_even 155 = .ok (.ifCond .eq 14, 3) := by decide +kernel
theorem dX8_even_158 : decode cX8_even 158 = .ok (.iload 8, 2) := by decide +kernel
theorem dX8_even_160 : decode cX8_even 160 = .ok (.bipush 20, 2) := by decide +kernel
theorem dX8_even_162 : decode cX8_even 162 = .ok (.if_icmp .gt 7, 3) := by decide +kernel
theorem dX8_even_165 : decode cX8_even 165 = .ok (.iconst 1, 1) := by decide +kernel
theorem dX8_even_166 : decode cX8_even 166 = .ok (.goto 4, 3) := by decide +kernel
theorem dX8_even_169 : decode cX8_even 169 = .ok (.iconst 0, 1) := by decide +kernel
theorem dX8_even_170 : decode cX8_even 170 = .ok (.istore 6, 2) := by decide +kernel
theorem dX8_even_172 : decode cX8_even 172 = .ok (.iload 5, 2) := by decide +kernel
theorem dX8_even_174 : decode cX8_even 174 = .ok (.iload 8, 2) := by decide +kernel
theorem dX8_even_176 : decode cX8_even 176 = .ok (.aload_n 0, 1) := by decide +kernel
theorem dX8_even_177 : decode cX8_even 177 = .ok (.getfield 25, 3) := by decide +kernel
theorem dX8_even_180 : decode cX8_even 180 = .ok (.iload 7, 2) := by decide +kernel
theorem dX8_even_182 : decode cX8_even 182 = .ok (.iaload, 1) := by decide +kernel
theorem dX8_even_183 : decode cX8_even 183 = .ok (.if_icmp .eq 7, 3) := by decide +kernel
theorem dX8_even_186 : decode cX8_even 186 = .ok (.iconst 1, 1) := by decide +kernel
theorem dX8_even_187 : decode cX8_even 187 = .ok (.goto 4, 3) := by decide +kernel
theorem dX8_even_190 : decode cX8_even 190 = .ok (.iconst 0, 1) := by decide +kernel
theorem dX8_even_191 : decode cX8_even 191 = .ok (.iadd, 1) := by decide +kernel
theorem dX8_even_192 : decode cX8_even 192 = .ok (.istore 5, 2) := by decide +kernel
theorem dX8_even_194 : decode cX8_even 194 = .ok (.iinc 7 1, 3) := by decide +kernel
theorem dX8_even_197 : decode cX8_even 197 = .ok (.goto (-81), 3) := by decide +kernel
theorem dX8_even_200 : decode cX8_even 200 = .ok (.iload 6, 2) := by decide +kernel
theorem dX8_even_202 : decode cX8_even 202 = .ok (.ifCond .eq 8, 3) := by decide +kernel
theorem dX8_even_205 : decode cX8_even 205 = .ok (.iload 5, 2) := by decide +kernel
theorem dX8_even_207 : decode cX8_even 207 = .ok (.ifCond .ne 6, 3) := by decide +kernel
theorem dX8_even_210 : decode cX8_even 210 = .ok (.bipush (-2), 2) := by decide +kernel
theorem dX8_even_212 : decode cX8_even 212 = .ok (.ireturn, 1) := by decide +kernel
theorem dX8_even_213 : decode cX8_even 213 = .ok (.aload_n 0, 1) := by decide +kernel
theorem dX8_even_214 : decode cX8_even 214 = .ok (.invokevirtual 183, 3) := by decide +kernel
theorem dX8_even_217 : decode cX8_even 217 = .ok (.iconst 0, 1) := by decide +kernel
theorem dX8_even_218 : decode cX8_even 218 = .ok (.istore 7, 2) := by decide +kernel
theorem dX8_even_220 : decode cX8_even 220 = .ok (.iload 7, 2) := by decide +kernel
theorem dX8_even_222 : decode cX8_even 222 = .ok (.aload_n 0, 1) := by decide +kernel
theorem dX8_even_223 : decode cX8_even 223 = .ok (.getfield 77, 3) := by decide +kernel
theorem dX8_even_226 : decode cX8_even 226 = .ok (.if_icmp .ge 52, 3) := by decide +kernel
theorem dX8_even_229 : decode cX8_even 229 = .ok (.aload_n 0, 1) := by decide +kernel
theorem dX8_even_230 : decode cX8_even 230 = .ok (.getfield 25, 3) := by decide +kernel
theorem dX8_even_233 : decode cX8_even 233 = .ok (.iload 7, 2) := by decide +kernel
theorem dX8_even_235 : decode cX8_even 235 = .ok (.aload_n 0, 1) := by decide +kernel
theorem dX8_even_236 : decode cX8_even 236 = .ok (.iload 7, 2) := by decide +kernel
theorem dX8_even_238 : decode cX8_even 238 = .ok (.iload_n 1, 1) := by decide +kernel
theorem dX8_even_239 : decode cX8_even 239 = .ok (.invokevirtual 192, 3) := by decide +kernel
theorem dX8_even_242 : decode cX8_even 242 = .ok (.ifCond .eq 22, 3) := by decide +kernel
theorem dX8_even_245 : decode cX8_even 245 = .ok (.iload 4, 2) := by decide +kernel
theorem dX8_even_247 : decode cX8_even 247 = .ok (.iconst 1, 1) := by decide +kernel
theorem dX8_even_248 : decode cX8_even 248 = .ok (.iadd, 1) := by decide +kernel
theorem dX8_even_249 : decode cX8_even 249 = .ok (.aload_n 0, 1) := by decide +kernel
theorem dX8_even_250 : decode cX8_even 250 = .ok (.getfield 34, 3) := by decide +kernel
theorem dX8_even_253 : decode cX8_even 253 = .ok (.aload_n 0, 1) := by decide +kernel
theorem dX8_even_254 : decode cX8_even 254 = .ok (.iload 7, 2) := by decide +kernel
theorem dX8_even_256 : decode cX8_even 256 = .ok (.invokevirtual 120, 3) := by decide +kernel
theorem dX8_even_259 : decode cX8_even 259 = .ok (.iaload, 1) := by decide +kernel
theorem dX8_even_260 : decode cX8_even 260 = .ok (.isub, 1) := by decide +kernel
theorem dX8_even_261 : decode cX8_even 261 = .ok (.goto 10, 3) := by decide +kernel
theorem dX8_even_264 : decode cX8_even 264 = .ok (.aload_n 0, 1) := by decide +kernel
theorem dX8_even_265 : decode cX8_even 265 = .ok (.getfield 25, 3) := by decide +kernel
theorem dX8_even_268 : decode cX8_even 268 = .ok (.iload 7, 2) := by decide +kernel
theorem dX8_even_270 : decode cX8_even 270 = .ok (.iaload, 1) := by decide +kernel
theorem dX8_even_271 : decode cX8_even 271 = .ok (.iastore, 1) := by decide +kernel
theorem dX8_even_272 : decode cX8_even 272 = .ok (.iinc 7 1, 3) := by decide +kernel
theorem dX8_even_275 : decode cX8_even 275 = .ok (.goto (-55), 3) := by decide +kernel
theorem dX8_even_278 : decode cX8_even 278 = .ok (.aload_n 0, 1) := by decide +kernel
theorem dX8_even_279 : decode cX8_even 279 = .ok (.invokevirtual 186, 3) := by decide +kernel
theorem dX8_even_282 : decode cX8_even 282 = .ok (.iload 5, 2) := by decide +kernel
theorem dX8_even_284 : decode cX8_even 284 = .ok (.ireturn, 1) := by decide +kernel
theorem dX8_stepOnce_0 : decode cX8_stepOnce 0 = .ok (.aload_n 0, 1) := by decide +kernel
theorem dX8_stepOnce_1 : decode cX8_stepOnce 1 = .ok (.bipush (-4), 2) := by decide +kernel
theorem dX8_stepOnce_3 : decode cX8_stepOnce 3 = .ok (.iconst 0, 1) := by decide +kernel
theorem dX8_stepOnce_4 : decode cX8_stepOnce 4 = .ok (.invokevirtual 195, 3) := by decide +kernel
theorem dX8_stepOnce_7 : decode cX8_stepOnce 7 = .ok (.ifCond .ne 5, 3) := by decide +kernel
theorem dX8_stepOnce_10 : decode cX8_stepOnce 10 = .ok (.iconst 0, 1) := by decide +kernel
theorem dX8_stepOnce_11 : decode cX8_stepOnce 11 = .ok (.ireturn, 1) := by decide +kernel
theorem dX8_stepOnce_12 : decode cX8_stepOnce 12 = .ok (.aload_n 0, 1) := by decide +kernel
theorem dX8_stepOnce_13 : decode cX8_stepOnce 13 = .ok (.aload_n 0, 1) := by decide +kernel
theorem dX8_stepOnce_14 : decode cX8_stepOnce 14 = .ok (.invokevirtual 157, 3) := by decide +kernel
theorem dX8_stepOnce_17 : decode cX8_stepOnce 17 = .ok (.invokevirtual 199, 3) := by decide +kernel
theorem dX8_stepOnce_20 : decode cX8_stepOnce 20 = .ok (.aload_n 0, 1) := by decide +kernel
theorem dX8_stepOnce_21 : decode cX8_stepOnce 21 = .ok (.getfield 25, 3) := by decide +kernel
theorem dX8_stepOnce_24 : decode cX8_stepOnce 24 = .ok (.aload_n 0, 1) := by decide +kernel
theorem dX8_stepOnce_25 : decode cX8_stepOnce 25 = .ok (.getfield 163, 3) := by decide +kernel
theorem dX8_stepOnce_28 : decode cX8_stepOnce 28 = .ok (.aload_n 0, 1) := by decide +kernel
theorem dX8_stepOnce_29 : decode cX8_stepOnce 29 = .ok (.getfield 177, 3) := by decide +kernel
theorem dX8_stepOnce_32 : decode cX8_stepOnce 32 = .ok (.iastore, 1) := by decide +kernel
theorem dX8_stepOnce_33 : decode cX8_stepOnce 33 = .ok (.aload_n 0, 1) := by decide +kernel
theorem dX8_stepOnce_34 : decode cX8_stepOnce 34 = .ok (.invokevirtual 186, 3) := by decide +kernel
theorem dX8_stepOnce_37 : decode cX8_stepOnce 37 = .ok (.iconst 1, 1) := by decide +kernel
theorem dX8_stepOnce_38 : decode cX8_stepOnce 38 = .ok (.ireturn, 1) := by decide +kernel
theorem dX8_step_0 : decode cX8_step 0 = .ok (.iload_n 1, 1) := by decide +kernel
theorem dX8_step_1 : decode cX8_step 1 = .ok (.iconst 1, 1) := by decide +kernel
theorem dX8_step_2 : decode cX8_step 2 = .ok (.iconst 3, 1) := by decide +kernel
theorem dX8_step_3 : decode cX8_step 3 = .ok (.invokestatic 96, 3) := by decide +kernel
theorem dX8_step_6 : decode cX8_step 6 = .ok (.ifCond .ne 5, 3) := by decide +kernel
theorem dX8_step_9 : decode cX8_step 9 = .ok (.iconst (-1), 1) := by decide +kernel
theorem dX8_step_10 : decode cX8_step 10 = .ok (.ireturn, 1) := by decide +kernel
theorem dX8_step_11 : decode cX8_step 11 = .ok (.aload_n 0, 1) := by decide +kernel
theorem dX8_step_12 : decode cX8_step 12 = .ok (.bipush (-4), 2) := by decide +kernel
theorem dX8_step_14 : decode cX8_step 14 = .ok (.iconst 0, 1) := by decide +kernel
theorem dX8_step_15 : decode cX8_step 15 = .ok (.invokevirtual 195, 3) := by decide +kernel
theorem dX8_step_18 : decode cX8_step 18 = .ok (.ifCond .ne 6, 3) := by decide +kernel
theorem dX8_step_21 : decode cX8_step 21 = .ok (.bipush (-2), 2) := by decide +kernel
theorem dX8_step_23 : decode cX8_step 23 = .ok (.ireturn, 1) := by decide +kernel
theorem dX8_step_24 : decode cX8_step 24 = .ok (.aload_n 0, 1) := by decide +kernel
theorem dX8_step_25 : decode cX8_step 25 = .ok (.invokevirtual 183, 3) := by decide +kernel
theorem dX8_step_28 : decode cX8_step 28 = .ok (.iconst 1, 1) := by decide +kernel
theorem dX8_step_29 : decode cX8_step 29 = .ok (.istore_n 2, 1) := by decide +kernel
theorem dX8_step_30 : decode cX8_step 30 = .ok (.iconst 0, 1) := by decide +kernel
theorem dX8_step_31 : decode cX8_step 31 = .ok (.istore_n 3, 1) := by decide +kernel
theorem dX8_step_32 : decode cX8_step 32 = .ok (.iload_n 3, 1) := by decide +kernel
theorem dX8_step_33 : decode cX8_step 33 = .ok (.iload_n 1, 1) := by decide +kernel
theorem dX8_step_34 : decode cX8_step 34 = .ok (.if_icmp .ge 18, 3) := by decide +kernel
theorem dX8_step_37 : decode cX8_step 37 = .ok (.iload_n 2, 1) := by decide +kernel
theorem dX8_step_38 : decode cX8_step 38 = .ok (.ifCond .eq 14, 3) := by decide +kernel
theorem dX8_step_41 : decode cX8_step 41 = .ok (.aload_n 0, 1) := by decide +kernel
theorem dX8_step_42 : decode cX8_step 42 = .ok (.invokevirtual 202, 3) := by decide +kernel
theorem dX8_step_45 : decode cX8_step 45 = .ok (.istore_n 2, 1) := by decide +kernel
theorem dX8_step_46 : decode cX8_step 46 = .ok (.iinc 3 1, 3) := by decide +kernel
theorem dX8_step_49 : decode cX8_step 49 = .ok (.goto (-17), 3) := by decide +kernel
theorem dX8_step_52 : decode cX8_step 52 = .ok (.aload_n 0, 1) := by decide +kernel
theorem dX8_step_53 : decode cX8_step 53 = .ok (.invokevirtual 83, 3) := by decide +kernel
theorem dX8_step_56 : decode cX8_step 56 = .ok (.ireturn, 1) := by decide +kernel
theorem dX8_turn_0 : decode cX8_turn 0 = .ok (.aload_n 0, 1) := by decide +kernel
theorem dX8_turn_1 : decode cX8_turn 1 = .ok (.iload_n 1, 1) := by decide +kernel
theorem dX8_turn_2 : decode cX8_turn 2 = .ok (.invokevirtual 180, 3) := by decide +kernel
theorem dX8_turn_5 : decode cX8_turn 5 = .ok (.ifCond .eq 12, 3) := by decide +kernel
theorem dX8_turn_8 : decode cX8_turn 8 = .ok (.iload_n 2, 1) := by decide +kernel
theorem dX8_turn_9 : decode cX8_turn 9 = .ok (.iconst 0, 1) := by decide +kernel
theorem dX8_turn_10 : decode cX8_turn 10 = .ok (.iconst 1, 1) := by decide +kernel
theorem dX8_turn_11 : decode cX8_turn 11 = .ok (.invokestatic 96, 3) := by decide +kernel
theorem dX8_turn_14 : decode cX8_turn 14 = .ok (.ifCond .ne 5, 3) := by decide +kernel
theorem dX8_turn_17 : decode cX8_turn 17 = .ok (.iconst (-1), 1) := by decide +kernel
theorem dX8_turn_18 : decode cX8_turn 18 = .ok (.ireturn, 1) := by decide +kernel
theorem dX8_turn_19 : decode cX8_turn 19 = .ok (.aload_n 0, 1) := by decide +kernel
theorem dX8_turn_20 : decode cX8_turn 20 = .ok (.iload_n 1, 1) := by decide +kernel
theorem dX8_turn_21 : decode cX8_turn 21 = .ok (.invokevirtual 124, 3) := by decide +kernel
theorem dX8_turn_24 : decode cX8_turn 24 = .ok (.iload_n 2, 1) := by decide +kernel
theorem dX8_turn_25 : decode cX8_turn 25 = .ok (.iconst 1, 1) := by decide +kernel
theorem dX8_turn_26 : decode cX8_turn 26 = .ok (.if_icmp .ne 7, 3) := by decide +kernel
theorem dX8_turn_29 : decode cX8_turn 29 = .ok (.iconst 1, 1) := by decide +kernel
theorem dX8_turn_30 : decode cX8_turn 30 = .ok (.goto 4, 3) := by decide +kernel
theorem dX8_turn_33 : decode cX8_turn 33 = .ok (.iconst 0, 1) := by decide +kernel
theorem dX8_turn_34 : decode cX8_turn 34 = .ok (.if_icmp .ne 6, 3) := by decide +kernel
theorem dX8_turn_37 : decode cX8_turn 37 = .ok (.bipush (-2), 2) := by decide +kernel
theorem dX8_turn_39 : decode cX8_turn 39 = .ok (.ireturn, 1) := by decide +kernel
theorem dX8_turn_40 : decode cX8_turn 40 = .ok (.aload_n 0, 1) := by decide +kernel
theorem dX8_turn_41 : decode cX8_turn 41 = .ok (.invokevirtual 183, 3) := by decide +kernel
theorem dX8_turn_44 : decode cX8_turn 44 = .ok (.aload_n 0, 1) := by decide +kernel
theorem dX8_turn_45 : decode cX8_turn 45 = .ok (.getfield 25, 3) := by decide +kernel
theorem dX8_turn_48 : decode cX8_turn 48 = .ok (.bipush 12, 2) := by decide +kernel
theorem dX8_turn_50 : decode cX8_turn 50 = .ok (.dup2, 1) := by decide +kernel
theorem dX8_turn_51 : decode cX8_turn 51 = .ok (.iaload, 1) := by decide +kernel
theorem dX8_turn_52 : decode cX8_turn 52 = .ok (.iconst 1, 1) := by decide +kernel
theorem dX8_turn_53 : decode cX8_turn 53 = .ok (.iload_n 1, 1) := by decide +kernel
theorem dX8_turn_54 : decode cX8_turn 54 = .ok (.ishl, 1) := by decide +kernel
theorem dX8_turn_55 : decode cX8_turn 55 = .ok (.ixor, 1) := by decide +kernel
theorem dX8_turn_56 : decode cX8_turn 56 = .ok (.iastore, 1) := by decide +kernel
theorem dX8_turn_57 : decode cX8_turn 57 = .ok (.aload_n 0, 1) := by decide +kernel
theorem dX8_turn_58 : decode cX8_turn 58 = .ok (.invokevirtual 83, 3) := by decide +kernel
theorem dX8_turn_61 : decode cX8_turn 61 = .ok (.ireturn, 1) := by decide +kernel
theorem dX8_shortFor_0 : decode cX8_shortFor 0 = .ok (.iconst 0, 1) := by decide +kernel
theorem dX8_shortFor_1 : decode cX8_shortFor 1 = .ok (.istore_n 2, 1) := by decide +kernel
theorem dX8_shortFor_2 : decode cX8_shortFor 2 = .ok (.iconst 0, 1) := by decide +kernel
theorem dX8_shortFor_3 : decode cX8_shortFor 3 = .ok (.istore_n 3, 1) := by decide +kernel
theorem dX8_shortFor_4 : decode cX8_shortFor 4 = .ok (.iload_n 3, 1) := by decide +kernel
theorem dX8_shortFor_5 : decode cX8_shortFor 5 = .ok (.aload_n 0, 1) := by decide +kernel
theorem dX8_shortFor_6 : decode cX8_shortFor 6 = .ok (.getfield 80, 3) := by decide +kernel
theorem dX8_shortFor_9 : decode cX8_shortFor 9 = .ok (.if_icmp .ge 57, 3) := by decide +kernel
theorem dX8_shortFor_12 : decode cX8_shortFor 12 = .ok (.aload_n 0, 1) := by decide +kernel
theorem dX8_shortFor_13 : decode cX8_shortFor 13 = .ok (.aload_n 0, 1) := by decide +kernel
theorem dX8_shortFor_14 : decode cX8_shortFor 14 = .ok (.getfield 22, 3) := by decide +kernel
theorem dX8_shortFor_17 : decode cX8_shortFor 17 = .ok (.iconst 3, 1) := by decide +kernel
theorem dX8_shortFor_18 : decode cX8_shortFor 18 = .ok (.iload_n 3, 1) := by decide +kernel
theorem dX8_shortFor_19 : decode cX8_shortFor 19 = .ok (.imul, 1) := by decide +kernel
theorem dX8_shortFor_20 : decode cX8_shortFor 20 = .ok (.iconst 1, 1) := by decide +kernel
theorem dX8_shortFor_21 : decode cX8_shortFor 21 = .ok (.iadd, 1) := by decide +kernel
theorem dX8_shortFor_22 : decode cX8_shortFor 22 = .ok (.iaload, 1) := by decide +kernel
theorem dX8_shortFor_23 : decode cX8_shortFor 23 = .ok (.invokevirtual 133, 3) := by decide +kernel
theorem dX8_shortFor_26 : decode cX8_shortFor 26 = .ok (.iload_n 2, 1) := by decide +kernel
theorem dX8_shortFor_27 : decode cX8_shortFor 27 = .ok (.aload_n 0, 1) := by decide +kernel
theorem dX8_shortFor_28 : decode cX8_shortFor 28 = .ok (.getfield 34, 3) := by decide +kernel
theorem dX8_shortFor_31 : decode cX8_shortFor 31 = .ok (.aload_n 0, 1) := by decide +kernel
theorem dX8_shortFor_32 : decode cX8_shortFor 32 = .ok (.getfield 22, 3) := by decide +kernel
theorem dX8_shortFor_35 : decode cX8_shortFor 35 = .ok (.iconst 3, 1) := by decide +kernel
theorem dX8_shortFor_36 : decode cX8_shortFor 36 = .ok (.iload_n 3, 1) := by decide +kernel
theorem dX8_shortFor_37 : decode cX8_shortFor 37 = .ok (.imul, 1) := by decide +kernel
theorem dX8_shortFor_38 : decode cX8_shortFor 38 = .ok (.iaload, 1) := by decide +kernel
theorem dX8_shortFor_39 : decode cX8_shortFor 39 = .ok (.iaload, 1) := by decide +kernel
theorem dX8_shortFor_40 : decode cX8_shortFor 40 = .ok (.bipush (-4), 2) := by decide +kernel
theorem dX8_shortFor_42 : decode cX8_shortFor 42 = .ok (.if_icmp .eq 15, 3) := by decide +kernel
theorem dX8_shortFor_45 : decode cX8_shortFor 45 = .ok (.aload_n 0, 1) := by decide +kernel
theorem dX8_shortFor_46 : decode cX8_shortFor 46 = .ok (.iload_n 1, 1) := by decide +kernel
theorem dX8_shortFor_47 : decode cX8_shortFor 47 = .ok (.invokevirtual 130, 3) := by decide +kernel
theorem dX8_shortFor_50 : decode cX8_shortFor 50 = .ok (.ifCond .eq 7, 3) := by decide +kernel
theorem dX8_shortFor_53 : decode cX8_shortFor 53 = .ok (.iconst 1, 1) := by decide +kernel
theorem dX8_shortFor_54 : decode cX8_shortFor 54 = .ok (.goto 4, 3) := by decide +kernel
theorem dX8_shortFor_57 : decode cX8_shortFor 57 = .ok (.iconst 0, 1) := by decide +kernel
theorem dX8_shortFor_58 : decode cX8_shortFor 58 = .ok (.iadd, 1) := by decide +kernel
theorem dX8_shortFor_59 : decode cX8_shortFor 59 = .ok (.istore_n 2, 1) := by decide +kernel
theorem dX8_shortFor_60 : decode cX8_shortFor 60 = .ok (.iinc 3 1, 3) := by decide +kernel
theorem dX8_shortFor_63 : decode cX8_shortFor 63 = .ok (.goto (-59), 3) := by decide +kernel
theorem dX8_shortFor_66 : decode cX8_shortFor 66 = .ok (.iload_n 2, 1) := by decide +kernel
theorem dX8_shortFor_67 : decode cX8_shortFor 67 = .ok (.ireturn, 1) := by decide +kernel
theorem dX8_link_0 : decode cX8_link 0 = .ok (.aload_n 0, 1) := by decide +kernel
theorem dX8_link_1 : decode cX8_link 1 = .ok (.iload_n 1, 1) := by decide +kernel
theorem dX8_link_2 : decode cX8_link 2 = .ok (.invokevirtual 180, 3) := by decide +kernel
theorem dX8_link_5 : decode cX8_link 5 = .ok (.ifCond .eq 13, 3) := by decide +kernel
theorem dX8_link_8 : decode cX8_link 8 = .ok (.iload_n 2, 1) := by decide +kernel
theorem dX8_link_9 : decode cX8_link 9 = .ok (.iconst 0, 1) := by decide +kernel
theorem dX8_link_10 : decode cX8_link 10 = .ok (.bipush 7, 2) := by decide +kernel
theorem dX8_link_12 : decode cX8_link 12 = .ok (.invokestatic 96, 3) := by decide +kernel
theorem dX8_link_15 : decode cX8_link 15 = .ok (.ifCond .ne 5, 3) := by decide +kernel
theorem dX8_link_18 : decode cX8_link 18 = .ok (.iconst (-1), 1) := by decide +kernel
theorem dX8_link_19 : decode cX8_link 19 = .ok (.ireturn, 1) := by decide +kernel
theorem dX8_link_20 : decode cX8_link 20 = .ok (.aload_n 0, 1) := by decide +kernel
theorem dX8_link_21 : decode cX8_link 21 = .ok (.invokevirtual 151, 3) := by decide +kernel
theorem dX8_link_24 : decode cX8_link 24 = .ok (.iload_n 2, 1) := by decide +kernel
theorem dX8_link_25 : decode cX8_link 25 = .ok (.tableswitch 75 3 7 #[35, 42, 56, 63, 69], 35) := by decide +kernel
theorem dX8_link_60 : decode cX8_link 60 = .ok (.aload_n 0, 1) := by decide +kernel
theorem dX8_link_61 : decode cX8_link 61 = .ok (.getfield 25, 3) := by decide +kernel
theorem dX8_link_64 : decode cX8_link 64 = .ok (.iload_n 1, 1) := by decide +kernel
theorem dX8_link_65 : decode cX8_link 65 = .ok (.iaload, 1) := by decide +kernel
theorem dX8_link_66 : decode cX8_link 66 = .ok (.ireturn, 1) := by decide +kernel
theorem dX8_link_67 : decode cX8_link 67 = .ok (.aload_n 0, 1) := by decide +kernel
theorem dX8_link_68 : decode cX8_link 68 = .ok (.iload_n 1, 1) := by decide +kernel
theorem dX8_link_69 : decode cX8_link 69 = .ok (.invokevirtual 124, 3) := by decide +kernel
theorem dX8_link_72 : decode cX8_link 72 = .ok (.ifCond .eq 7, 3) := by decide +kernel
theorem dX8_link_75 : decode cX8_link 75 = .ok (.iconst 1, 1) := by decide +kernel
theorem dX8_link_76 : decode cX8_link 76 = .ok (.goto 4, 3) := by decide +kernel
theorem dX8_link_79 : decode cX8_link 79 = .ok (.iconst 0, 1) := by decide +kernel
theorem dX8_link_80 : decode cX8_link 80 = .ok (.ireturn, 1) := by decide +kernel
theorem dX8_link_81 : decode cX8_link 81 = .ok (.aload_n 0, 1) := by decide +kernel
theorem dX8_link_82 : decode cX8_link 82 = .ok (.getfield 43, 3) := by decide +kernel
theorem dX8_link_85 : decode cX8_link 85 = .ok (.iload_n 1, 1) := by decide +kernel
theorem dX8_link_86 : decode cX8_link 86 = .ok (.iaload, 1) := by decide +kernel
theorem dX8_link_87 : decode cX8_link 87 = .ok (.ireturn, 1) := by decide +kernel
theorem dX8_link_88 : decode cX8_link 88 = .ok (.aload_n 0, 1) := by decide +kernel
theorem dX8_link_89 : decode cX8_link 89 = .ok (.iload_n 1, 1) := by decide +kernel
theorem dX8_link_90 : decode cX8_link 90 = .ok (.invokevirtual 154, 3) := by decide +kernel
theorem dX8_link_93 : decode cX8_link 93 = .ok (.ireturn, 1) := by decide +kernel
theorem dX8_link_94 : decode cX8_link 94 = .ok (.aload_n 0, 1) := by decide +kernel
theorem dX8_link_95 : decode cX8_link 95 = .ok (.iload_n 1, 1) := by decide +kernel
theorem dX8_link_96 : decode cX8_link 96 = .ok (.invokevirtual 205, 3) := by decide +kernel
theorem dX8_link_99 : decode cX8_link 99 = .ok (.ireturn, 1) := by decide +kernel
theorem dX8_link_100 : decode cX8_link 100 = .ok (.aload_n 0, 1) := by decide +kernel
theorem dX8_link_101 : decode cX8_link 101 = .ok (.getfield 19, 3) := by decide +kernel
theorem dX8_link_104 : decode cX8_link 104 = .ok (.iconst 4, 1) := by decide +kernel
theorem dX8_link_105 : decode cX8_link 105 = .ok (.iload_n 1, 1) := by decide +kernel
theorem dX8_link_106 : decode cX8_link 106 = .ok (.imul, 1) := by decide +kernel
theorem dX8_link_107 : decode cX8_link 107 = .ok (.iload_n 2, 1) := by decide +kernel
theorem dX8_link_108 : decode cX8_link 108 = .ok (.iadd, 1) := by decide +kernel
theorem dX8_link_109 : decode cX8_link 109 = .ok (.iaload, 1) := by decide +kernel
theorem dX8_link_110 : decode cX8_link 110 = .ok (.ireturn, 1) := by decide +kernel
theorem dX8_far_0 : decode cX8_far 0 = .ok (.aload_n 0, 1) := by decide +kernel
theorem dX8_far_1 : decode cX8_far 1 = .ok (.iload_n 1, 1) := by decide +kernel
theorem dX8_far_2 : decode cX8_far 2 = .ok (.invokevirtual 189, 3) := by decide +kernel
theorem dX8_far_5 : decode cX8_far 5 = .ok (.ifCond .eq 11, 3) := by decide +kernel
theorem dX8_far_8 : decode cX8_far 8 = .ok (.aload_n 0, 1) := by decide +kernel
theorem dX8_far_9 : decode cX8_far 9 = .ok (.iload_n 2, 1) := by decide +kernel
theorem dX8_far_10 : decode cX8_far 10 = .ok (.invokevirtual 189, 3) := by decide +kernel
theorem dX8_far_13 : decode cX8_far 13 = .ok (.ifCond .ne 5, 3) := by decide +kernel
theorem dX8_far_16 : decode cX8_far 16 = .ok (.iconst (-1), 1) := by decide +kernel
theorem dX8_far_17 : decode cX8_far 17 = .ok (.ireturn, 1) := by decide +kernel
theorem dX8_far_18 : decode cX8_far 18 = .ok (.aload_n 0, 1) := by decide +kernel
theorem dX8_far_19 : decode cX8_far 19 = .ok (.iload_n 2, 1) := by decide +kernel
theorem dX8_far_20 : decode cX8_far 20 = .ok (.invokevirtual 133, 3) := by decide +kernel
theorem dX8_far_23 : decode cX8_far 23 = .ok (.aload_n 0, 1) := by decide +kernel
theorem dX8_far_24 : decode cX8_far 24 = .ok (.getfield 34, 3) := by decide +kernel
theorem dX8_far_27 : decode cX8_far 27 = .ok (.iload_n 1, 1) := by decide +kernel
theorem dX8_far_28 : decode cX8_far 28 = .ok (.iaload, 1) := by decide +kernel
theorem dX8_far_29 : decode cX8_far 29 = .ok (.ireturn, 1) := by decide +kernel
theorem dX8_share_0 : decode cX8_share 0 = .ok (.iload_n 1, 1) := by decide +kernel
theorem dX8_share_1 : decode cX8_share 1 = .ok (.iconst 0, 1) := by decide +kernel
theorem dX8_share_2 : decode cX8_share 2 = .ok (.aload_n 0, 1) := by decide +kernel
theorem dX8_share_3 : decode cX8_share 3 = .ok (.getfield 80, 3) := by decide +kernel
theorem dX8_share_6 : decode cX8_share 6 = .ok (.iconst 1, 1) := by decide +kernel
theorem dX8_share_7 : decode cX8_share 7 = .ok (.isub, 1) := by decide +kernel
theorem dX8_share_8 : decode cX8_share 8 = .ok (.invokestatic 96, 3) := by decide +kernel
theorem dX8_share_11 : decode cX8_share 11 = .ok (.ifCond .eq 11, 3) := by decide +kernel
theorem dX8_share_14 : decode cX8_share 14 = .ok (.aload_n 0, 1) := by decide +kernel
theorem dX8_share_15 : decode cX8_share 15 = .ok (.iload_n 2, 1) := by decide +kernel
theorem dX8_share_16 : decode cX8_share 16 = .ok (.invokevirtual 180, 3) := by decide +kernel
theorem dX8_share_19 : decode cX8_share 19 = .ok (.ifCond .ne 5, 3) := by decide +kernel
theorem dX8_share_22 : decode cX8_share 22 = .ok (.iconst (-1), 1) := by decide +kernel
theorem dX8_share_23 : decode cX8_share 23 = .ok (.ireturn, 1) := by decide +kernel
theorem dX8_share_24 : decode cX8_share 24 = .ok (.aload_n 0, 1) := by decide +kernel
theorem dX8_share_25 : decode cX8_share 25 = .ok (.iload_n 1, 1) := by decide +kernel
theorem dX8_share_26 : decode cX8_share 26 = .ok (.invokevirtual 143, 3) := by decide +kernel
theorem dX8_share_29 : decode cX8_share 29 = .ok (.ifCond .eq 12, 3) := by decide +kernel
theorem dX8_share_32 : decode cX8_share 32 = .ok (.aload_n 0, 1) := by decide +kernel
theorem dX8_share_33 : decode cX8_share 33 = .ok (.getfield 37, 3) := by decide +kernel
theorem dX8_share_36 : decode cX8_share 36 = .ok (.iload_n 2, 1) := by decide +kernel
theorem dX8_share_37 : decode cX8_share 37 = .ok (.iaload, 1) := by decide +kernel
theorem dX8_share_38 : decode cX8_share 38 = .ok (.goto 4, 3) := by decide +kernel
theorem dX8_share_41 : decode cX8_share 41 = .ok (.iconst 0, 1) := by decide +kernel
theorem dX8_share_42 : decode cX8_share 42 = .ok (.ireturn, 1) := by decide +kernel
theorem dX8_cost_0 : decode cX8_cost 0 = .ok (.aload_n 0, 1) := by decide +kernel
theorem dX8_cost_1 : decode cX8_cost 1 = .ok (.invokevirtual 83, 3) := by decide +kernel
theorem dX8_cost_4 : decode cX8_cost 4 = .ok (.ireturn, 1) := by decide +kernel
theorem dX8_tabu_0 : decode cX8_tabu 0 = .ok (.aload_n 0, 1) := by decide +kernel
theorem dX8_tabu_1 : decode cX8_tabu 1 = .ok (.iload_n 1, 1) := by decide +kernel
theorem dX8_tabu_2 : decode cX8_tabu 2 = .ok (.invokevirtual 180, 3) := by decide +kernel
theorem dX8_tabu_5 : decode cX8_tabu 5 = .ok (.ifCond .eq 13, 3) := by decide +kernel
theorem dX8_tabu_8 : decode cX8_tabu 8 = .ok (.iload_n 2, 1) := by decide +kernel
theorem dX8_tabu_9 : decode cX8_tabu 9 = .ok (.iconst 1, 1) := by decide +kernel
theorem dX8_tabu_10 : decode cX8_tabu 10 = .ok (.bipush 20, 2) := by decide +kernel
theorem dX8_tabu_12 : decode cX8_tabu 12 = .ok (.invokestatic 96, 3) := by decide +kernel
theorem dX8_tabu_15 : decode cX8_tabu 15 = .ok (.ifCond .ne 5, 3) := by decide +kernel
theorem dX8_tabu_18 : decode cX8_tabu 18 = .ok (.iconst (-1), 1) := by decide +kernel
theorem dX8_tabu_19 : decode cX8_tabu 19 = .ok (.ireturn, 1) := by decide +kernel
theorem dX8_tabu_20 : decode cX8_tabu 20 = .ok (.aload_n 0, 1) := by decide +kernel
theorem dX8_tabu_21 : decode cX8_tabu 21 = .ok (.iload_n 1, 1) := by decide +kernel
theorem dX8_tabu_22 : decode cX8_tabu 22 = .ok (.iload_n 2, 1) := by decide +kernel
theorem dX8_tabu_23 : decode cX8_tabu 23 = .ok (.invokevirtual 173, 3) := by decide +kernel
theorem dX8_tabu_26 : decode cX8_tabu 26 = .ok (.ifCond .eq 7, 3) := by decide +kernel
theorem dX8_tabu_29 : decode cX8_tabu 29 = .ok (.iconst 1, 1) := by decide +kernel
theorem dX8_tabu_30 : decode cX8_tabu 30 = .ok (.goto 4, 3) := by decide +kernel
theorem dX8_tabu_33 : decode cX8_tabu 33 = .ok (.iconst 0, 1) := by decide +kernel
theorem dX8_tabu_34 : decode cX8_tabu 34 = .ok (.ireturn, 1) := by decide +kernel
theorem dX8_bestOf_0 : decode cX8_bestOf 0 = .ok (.iload_n 1, 1) := by decide +kernel
theorem dX8_bestOf_1 : decode cX8_bestOf 1 = .ok (.ifCond .ne 10, 3) := by decide +kernel
theorem dX8_bestOf_4 : decode cX8_bestOf 4 = .ok (.aload_n 0, 1) := by decide +kernel
theorem dX8_bestOf_5 : decode cX8_bestOf 5 = .ok (.getfield 163, 3) := by decide +kernel
theorem dX8_bestOf_8 : decode cX8_bestOf 8 = .ok (.goto 19, 3) := by decide +kernel
theorem dX8_bestOf_11 : decode cX8_bestOf 11 = .ok (.iload_n 1, 1) := by decide +kernel
theorem dX8_bestOf_12 : decode cX8_bestOf 12 = .ok (.iconst 1, 1) := by decide +kernel
theorem dX8_bestOf_13 : decode cX8_bestOf 13 = .ok (.if_icmp .ne 10, 3) := by decide +kernel
theorem dX8_bestOf_16 : decode cX8_bestOf 16 = .ok (.aload_n 0, 1) := by decide +kernel
theorem dX8_bestOf_17 : decode cX8_bestOf 17 = .ok (.getfield 177, 3) := by decide +kernel
theorem dX8_bestOf_20 : decode cX8_bestOf 20 = .ok (.goto 7, 3) := by decide +kernel
theorem dX8_bestOf_23 : decode cX8_bestOf 23 = .ok (.aload_n 0, 1) := by decide +kernel
theorem dX8_bestOf_24 : decode cX8_bestOf 24 = .ok (.getfield 166, 3) := by decide +kernel
theorem dX8_bestOf_27 : decode cX8_bestOf 27 = .ok (.ireturn, 1) := by decide +kernel
theorem dX8_best_0 : decode cX8_best 0 = .ok (.iload_n 1, 1) := by decide +kernel
theorem dX8_best_1 : decode cX8_best 1 = .ok (.iconst 0, 1) := by decide +kernel
theorem dX8_best_2 : decode cX8_best 2 = .ok (.iconst 2, 1) := by decide +kernel
theorem dX8_best_3 : decode cX8_best 3 = .ok (.invokestatic 96, 3) := by decide +kernel
theorem dX8_best_6 : decode cX8_best 6 = .ok (.ifCond .ne 5, 3) := by decide +kernel
theorem dX8_best_9 : decode cX8_best 9 = .ok (.iconst (-1), 1) := by decide +kernel
theorem dX8_best_10 : decode cX8_best 10 = .ok (.ireturn, 1) := by decide +kernel
theorem dX8_best_11 : decode cX8_best 11 = .ok (.aload_n 0, 1) := by decide +kernel
theorem dX8_best_12 : decode cX8_best 12 = .ok (.bipush (-4), 2) := by decide +kernel
theorem dX8_best_14 : decode cX8_best 14 = .ok (.iconst 1, 1) := by decide +kernel
theorem dX8_best_15 : decode cX8_best 15 = .ok (.invokevirtual 195, 3) := by decide +kernel
theorem dX8_best_18 : decode cX8_best 18 = .ok (.istore_n 2, 1) := by decide +kernel
theorem dX8_best_19 : decode cX8_best 19 = .ok (.iload_n 2, 1) := by decide +kernel
theorem dX8_best_20 : decode cX8_best 20 = .ok (.ifCond .eq 11, 3) := by decide +kernel
theorem dX8_best_23 : decode cX8_best 23 = .ok (.aload_n 0, 1) := by decide +kernel
theorem dX8_best_24 : decode cX8_best 24 = .ok (.iload_n 1, 1) := by decide +kernel
theorem dX8_best_25 : decode cX8_best 25 = .ok (.invokevirtual 208, 3) := by decide +kernel
theorem dX8_best_28 : decode cX8_best 28 = .ok (.goto 5, 3) := by decide +kernel
theorem dX8_best_31 : decode cX8_best 31 = .ok (.bipush (-4), 2) := by decide +kernel
theorem dX8_best_33 : decode cX8_best 33 = .ok (.ireturn, 1) := by decide +kernel
theorem dX8_worst_0 : decode cX8_worst 0 = .ok (.iload_n 1, 1) := by decide +kernel
theorem dX8_worst_1 : decode cX8_worst 1 = .ok (.iconst 0, 1) := by decide +kernel
theorem dX8_worst_2 : decode cX8_worst 2 = .ok (.iconst 1, 1) := by decide +kernel
theorem dX8_worst_3 : decode cX8_worst 3 = .ok (.invokestatic 96, 3) := by decide +kernel
theorem dX8_worst_6 : decode cX8_worst 6 = .ok (.ifCond .ne 5, 3) := by decide +kernel
theorem dX8_worst_9 : decode cX8_worst 9 = .ok (.iconst (-1), 1) := by decide +kernel
theorem dX8_worst_10 : decode cX8_worst 10 = .ok (.ireturn, 1) := by decide +kernel
theorem dX8_worst_11 : decode cX8_worst 11 = .ok (.bipush (-4), 2) := by decide +kernel
theorem dX8_worst_13 : decode cX8_worst 13 = .ok (.istore_n 2, 1) := by decide +kernel
theorem dX8_worst_14 : decode cX8_worst 14 = .ok (.bipush (-4), 2) := by decide +kernel
theorem dX8_worst_16 : decode cX8_worst 16 = .ok (.istore_n 3, 1) := by decide +kernel
theorem dX8_worst_17 : decode cX8_worst 17 = .ok (.iconst 0, 1) := by decide +kernel
theorem dX8_worst_18 : decode cX8_worst 18 = .ok (.istore 4, 2) := by decide +kernel
theorem dX8_worst_20 : decode cX8_worst 20 = .ok (.iload 4, 2) := by decide +kernel
theorem dX8_worst_22 : decode cX8_worst 22 = .ok (.aload_n 0, 1) := by decide +kernel
theorem dX8_worst_23 : decode cX8_worst 23 = .ok (.getfield 77, 3) := by decide +kernel
theorem dX8_worst_26 : decode cX8_worst 26 = .ok (.if_icmp .ge 57, 3) := by decide +kernel
theorem dX8_worst_29 : decode cX8_worst 29 = .ok (.aload_n 0, 1) := by decide +kernel
theorem dX8_worst_30 : decode cX8_worst 30 = .ok (.iload 4, 2) := by decide +kernel
theorem dX8_worst_32 : decode cX8_worst 32 = .ok (.invokevirtual 124, 3) := by decide +kernel
theorem dX8_worst_35 : decode cX8_worst 35 = .ok (.ifCond .eq 12, 3) := by decide +kernel
theorem dX8_worst_38 : decode cX8_worst 38 = .ok (.aload_n 0, 1) := by decide +kernel
theorem dX8_worst_39 : decode cX8_worst 39 = .ok (.iload 4, 2) := by decide +kernel
theorem dX8_worst_41 : decode cX8_worst 41 = .ok (.invokevirtual 211, 3) := by decide +kernel
theorem dX8_worst_44 : decode cX8_worst 44 = .ok (.goto 5, 3) := by decide +kernel
theorem dX8_worst_47 : decode cX8_worst 47 = .ok (.bipush (-4), 2) := by decide +kernel
theorem dX8_worst_49 : decode cX8_worst 49 = .ok (.istore 5, 2) := by decide +kernel
theorem dX8_worst_51 : decode cX8_worst 51 = .ok (.iload 5, 2) := by decide +kernel
theorem dX8_worst_53 : decode cX8_worst 53 = .ok (.iload_n 3, 1) := by decide +kernel
theorem dX8_worst_54 : decode cX8_worst 54 = .ok (.if_icmp .le 8, 3) := by decide +kernel
theorem dX8_worst_57 : decode cX8_worst 57 = .ok (.iload 4, 2) := by decide +kernel
theorem dX8_worst_59 : decode cX8_worst 59 = .ok (.goto 4, 3) := by decide +kernel
theorem dX8_worst_62 : decode cX8_worst 62 = .ok (.iload_n 2, 1) := by decide +kernel
theorem dX8_worst_63 : decode cX8_worst 63 = .ok (.istore_n 2, 1) := by decide +kernel
theorem dX8_worst_64 : decode cX8_worst 64 = .ok (.iload 5, 2) := by decide +kernel
theorem dX8_worst_66 : decode cX8_worst 66 = .ok (.iload_n 3, 1) := by decide +kernel
theorem dX8_worst_67 : decode cX8_worst 67 = .ok (.if_icmp .le 8, 3) := by decide +kernel
theorem dX8_worst_70 : decode cX8_worst 70 = .ok (.iload 5, 2) := by decide +kernel
theorem dX8_worst_72 : decode cX8_worst 72 = .ok (.goto 4, 3) := by decide +kernel
theorem dX8_worst_75 : decode cX8_worst 75 = .ok (.iload_n 3, 1) := by decide +kernel
theorem dX8_worst_76 : decode cX8_worst 76 = .ok (.istore_n 3, 1) := by decide +kernel
theorem dX8_worst_77 : decode cX8_worst 77 = .ok (.iinc 4 1, 3) := by decide +kernel
theorem dX8_worst_80 : decode cX8_worst 80 = .ok (.goto (-60), 3) := by decide +kernel
theorem dX8_worst_83 : decode cX8_worst 83 = .ok (.iload_n 1, 1) := by decide +kernel
theorem dX8_worst_84 : decode cX8_worst 84 = .ok (.ifCond .ne 7, 3) := by decide +kernel
theorem dX8_worst_87 : decode cX8_worst 87 = .ok (.iload_n 2, 1) := by decide +kernel
theorem dX8_worst_88 : decode cX8_worst 88 = .ok (.goto 4, 3) := by decide +kernel
theorem dX8_worst_91 : decode cX8_worst 91 = .ok (.iload_n 3, 1) := by decide +kernel
theorem dX8_worst_92 : decode cX8_worst 92 = .ok (.ireturn, 1) := by decide +kernel
theorem dX8_rescue_0 : decode cX8_rescue 0 = .ok (.aload_n 0, 1) := by decide +kernel
theorem dX8_rescue_1 : decode cX8_rescue 1 = .ok (.iload_n 1, 1) := by decide +kernel
theorem dX8_rescue_2 : decode cX8_rescue 2 = .ok (.invokevirtual 180, 3) := by decide +kernel
theorem dX8_rescue_5 : decode cX8_rescue 5 = .ok (.ifCond .eq 12, 3) := by decide +kernel
theorem dX8_rescue_8 : decode cX8_rescue 8 = .ok (.iload_n 2, 1) := by decide +kernel
theorem dX8_rescue_9 : decode cX8_rescue 9 = .ok (.iconst 0, 1) := by decide +kernel
theorem dX8_rescue_10 : decode cX8_rescue 10 = .ok (.iconst 2, 1) := by decide +kernel
theorem dX8_rescue_11 : decode cX8_rescue 11 = .ok (.invokestatic 96, 3) := by decide +kernel
theorem dX8_rescue_14 : decode cX8_rescue 14 = .ok (.ifCond .ne 5, 3) := by decide +kernel
theorem dX8_rescue_17 : decode cX8_rescue 17 = .ok (.iconst (-1), 1) := by decide +kernel
theorem dX8_rescue_18 : decode cX8_rescue 18 = .ok (.ireturn, 1) := by decide +kernel
theorem dX8_rescue_19 : decode cX8_rescue 19 = .ok (.aload_n 0, 1) := by decide +kernel
theorem dX8_rescue_20 : decode cX8_rescue 20 = .ok (.iload_n 1, 1) := by decide +kernel
theorem dX8_rescue_21 : decode cX8_rescue 21 = .ok (.invokevirtual 124, 3) := by decide +kernel
theorem dX8_rescue_24 : decode cX8_rescue 24 = .ok (.ifCond .ne 6, 3) := by decide +kernel
theorem dX8_rescue_27 : decode cX8_rescue 27 = .ok (.bipush (-2), 2) := by decide +kernel
theorem dX8_rescue_29 : decode cX8_rescue 29 = .ok (.ireturn, 1) := by decide +kernel
theorem dX8_rescue_30 : decode cX8_rescue 30 = .ok (.aload_n 0, 1) := by decide +kernel
theorem dX8_rescue_31 : decode cX8_rescue 31 = .ok (.getfield 25, 3) := by decide +kernel
theorem dX8_rescue_34 : decode cX8_rescue 34 = .ok (.bipush 12, 2) := by decide +kernel
theorem dX8_rescue_36 : decode cX8_rescue 36 = .ok (.dup2, 1) := by decide +kernel
theorem dX8_rescue_37 : decode cX8_rescue 37 = .ok (.iaload, 1) := by decide +kernel
theorem dX8_rescue_38 : decode cX8_rescue 38 = .ok (.iconst 1, 1) := by decide +kernel
theorem dX8_rescue_39 : decode cX8_rescue 39 = .ok (.iload_n 1, 1) := by decide +kernel
theorem dX8_rescue_40 : decode cX8_rescue 40 = .ok (.ishl, 1) := by decide +kernel
theorem dX8_rescue_41 : decode cX8_rescue 41 = .ok (.ixor, 1) := by decide +kernel
theorem dX8_rescue_42 : decode cX8_rescue 42 = .ok (.iastore, 1) := by decide +kernel
theorem dX8_rescue_43 : decode cX8_rescue 43 = .ok (.aload_n 0, 1) := by decide +kernel
theorem dX8_rescue_44 : decode cX8_rescue 44 = .ok (.invokevirtual 83, 3) := by decide +kernel
theorem dX8_rescue_47 : decode cX8_rescue 47 = .ok (.istore_n 3, 1) := by decide +kernel
theorem dX8_rescue_48 : decode cX8_rescue 48 = .ok (.aload_n 0, 1) := by decide +kernel
theorem dX8_rescue_49 : decode cX8_rescue 49 = .ok (.iload_n 1, 1) := by decide +kernel
theorem dX8_rescue_50 : decode cX8_rescue 50 = .ok (.iconst 1, 1) := by decide +kernel
theorem dX8_rescue_51 : decode cX8_rescue 51 = .ok (.invokevirtual 195, 3) := by decide +kernel
theorem dX8_rescue_54 : decode cX8_rescue 54 = .ok (.ifCond .eq 15, 3) := by decide +kernel
theorem dX8_rescue_57 : decode cX8_rescue 57 = .ok (.aload_n 0, 1) := by decide +kernel
theorem dX8_rescue_58 : decode cX8_rescue 58 = .ok (.getfield 166, 3) := by decide +kernel
theorem dX8_rescue_61 : decode cX8_rescue 61 = .ok (.iload_n 3, 1) := by decide +kernel
theorem dX8_rescue_62 : decode cX8_rescue 62 = .ok (.if_icmp .ge 7, 3) := by decide +kernel
theorem dX8_rescue_65 : decode cX8_rescue 65 = .ok (.iconst 1, 1) := by decide +kernel
theorem dX8_rescue_66 : decode cX8_rescue 66 = .ok (.goto 4, 3) := by decide +kernel
theorem dX8_rescue_69 : decode cX8_rescue 69 = .ok (.iconst 0, 1) := by decide +kernel
theorem dX8_rescue_70 : decode cX8_rescue 70 = .ok (.istore 4, 2) := by decide +kernel
theorem dX8_rescue_72 : decode cX8_rescue 72 = .ok (.aload_n 0, 1) := by decide +kernel
theorem dX8_rescue_73 : decode cX8_rescue 73 = .ok (.getfield 25, 3) := by decide +kernel
theorem dX8_rescue_76 : decode cX8_rescue 76 = .ok (.bipush 12, 2) := by decide +kernel
theorem dX8_rescue_78 : decode cX8_rescue 78 = .ok (.dup2, 1) := by decide +kernel
theorem dX8_rescue_79 : decode cX8_rescue 79 = .ok (.iaload, 1) := by decide +kernel
theorem dX8_rescue_80 : decode cX8_rescue 80 = .ok (.iconst 1, 1) := by decide +kernel
theorem dX8_rescue_81 : decode cX8_rescue 81 = .ok (.iload_n 1, 1) := by decide +kernel
theorem dX8_rescue_82 : decode cX8_rescue 82 = .ok (.ishl, 1) := by decide +kernel
theorem dX8_rescue_83 : decode cX8_rescue 83 = .ok (.ixor, 1) := by decide +kernel
theorem dX8_rescue_84 : decode cX8_rescue 84 = .ok (.iastore, 1) := by decide +kernel
theorem dX8_rescue_85 : decode cX8_rescue 85 = .ok (.iload 4, 2) := by decide +kernel
theorem dX8_rescue_87 : decode cX8_rescue 87 = .ok (.ifCond .eq 11, 3) := by decide +kernel
theorem dX8_rescue_90 : decode cX8_rescue 90 = .ok (.aload_n 0, 1) := by decide +kernel
theorem dX8_rescue_91 : decode cX8_rescue 91 = .ok (.iload_n 2, 1) := by decide +kernel
theorem dX8_rescue_92 : decode cX8_rescue 92 = .ok (.invokevirtual 208, 3) := by decide +kernel
theorem dX8_rescue_95 : decode cX8_rescue 95 = .ok (.goto 5, 3) := by decide +kernel
theorem dX8_rescue_98 : decode cX8_rescue 98 = .ok (.bipush (-4), 2) := by decide +kernel
theorem dX8_rescue_100 : decode cX8_rescue 100 = .ok (.ireturn, 1) := by decide +kernel
theorem dX8_moreThanFull_0 : decode cX8_moreThanFull 0 = .ok (.aload_n 0, 1) := by decide +kernel
theorem dX8_moreThanFull_1 : decode cX8_moreThanFull 1 = .ok (.invokevirtual 151, 3) := by decide +kernel
theorem dX8_moreThanFull_4 : decode cX8_moreThanFull 4 = .ok (.iconst 0, 1) := by decide +kernel
theorem dX8_moreThanFull_5 : decode cX8_moreThanFull 5 = .ok (.istore_n 1, 1) := by decide +kernel
theorem dX8_moreThanFull_6 : decode cX8_moreThanFull 6 = .ok (.iconst 0, 1) := by decide +kernel
theorem dX8_moreThanFull_7 : decode cX8_moreThanFull 7 = .ok (.istore_n 2, 1) := by decide +kernel
theorem dX8_moreThanFull_8 : decode cX8_moreThanFull 8 = .ok (.iload_n 2, 1) := by decide +kernel
theorem dX8_moreThanFull_9 : decode cX8_moreThanFull 9 = .ok (.aload_n 0, 1) := by decide +kernel
theorem dX8_moreThanFull_10 : decode cX8_moreThanFull 10 = .ok (.getfield 77, 3) := by decide +kernel
theorem dX8_moreThanFull_13 : decode cX8_moreThanFull 13 = .ok (.if_icmp .ge 39, 3) := by decide +kernel
theorem dX8_moreThanFull_16 : decode cX8_moreThanFull 16 = .ok (.iload_n 1, 1) := by decide +kernel
theorem dX8_moreThanFull_17 : decode cX8_moreThanFull 17 = .ok (.aload_n 0, 1) := by decide +kernel
theorem dX8_moreThanFull_18 : decode cX8_moreThanFull 18 = .ok (.getfield 43, 3) := by decide +kernel
theorem dX8_moreThanFull_21 : decode cX8_moreThanFull 21 = .ok (.iload_n 2, 1) := by decide +kernel
theorem dX8_moreThanFull_22 : decode cX8_moreThanFull 22 = .ok (.iaload, 1) := by decide +kernel
theorem dX8_moreThanFull_23 : decode cX8_moreThanFull 23 = .ok (.bipush 12, 2) := by decide +kernel
theorem dX8_moreThanFull_25 : decode cX8_moreThanFull 25 = .ok (.aload_n 0, 1) := by decide +kernel
theorem dX8_moreThanFull_26 : decode cX8_moreThanFull 26 = .ok (.getfield 19, 3) := by decide +kernel
theorem dX8_moreThanFull_29 : decode cX8_moreThanFull 29 = .ok (.iconst 4, 1) := by decide +kernel
theorem dX8_moreThanFull_30 : decode cX8_moreThanFull 30 = .ok (.iload_n 2, 1) := by decide +kernel
theorem dX8_moreThanFull_31 : decode cX8_moreThanFull 31 = .ok (.imul, 1) := by decide +kernel
theorem dX8_moreThanFull_32 : decode cX8_moreThanFull 32 = .ok (.iconst 2, 1) := by decide +kernel
theorem dX8_moreThanFull_33 : decode cX8_moreThanFull 33 = .ok (.iadd, 1) := by decide +kernel
theorem dX8_moreThanFull_34 : decode cX8_moreThanFull 34 = .ok (.iaload, 1) := by decide +kernel
theorem dX8_moreThanFull_35 : decode cX8_moreThanFull 35 = .ok (.imul, 1) := by decide +kernel
theorem dX8_moreThanFull_36 : decode cX8_moreThanFull 36 = .ok (.if_icmp .le 7, 3) := by decide +kernel
theorem dX8_moreThanFull_39 : decode cX8_moreThanFull 39 = .ok (.iconst 1, 1) := by decide +kernel
theorem dX8_moreThanFull_40 : decode cX8_moreThanFull 40 = .ok (.goto 4, 3) := by decide +kernel
theorem dX8_moreThanFull_43 : decode cX8_moreThanFull 43 = .ok (.iconst 0, 1) := by decide +kernel
theorem dX8_moreThanFull_44 : decode cX8_moreThanFull 44 = .ok (.iadd, 1) := by decide +kernel
theorem dX8_moreThanFull_45 : decode cX8_moreThanFull 45 = .ok (.istore_n 1, 1) := by decide +kernel
theorem dX8_moreThanFull_46 : decode cX8_moreThanFull 46 = .ok (.iinc 2 1, 3) := by decide +kernel
theorem dX8_moreThanFull_49 : decode cX8_moreThanFull 49 = .ok (.goto (-41), 3) := by decide +kernel
theorem dX8_moreThanFull_52 : decode cX8_moreThanFull 52 = .ok (.iload_n 1, 1) := by decide +kernel
theorem dX8_moreThanFull_53 : decode cX8_moreThanFull 53 = .ok (.ireturn, 1) := by decide +kernel
theorem dX8_ones_0 : decode cX8_ones 0 = .ok (.iconst 0, 1) := by decide +kernel
theorem dX8_ones_1 : decode cX8_ones 1 = .ok (.istore_n 1, 1) := by decide +kernel
theorem dX8_ones_2 : decode cX8_ones 2 = .ok (.iconst 0, 1) := by decide +kernel
theorem dX8_ones_3 : decode cX8_ones 3 = .ok (.istore_n 2, 1) := by decide +kernel
theorem dX8_ones_4 : decode cX8_ones 4 = .ok (.iload_n 2, 1) := by decide +kernel
theorem dX8_ones_5 : decode cX8_ones 5 = .ok (.bipush 12, 2) := by decide +kernel
theorem dX8_ones_7 : decode cX8_ones 7 = .ok (.if_icmp .ge 17, 3) := by decide +kernel
theorem dX8_ones_10 : decode cX8_ones 10 = .ok (.iload_n 1, 1) := by decide +kernel
theorem dX8_ones_11 : decode cX8_ones 11 = .ok (.iload_n 0, 1) := by decide +kernel
theorem dX8_ones_12 : decode cX8_ones 12 = .ok (.iload_n 2, 1) := by decide +kernel
theorem dX8_ones_13 : decode cX8_ones 13 = .ok (.ishr, 1) := by decide +kernel
theorem dX8_ones_14 : decode cX8_ones 14 = .ok (.iconst 1, 1) := by decide +kernel
theorem dX8_ones_15 : decode cX8_ones 15 = .ok (.iand, 1) := by decide +kernel
theorem dX8_ones_16 : decode cX8_ones 16 = .ok (.iadd, 1) := by decide +kernel
theorem dX8_ones_17 : decode cX8_ones 17 = .ok (.istore_n 1, 1) := by decide +kernel
theorem dX8_ones_18 : decode cX8_ones 18 = .ok (.iinc 2 1, 3) := by decide +kernel
theorem dX8_ones_21 : decode cX8_ones 21 = .ok (.goto (-17), 3) := by decide +kernel
theorem dX8_ones_24 : decode cX8_ones 24 = .ok (.iload_n 1, 1) := by decide +kernel
theorem dX8_ones_25 : decode cX8_ones 25 = .ok (.ireturn, 1) := by decide +kernel
theorem dX8_count_0 : decode cX8_count 0 = .ok (.aload_n 0, 1) := by decide +kernel
theorem dX8_count_1 : decode cX8_count 1 = .ok (.invokevirtual 151, 3) := by decide +kernel
theorem dX8_count_4 : decode cX8_count 4 = .ok (.iload_n 1, 1) := by decide +kernel
theorem dX8_count_5 : decode cX8_count 5 = .ok (.tableswitch 134 0 10 #[59, 64, 69, 74, 90, 98, 103, 111, 116, 124, 129], 59) := by decide +kernel
theorem dX8_count_64 : decode cX8_count 64 = .ok (.aload_n 0, 1) := by decide +kernel
theorem dX8_count_65 : decode cX8_count 65 = .ok (.getfield 74, 3) := by decide +kernel
theorem dX8_count_68 : decode cX8_count 68 = .ok (.ireturn, 1) := by decide +kernel
theorem dX8_count_69 : decode cX8_count 69 = .ok (.aload_n 0, 1) := by decide +kernel
theorem dX8_count_70 : decode cX8_count 70 = .ok (.getfield 77, 3) := by decide +kernel
theorem dX8_count_73 : decode cX8_count 73 = .ok (.ireturn, 1) := by decide +kernel
theorem dX8_count_74 : decode cX8_count 74 = .ok (.aload_n 0, 1) := by decide +kernel
theorem dX8_count_75 : decode cX8_count 75 = .ok (.getfield 80, 3) := by decide +kernel
theorem dX8_count_78 : decode cX8_count 78 = .ok (.ireturn, 1) := by decide +kernel
theorem dX8_count_79 : decode cX8_count 79 = .ok (.aload_n 0, 1) := by decide +kernel
theorem dX8_count_80 : decode cX8_count 80 = .ok (.getfield 77, 3) := by decide +kernel
theorem dX8_count_83 : decode cX8_count 83 = .ok (.aload_n 0, 1) := by decide +kernel
theorem dX8_count_84 : decode cX8_count 84 = .ok (.getfield 25, 3) := by decide +kernel
theorem dX8_count_87 : decode cX8_count 87 = .ok (.bipush 12, 2) := by decide +kernel
theorem dX8_count_89 : decode cX8_count 89 = .ok (.iaload, 1) := by decide +kernel
theorem dX8_count_90 : decode cX8_count 90 = .ok (.invokestatic 214, 3) := by decide +kernel
theorem dX8_count_93 : decode cX8_count 93 = .ok (.isub, 1) := by decide +kernel
theorem dX8_count_94 : decode cX8_count 94 = .ok (.ireturn, 1) := by decide +kernel
theorem dX8_count_95 : decode cX8_count 95 = .ok (.aload_n 0, 1) := by decide +kernel
theorem dX8_count_96 : decode cX8_count 96 = .ok (.getfield 140, 3) := by decide +kernel
theorem dX8_count_99 : decode cX8_count 99 = .ok (.invokestatic 214, 3) := by decide +kernel
theorem dX8_count_102 : decode cX8_count 102 = .ok (.ireturn, 1) := by decide +kernel
theorem dX8_count_103 : decode cX8_count 103 = .ok (.aload_n 0, 1) := by decide +kernel
theorem dX8_count_104 : decode cX8_count 104 = .ok (.invokevirtual 217, 3) := by decide +kernel
theorem dX8_count_107 : decode cX8_count 107 = .ok (.ireturn, 1) := by decide +kernel
theorem dX8_count_108 : decode cX8_count 108 = .ok (.aload_n 0, 1) := by decide +kernel
theorem dX8_count_109 : decode cX8_count 109 = .ok (.getfield 25, 3) := by decide +kernel
theorem dX8_count_112 : decode cX8_count 112 = .ok (.bipush 13, 2) := by decide +kernel
theorem dX8_count_114 : decode cX8_count 114 = .ok (.iaload, 1) := by decide +kernel
theorem dX8_count_115 : decode cX8_count 115 = .ok (.ireturn, 1) := by decide +kernel
theorem dX8_count_116 : decode cX8_count 116 = .ok (.aload_n 0, 1) := by decide +kernel
theorem dX8_count_117 : decode cX8_count 117 = .ok (.invokevirtual 157, 3) := by decide +kernel
theorem dX8_count_120 : decode cX8_count 120 = .ok (.ireturn, 1) := by decide +kernel
theorem dX8_count_121 : decode cX8_count 121 = .ok (.aload_n 0, 1) := by decide +kernel
theorem dX8_count_122 : decode cX8_count 122 = .ok (.getfield 25, 3) := by decide +kernel
theorem dX8_count_125 : decode cX8_count 125 = .ok (.bipush 14, 2) := by decide +kernel
theorem dX8_count_127 : decode cX8_count 127 = .ok (.iaload, 1) := by decide +kernel
theorem dX8_count_128 : decode cX8_count 128 = .ok (.ireturn, 1) := by decide +kernel
theorem dX8_count_129 : decode cX8_count 129 = .ok (.aload_n 0, 1) := by decide +kernel
theorem dX8_count_130 : decode cX8_count 130 = .ok (.getfield 87, 3) := by decide +kernel
theorem dX8_count_133 : decode cX8_count 133 = .ok (.ireturn, 1) := by decide +kernel
theorem dX8_count_134 : decode cX8_count 134 = .ok (.aload_n 0, 1) := by decide +kernel
theorem dX8_count_135 : decode cX8_count 135 = .ok (.getfield 93, 3) := by decide +kernel
theorem dX8_count_138 : decode cX8_count 138 = .ok (.ireturn, 1) := by decide +kernel
theorem dX8_count_139 : decode cX8_count 139 = .ok (.iconst (-1), 1) := by decide +kernel
theorem dX8_count_140 : decode cX8_count 140 = .ok (.ireturn, 1) := by decide +kernel
theorem dJ9_max_7cf53_0 : decode cJ9_max_7cf53 0 = .ok (.iload_n 0, 1) := by decide +kernel
theorem dJ9_max_7cf53_1 : decode cJ9_max_7cf53 1 = .ok (.iload_n 1, 1) := by decide +kernel
theorem dJ9_max_7cf53_2 : decode cJ9_max_7cf53 2 = .ok (.if_icmp .lt 7, 3) := by decide +kernel
theorem dJ9_max_7cf53_5 : decode cJ9_max_7cf53 5 = .ok (.iload_n 0, 1) := by decide +kernel
theorem dJ9_max_7cf53_6 : decode cJ9_max_7cf53 6 = .ok (.goto 4, 3) := by decide +kernel
theorem dJ9_max_7cf53_9 : decode cJ9_max_7cf53 9 = .ok (.iload_n 1, 1) := by decide +kernel
theorem dJ9_max_7cf53_10 : decode cJ9_max_7cf53 10 = .ok (.ireturn, 1) := by decide +kernel
theorem dJ9_min_7cf53_0 : decode cJ9_min_7cf53 0 = .ok (.iload_n 0, 1) := by decide +kernel
theorem dJ9_min_7cf53_1 : decode cJ9_min_7cf53 1 = .ok (.iload_n 1, 1) := by decide +kernel
theorem dJ9_min_7cf53_2 : decode cJ9_min_7cf53 2 = .ok (.if_icmp .gt 7, 3) := by decide +kernel
theorem dJ9_min_7cf53_5 : decode cJ9_min_7cf53 5 = .ok (.iload_n 0, 1) := by decide +kernel
theorem dJ9_min_7cf53_6 : decode cJ9_min_7cf53 6 = .ok (.goto 4, 3) := by decide +kernel
theorem dJ9_min_7cf53_9 : decode cJ9_min_7cf53 9 = .ok (.iload_n 1, 1) := by decide +kernel
theorem dJ9_min_7cf53_10 : decode cJ9_min_7cf53 10 = .ok (.ireturn, 1) := by decide +kernel
theorem dJ0_length_8abf5_0 : decode cJ0_length_8abf5 0 = .ok (.aload_n 0, 1) := by decide +kernel
theorem dJ0_length_8abf5_1 : decode cJ0_length_8abf5 1 = .ok (.getfield 9, 3) := by decide +kernel
theorem dJ0_length_8abf5_4 : decode cJ0_length_8abf5 4 = .ok (.arraylength, 1) := by decide +kernel
theorem dJ0_length_8abf5_5 : decode cJ0_length_8abf5 5 = .ok (.aload_n 0, 1) := by decide +kernel
theorem dJ0_length_8abf5_6 : decode cJ0_length_8abf5 6 = .ok (.invokevirtual 335, 3) := by decide +kernel
theorem dJ0_length_8abf5_9 : decode cJ0_length_8abf5 9 = .ok (.ishr, 1) := by decide +kernel
theorem dJ0_length_8abf5_10 : decode cJ0_length_8abf5 10 = .ok (.ireturn, 1) := by decide +kernel
theorem dJ0_charAt_5068e_0 : decode cJ0_charAt_5068e 0 = .ok (.aload_n 0, 1) := by decide +kernel
theorem dJ0_charAt_5068e_1 : decode cJ0_charAt_5068e 1 = .ok (.invokevirtual 492, 3) := by decide +kernel
theorem dJ0_charAt_5068e_4 : decode cJ0_charAt_5068e 4 = .ok (.ifCond .eq 12, 3) := by decide +kernel
theorem dJ0_charAt_5068e_7 : decode cJ0_charAt_5068e 7 = .ok (.aload_n 0, 1) := by decide +kernel
theorem dJ0_charAt_5068e_8 : decode cJ0_charAt_5068e 8 = .ok (.getfield 9, 3) := by decide +kernel
theorem dJ0_charAt_5068e_11 : decode cJ0_charAt_5068e 11 = .ok (.iload_n 1, 1) := by decide +kernel
theorem dJ0_charAt_5068e_12 : decode cJ0_charAt_5068e 12 = .ok (.invokestatic 495, 3) := by decide +kernel
theorem dJ0_charAt_5068e_15 : decode cJ0_charAt_5068e 15 = .ok (.ireturn, 1) := by decide +kernel
theorem dJ0_charAt_5068e_16 : decode cJ0_charAt_5068e 16 = .ok (.aload_n 0, 1) := by decide +kernel
theorem dJ0_charAt_5068e_17 : decode cJ0_charAt_5068e 17 = .ok (.getfield 9, 3) := by decide +kernel
theorem dJ0_charAt_5068e_20 : decode cJ0_charAt_5068e 20 = .ok (.iload_n 1, 1) := by decide +kernel
theorem dJ0_charAt_5068e_21 : decode cJ0_charAt_5068e 21 = .ok (.invokestatic 498, 3) := by decide +kernel
theorem dJ0_charAt_5068e_24 : decode cJ0_charAt_5068e 24 = .ok (.ireturn, 1) := by decide +kernel
theorem dJ0_coder_7d493_0 : decode cJ0_coder_7d493 0 = .ok (.getstatic 38, 3) := by decide +kernel
theorem dJ0_coder_7d493_3 : decode cJ0_coder_7d493 3 = .ok (.ifCond .eq 10, 3) := by decide +kernel
theorem dJ0_coder_7d493_6 : decode cJ0_coder_7d493 6 = .ok (.aload_n 0, 1) := by decide +kernel
theorem dJ0_coder_7d493_7 : decode cJ0_coder_7d493 7 = .ok (.getfield 15, 3) := by decide +kernel
theorem dJ0_coder_7d493_10 : decode cJ0_coder_7d493 10 = .ok (.goto 4, 3) := by decide +kernel
theorem dJ0_coder_7d493_13 : decode cJ0_coder_7d493 13 = .ok (.iconst 1, 1) := by decide +kernel
theorem dJ0_coder_7d493_14 : decode cJ0_coder_7d493 14 = .ok (.ireturn, 1) := by decide +kernel
theorem dJ0_isLatin1_aae02_0 : decode cJ0_isLatin1_aae02 0 = .ok (.getstatic 38, 3) := by decide +kernel
theorem dJ0_isLatin1_aae02_3 : decode cJ0_isLatin1_aae02 3 = .ok (.ifCond .eq 14, 3) := by decide +kernel
theorem dJ0_isLatin1_aae02_6 : decode cJ0_isLatin1_aae02 6 = .ok (.aload_n 0, 1) := by decide +kernel
theorem dJ0_isLatin1_aae02_7 : decode cJ0_isLatin1_aae02 7 = .ok (.getfield 15, 3) := by decide +kernel
theorem dJ0_isLatin1_aae02_10 : decode cJ0_isLatin1_aae02 10 = .ok (.ifCond .ne 7, 3) := by decide +kernel
theorem dJ0_isLatin1_aae02_13 : decode cJ0_isLatin1_aae02 13 = .ok (.iconst 1, 1) := by decide +kernel
theorem dJ0_isLatin1_aae02_14 : decode cJ0_isLatin1_aae02 14 = .ok (.goto 4, 3) := by decide +kernel
theorem dJ0_isLatin1_aae02_17 : decode cJ0_isLatin1_aae02 17 = .ok (.iconst 0, 1) := by decide +kernel
theorem dJ0_isLatin1_aae02_18 : decode cJ0_isLatin1_aae02 18 = .ok (.ireturn, 1) := by decide +kernel
theorem dJ0_checkIndex_df160_0 : decode cJ0_checkIndex_df160 0 = .ok (.iload_n 0, 1) := by decide +kernel
theorem dJ0_checkIndex_df160_1 : decode cJ0_checkIndex_df160 1 = .ok (.iload_n 1, 1) := by decide +kernel
theorem dJ0_checkIndex_df160_2 : decode cJ0_checkIndex_df160 2 = .ok (.getstatic 1053, 3) := by decide +kernel
theorem dJ0_checkIndex_df160_5 : decode cJ0_checkIndex_df160 5 = .ok (.invokestatic 1059, 3) := by decide +kernel
theorem dJ0_checkIndex_df160_8 : decode cJ0_checkIndex_df160 8 = .ok (.pop, 1) := by decide +kernel
theorem dJ0_checkIndex_df160_9 : decode cJ0_checkIndex_df160 9 = .ok (.return_, 1) := by decide +kernel
theorem dJ1_charAt_3b067_0 : decode cJ1_charAt_3b067 0 = .ok (.iload_n 1, 1) := by decide +kernel
theorem dJ1_charAt_3b067_1 : decode cJ1_charAt_3b067 1 = .ok (.aload_n 0, 1) := by decide +kernel
theorem dJ1_charAt_3b067_2 : decode cJ1_charAt_3b067 2 = .ok (.arraylength, 1) := by decide +kernel
theorem dJ1_charAt_3b067_3 : decode cJ1_charAt_3b067 3 = .ok (.invokestatic 9, 3) := by decide +kernel
theorem dJ1_charAt_3b067_6 : decode cJ1_charAt_3b067 6 = .ok (.aload_n 0, 1) := by decide +kernel
theorem dJ1_charAt_3b067_7 : decode cJ1_charAt_3b067 7 = .ok (.iload_n 1, 1) := by decide +kernel
theorem dJ1_charAt_3b067_8 : decode cJ1_charAt_3b067 8 = .ok (.baload, 1) := by decide +kernel
theorem dJ1_charAt_3b067_9 : decode cJ1_charAt_3b067 9 = .ok (.sipush 255, 3) := by decide +kernel
theorem dJ1_charAt_3b067_12 : decode cJ1_charAt_3b067 12 = .ok (.iand, 1) := by decide +kernel
theorem dJ1_charAt_3b067_13 : decode cJ1_charAt_3b067 13 = .ok (.i2c, 1) := by decide +kernel
theorem dJ1_charAt_3b067_14 : decode cJ1_charAt_3b067 14 = .ok (.ireturn, 1) := by decide +kernel
theorem dJ2_getChar_3b067_0 : decode cJ2_getChar_3b067 0 = .ok (.getstatic 44, 3) := by decide +kernel
theorem dJ2_getChar_3b067_3 : decode cJ2_getChar_3b067 3 = .ok (.ifCond .ne 25, 3) := by decide +kernel
theorem dJ2_getChar_3b067_6 : decode cJ2_getChar_3b067 6 = .ok (.iload_n 1, 1) := by decide +kernel
theorem dJ2_getChar_3b067_7 : decode cJ2_getChar_3b067 7 = .ok (.ifCond .lt 11, 3) := by decide +kernel
theorem dJ2_getChar_3b067_10 : decode cJ2_getChar_3b067 10 = .ok (.iload_n 1, 1) := by decide +kernel
theorem dJ2_getChar_3b067_11 : decode cJ2_getChar_3b067 11 = .ok (.aload_n 0, 1) := by decide +kernel
theorem dJ2_getChar_3b067_12 : decode cJ2_getChar_3b067 12 = .ok (.invokestatic 48, 3) := by decide +kernel
theorem dJ2_getChar_3b067_15 : decode cJ2_getChar_3b067 15 = .ok (.if_icmp .lt 13, 3) := by decide +kernel
theorem dJ2_getChar_3b067_18 : decode cJ2_getChar_3b067 18 = .ok (.new 52, 3) := by decide +kernel
theorem dJ2_getChar_3b067_21 : decode cJ2_getChar_3b067 21 = .ok (.dup, 1) := by decide +kernel
theorem dJ2_getChar_3b067_22 : decode cJ2_getChar_3b067 22 = .ok (.ldc 54, 2) := by decide +kernel
theorem dJ2_getChar_3b067_24 : decode cJ2_getChar_3b067 24 = .ok (.invokespecial 56, 3) := by decide +kernel
theorem dJ2_getChar_3b067_27 : decode cJ2_getChar_3b067 27 = .ok (.athrow, 1) := by decide +kernel
theorem dJ2_getChar_3b067_28 : decode cJ2_getChar_3b067 28 = .ok (.iload_n 1, 1) := by decide +kernel
theorem dJ2_getChar_3b067_29 : decode cJ2_getChar_3b067 29 = .ok (.iconst 1, 1) := by decide +kernel
theorem dJ2_getChar_3b067_30 : decode cJ2_getChar_3b067 30 = .ok (.ishl, 1) := by decide +kernel
theorem dJ2_getChar_3b067_31 : decode cJ2_getChar_3b067 31 = .ok (.istore_n 1, 1) := by decide +kernel
theorem dJ2_getChar_3b067_32 : decode cJ2_getChar_3b067 32 = .ok (.aload_n 0, 1) := by decide +kernel
theorem dJ2_getChar_3b067_33 : decode cJ2_getChar_3b067 33 = .ok (.iload_n 1, 1) := by decide +kernel
theorem dJ2_getChar_3b067_34 : decode cJ2_getChar_3b067 34 = .ok (.iinc 1 1, 3) := by decide +kernel
theorem dJ2_getChar_3b067_37 : decode cJ2_getChar_3b067 37 = .ok (.baload, 1) := by decide +kernel
theorem dJ2_getChar_3b067_38 : decode cJ2_getChar_3b067 38 = .ok (.sipush 255, 3) := by decide +kernel
theorem dJ2_getChar_3b067_41 : decode cJ2_getChar_3b067 41 = .ok (.iand, 1) := by decide +kernel
theorem dJ2_getChar_3b067_42 : decode cJ2_getChar_3b067 42 = .ok (.getstatic 59, 3) := by decide +kernel
theorem dJ2_getChar_3b067_45 : decode cJ2_getChar_3b067 45 = .ok (.ishl, 1) := by decide +kernel
theorem dJ2_getChar_3b067_46 : decode cJ2_getChar_3b067 46 = .ok (.aload_n 0, 1) := by decide +kernel
theorem dJ2_getChar_3b067_47 : decode cJ2_getChar_3b067 47 = .ok (.iload_n 1, 1) := by decide +kernel
theorem dJ2_getChar_3b067_48 : decode cJ2_getChar_3b067 48 = .ok (.baload, 1) := by decide +kernel
theorem dJ2_getChar_3b067_49 : decode cJ2_getChar_3b067 49 = .ok (.sipush 255, 3) := by decide +kernel
theorem dJ2_getChar_3b067_52 : decode cJ2_getChar_3b067 52 = .ok (.iand, 1) := by decide +kernel
theorem dJ2_getChar_3b067_53 : decode cJ2_getChar_3b067 53 = .ok (.getstatic 63, 3) := by decide +kernel
theorem dJ2_getChar_3b067_56 : decode cJ2_getChar_3b067 56 = .ok (.ishl, 1) := by decide +kernel
theorem dJ2_getChar_3b067_57 : decode cJ2_getChar_3b067 57 = .ok (.ior, 1) := by decide +kernel
theorem dJ2_getChar_3b067_58 : decode cJ2_getChar_3b067 58 = .ok (.i2c, 1) := by decide +kernel
theorem dJ2_getChar_3b067_59 : decode cJ2_getChar_3b067 59 = .ok (.ireturn, 1) := by decide +kernel
theorem dJ2_length_9d52b_0 : decode cJ2_length_9d52b 0 = .ok (.aload_n 0, 1) := by decide +kernel
theorem dJ2_length_9d52b_1 : decode cJ2_length_9d52b 1 = .ok (.arraylength, 1) := by decide +kernel
theorem dJ2_length_9d52b_2 : decode cJ2_length_9d52b 2 = .ok (.iconst 1, 1) := by decide +kernel
theorem dJ2_length_9d52b_3 : decode cJ2_length_9d52b 3 = .ok (.ishr, 1) := by decide +kernel
theorem dJ2_length_9d52b_4 : decode cJ2_length_9d52b 4 = .ok (.ireturn, 1) := by decide +kernel
theorem dJ2_charAt_3b067_0 : decode cJ2_charAt_3b067 0 = .ok (.iload_n 1, 1) := by decide +kernel
theorem dJ2_charAt_3b067_1 : decode cJ2_charAt_3b067 1 = .ok (.aload_n 0, 1) := by decide +kernel
theorem dJ2_charAt_3b067_2 : decode cJ2_charAt_3b067 2 = .ok (.invokestatic 67, 3) := by decide +kernel
theorem dJ2_charAt_3b067_5 : decode cJ2_charAt_3b067 5 = .ok (.aload_n 0, 1) := by decide +kernel
theorem dJ2_charAt_3b067_6 : decode cJ2_charAt_3b067 6 = .ok (.iload_n 1, 1) := by decide +kernel
theorem dJ2_charAt_3b067_7 : decode cJ2_charAt_3b067 7 = .ok (.invokestatic 71, 3) := by decide +kernel
theorem dJ2_charAt_3b067_10 : decode cJ2_charAt_3b067 10 = .ok (.ireturn, 1) := by decide +kernel
theorem dJ2_checkIndex_2214a_0 : decode cJ2_checkIndex_2214a 0 = .ok (.iload_n 0, 1) := by decide +kernel
theorem dJ2_checkIndex_2214a_1 : decode cJ2_checkIndex_2214a 1 = .ok (.aload_n 1, 1) := by decide +kernel
theorem dJ2_checkIndex_2214a_2 : decode cJ2_checkIndex_2214a 2 = .ok (.invokestatic 48, 3) := by decide +kernel
theorem dJ2_checkIndex_2214a_5 : decode cJ2_checkIndex_2214a 5 = .ok (.invokestatic 414, 3) := by decide +kernel
theorem dJ2_checkIndex_2214a_8 : decode cJ2_checkIndex_2214a 8 = .ok (.return_, 1) := by decide +kernel
theorem dJ3_checkIndex_8e157_0 : decode cJ3_checkIndex_8e157 0 = .ok (.iload_n 0, 1) := by decide +kernel
theorem dJ3_checkIndex_8e157_1 : decode cJ3_checkIndex_8e157 1 = .ok (.ifCond .lt 8, 3) := by decide +kernel
theorem dJ3_checkIndex_8e157_4 : decode cJ3_checkIndex_8e157 4 = .ok (.iload_n 0, 1) := by decide +kernel
theorem dJ3_checkIndex_8e157_5 : decode cJ3_checkIndex_8e157 5 = .ok (.iload_n 1, 1) := by decide +kernel
theorem dJ3_checkIndex_8e157_6 : decode cJ3_checkIndex_8e157 6 = .ok (.if_icmp .lt 10, 3) := by decide +kernel
theorem dJ3_checkIndex_8e157_9 : decode cJ3_checkIndex_8e157 9 = .ok (.aload_n 2, 1) := by decide +kernel
theorem dJ3_checkIndex_8e157_10 : decode cJ3_checkIndex_8e157 10 = .ok (.iload_n 0, 1) := by decide +kernel
theorem dJ3_checkIndex_8e157_11 : decode cJ3_checkIndex_8e157 11 = .ok (.iload_n 1, 1) := by decide +kernel
theorem dJ3_checkIndex_8e157_12 : decode cJ3_checkIndex_8e157 12 = .ok (.invokestatic 95, 3) := by decide +kernel
theorem dJ3_checkIndex_8e157_15 : decode cJ3_checkIndex_8e157 15 = .ok (.athrow, 1) := by decide +kernel
theorem dJ3_checkIndex_8e157_16 : decode cJ3_checkIndex_8e157 16 = .ok (.iload_n 0, 1) := by decide +kernel
theorem dJ3_checkIndex_8e157_17 : decode cJ3_checkIndex_8e157 17 = .ok (.ireturn, 1) := by decide +kernel
theorem dL_law_0 : decode cL_law 0 = .ok (.new 7, 3) := by decide +kernel
theorem dL_law_3 : decode cL_law 3 = .ok (.dup, 1) := by decide +kernel
theorem dL_law_4 : decode cL_law 4 = .ok (.invokespecial 9, 3) := by decide +kernel
theorem dL_law_7 : decode cL_law 7 = .ok (.astore_n 1, 1) := by decide +kernel
theorem dL_law_8 : decode cL_law 8 = .ok (.new 10, 3) := by decide +kernel
theorem dL_law_11 : decode cL_law 11 = .ok (.dup, 1) := by decide +kernel
theorem dL_law_12 : decode cL_law 12 = .ok (.invokespecial 12, 3) := by decide +kernel
theorem dL_law_15 : decode cL_law 15 = .ok (.astore_n 2, 1) := by decide +kernel
theorem dL_law_16 : decode cL_law 16 = .ok (.iconst 0, 1) := by decide +kernel
theorem dL_law_17 : decode cL_law 17 = .ok (.istore_n 3, 1) := by decide +kernel
theorem dL_law_18 : decode cL_law 18 = .ok (.iload_n 3, 1) := by decide +kernel
theorem dL_law_19 : decode cL_law 19 = .ok (.aload_n 0, 1) := by decide +kernel
theorem dL_law_20 : decode cL_law 20 = .ok (.arraylength, 1) := by decide +kernel
theorem dL_law_21 : decode cL_law 21 = .ok (.iconst 3, 1) := by decide +kernel
theorem dL_law_22 : decode cL_law 22 = .ok (.isub, 1) := by decide +kernel
theorem dL_law_23 : decode cL_law 23 = .ok (.if_icmp .gt 547, 3) := by decide +kernel
theorem dL_law_26 : decode cL_law 26 = .ok (.aload_n 0, 1) := by decide +kernel
theorem dL_law_27 : decode cL_law 27 = .ok (.iload_n 3, 1) := by decide +kernel
theorem dL_law_28 : decode cL_law 28 = .ok (.iaload, 1) := by decide +kernel
theorem dL_law_29 : decode cL_law 29 = .ok (.bipush 31, 2) := by decide +kernel
theorem dL_law_31 : decode cL_law 31 = .ok (.iand, 1) := by decide +kernel
theorem dL_law_32 : decode cL_law 32 = .ok (.tableswitch 532 0 17 #[88, 111, 124, 137, 150, 183, 216, 239, 272, 285, 318, 351, 384, 397, 430, 453, 476, 509], 88) := by decide +kernel
theorem dL_law_120 : decode cL_law 120 = .ok (.aload_n 1, 1) := by decide +kernel
theorem dL_law_121 : decode cL_law 121 = .ok (.aload_n 0, 1) := by decide +kernel
theorem dL_law_122 : decode cL_law 122 = .ok (.iload_n 3, 1) := by decide +kernel
theorem dL_law_123 : decode cL_law 123 = .ok (.iconst 1, 1) := by decide +kernel
theorem dL_law_124 : decode cL_law 124 = .ok (.iadd, 1) := by decide +kernel
theorem dL_law_125 : decode cL_law 125 = .ok (.iaload, 1) := by decide +kernel
theorem dL_law_126 : decode cL_law 126 = .ok (.invokevirtual 13, 3) := by decide +kernel
theorem dL_law_129 : decode cL_law 129 = .ok (.aload_n 2, 1) := by decide +kernel
theorem dL_law_130 : decode cL_law 130 = .ok (.aload_n 0, 1) := by decide +kernel
theorem dL_law_131 : decode cL_law 131 = .ok (.iload_n 3, 1) := by decide +kernel
theorem dL_law_132 : decode cL_law 132 = .ok (.iconst 1, 1) := by decide +kernel
theorem dL_law_133 : decode cL_law 133 = .ok (.iadd, 1) := by decide +kernel
theorem dL_law_134 : decode cL_law 134 = .ok (.iaload, 1) := by decide +kernel
theorem dL_law_135 : decode cL_law 135 = .ok (.invokevirtual 17, 3) := by decide +kernel
theorem dL_law_138 : decode cL_law 138 = .ok (.if_icmp .eq 426, 3) := by decide +kernel
theorem dL_law_141 : decode cL_law 141 = .ok (.iconst 0, 1) := by decide +kernel
theorem dL_law_142 : decode cL_law 142 = .ok (.ireturn, 1) := by decide +kernel
theorem dL_law_143 : decode cL_law 143 = .ok (.aload_n 1, 1) := by decide +kernel
theorem dL_law_144 : decode cL_law 144 = .ok (.invokevirtual 18, 3) := by decide +kernel
theorem dL_law_147 : decode cL_law 147 = .ok (.aload_n 2, 1) := by decide +kernel
theorem dL_law_148 : decode cL_law 148 = .ok (.invokevirtual 22, 3) := by decide +kernel
theorem dL_law_151 : decode cL_law 151 = .ok (.if_icmp .eq 413, 3) := by decide +kernel
theorem dL_law_154 : decode cL_law 154 = .ok (.iconst 0, 1) := by decide +kernel
theorem dL_law_155 : decode cL_law 155 = .ok (.ireturn, 1) := by decide +kernel
theorem dL_law_156 : decode cL_law 156 = .ok (.aload_n 1, 1) := by decide +kernel
theorem dL_law_157 : decode cL_law 157 = .ok (.invokevirtual 23, 3) := by decide +kernel
theorem dL_law_160 : decode cL_law 160 = .ok (.aload_n 2, 1) := by decide +kernel
theorem dL_law_161 : decode cL_law 161 = .ok (.invokevirtual 26, 3) := by decide +kernel
theorem dL_law_164 : decode cL_law 164 = .ok (.if_icmp .eq 400, 3) := by decide +kernel
theorem dL_law_167 : decode cL_law 167 = .ok (.iconst 0, 1) := by decide +kernel
theorem dL_law_168 : decode cL_law 168 = .ok (.ireturn, 1) := by decide +kernel
theorem dL_law_169 : decode cL_law 169 = .ok (.aload_n 1, 1) := by decide +kernel
theorem dL_law_170 : decode cL_law 170 = .ok (.invokevirtual 27, 3) := by decide +kernel
theorem dL_law_173 : decode cL_law 173 = .ok (.aload_n 2, 1) := by decide +kernel
theorem dL_law_174 : decode cL_law 174 = .ok (.invokevirtual 30, 3) := by decide +kernel
theorem dL_law_177 : decode cL_law 177 = .ok (.if_icmp .eq 387, 3) := by decide +kernel
theorem dL_law_180 : decode cL_law 180 = .ok (.iconst 0, 1) := by decide +kernel
theorem dL_law_181 : decode cL_law 181 = .ok (.ireturn, 1) := by decide +kernel
theorem dL_law_182 : decode cL_law 182 = .ok (.aload_n 1, 1) := by decide +kernel
theorem dL_law_183 : decode cL_law 183 = .ok (.aload_n 0, 1) := by decide +kernel
theorem dL_law_184 : decode cL_law 184 = .ok (.iload_n 3, 1) := by decide +kernel
theorem dL_law_185 : decode cL_law 185 = .ok (.iconst 1, 1) := by decide +kernel
theorem dL_law_186 : decode cL_law 186 = .ok (.iadd, 1) := by decide +kernel
theorem dL_law_187 : decode cL_law 187 = .ok (.iaload, 1) := by decide +kernel
theorem dL_law_188 : decode cL_law 188 = .ok (.aload_n 0, 1) := by decide +kernel
theorem dL_law_189 : decode cL_law 189 = .ok (.iload_n 3, 1) := by decide +kernel
theorem dL_law_190 : decode cL_law 190 = .ok (.iconst 2, 1) := by decide +kernel
theorem dL_law_191 : decode cL_law 191 = .ok (.iadd, 1) := by decide +kernel
theorem dL_law_192 : decode cL_law 192 = .ok (.iaload, 1) := by decide +kernel
theorem dL_law_193 : decode cL_law 193 = .ok (.invokevirtual 31, 3) := by decide +kernel
theorem dL_law_196 : decode cL_law 196 = .ok (.aload_n 2, 1) := by decide +kernel
theorem dL_law_197 : decode cL_law 197 = .ok (.aload_n 0, 1) := by decide +kernel
theorem dL_law_198 : decode cL_law 198 = .ok (.iload_n 3, 1) := by decide +kernel
theorem dL_law_199 : decode cL_law 199 = .ok (.iconst 1, 1) := by decide +kernel
theorem dL_law_200 : decode cL_law 200 = .ok (.iadd, 1) := by decide +kernel
theorem dL_law_201 : decode cL_law 201 = .ok (.iaload, 1) := by decide +kernel
theorem dL_law_202 : decode cL_law 202 = .ok (.aload_n 0, 1) := by decide +kernel
theorem dL_law_203 : decode cL_law 203 = .ok (.iload_n 3, 1) := by decide +kernel
theorem dL_law_204 : decode cL_law 204 = .ok (.iconst 2, 1) := by decide +kernel
theorem dL_law_205 : decode cL_law 205 = .ok (.iadd, 1) := by decide +kernel
theorem dL_law_206 : decode cL_law 206 = .ok (.iaload, 1) := by decide +kernel
theorem dL_law_207 : decode cL_law 207 = .ok (.invokevirtual 35, 3) := by decide +kernel
theorem dL_law_210 : decode cL_law 210 = .ok (.if_icmp .eq 354, 3) := by decide +kernel
theorem dL_law_213 : decode cL_law 213 = .ok (.iconst 0, 1) := by decide +kernel
theorem dL_law_214 : decode cL_law 214 = .ok (.ireturn, 1) := by decide +kernel
theorem dL_law_215 : decode cL_law 215 = .ok (.aload_n 1, 1) := by decide +kernel
theorem dL_law_216 : decode cL_law 216 = .ok (.aload_n 0, 1) := by decide +kernel
theorem dL_law_217 : decode cL_law 217 = .ok (.iload_n 3, 1) := by decide +kernel
theorem dL_law_218 : decode cL_law 218 = .ok (.iconst 1, 1) := by decide +kernel
theorem dL_law_219 : decode cL_law 219 = .ok (.iadd, 1) := by decide +kernel
theorem dL_law_220 : decode cL_law 220 = .ok (.iaload, 1) := by decide +kernel
theorem dL_law_221 : decode cL_law 221 = .ok (.aload_n 0, 1) := by decide +kernel
theorem dL_law_222 : decode cL_law 222 = .ok (.iload_n 3, 1) := by decide +kernel
theorem dL_law_223 : decode cL_law 223 = .ok (.iconst 2, 1) := by decide +kernel
theorem dL_law_224 : decode cL_law 224 = .ok (.iadd, 1) := by decide +kernel
theorem dL_law_225 : decode cL_law 225 = .ok (.iaload, 1) := by decide +kernel
theorem dL_law_226 : decode cL_law 226 = .ok (.invokevirtual 36, 3) := by decide +kernel
theorem dL_law_229 : decode cL_law 229 = .ok (.aload_n 2, 1) := by decide +kernel
theorem dL_law_230 : decode cL_law 230 = .ok (.aload_n 0, 1) := by decide +kernel
theorem dL_law_231 : decode cL_law 231 = .ok (.iload_n 3, 1) := by decide +kernel
theorem dL_law_232 : decode cL_law 232 = .ok (.iconst 1, 1) := by decide +kernel
theorem dL_law_233 : decode cL_law 233 = .ok (.iadd, 1) := by decide +kernel
theorem dL_law_234 : decode cL_law 234 = .ok (.iaload, 1) := by decide +kernel
theorem dL_law_235 : decode cL_law 235 = .ok (.aload_n 0, 1) := by decide +kernel
theorem dL_law_236 : decode cL_law 236 = .ok (.iload_n 3, 1) := by decide +kernel
theorem dL_law_237 : decode cL_law 237 = .ok (.iconst 2, 1) := by decide +kernel
theorem dL_law_238 : decode cL_law 238 = .ok (.iadd, 1) := by decide +kernel
theorem dL_law_239 : decode cL_law 239 = .ok (.iaload, 1) := by decide +kernel
theorem dL_law_240 : decode cL_law 240 = .ok (.invokevirtual 39, 3) := by decide +kernel
theorem dL_law_243 : decode cL_law 243 = .ok (.if_icmp .eq 321, 3) := by decide +kernel
theorem dL_law_246 : decode cL_law 246 = .ok (.iconst 0, 1) := by decide +kernel
theorem dL_law_247 : decode cL_law 247 = .ok (.ireturn, 1) := by decide +kernel
theorem dL_law_248 : decode cL_law 248 = .ok (.aload_n 1, 1) := by decide +kernel
theorem dL_law_249 : decode cL_law 249 = .ok (.aload_n 0, 1) := by decide +kernel
theorem dL_law_250 : decode cL_law 250 = .ok (.iload_n 3, 1) := by decide +kernel
theorem dL_law_251 : decode cL_law 251 = .ok (.iconst 1, 1) := by decide +kernel
theorem dL_law_252 : decode cL_law 252 = .ok (.iadd, 1) := by decide +kernel
theorem dL_law_253 : decode cL_law 253 = .ok (.iaload, 1) := by decide +kernel
theorem dL_law_254 : decode cL_law 254 = .ok (.invokevirtual 40, 3) := by decide +kernel
theorem dL_law_257 : decode cL_law 257 = .ok (.aload_n 2, 1) := by decide +kernel
theorem dL_law_258 : decode cL_law 258 = .ok (.aload_n 0, 1) := by decide +kernel
theorem dL_law_259 : decode cL_law 259 = .ok (.iload_n 3, 1) := by decide +kernel
theorem dL_law_260 : decode cL_law 260 = .ok (.iconst 1, 1) := by decide +kernel
theorem dL_law_261 : decode cL_law 261 = .ok (.iadd, 1) := by decide +kernel
theorem dL_law_262 : decode cL_law 262 = .ok (.iaload, 1) := by decide +kernel
theorem dL_law_263 : decode cL_law 263 = .ok (.invokevirtual 43, 3) := by decide +kernel
theorem dL_law_266 : decode cL_law 266 = .ok (.if_icmp .eq 298, 3) := by decide +kernel
theorem dL_law_269 : decode cL_law 269 = .ok (.iconst 0, 1) := by decide +kernel
theorem dL_law_270 : decode cL_law 270 = .ok (.ireturn, 1) := by decide +kernel
theorem dL_law_271 : decode cL_law 271 = .ok (.aload_n 1, 1) := by decide +kernel
theorem dL_law_272 : decode cL_law 272 = .ok (.aload_n 0, 1) := by decide +kernel
theorem dL_law_273 : decode cL_law 273 = .ok (.iload_n 3, 1) := by decide +kernel
theorem dL_law_274 : decode cL_law 274 = .ok (.iconst 1, 1) := by decide +kernel
theorem dL_law_275 : decode cL_law 275 = .ok (.iadd, 1) := by decide +kernel
theorem dL_law_276 : decode cL_law 276 = .ok (.iaload, 1) := by decide +kernel
theorem dL_law_277 : decode cL_law 277 = .ok (.aload_n 0, 1) := by decide +kernel
theorem dL_law_278 : decode cL_law 278 = .ok (.iload_n 3, 1) := by decide +kernel
theorem dL_law_279 : decode cL_law 279 = .ok (.iconst 2, 1) := by decide +kernel
theorem dL_law_280 : decode cL_law 280 = .ok (.iadd, 1) := by decide +kernel
theorem dL_law_281 : decode cL_law 281 = .ok (.iaload, 1) := by decide +kernel
theorem dL_law_282 : decode cL_law 282 = .ok (.invokevirtual 44, 3) := by decide +kernel
theorem dL_law_285 : decode cL_law 285 = .ok (.aload_n 2, 1) := by decide +kernel
theorem dL_law_286 : decode cL_law 286 = .ok (.aload_n 0, 1) := by decide +kernel
theorem dL_law_287 : decode cL_law 287 = .ok (.iload_n 3, 1) := by decide +kernel
theorem dL_law_288 : decode cL_law 288 = .ok (.iconst 1, 1) := by decide +kernel
theorem dL_law_289 : decode cL_law 289 = .ok (.iadd, 1) := by decide +kernel
theorem dL_law_290 : decode cL_law 290 = .ok (.iaload, 1) := by decide +kernel
theorem dL_law_291 : decode cL_law 291 = .ok (.aload_n 0, 1) := by decide +kernel
theorem dL_law_292 : decode cL_law 292 = .ok (.iload_n 3, 1) := by decide +kernel
theorem dL_law_293 : decode cL_law 293 = .ok (.iconst 2, 1) := by decide +kernel
theorem dL_law_294 : decode cL_law 294 = .ok (.iadd, 1) := by decide +kernel
theorem dL_law_295 : decode cL_law 295 = .ok (.iaload, 1) := by decide +kernel
theorem dL_law_296 : decode cL_law 296 = .ok (.invokevirtual 47, 3) := by decide +kernel
theorem dL_law_299 : decode cL_law 299 = .ok (.if_icmp .eq 265, 3) := by decide +kernel
theorem dL_law_302 : decode cL_law 302 = .ok (.iconst 0, 1) := by decide +kernel
theorem dL_law_303 : decode cL_law 303 = .ok (.ireturn, 1) := by decide +kernel
theorem dL_law_304 : decode cL_law 304 = .ok (.aload_n 1, 1) := by decide +kernel
theorem dL_law_305 : decode cL_law 305 = .ok (.invokevirtual 48, 3) := by decide +kernel
theorem dL_law_308 : decode cL_law 308 = .ok (.aload_n 2, 1) := by decide +kernel
theorem dL_law_309 : decode cL_law 309 = .ok (.invokevirtual 51, 3) := by decide +kernel
theorem dL_law_312 : decode cL_law 312 = .ok (.if_icmp .eq 252, 3) := by decide +kernel
theorem dL_law_315 : decode cL_law 315 = .ok (.iconst 0, 1) := by decide +kernel
theorem dL_law_316 : decode cL_law 316 = .ok (.ireturn, 1) := by decide +kernel
theorem dL_law_317 : decode cL_law 317 = .ok (.aload_n 1, 1) := by decide +kernel
theorem dL_law_318 : decode cL_law 318 = .ok (.aload_n 0, 1) := by decide +kernel
theorem dL_law_319 : decode cL_law 319 = .ok (.iload_n 3, 1) := by decide +kernel
theorem dL_law_320 : decode cL_law 320 = .ok (.iconst 1, 1) := by decide +kernel
theorem dL_law_321 : decode cL_law 321 = .ok (.iadd, 1) := by decide +kernel
theorem dL_law_322 : decode cL_law 322 = .ok (.iaload, 1) := by decide +kernel
theorem dL_law_323 : decode cL_law 323 = .ok (.aload_n 0, 1) := by decide +kernel
theorem dL_law_324 : decode cL_law 324 = .ok (.iload_n 3, 1) := by decide +kernel
theorem dL_law_325 : decode cL_law 325 = .ok (.iconst 2, 1) := by decide +kernel
theorem dL_law_326 : decode cL_law 326 = .ok (.iadd, 1) := by decide +kernel
theorem dL_law_327 : decode cL_law 327 = .ok (.iaload, 1) := by decide +kernel
theorem dL_law_328 : decode cL_law 328 = .ok (.invokevirtual 52, 3) := by decide +kernel
theorem dL_law_331 : decode cL_law 331 = .ok (.aload_n 2, 1) := by decide +kernel
theorem dL_law_332 : decode cL_law 332 = .ok (.aload_n 0, 1) := by decide +kernel
theorem dL_law_333 : decode cL_law 333 = .ok (.iload_n 3, 1) := by decide +kernel
theorem dL_law_334 : decode cL_law 334 = .ok (.iconst 1, 1) := by decide +kernel
theorem dL_law_335 : decode cL_law 335 = .ok (.iadd, 1) := by decide +kernel
theorem dL_law_336 : decode cL_law 336 = .ok (.iaload, 1) := by decide +kernel
theorem dL_law_337 : decode cL_law 337 = .ok (.aload_n 0, 1) := by decide +kernel
theorem dL_law_338 : decode cL_law 338 = .ok (.iload_n 3, 1) := by decide +kernel
theorem dL_law_339 : decode cL_law 339 = .ok (.iconst 2, 1) := by decide +kernel
theorem dL_law_340 : decode cL_law 340 = .ok (.iadd, 1) := by decide +kernel
theorem dL_law_341 : decode cL_law 341 = .ok (.iaload, 1) := by decide +kernel
theorem dL_law_342 : decode cL_law 342 = .ok (.invokevirtual 55, 3) := by decide +kernel
theorem dL_law_345 : decode cL_law 345 = .ok (.if_icmp .eq 219, 3) := by decide +kernel
theorem dL_law_348 : decode cL_law 348 = .ok (.iconst 0, 1) := by decide +kernel
theorem dL_law_349 : decode cL_law 349 = .ok (.ireturn, 1) := by decide +kernel
theorem dL_law_350 : decode cL_law 350 = .ok (.aload_n 1, 1) := by decide +kernel
theorem dL_law_351 : decode cL_law 351 = .ok (.aload_n 0, 1) := by decide +kernel
theorem dL_law_352 : decode cL_law 352 = .ok (.iload_n 3, 1) := by decide +kernel
theorem dL_law_353 : decode cL_law 353 = .ok (.iconst 1, 1) := by decide +kernel
theorem dL_law_354 : decode cL_law 354 = .ok (.iadd, 1) := by decide +kernel
theorem dL_law_355 : decode cL_law 355 = .ok (.iaload, 1) := by decide +kernel
theorem dL_law_356 : decode cL_law 356 = .ok (.aload_n 0, 1) := by decide +kernel
theorem dL_law_357 : decode cL_law 357 = .ok (.iload_n 3, 1) := by decide +kernel
theorem dL_law_358 : decode cL_law 358 = .ok (.iconst 2, 1) := by decide +kernel
theorem dL_law_359 : decode cL_law 359 = .ok (.iadd, 1) := by decide +kernel
theorem dL_law_360 : decode cL_law 360 = .ok (.iaload, 1) := by decide +kernel
theorem dL_law_361 : decode cL_law 361 = .ok (.invokevirtual 56, 3) := by decide +kernel
theorem dL_law_364 : decode cL_law 364 = .ok (.aload_n 2, 1) := by decide +kernel
theorem dL_law_365 : decode cL_law 365 = .ok (.aload_n 0, 1) := by decide +kernel
theorem dL_law_366 : decode cL_law 366 = .ok (.iload_n 3, 1) := by decide +kernel
theorem dL_law_367 : decode cL_law 367 = .ok (.iconst 1, 1) := by decide +kernel
theorem dL_law_368 : decode cL_law 368 = .ok (.iadd, 1) := by decide +kernel
theorem dL_law_369 : decode cL_law 369 = .ok (.iaload, 1) := by decide +kernel
theorem dL_law_370 : decode cL_law 370 = .ok (.aload_n 0, 1) := by decide +kernel
theorem dL_law_371 : decode cL_law 371 = .ok (.iload_n 3, 1) := by decide +kernel
theorem dL_law_372 : decode cL_law 372 = .ok (.iconst 2, 1) := by decide +kernel
theorem dL_law_373 : decode cL_law 373 = .ok (.iadd, 1) := by decide +kernel
theorem dL_law_374 : decode cL_law 374 = .ok (.iaload, 1) := by decide +kernel
theorem dL_law_375 : decode cL_law 375 = .ok (.invokevirtual 59, 3) := by decide +kernel
theorem dL_law_378 : decode cL_law 378 = .ok (.if_icmp .eq 186, 3) := by decide +kernel
theorem dL_law_381 : decode cL_law 381 = .ok (.iconst 0, 1) := by decide +kernel
theorem dL_law_382 : decode cL_law 382 = .ok (.ireturn, 1) := by decide +kernel
theorem dL_law_383 : decode cL_law 383 = .ok (.aload_n 1, 1) := by decide +kernel
theorem dL_law_384 : decode cL_law 384 = .ok (.aload_n 0, 1) := by decide +kernel
theorem dL_law_385 : decode cL_law 385 = .ok (.iload_n 3, 1) := by decide +kernel
theorem dL_law_386 : decode cL_law 386 = .ok (.iconst 1, 1) := by decide +kernel
theorem dL_law_387 : decode cL_law 387 = .ok (.iadd, 1) := by decide +kernel
theorem dL_law_388 : decode cL_law 388 = .ok (.iaload, 1) := by decide +kernel
theorem dL_law_389 : decode cL_law 389 = .ok (.aload_n 0, 1) := by decide +kernel
theorem dL_law_390 : decode cL_law 390 = .ok (.iload_n 3, 1) := by decide +kernel
theorem dL_law_391 : decode cL_law 391 = .ok (.iconst 2, 1) := by decide +kernel
theorem dL_law_392 : decode cL_law 392 = .ok (.iadd, 1) := by decide +kernel
theorem dL_law_393 : decode cL_law 393 = .ok (.iaload, 1) := by decide +kernel
theorem dL_law_394 : decode cL_law 394 = .ok (.invokevirtual 60, 3) := by decide +kernel
theorem dL_law_397 : decode cL_law 397 = .ok (.aload_n 2, 1) := by decide +kernel
theorem dL_law_398 : decode cL_law 398 = .ok (.aload_n 0, 1) := by decide +kernel
theorem dL_law_399 : decode cL_law 399 = .ok (.iload_n 3, 1) := by decide +kernel
theorem dL_law_400 : decode cL_law 400 = .ok (.iconst 1, 1) := by decide +kernel
theorem dL_law_401 : decode cL_law 401 = .ok (.iadd, 1) := by decide +kernel
theorem dL_law_402 : decode cL_law 402 = .ok (.iaload, 1) := by decide +kernel
theorem dL_law_403 : decode cL_law 403 = .ok (.aload_n 0, 1) := by decide +kernel
theorem dL_law_404 : decode cL_law 404 = .ok (.iload_n 3, 1) := by decide +kernel
theorem dL_law_405 : decode cL_law 405 = .ok (.iconst 2, 1) := by decide +kernel
theorem dL_law_406 : decode cL_law 406 = .ok (.iadd, 1) := by decide +kernel
theorem dL_law_407 : decode cL_law 407 = .ok (.iaload, 1) := by decide +kernel
theorem dL_law_408 : decode cL_law 408 = .ok (.invokevirtual 63, 3) := by decide +kernel
theorem dL_law_411 : decode cL_law 411 = .ok (.if_icmp .eq 153, 3) := by decide +kernel
theorem dL_law_414 : decode cL_law 414 = .ok (.iconst 0, 1) := by decide +kernel
theorem dL_law_415 : decode cL_law 415 = .ok (.ireturn, 1) := by decide +kernel
theorem dL_law_416 : decode cL_law 416 = .ok (.aload_n 1, 1) := by decide +kernel
theorem dL_law_417 : decode cL_law 417 = .ok (.invokevirtual 64, 3) := by decide +kernel
theorem dL_law_420 : decode cL_law 420 = .ok (.aload_n 2, 1) := by decide +kernel
theorem dL_law_421 : decode cL_law 421 = .ok (.invokevirtual 67, 3) := by decide +kernel
theorem dL_law_424 : decode cL_law 424 = .ok (.if_icmp .eq 140, 3) := by decide +kernel
theorem dL_law_427 : decode cL_law 427 = .ok (.iconst 0, 1) := by decide +kernel
theorem dL_law_428 : decode cL_law 428 = .ok (.ireturn, 1) := by decide +kernel
theorem dL_law_429 : decode cL_law 429 = .ok (.aload_n 1, 1) := by decide +kernel
theorem dL_law_430 : decode cL_law 430 = .ok (.aload_n 0, 1) := by decide +kernel
theorem dL_law_431 : decode cL_law 431 = .ok (.iload_n 3, 1) := by decide +kernel
theorem dL_law_432 : decode cL_law 432 = .ok (.iconst 1, 1) := by decide +kernel
theorem dL_law_433 : decode cL_law 433 = .ok (.iadd, 1) := by decide +kernel
theorem dL_law_434 : decode cL_law 434 = .ok (.iaload, 1) := by decide +kernel
theorem dL_law_435 : decode cL_law 435 = .ok (.aload_n 0, 1) := by decide +kernel
theorem dL_law_436 : decode cL_law 436 = .ok (.iload_n 3, 1) := by decide +kernel
theorem dL_law_437 : decode cL_law 437 = .ok (.iconst 2, 1) := by decide +kernel
theorem dL_law_438 : decode cL_law 438 = .ok (.iadd, 1) := by decide +kernel
theorem dL_law_439 : decode cL_law 439 = .ok (.iaload, 1) := by decide +kernel
theorem dL_law_440 : decode cL_law 440 = .ok (.invokevirtual 68, 3) := by decide +kernel
theorem dL_law_443 : decode cL_law 443 = .ok (.aload_n 2, 1) := by decide +kernel
theorem dL_law_444 : decode cL_law 444 = .ok (.aload_n 0, 1) := by decide +kernel
theorem dL_law_445 : decode cL_law 445 = .ok (.iload_n 3, 1) := by decide +kernel
theorem dL_law_446 : decode cL_law 446 = .ok (.iconst 1, 1) := by decide +kernel
theorem dL_law_447 : decode cL_law 447 = .ok (.iadd, 1) := by decide +kernel
theorem dL_law_448 : decode cL_law 448 = .ok (.iaload, 1) := by decide +kernel
theorem dL_law_449 : decode cL_law 449 = .ok (.aload_n 0, 1) := by decide +kernel
theorem dL_law_450 : decode cL_law 450 = .ok (.iload_n 3, 1) := by decide +kernel
theorem dL_law_451 : decode cL_law 451 = .ok (.iconst 2, 1) := by decide +kernel
theorem dL_law_452 : decode cL_law 452 = .ok (.iadd, 1) := by decide +kernel
theorem dL_law_453 : decode cL_law 453 = .ok (.iaload, 1) := by decide +kernel
theorem dL_law_454 : decode cL_law 454 = .ok (.invokevirtual 71, 3) := by decide +kernel
theorem dL_law_457 : decode cL_law 457 = .ok (.if_icmp .eq 107, 3) := by decide +kernel
theorem dL_law_460 : decode cL_law 460 = .ok (.iconst 0, 1) := by decide +kernel
theorem dL_law_461 : decode cL_law 461 = .ok (.ireturn, 1) := by decide +kernel
theorem dL_law_462 : decode cL_law 462 = .ok (.aload_n 1, 1) := by decide +kernel
theorem dL_law_463 : decode cL_law 463 = .ok (.aload_n 0, 1) := by decide +kernel
theorem dL_law_464 : decode cL_law 464 = .ok (.iload_n 3, 1) := by decide +kernel
theorem dL_law_465 : decode cL_law 465 = .ok (.iconst 1, 1) := by decide +kernel
theorem dL_law_466 : decode cL_law 466 = .ok (.iadd, 1) := by decide +kernel
theorem dL_law_467 : decode cL_law 467 = .ok (.iaload, 1) := by decide +kernel
theorem dL_law_468 : decode cL_law 468 = .ok (.invokevirtual 72, 3) := by decide +kernel
theorem dL_law_471 : decode cL_law 471 = .ok (.aload_n 2, 1) := by decide +kernel
theorem dL_law_472 : decode cL_law 472 = .ok (.aload_n 0, 1) := by decide +kernel
theorem dL_law_473 : decode cL_law 473 = .ok (.iload_n 3, 1) := by decide +kernel
theorem dL_law_474 : decode cL_law 474 = .ok (.iconst 1, 1) := by decide +kernel
theorem dL_law_475 : decode cL_law 475 = .ok (.iadd, 1) := by decide +kernel
theorem dL_law_476 : decode cL_law 476 = .ok (.iaload, 1) := by decide +kernel
theorem dL_law_477 : decode cL_law 477 = .ok (.invokevirtual 75, 3) := by decide +kernel
theorem dL_law_480 : decode cL_law 480 = .ok (.if_icmp .eq 84, 3) := by decide +kernel
theorem dL_law_483 : decode cL_law 483 = .ok (.iconst 0, 1) := by decide +kernel
theorem dL_law_484 : decode cL_law 484 = .ok (.ireturn, 1) := by decide +kernel
theorem dL_law_485 : decode cL_law 485 = .ok (.aload_n 1, 1) := by decide +kernel
theorem dL_law_486 : decode cL_law 486 = .ok (.aload_n 0, 1) := by decide +kernel
theorem dL_law_487 : decode cL_law 487 = .ok (.iload_n 3, 1) := by decide +kernel
theorem dL_law_488 : decode cL_law 488 = .ok (.iconst 1, 1) := by decide +kernel
theorem dL_law_489 : decode cL_law 489 = .ok (.iadd, 1) := by decide +kernel
theorem dL_law_490 : decode cL_law 490 = .ok (.iaload, 1) := by decide +kernel
theorem dL_law_491 : decode cL_law 491 = .ok (.invokevirtual 76, 3) := by decide +kernel
theorem dL_law_494 : decode cL_law 494 = .ok (.aload_n 2, 1) := by decide +kernel
theorem dL_law_495 : decode cL_law 495 = .ok (.aload_n 0, 1) := by decide +kernel
theorem dL_law_496 : decode cL_law 496 = .ok (.iload_n 3, 1) := by decide +kernel
theorem dL_law_497 : decode cL_law 497 = .ok (.iconst 1, 1) := by decide +kernel
theorem dL_law_498 : decode cL_law 498 = .ok (.iadd, 1) := by decide +kernel
theorem dL_law_499 : decode cL_law 499 = .ok (.iaload, 1) := by decide +kernel
theorem dL_law_500 : decode cL_law 500 = .ok (.invokevirtual 79, 3) := by decide +kernel
theorem dL_law_503 : decode cL_law 503 = .ok (.if_icmp .eq 61, 3) := by decide +kernel
theorem dL_law_506 : decode cL_law 506 = .ok (.iconst 0, 1) := by decide +kernel
theorem dL_law_507 : decode cL_law 507 = .ok (.ireturn, 1) := by decide +kernel
theorem dL_law_508 : decode cL_law 508 = .ok (.aload_n 1, 1) := by decide +kernel
theorem dL_law_509 : decode cL_law 509 = .ok (.aload_n 0, 1) := by decide +kernel
theorem dL_law_510 : decode cL_law 510 = .ok (.iload_n 3, 1) := by decide +kernel
theorem dL_law_511 : decode cL_law 511 = .ok (.iconst 1, 1) := by decide +kernel
theorem dL_law_512 : decode cL_law 512 = .ok (.iadd, 1) := by decide +kernel
theorem dL_law_513 : decode cL_law 513 = .ok (.iaload, 1) := by decide +kernel
theorem dL_law_514 : decode cL_law 514 = .ok (.aload_n 0, 1) := by decide +kernel
theorem dL_law_515 : decode cL_law 515 = .ok (.iload_n 3, 1) := by decide +kernel
theorem dL_law_516 : decode cL_law 516 = .ok (.iconst 2, 1) := by decide +kernel
theorem dL_law_517 : decode cL_law 517 = .ok (.iadd, 1) := by decide +kernel
theorem dL_law_518 : decode cL_law 518 = .ok (.iaload, 1) := by decide +kernel
theorem dL_law_519 : decode cL_law 519 = .ok (.invokevirtual 80, 3) := by decide +kernel
theorem dL_law_522 : decode cL_law 522 = .ok (.aload_n 2, 1) := by decide +kernel
theorem dL_law_523 : decode cL_law 523 = .ok (.aload_n 0, 1) := by decide +kernel
theorem dL_law_524 : decode cL_law 524 = .ok (.iload_n 3, 1) := by decide +kernel
theorem dL_law_525 : decode cL_law 525 = .ok (.iconst 1, 1) := by decide +kernel
theorem dL_law_526 : decode cL_law 526 = .ok (.iadd, 1) := by decide +kernel
theorem dL_law_527 : decode cL_law 527 = .ok (.iaload, 1) := by decide +kernel
theorem dL_law_528 : decode cL_law 528 = .ok (.aload_n 0, 1) := by decide +kernel
theorem dL_law_529 : decode cL_law 529 = .ok (.iload_n 3, 1) := by decide +kernel
theorem dL_law_530 : decode cL_law 530 = .ok (.iconst 2, 1) := by decide +kernel
theorem dL_law_531 : decode cL_law 531 = .ok (.iadd, 1) := by decide +kernel
theorem dL_law_532 : decode cL_law 532 = .ok (.iaload, 1) := by decide +kernel
theorem dL_law_533 : decode cL_law 533 = .ok (.invokevirtual 83, 3) := by decide +kernel
theorem dL_law_536 : decode cL_law 536 = .ok (.if_icmp .eq 28, 3) := by decide +kernel
theorem dL_law_539 : decode cL_law 539 = .ok (.iconst 0, 1) := by decide +kernel
theorem dL_law_540 : decode cL_law 540 = .ok (.ireturn, 1) := by decide +kernel
theorem dL_law_541 : decode cL_law 541 = .ok (.aload_n 1, 1) := by decide +kernel
theorem dL_law_542 : decode cL_law 542 = .ok (.aload_n 0, 1) := by decide +kernel
theorem dL_law_543 : decode cL_law 543 = .ok (.iload_n 3, 1) := by decide +kernel
theorem dL_law_544 : decode cL_law 544 = .ok (.iconst 1, 1) := by decide +kernel
theorem dL_law_545 : decode cL_law 545 = .ok (.iadd, 1) := by decide +kernel
theorem dL_law_546 : decode cL_law 546 = .ok (.iaload, 1) := by decide +kernel
theorem dL_law_547 : decode cL_law 547 = .ok (.invokevirtual 84, 3) := by decide +kernel
theorem dL_law_550 : decode cL_law 550 = .ok (.aload_n 2, 1) := by decide +kernel
theorem dL_law_551 : decode cL_law 551 = .ok (.aload_n 0, 1) := by decide +kernel
theorem dL_law_552 : decode cL_law 552 = .ok (.iload_n 3, 1) := by decide +kernel
theorem dL_law_553 : decode cL_law 553 = .ok (.iconst 1, 1) := by decide +kernel
theorem dL_law_554 : decode cL_law 554 = .ok (.iadd, 1) := by decide +kernel
theorem dL_law_555 : decode cL_law 555 = .ok (.iaload, 1) := by decide +kernel
theorem dL_law_556 : decode cL_law 556 = .ok (.invokevirtual 87, 3) := by decide +kernel
theorem dL_law_559 : decode cL_law 559 = .ok (.if_icmp .eq 5, 3) := by decide +kernel
theorem dL_law_562 : decode cL_law 562 = .ok (.iconst 0, 1) := by decide +kernel
theorem dL_law_563 : decode cL_law 563 = .ok (.ireturn, 1) := by decide +kernel
theorem dL_law_564 : decode cL_law 564 = .ok (.iinc 3 3, 3) := by decide +kernel
theorem dL_law_567 : decode cL_law 567 = .ok (.goto (-549), 3) := by decide +kernel
theorem dL_law_570 : decode cL_law 570 = .ok (.iconst 1, 1) := by decide +kernel
theorem dL_law_571 : decode cL_law 571 = .ok (.ireturn, 1) := by decide +kernel
abbrev vwCl : List vw_C := [(RX0, TX0, 8), (RX1, TX1, 2), (RX2, TX2, 6), (RX3, TX3, 11), (RX4, TX4, 3), (RX5, TX5, 1), (RX6, TX6, 7), (RX7, TX7, 10), (RX8, TX8, 26)]
end
section
/-! the judgement: bundles of what stands still (jG the run, jC the frame), and the rows over them -/
abbrev Sg : Type := Nat → Nat → Int32
/-- launch, class numbers and slots, array classes (0 int[], 1 boolean[], 2 int[][], 3 Standing[]), addresses of the cells, how many cells, addresses of what is read only (0, 1 the static rows; 2 the text, 3 its letters) -/
abbrev jG : Type := Launch × va_G × (Nat → ClassId) × (Nat → Nat) × Nat × (Nat → Nat)
abbrev jC : Type := Program × Env × Room × State × MethodId × Array Value × List Frame × Method × Code × (Nat → Prop) × (State → Prop)
abbrev gL (g : jG) : Launch := g.1
abbrev gD (g : jG) : va_G := g.2.1
abbrev gA (g : jG) : Nat → ClassId := g.2.2.1
abbrev gad (g : jG) : Nat → Nat := g.2.2.2.1
abbrev gN (g : jG) : Nat := g.2.2.2.2.1
abbrev gsa (g : jG) : Nat → Nat := g.2.2.2.2.2
abbrev kP (κ : jC) : Program := κ.1
abbrev kE (κ : jC) : Env := κ.2.1
abbrev kR (κ : jC) : Room := κ.2.2.1
abbrev kS (κ : jC) : State := κ.2.2.2.1
abbrev kM (κ : jC) : MethodId := κ.2.2.2.2.1
abbrev kAr (κ : jC) : Array Value := κ.2.2.2.2.2.1
abbrev kBl (κ : jC) : List Frame := κ.2.2.2.2.2.2.1
abbrev kMe (κ : jC) : Method := κ.2.2.2.2.2.2.2.1
abbrev kC (κ : jC) : Code := κ.2.2.2.2.2.2.2.2.1
abbrev kA (κ : jC) : Nat → Prop := κ.2.2.2.2.2.2.2.2.2.1
abbrev kQ (κ : jC) : State → Prop := κ.2.2.2.2.2.2.2.2.2.2
def lw_gd : List Cond := lw_tbl.filter goodWord
theorem gd_of {w : Cond} (h : w ∈ lw_tbl) (hg : goodWord w = true) : w ∈ lw_gd := List.mem_filter.mpr ⟨h, hg⟩
theorem gd_t {w : Cond} (i : Nat) (h : tables_1[i]? = some w) (hg : goodWord w = true) : w ∈ lw_gd := gd_of (List.mem_append_right _ (List.mem_of_getElem? h)) hg
theorem gd_s {w : Cond} (i : Nat) (h : (k2_sels lw_privs)[i]? = some w) (hg : goodWord w = true) : w ∈ lw_gd := gd_of (List.mem_append_left _ (List.mem_of_getElem? h)) hg
theorem gd_good {w : Cond} (h : w ∈ lw_gd) : (w.onTables && w.keeps) = true ∨ ∃ ty, w = .arrayClass ty := good_of_word (List.mem_filter.mp h).2
theorem gd_in {z : Cond} (h : z ∈ lw_gd) : GoodIn lw_gd (z :: lw_gd) := fun w hw => by
  rcases List.mem_cons.mp hw with rfl | h1
  · exact ⟨h, gd_good h⟩
  · exact ⟨h1, gd_good h1⟩
/-- locals: which values stand where -/
def jlv : Nat → List (Option Value) → List (Nat × Value)
  | _, [] => []
  | k, none :: t => jlv (k + 1) t
  | k, some v :: t => (k, v) :: jlv (k + 1) t
theorem jlv_mem : ∀ (L : List (Option Value)) (k i : Nat) (v : Value), (i, v) ∈ jlv k L ↔ ∃ j : Nat, i = k + j ∧ L[j]? = some (some v)
  | [], k, i, v => by simp [jlv]
  | none :: t, k, i, v => by
    rw [show jlv k (none :: t) = jlv (k + 1) t from rfl, jlv_mem t (k + 1) i v]
    constructor
    · rintro ⟨j, h1, h2⟩
      exact ⟨j + 1, by omega, by simpa using h2⟩
    · rintro ⟨j, h1, h2⟩
      cases j with
      | zero => simp at h2
      | succ j => exact ⟨j, by omega, by simpa using h2⟩
  | some w :: t, k, i, v => by
    rw [show jlv k (some w :: t) = (k, w) :: jlv (k + 1) t from rfl, List.mem_cons, jlv_mem t (k + 1) i v]
    constructor
    · rintro (h | ⟨j, h1, h2⟩)
      · cases h
        exact ⟨0, rfl, by simp⟩
      · exact ⟨j + 1, by omega, by simpa using h2⟩
    · rintro ⟨j, h1, h2⟩
      cases j with
      | zero =>
        simp at h2
        subst h2
        subst h1
        exact Or.inl rfl
      | succ j => exact Or.inr ⟨j, by omega, by simpa using h2⟩
def jl (ls : Array Slot) (nL : Nat) (L : List (Option Value)) : Prop := lv_has ls nL (jlv 0 L) ∧ ∀ (j : Nat) (v : Value), L[j]? = some (some v) → v.category = 1
theorem jl_at {ls : Array Slot} {nL : Nat} {L : List (Option Value)} (h : jl ls nL L) {i : Nat} {v : Value} (hi : L[i]? = some (some v)) : ls[i]? = some (.val v) := h.1.2.2 (i, v) ((jlv_mem L 0 i v).mpr ⟨i, by omega, hi⟩)
theorem jl_set {ls ls' : Array Slot} {nL : Nat} {L L' : List (Option Value)} (h : jl ls nL L) {i : Nat} {v : Value} (hc : v.category = 1) (h' : lv_has ls' nL ((i, v) :: (jlv 0 L).filter (fun q => !(q.1 == i) && !(q.1 + 1 == i && q.2.category == 2)))) (hL : L.set i (some v) = L') : jl ls' nL L' := by
  subst hL
  refine ⟨⟨h'.1, h'.2.1, ?_⟩, ?_⟩
  · rintro ⟨j, w⟩ hq
    obtain ⟨j', e1, e2⟩ := (jlv_mem _ 0 j w).mp hq
    have e3 : j' = j := by omega
    subst e3
    by_cases hji : j' = i
    · subst hji
      by_cases hlt : j' < L.length
      · rw [List.getElem?_set_self hlt] at e2
        cases e2
        exact h'.2.2 (j', v) List.mem_cons_self
      · rw [List.getElem?_eq_none (by simp; omega)] at e2
        cases e2
    · rw [List.getElem?_set_ne (fun q => hji q.symm)] at e2
      refine h'.2.2 (j', w) (List.mem_cons_of_mem _ (List.mem_filter.mpr ⟨(jlv_mem L 0 j' w).mpr ⟨j', by omega, e2⟩, ?_⟩))
      have hw := h.2 j' w e2
      simp [hji, hw]
  · intro j w hj
    by_cases hji : j = i
    · subst hji
      by_cases hlt : j < L.length
      · rw [List.getElem?_set_self hlt] at hj
        cases hj
        exact hc
      · rw [List.getElem?_eq_none (by simp; omega)] at hj
        cases hj
    · rw [List.getElem?_set_ne (fun q => hji q.symm)] at hj
      exact h.2 j w hj
/-- what the tables say of the array classes -/
def jT (g : jG) : List (ClassId × FieldType) := [(gA g 0, .int), (gA g 1, .boolean), (gA g 2, .array .int), (gA g 3, .object "LoadWeights$Standing")]
def fx_rooms (k : Nat) : Int32 := match k with | 0 => 4 | 1 => 4 | 2 => 3 | _ => 1
def fx_price (k : Nat) : Int32 := match k with | 0 => 1 | 1 => 3 | 2 => 10 | _ => 70
/-- what is read only: the static rows; links to nest mates; the text -/
def jE (g : jG) (A : Nat → Prop) (U : State) : Prop :=
  (va_Z "LoadWeights$Flow" "PIECE_ROOMS" "[I" (.ref (gsa g 0)) A U U.heap ∧ va_X (gsa g 0) 4 fx_rooms U U.heap ∧ gsa g 0 < U.heap.size ∧ ¬ A (gsa g 0)) ∧
  (va_Z "LoadWeights$Flow" "PIECE_PRICE" "[I" (.ref (gsa g 1)) A U U.heap ∧ va_X (gsa g 1) 4 fx_price U U.heap ∧ gsa g 1 < U.heap.size ∧ ¬ A (gsa g 1)) ∧
  va_Nw (.methodLinkNest RX3 55 yX7_isWeight "LoadWeights") U
theorem jE_to {g : jG} {A B : Nat → Prop} {s U : State} {H : Heap} {locs : List Loc} (h : jE g A s) (hS : va_S A s.heap H locs) (hU : U.heap = H) (hW : s.WarmedH U.vm) (hAB : ∀ q, B q → A q) : jE g B U := by
  obtain ⟨⟨a1, a2, a3, a4⟩, ⟨b1, b2, b3, b4⟩, c1⟩ := h
  subst hU
  refine ⟨⟨((a1.moved hW.alike).kept hS.2.1).narrow hAB, (a2.moved hW.alike).kept (hS.2.1 _ a3 a4), Nat.lt_of_lt_of_le a3 hS.1, fun q => a4 (hAB _ q)⟩, ⟨((b1.moved hW.alike).kept hS.2.1).narrow hAB, (b2.moved hW.alike).kept (hS.2.1 _ b3 b4), Nat.lt_of_lt_of_le b3 hS.1, fun q => b4 (hAB _ q)⟩, va_Nw.warmM hW c1⟩
theorem jE_call {g : jG} {A : Nat → Prop} {U : State} {gf : JFrame} {mk : MethodId} {a : Array Value} (h : jE g A U) : jE g A (U.calling gf mk a) := by
  obtain ⟨⟨a1, a2, a3, a4⟩, ⟨b1, b2, b3, b4⟩, c1⟩ := h
  exact ⟨⟨va_Z.moved (u := U) (U := U.calling gf mk a) (Vm.Alike.refl U.vm) a1, va_X.moved (u := U) (U := U.calling gf mk a) (Vm.Alike.refl U.vm) a2, a3, a4⟩, ⟨va_Z.moved (u := U) (U := U.calling gf mk a) (Vm.Alike.refl U.vm) b1, va_X.moved (u := U) (U := U.calling gf mk a) (Vm.Alike.refl U.vm) b2, b3, b4⟩, va_Nw.same (u := U) (U := U.calling gf mk a) rfl rfl c1⟩
/-- a frame's standing facts -/
def Cx (g : jG) (κ : jC) (cc : ByteArray) (nL : Nat) (own : String) (rm : Room) : Prop :=
  (kP κ).tables.exec = Jvm.exec ∧ (kC κ).code = cc ∧ (kC κ).maxLocals = nL ∧ (kS κ).vm.findClass own = some (kM κ).cls ∧ (∀ w ∈ lw_gd, w.before (kAr κ) (kS κ) = true) ∧ va_K (gD g) vwCl (jT g) (kS κ) ∧ (∀ q, (kS κ).heap.size ≤ q → kA κ q) ∧ jE g (kA κ) (kS κ) ∧ kR κ = rm
def Jw (g : jG) (κ : jC) (nL pc : Nat) (L : List (Option Value)) (S : List Value) (ws : va_W) (kc ks : Nat) : Prop :=
  ∀ (ls : Array Slot) (H : Heap) (locs : List Loc), jl ls nL L → va_P (gD g) vwCl ws H → va_D (kA κ) ws → va_S (kA κ) (kS κ).heap H locs → W (kP κ) (gL g) (kE κ) (kR κ) (kS κ) (kM κ) (kAr κ) (kBl κ) (kMe κ) (kC κ) H locs kc ks (kQ κ) (F0 (kM κ) pc ls S)
section JR
variable {g : jG} {κ : jC} {cc : ByteArray} {nL pc : Nat} {own : String} {rm : Room} {L : List (Option Value)} {S : List Value} {ws : va_W} {kc ks : Nat}
theorem j_iconst (C : Cx g κ cc nL own rm) {n : Int} {v : Int32} (hd : decode cc pc = .ok (.iconst n, 1)) (hv : Int32.ofInt n = v) (k : Jw g κ nL (pc + 1) L (.int v :: S) ws kc ks) : Jw g κ nL pc L S ws kc ks :=
  fun ls H locs hl hP hD hS => lv_iconst C.1 C.2.1 hd hv (k ls H locs hl hP hD hS)
theorem j_bipush (C : Cx g κ cc nL own rm) {n : Int} {v : Int32} (hd : decode cc pc = .ok (.bipush n, 2)) (hv : (Int8.ofInt n).toInt32 = v) (k : Jw g κ nL (pc + 2) L (.int v :: S) ws kc ks) : Jw g κ nL pc L S ws kc ks :=
  fun ls H locs hl hP hD hS => lv_bipush C.1 C.2.1 hd hv (k ls H locs hl hP hD hS)
theorem j_sipush (C : Cx g κ cc nL own rm) {n : Int} {v : Int32} (hd : decode cc pc = .ok (.sipush n, 3)) (hv : (Int16.ofInt n).toInt32 = v) (k : Jw g κ nL (pc + 3) L (.int v :: S) ws kc ks) : Jw g κ nL pc L S ws kc ks :=
  fun ls H locs hl hP hD hS => lv_sipush C.1 C.2.1 hd hv (k ls H locs hl hP hD hS)
theorem j_iload_n (C : Cx g κ cc nL own rm) {k : Fin 4} {i : Nat} {x : Int32} (hd : decode cc pc = .ok (.iload_n k, 1)) (hi : (k : Nat) = i) (h : L[i]? = some (some (.int x))) (kk : Jw g κ nL (pc + 1) L (.int x :: S) ws kc ks) : Jw g κ nL pc L S ws kc ks :=
  fun ls H locs hl hP hD hS => lv_iload_n C.1 C.2.1 hd hi (jl_at hl h) (kk ls H locs hl hP hD hS)
theorem j_iload (C : Cx g κ cc nL own rm) {i : Nat} {x : Int32} (hd : decode cc pc = .ok (.iload i, 2)) (h : L[i]? = some (some (.int x))) (kk : Jw g κ nL (pc + 2) L (.int x :: S) ws kc ks) : Jw g κ nL pc L S ws kc ks :=
  fun ls H locs hl hP hD hS => lv_iload C.1 C.2.1 hd (jl_at hl h) (kk ls H locs hl hP hD hS)
theorem j_aload_n (C : Cx g κ cc nL own rm) {k : Fin 4} {i x : Nat} (hd : decode cc pc = .ok (.aload_n k, 1)) (hi : (k : Nat) = i) (h : L[i]? = some (some (.ref x))) (kk : Jw g κ nL (pc + 1) L (.ref x :: S) ws kc ks) : Jw g κ nL pc L S ws kc ks :=
  fun ls H locs hl hP hD hS => lv_aload_n C.1 C.2.1 hd hi (jl_at hl h) (kk ls H locs hl hP hD hS)
theorem j_aload (C : Cx g κ cc nL own rm) {i x : Nat} (hd : decode cc pc = .ok (.aload i, 2)) (h : L[i]? = some (some (.ref x))) (kk : Jw g κ nL (pc + 2) L (.ref x :: S) ws kc ks) : Jw g κ nL pc L S ws kc ks :=
  fun ls H locs hl hP hD hS => lv_aload C.1 C.2.1 hd (jl_at hl h) (kk ls H locs hl hP hD hS)
theorem j_istore_n (C : Cx g κ cc nL own rm) {k : Fin 4} {i : Nat} {x : Int32} {L' : List (Option Value)} (hd : decode cc pc = .ok (.istore_n k, 1)) (hi : (k : Nat) = i) (hn : i < nL) (hL : L.set i (some (.int x)) = L') (kk : Jw g κ nL (pc + 1) L' S ws kc ks) : Jw g κ nL pc L (.int x :: S) ws kc ks :=
  fun ls H locs hl hP hD hS => lv_istore_n C.1 C.2.1 hd hi hl.1 hn rfl (fun ls' h' => kk ls' H locs (jl_set hl rfl h' hL) hP hD hS)
theorem j_istore (C : Cx g κ cc nL own rm) {i : Nat} {x : Int32} {L' : List (Option Value)} (hd : decode cc pc = .ok (.istore i, 2)) (hn : i < nL) (hL : L.set i (some (.int x)) = L') (kk : Jw g κ nL (pc + 2) L' S ws kc ks) : Jw g κ nL pc L (.int x :: S) ws kc ks :=
  fun ls H locs hl hP hD hS => lv_istore C.1 C.2.1 hd hl.1 hn rfl (fun ls' h' => kk ls' H locs (jl_set hl rfl h' hL) hP hD hS)
theorem j_astore_n (C : Cx g κ cc nL own rm) {k : Fin 4} {i x : Nat} {L' : List (Option Value)} (hd : decode cc pc = .ok (.astore_n k, 1)) (hi : (k : Nat) = i) (hn : i < nL) (hL : L.set i (some (.ref x)) = L') (kk : Jw g κ nL (pc + 1) L' S ws kc ks) : Jw g κ nL pc L (.ref x :: S) ws kc ks :=
  fun ls H locs hl hP hD hS => lv_astore_n C.1 C.2.1 hd hi hl.1 hn rfl (fun ls' h' => kk ls' H locs (jl_set hl rfl h' hL) hP hD hS)
theorem j_astore (C : Cx g κ cc nL own rm) {i x : Nat} {L' : List (Option Value)} (hd : decode cc pc = .ok (.astore i, 2)) (hn : i < nL) (hL : L.set i (some (.ref x)) = L') (kk : Jw g κ nL (pc + 2) L' S ws kc ks) : Jw g κ nL pc L (.ref x :: S) ws kc ks :=
  fun ls H locs hl hP hD hS => lv_astore C.1 C.2.1 hd hl.1 hn rfl (fun ls' h' => kk ls' H locs (jl_set hl rfl h' hL) hP hD hS)
theorem j_iinc (C : Cx g κ cc nL own rm) {i : Nat} {n : Int} {x v : Int32} {L' : List (Option Value)} (hd : decode cc pc = .ok (.iinc i n, 3)) (h : L[i]? = some (some (.int x))) (hv : x + Int32.ofInt n = v) (hn : i < nL) (hL : L.set i (some (.int v)) = L') (kk : Jw g κ nL (pc + 3) L' S ws kc ks) : Jw g κ nL pc L S ws kc ks :=
  fun ls H locs hl hP hD hS => by
    obtain ⟨k, hk⟩ := List.getElem?_of_mem ((jlv_mem L 0 i (.int x)).mpr ⟨i, by omega, h⟩)
    exact lv_iinc C.1 C.2.1 hd hl.1 hk hv hn rfl (fun ls' h' => kk ls' H locs (jl_set hl rfl h' hL) hP hD hS)
theorem j_iadd (C : Cx g κ cc nL own rm) {x y : Int32} (hd : decode cc pc = .ok (.iadd, 1)) (k : Jw g κ nL (pc + 1) L (.int (x + y) :: S) ws kc ks) : Jw g κ nL pc L (.int y :: .int x :: S) ws kc ks :=
  fun ls H locs hl hP hD hS => lv_iadd C.1 C.2.1 hd (k ls H locs hl hP hD hS)
theorem j_isub (C : Cx g κ cc nL own rm) {x y : Int32} (hd : decode cc pc = .ok (.isub, 1)) (k : Jw g κ nL (pc + 1) L (.int (x - y) :: S) ws kc ks) : Jw g κ nL pc L (.int y :: .int x :: S) ws kc ks :=
  fun ls H locs hl hP hD hS => lv_isub C.1 C.2.1 hd (k ls H locs hl hP hD hS)
theorem j_imul (C : Cx g κ cc nL own rm) {x y : Int32} (hd : decode cc pc = .ok (.imul, 1)) (k : Jw g κ nL (pc + 1) L (.int (x * y) :: S) ws kc ks) : Jw g κ nL pc L (.int y :: .int x :: S) ws kc ks :=
  fun ls H locs hl hP hD hS => lv_imul C.1 C.2.1 hd (k ls H locs hl hP hD hS)
theorem j_iand (C : Cx g κ cc nL own rm) {x y : Int32} (hd : decode cc pc = .ok (.iand, 1)) (k : Jw g κ nL (pc + 1) L (.int (x &&& y) :: S) ws kc ks) : Jw g κ nL pc L (.int y :: .int x :: S) ws kc ks :=
  fun ls H locs hl hP hD hS => lv_iand C.1 C.2.1 hd (k ls H locs hl hP hD hS)
theorem j_ior (C : Cx g κ cc nL own rm) {x y : Int32} (hd : decode cc pc = .ok (.ior, 1)) (k : Jw g κ nL (pc + 1) L (.int (x ||| y) :: S) ws kc ks) : Jw g κ nL pc L (.int y :: .int x :: S) ws kc ks :=
  fun ls H locs hl hP hD hS => lv_ior C.1 C.2.1 hd (k ls H locs hl hP hD hS)
theorem j_ixor (C : Cx g κ cc nL own rm) {x y : Int32} (hd : decode cc pc = .ok (.ixor, 1)) (k : Jw g κ nL (pc + 1) L (.int (x ^^^ y) :: S) ws kc ks) : Jw g κ nL pc L (.int y :: .int x :: S) ws kc ks :=
  fun ls H locs hl hP hD hS => lv_ixor C.1 C.2.1 hd (k ls H locs hl hP hD hS)
theorem j_idiv (C : Cx g κ cc nL own rm) {x y : Int32} (hd : decode cc pc = .ok (.idiv, 1)) (hne : ¬ y = 0) (k : Jw g κ nL (pc + 1) L (.int (x / y) :: S) ws kc ks) : Jw g κ nL pc L (.int y :: .int x :: S) ws kc ks :=
  fun ls H locs hl hP hD hS => lv_idiv C.1 C.2.1 hd hne (k ls H locs hl hP hD hS)
theorem j_irem (C : Cx g κ cc nL own rm) {x y : Int32} (hd : decode cc pc = .ok (.irem, 1)) (hne : ¬ y = 0) (k : Jw g κ nL (pc + 1) L (.int (x - x / y * y) :: S) ws kc ks) : Jw g κ nL pc L (.int y :: .int x :: S) ws kc ks :=
  fun ls H locs hl hP hD hS => lv_irem C.1 C.2.1 hd hne (k ls H locs hl hP hD hS)
theorem j_dup (C : Cx g κ cc nL own rm) {v : Value} (hd : decode cc pc = .ok (.dup, 1)) (hv : v.category = 1) (k : Jw g κ nL (pc + 1) L (v :: v :: S) ws kc ks) : Jw g κ nL pc L (v :: S) ws kc ks :=
  fun ls H locs hl hP hD hS => lv_dup C.1 C.2.1 hd hv (k ls H locs hl hP hD hS)
theorem j_pop (C : Cx g κ cc nL own rm) {v : Value} (hd : decode cc pc = .ok (.pop, 1)) (hv : v.category = 1) (k : Jw g κ nL (pc + 1) L S ws kc ks) : Jw g κ nL pc L (v :: S) ws kc ks :=
  fun ls H locs hl hP hD hS => lv_pop C.1 C.2.1 hd hv (k ls H locs hl hP hD hS)
theorem j_goto (C : Cx g κ cc nL own rm) {off : Int} {tgt : Nat} (hd : decode cc pc = .ok (.goto off, 3)) (ht : (pc : Int) + off = (tgt : Int)) (k : Jw g κ nL tgt L S ws kc ks) : Jw g κ nL pc L S ws kc ks :=
  fun ls H locs hl hP hD hS => lv_goto C.1 C.2.1 hd ht (k ls H locs hl hP hD hS)
end JR
section JR2
variable {g : jG} {κ : jC} {cc : ByteArray} {nL pc : Nat} {own : String} {rm : Room} {L : List (Option Value)} {S : List Value} {ws : va_W} {kc ks : Nat}
theorem j_top {x y : Int32} (h : x = y) (k : Jw g κ nL pc L (.int y :: S) ws kc ks) : Jw g κ nL pc L (.int x :: S) ws kc ks := h ▸ k
theorem j_ishl (C : Cx g κ cc nL own rm) {x y : Int32} (hd : decode cc pc = .ok (.ishl, 1)) (k : Jw g κ nL (pc + 1) L (.int (x <<< (y &&& 31)) :: S) ws kc ks) : Jw g κ nL pc L (.int y :: .int x :: S) ws kc ks :=
  fun ls H locs hl hP hD hS => lv_ishl C.1 C.2.1 hd (k ls H locs hl hP hD hS)
theorem j_ishr (C : Cx g κ cc nL own rm) {x y : Int32} (hd : decode cc pc = .ok (.ishr, 1)) (k : Jw g κ nL (pc + 1) L (.int (x >>> (y &&& 31)) :: S) ws kc ks) : Jw g κ nL pc L (.int y :: .int x :: S) ws kc ks :=
  fun ls H locs hl hP hD hS => lv_ishr C.1 C.2.1 hd (k ls H locs hl hP hD hS)
theorem j_dup2 (C : Cx g κ cc nL own rm) {v w : Value} (hd : decode cc pc = .ok (.dup2, 1)) (hv : v.category = 1) (hw : w.category = 1) (k : Jw g κ nL (pc + 1) L (v :: w :: v :: w :: S) ws kc ks) : Jw g κ nL pc L (v :: w :: S) ws kc ks :=
  fun ls H locs hl hP hD hS => lv_dup2_11 C.1 C.2.1 hd hv hw (k ls H locs hl hP hD hS)
theorem j_ldc (C : Cx g κ cc nL own rm) {index : Nat} {v : Int32} (hc : Cond.constant own index v ∈ lw_gd) (hd : decode cc pc = .ok (.ldc index, 2)) (k : Jw g κ nL (pc + 2) L (.int v :: S) ws kc ks) : Jw g κ nL pc L S ws kc ks :=
  fun ls H locs hl hP hD hS => lv_ldc C.1 C.2.1 C.2.2.2.1 (C.2.2.2.2.1 _ hc) hd (k ls H locs hl hP hD hS)
theorem j_if_eq (C : Cx g κ cc nL own rm) {x : Int32} {off : Int} {tgt : Nat} (hd : decode cc pc = .ok (.ifCond .eq off, 3)) (ht : (pc : Int) + off = (tgt : Int)) (kt : x = 0 → Jw g κ nL tgt L S ws kc ks) (kf : ¬ x = 0 → Jw g κ nL (pc + 3) L S ws kc ks) : Jw g κ nL pc L (.int x :: S) ws kc ks :=
  fun ls H locs hl hP hD hS => lv_if_eq C.1 C.2.1 hd ht (fun h => kt h ls H locs hl hP hD hS) (fun h => kf h ls H locs hl hP hD hS)
theorem j_icmp_eq (C : Cx g κ cc nL own rm) {x y : Int32} {off : Int} {tgt : Nat} (hd : decode cc pc = .ok (.if_icmp .eq off, 3)) (ht : (pc : Int) + off = (tgt : Int)) (kt : x = y → Jw g κ nL tgt L S ws kc ks) (kf : ¬ x = y → Jw g κ nL (pc + 3) L S ws kc ks) : Jw g κ nL pc L (.int y :: .int x :: S) ws kc ks :=
  fun ls H locs hl hP hD hS => lv_icmp_eq C.1 C.2.1 hd ht (fun h => kt h ls H locs hl hP hD hS) (fun h => kf h ls H locs hl hP hD hS)
theorem j_if_ne (C : Cx g κ cc nL own rm) {x : Int32} {off : Int} {tgt : Nat} (hd : decode cc pc = .ok (.ifCond .ne off, 3)) (ht : (pc : Int) + off = (tgt : Int)) (kt : ¬ x = 0 → Jw g κ nL tgt L S ws kc ks) (kf : x = 0 → Jw g κ nL (pc + 3) L S ws kc ks) : Jw g κ nL pc L (.int x :: S) ws kc ks :=
  fun ls H locs hl hP hD hS => lv_if_ne C.1 C.2.1 hd ht (fun h => kt h ls H locs hl hP hD hS) (fun h => kf h ls H locs hl hP hD hS)
theorem j_icmp_ne (C : Cx g κ cc nL own rm) {x y : Int32} {off : Int} {tgt : Nat} (hd : decode cc pc = .ok (.if_icmp .ne off, 3)) (ht : (pc : Int) + off = (tgt : Int)) (kt : ¬ x = y → Jw g κ nL tgt L S ws kc ks) (kf : x = y → Jw g κ nL (pc + 3) L S ws kc ks) : Jw g κ nL pc L (.int y :: .int x :: S) ws kc ks :=
  fun ls H locs hl hP hD hS => lv_icmp_ne C.1 C.2.1 hd ht (fun h => kt h ls H locs hl hP hD hS) (fun h => kf h ls H locs hl hP hD hS)
theorem j_if_lt (C : Cx g κ cc nL own rm) {x : Int32} {off : Int} {tgt : Nat} (hd : decode cc pc = .ok (.ifCond .lt off, 3)) (ht : (pc : Int) + off = (tgt : Int)) (kt : x < 0 → Jw g κ nL tgt L S ws kc ks) (kf : ¬ x < 0 → Jw g κ nL (pc + 3) L S ws kc ks) : Jw g κ nL pc L (.int x :: S) ws kc ks :=
  fun ls H locs hl hP hD hS => lv_if_lt C.1 C.2.1 hd ht (fun h => kt h ls H locs hl hP hD hS) (fun h => kf h ls H locs hl hP hD hS)
theorem j_icmp_lt (C : Cx g κ cc nL own rm) {x y : Int32} {off : Int} {tgt : Nat} (hd : decode cc pc = .ok (.if_icmp .lt off, 3)) (ht : (pc : Int) + off = (tgt : Int)) (kt : x < y → Jw g κ nL tgt L S ws kc ks) (kf : ¬ x < y → Jw g κ nL (pc + 3) L S ws kc ks) : Jw g κ nL pc L (.int y :: .int x :: S) ws kc ks :=
  fun ls H locs hl hP hD hS => lv_icmp_lt C.1 C.2.1 hd ht (fun h => kt h ls H locs hl hP hD hS) (fun h => kf h ls H locs hl hP hD hS)
theorem j_if_ge (C : Cx g κ cc nL own rm) {x : Int32} {off : Int} {tgt : Nat} (hd : decode cc pc = .ok (.ifCond .ge off, 3)) (ht : (pc : Int) + off = (tgt : Int)) (kt : 0 ≤ x → Jw g κ nL tgt L S ws kc ks) (kf : ¬ 0 ≤ x → Jw g κ nL (pc + 3) L S ws kc ks) : Jw g κ nL pc L (.int x :: S) ws kc ks :=
  fun ls H locs hl hP hD hS => lv_if_ge C.1 C.2.1 hd ht (fun h => kt h ls H locs hl hP hD hS) (fun h => kf h ls H locs hl hP hD hS)
theorem j_icmp_ge (C : Cx g κ cc nL own rm) {x y : Int32} {off : Int} {tgt : Nat} (hd : decode cc pc = .ok (.if_icmp .ge off, 3)) (ht : (pc : Int) + off = (tgt : Int)) (kt : y ≤ x → Jw g κ nL tgt L S ws kc ks) (kf : ¬ y ≤ x → Jw g κ nL (pc + 3) L S ws kc ks) : Jw g κ nL pc L (.int y :: .int x :: S) ws kc ks :=
  fun ls H locs hl hP hD hS => lv_icmp_ge C.1 C.2.1 hd ht (fun h => kt h ls H locs hl hP hD hS) (fun h => kf h ls H locs hl hP hD hS)
theorem j_if_gt (C : Cx g κ cc nL own rm) {x : Int32} {off : Int} {tgt : Nat} (hd : decode cc pc = .ok (.ifCond .gt off, 3)) (ht : (pc : Int) + off = (tgt : Int)) (kt : 0 < x → Jw g κ nL tgt L S ws kc ks) (kf : ¬ 0 < x → Jw g κ nL (pc + 3) L S ws kc ks) : Jw g κ nL pc L (.int x :: S) ws kc ks :=
  fun ls H locs hl hP hD hS => lv_if_gt C.1 C.2.1 hd ht (fun h => kt h ls H locs hl hP hD hS) (fun h => kf h ls H locs hl hP hD hS)
theorem j_icmp_gt (C : Cx g κ cc nL own rm) {x y : Int32} {off : Int} {tgt : Nat} (hd : decode cc pc = .ok (.if_icmp .gt off, 3)) (ht : (pc : Int) + off = (tgt : Int)) (kt : y < x → Jw g κ nL tgt L S ws kc ks) (kf : ¬ y < x → Jw g κ nL (pc + 3) L S ws kc ks) : Jw g κ nL pc L (.int y :: .int x :: S) ws kc ks :=
  fun ls H locs hl hP hD hS => lv_icmp_gt C.1 C.2.1 hd ht (fun h => kt h ls H locs hl hP hD hS) (fun h => kf h ls H locs hl hP hD hS)
theorem j_if_le (C : Cx g κ cc nL own rm) {x : Int32} {off : Int} {tgt : Nat} (hd : decode cc pc = .ok (.ifCond .le off, 3)) (ht : (pc : Int) + off = (tgt : Int)) (kt : x ≤ 0 → Jw g κ nL tgt L S ws kc ks) (kf : ¬ x ≤ 0 → Jw g κ nL (pc + 3) L S ws kc ks) : Jw g κ nL pc L (.int x :: S) ws kc ks :=
  fun ls H locs hl hP hD hS => lv_if_le C.1 C.2.1 hd ht (fun h => kt h ls H locs hl hP hD hS) (fun h => kf h ls H locs hl hP hD hS)
theorem j_icmp_le (C : Cx g κ cc nL own rm) {x y : Int32} {off : Int} {tgt : Nat} (hd : decode cc pc = .ok (.if_icmp .le off, 3)) (ht : (pc : Int) + off = (tgt : Int)) (kt : x ≤ y → Jw g κ nL tgt L S ws kc ks) (kf : ¬ x ≤ y → Jw g κ nL (pc + 3) L S ws kc ks) : Jw g κ nL pc L (.int y :: .int x :: S) ws kc ks :=
  fun ls H locs hl hP hD hS => lv_icmp_le C.1 C.2.1 hd ht (fun h => kt h ls H locs hl hP hD hS) (fun h => kf h ls H locs hl hP hD hS)
theorem j_icmpn_eq (C : Cx g κ cc nL own rm) {a b : Nat} {off : Int} {tgt : Nat} (hd : decode cc pc = .ok (.if_icmp .eq off, 3)) (ht : (pc : Int) + off = (tgt : Int)) (ha : a < 2 ^ 31) (hb : b < 2 ^ 31) (kt : a = b → Jw g κ nL tgt L S ws kc ks) (kf : ¬ a = b → Jw g κ nL (pc + 3) L S ws kc ks) : Jw g κ nL pc L (.int (nI b) :: .int (nI a) :: S) ws kc ks :=
  j_icmp_eq C hd ht (fun h => kt ((nI_eq ha hb).mp h)) (fun h => kf (fun q => h ((nI_eq ha hb).mpr q)))
theorem j_ifn_eq (C : Cx g κ cc nL own rm) {a : Nat} {off : Int} {tgt : Nat} (hd : decode cc pc = .ok (.ifCond .eq off, 3)) (ht : (pc : Int) + off = (tgt : Int)) (ha : a < 2 ^ 31) (kt : a = 0 → Jw g κ nL tgt L S ws kc ks) (kf : ¬ a = 0 → Jw g κ nL (pc + 3) L S ws kc ks) : Jw g κ nL pc L (.int (nI a) :: S) ws kc ks :=
  j_if_eq C hd ht (fun h => kt ((nI_eq ha (b := 0) (by decide)).mp h)) (fun h => kf (fun q => h ((nI_eq ha (b := 0) (by decide)).mpr q)))
theorem j_icmpn_ne (C : Cx g κ cc nL own rm) {a b : Nat} {off : Int} {tgt : Nat} (hd : decode cc pc = .ok (.if_icmp .ne off, 3)) (ht : (pc : Int) + off = (tgt : Int)) (ha : a < 2 ^ 31) (hb : b < 2 ^ 31) (kt : ¬ a = b → Jw g κ nL tgt L S ws kc ks) (kf : a = b → Jw g κ nL (pc + 3) L S ws kc ks) : Jw g κ nL pc L (.int (nI b) :: .int (nI a) :: S) ws kc ks :=
  j_icmp_ne C hd ht (fun h => kt (fun q => h ((nI_eq ha hb).mpr q))) (fun h => kf ((nI_eq ha hb).mp h))
theorem j_ifn_ne (C : Cx g κ cc nL own rm) {a : Nat} {off : Int} {tgt : Nat} (hd : decode cc pc = .ok (.ifCond .ne off, 3)) (ht : (pc : Int) + off = (tgt : Int)) (ha : a < 2 ^ 31) (kt : ¬ a = 0 → Jw g κ nL tgt L S ws kc ks) (kf : a = 0 → Jw g κ nL (pc + 3) L S ws kc ks) : Jw g κ nL pc L (.int (nI a) :: S) ws kc ks :=
  j_if_ne C hd ht (fun h => kt (fun q => h ((nI_eq ha (b := 0) (by decide)).mpr q))) (fun h => kf ((nI_eq ha (b := 0) (by decide)).mp h))
theorem j_icmpn_lt (C : Cx g κ cc nL own rm) {a b : Nat} {off : Int} {tgt : Nat} (hd : decode cc pc = .ok (.if_icmp .lt off, 3)) (ht : (pc : Int) + off = (tgt : Int)) (ha : a < 2 ^ 31) (hb : b < 2 ^ 31) (kt : a < b → Jw g κ nL tgt L S ws kc ks) (kf : b ≤ a → Jw g κ nL (pc + 3) L S ws kc ks) : Jw g κ nL pc L (.int (nI b) :: .int (nI a) :: S) ws kc ks :=
  j_icmp_lt C hd ht (fun h => kt ((nI_ltI ha hb).mp h)) (fun h => kf (Nat.not_lt.mp fun q => h ((nI_ltI ha hb).mpr q)))
theorem j_icmpn_ge (C : Cx g κ cc nL own rm) {a b : Nat} {off : Int} {tgt : Nat} (hd : decode cc pc = .ok (.if_icmp .ge off, 3)) (ht : (pc : Int) + off = (tgt : Int)) (ha : a < 2 ^ 31) (hb : b < 2 ^ 31) (kt : b ≤ a → Jw g κ nL tgt L S ws kc ks) (kf : a < b → Jw g κ nL (pc + 3) L S ws kc ks) : Jw g κ nL pc L (.int (nI b) :: .int (nI a) :: S) ws kc ks :=
  j_icmp_ge C hd ht (fun h => kt ((nI_leI hb ha).mp h)) (fun h => kf (Nat.not_le.mp fun q => h ((nI_leI hb ha).mpr q)))
theorem j_icmpn_gt (C : Cx g κ cc nL own rm) {a b : Nat} {off : Int} {tgt : Nat} (hd : decode cc pc = .ok (.if_icmp .gt off, 3)) (ht : (pc : Int) + off = (tgt : Int)) (ha : a < 2 ^ 31) (hb : b < 2 ^ 31) (kt : b < a → Jw g κ nL tgt L S ws kc ks) (kf : a ≤ b → Jw g κ nL (pc + 3) L S ws kc ks) : Jw g κ nL pc L (.int (nI b) :: .int (nI a) :: S) ws kc ks :=
  j_icmp_gt C hd ht (fun h => kt ((nI_ltI hb ha).mp h)) (fun h => kf (Nat.not_lt.mp fun q => h ((nI_ltI hb ha).mpr q)))
theorem j_ifn_gt (C : Cx g κ cc nL own rm) {a : Nat} {off : Int} {tgt : Nat} (hd : decode cc pc = .ok (.ifCond .gt off, 3)) (ht : (pc : Int) + off = (tgt : Int)) (ha : a < 2 ^ 31) (kt : 0 < a → Jw g κ nL tgt L S ws kc ks) (kf : a = 0 → Jw g κ nL (pc + 3) L S ws kc ks) : Jw g κ nL pc L (.int (nI a) :: S) ws kc ks :=
  j_if_gt C hd ht (fun h => kt ((nI_ltI (a := 0) (by decide) ha).mp h)) (fun h => kf (Nat.le_zero.mp (Nat.not_lt.mp fun q => h ((nI_ltI (a := 0) (by decide) ha).mpr q))))
theorem j_icmpn_le (C : Cx g κ cc nL own rm) {a b : Nat} {off : Int} {tgt : Nat} (hd : decode cc pc = .ok (.if_icmp .le off, 3)) (ht : (pc : Int) + off = (tgt : Int)) (ha : a < 2 ^ 31) (hb : b < 2 ^ 31) (kt : a ≤ b → Jw g κ nL tgt L S ws kc ks) (kf : b < a → Jw g κ nL (pc + 3) L S ws kc ks) : Jw g κ nL pc L (.int (nI b) :: .int (nI a) :: S) ws kc ks :=
  j_icmp_le C hd ht (fun h => kt ((nI_leI ha hb).mp h)) (fun h => kf (Nat.not_le.mp fun q => h ((nI_leI ha hb).mpr q)))
theorem j_ifn_le (C : Cx g κ cc nL own rm) {a : Nat} {off : Int} {tgt : Nat} (hd : decode cc pc = .ok (.ifCond .le off, 3)) (ht : (pc : Int) + off = (tgt : Int)) (ha : a < 2 ^ 31) (kt : a = 0 → Jw g κ nL tgt L S ws kc ks) (kf : 0 < a → Jw g κ nL (pc + 3) L S ws kc ks) : Jw g κ nL pc L (.int (nI a) :: S) ws kc ks :=
  j_if_le C hd ht (fun h => kt (Nat.le_zero.mp ((nI_leI ha (b := 0) (by decide)).mp h))) (fun h => kf (Nat.pos_of_ne_zero fun q => h ((nI_leI ha (b := 0) (by decide)).mpr (Nat.le_zero.mpr q))))
theorem j_lookup (C : Cx g κ cc nL own rm) {dflt : Int} {ps : Array (Int × Int)} {len : Nat} {x : Int32} {off : Int} {tgt : Nat} (hd : decode cc pc = .ok (.lookupswitch dflt ps, len)) (hp : (ps.toList.zip (ps.toList.drop 1)).all (fun (a, next) => a.1 < next.1) = true) (ho : Op.lookupswitch.offset ps.toList dflt x.toInt = off) (ht : (pc : Int) + off = (tgt : Int)) (k : Jw g κ nL tgt L S ws kc ks) : Jw g κ nL pc L (.int x :: S) ws kc ks :=
  fun ls H locs hl hP hD hS => lv_lookup C.1 C.2.1 hd hp ho ht (k ls H locs hl hP hD hS)
theorem j_tableOut (C : Cx g κ cc nL own rm) {dflt lo hi : Int} {offs : Array Int} {len : Nat} {x : Int32} {tgt : Nat} (hd : decode cc pc = .ok (.tableswitch dflt lo hi offs, len)) (h : x.toInt < lo ∨ hi < x.toInt) (ht : (pc : Int) + dflt = (tgt : Int)) (k : Jw g κ nL tgt L S ws kc ks) : Jw g κ nL pc L (.int x :: S) ws kc ks :=
  fun ls H locs hl hP hD hS => lv_tableOut C.1 C.2.1 hd h ht (k ls H locs hl hP hD hS)
theorem j_tableIn (C : Cx g κ cc nL own rm) {dflt lo hi : Int} {offs : Array Int} {len : Nat} {x : Int32} {off : Int} {tgt : Nat} (hd : decode cc pc = .ok (.tableswitch dflt lo hi offs, len)) (h1 : ¬ x.toInt < lo) (h2 : ¬ hi < x.toInt) (ho : offs[(x.toInt - lo).toNat]? = some off) (ht : (pc : Int) + off = (tgt : Int)) (k : Jw g κ nL tgt L S ws kc ks) : Jw g κ nL pc L (.int x :: S) ws kc ks :=
  fun ls H locs hl hP hD hS => lv_tableIn C.1 C.2.1 hd h1 h2 ho ht (k ls H locs hl hP hD hS)
end JR2
end
section
/-! contracts over the judgement -/
def jB (g : jG) (A : Nat → Prop) (ws : va_W) (t : State) : Prop := va_P (gD g) vwCl ws t.heap ∧ va_K (gD g) vwCl (jT g) t ∧ va_D A ws
def jQ (g : jG) (A : Nat → Prop) (ret : Option FieldType) (Q : Int32 → va_W → Prop) : Array Value → State → Outcome → State → Prop := match ret with
  | none => va_Qv (S := va_W) (fun u => Q 0 u) (jB g A) A
  | some _ => va_Qi (S := va_W) Q (jB g A) A
def jP (g : jG) (args : List Value) (ws : va_W) (sz : Nat) : Array Value → State → Prop := va_Pc args (fun U => U.heap.size = sz ∧ va_P (gD g) vwCl ws U.heap ∧ va_K (gD g) vwCl (jT g) U ∧ va_D (fun _ => True) ws ∧ jE g (va_A ws sz) U)
def MJ (g : jG) (y : MethodName) (cc : ByteArray) (nL : Nat) (ret : Option FieldType) (rm : Room) (args : List Value) (ws : va_W) (Q : Int32 → va_W → Prop) : Prop :=
  ∀ sz : Nat, Met (gL g) y (Cond.code y cc nL ret :: lw_gd) rm (jP g args ws sz) (jQ g (va_A ws sz) ret Q) rm.cells rm.slots (va_A ws sz)
def Mx (g : jG) (κ : jC) (cc : ByteArray) (nL : Nat) (own : String) (rm : Room) (ret : Option FieldType) (nm : String) (Q : Int32 → va_W → Prop) : Prop :=
  Cx g κ cc nL own rm ∧ (kMe κ).sig.returnType = ret ∧ (kMe κ).locks = false ∧ kQ κ = MQ (kBl κ) (jQ g (kA κ) ret Q) (kAr κ) (kS κ) rm.cells rm.slots (kA κ) ∧ (kMe κ).name = nm
theorem lv_args_jlv : ∀ (vs : List Value) (k n : Nat), (∀ v ∈ vs, v.category = 1) → jlv k (vs.map some ++ List.replicate n none) = lv_args k vs
  | [], k, n, _ => by
    rw [List.map_nil, List.nil_append]
    induction n generalizing k with
    | zero => rfl
    | succ n ih => rw [List.replicate_succ]; exact ih (k + 1)
  | v :: vs, k, n, h => by
    show (k, v) :: jlv (k + 1) (vs.map some ++ List.replicate n none) = (k, v) :: lv_args (if v.category = 2 then k + 2 else k + 1) vs
    have hv := h v List.mem_cons_self
    rw [if_neg (by omega), lv_args_jlv vs (k + 1) n (fun w hw => h w (List.mem_cons_of_mem _ hw))]
theorem MJ_of {g : jG} {y : MethodName} {cc : ByteArray} {nL : Nat} {ret : Option FieldType} {rm : Room} {args : List Value} {ws : va_W} {Q : Int32 → va_W → Prop} (hy : plainName y.cls = true) (hn : (lg_sl args).length ≤ nL) (hcat : ∀ v ∈ args, v.category = 1)
    (h : ∀ κ : jC, Mx g κ cc nL y.cls rm ret y.name Q → Jw g κ nL 0 (args.map some ++ List.replicate (nL - args.length) none) [] ws 0 0) : MJ g y cc nL ret rm args ws Q := by
  intro sz
  refine Met.ofW (cc := cc) (maxL := nL) (ret := ret) hy rfl ?_
  intro p e s m args0 below meth c s₁ B hml hv
  obtain ⟨rfl, hsz, hP, hK, hD0, hE⟩ := hv
  subst hsz
  have hts := atoms_spec (ws := Cond.code y cc nL ret :: lw_gd) B.pre
  have hC : Cx g (p, e, rm, s, m, args.toArray, below, meth, c, va_A ws s.heap.size, MQ below (jQ g (va_A ws s.heap.size) ret Q) args.toArray s rm.cells rm.slots (va_A ws s.heap.size)) cc nL y.cls rm :=
    ⟨B.exec, B.bytes, hml, findClass_of_methodNamed B.named, fun w hw => hts w (List.mem_cons_of_mem _ hw), hK, fun q hq => Or.inr hq, hE, rfl⟩
  have hJ := h _ ⟨hC, B.returns, B.notSynchronized, rfl, (name_of_methodNamed B.named B.method).1⟩
  have hl := lv_entry args (n := nL) hn
  rw [lg_entry_eq]
  refine hJ _ s.heap [] ⟨?_, ?_⟩ hP hD0.self va_S.rf
  · rw [lv_args_jlv args 0 _ hcat]
    exact hl
  · intro j v hj
    by_cases hjl : j < (args.map some).length
    · rw [List.getElem?_append_left hjl, List.getElem?_map] at hj
      cases hx : args[j]? with
      | none => rw [hx] at hj; cases hj
      | some w =>
        rw [hx] at hj
        cases hj
        exact hcat v (List.mem_of_getElem? hx)
    · rw [List.getElem?_append_right (by omega)] at hj
      have := List.mem_of_getElem? hj
      rw [List.mem_replicate] at this
      cases this.2
/-- a call's words: of an instance method, by its class -/
def jml (own : String) (idx : Nat) (y : MethodName) (n : Nat) : Prop := Cond.methodLink own idx y ∈ lw_gd ∧ Cond.instanceMethod y ∈ lw_gd ∧ Cond.selects y.cls y y ∈ lw_gd ∧ Cond.initialized y.cls ∈ lw_gd ∧ y.cls ≠ "java/lang/invoke/MethodHandle" ∧ y.cls ≠ "java/lang/invoke/VarHandle" ∧ (parseMethodDescriptor y.desc).map (fun d => d.parameters.length) = some n
def jms (own : String) (idx : Nat) (y : MethodName) (n : Nat) : Prop := Cond.methodLink own idx y ∈ lw_gd ∧ Cond.static y ∈ lw_gd ∧ Cond.initialized y.cls ∈ lw_gd ∧ y.cls ≠ "java/lang/invoke/MethodHandle" ∧ y.cls ≠ "java/lang/invoke/VarHandle" ∧ (parseMethodDescriptor y.desc).map (fun d => d.parameters.length) = some n
section JCALL
variable {g : jG} {κ : jC} {cc : ByteArray} {nL pc : Nat} {own : String} {rm : Room} {L : List (Option Value)} {S : List Value} {ws : va_W} {kc ks : Nat}
theorem jP_blind {args : List Value} {sz : Nat} : FrameBlind (jP g args ws sz) := fun a U gf mk q => by
  obtain ⟨q0, q1, qP, qK, qD, qE⟩ := q
  exact ⟨q0, q1, qP, va_K.moved (u := U) (U := U.calling gf mk a) (Vm.Alike.refl U.vm) qK, qD, jE_call qE⟩
theorem j_sub {H : Heap} {locs : List Loc} (C : Cx g κ cc nL own rm) (hD : va_D (kA κ) ws) (hS : va_S (kA κ) (kS κ).heap H locs) : ∀ q, va_A ws H.size q → kA κ q := fun q h => by
  rcases h with ⟨k, e, h⟩ | h
  · exact hD.2 k (q, e) h
  · exact C.2.2.2.2.2.2.1 q (Nat.le_trans hS.1 h)
theorem jP_now {H : Heap} {locs : List Loc} {args : List Value} (C : Cx g κ cc nL own rm) (hP : va_P (gD g) vwCl ws H) (hD : va_D (kA κ) ws) (hS : va_S (kA κ) (kS κ).heap H locs) : ∀ U : State, U.heap = H → (kS κ).WarmedH U.vm → jP g args ws H.size args.toArray U := fun U hU hW =>
  ⟨rfl, by rw [hU], by rw [hU]; exact hP, va_K.moved hW.alike C.2.2.2.2.2.1, hD.weaken (fun _ _ _ _ => trivial), jE_to C.2.2.2.2.2.2.2.1 hS hU hW (j_sub C hD hS)⟩
theorem j_run {y : MethodName} {c' : ByteArray} {n' idx n : Nat} {ret : Option FieldType} {r' : Room} {a : Nat} {As rest : List Value} {Q : Int32 → va_W → Prop} {ci q0 : Nat} {r : vw_C} {fs : List Value} (C : Cx g κ cc nL own rm) (hM : MJ g y c' n' ret r' (.ref a :: As) ws Q) (hcd : Cond.code y c' n' ret ∈ lw_gd) (hl : jml own idx y n) (hR : r'.frames + 1 ≤ rm.frames ∧ 8 + (n' + 11) + r'.locals ≤ rm.locals) (hf : kc + r'.cells ≤ rm.cells ∧ ks + r'.slots ≤ rm.slots)
    (hq0 : ws[q0]? = some (a, .inr (ci, fs))) (hci : vwCl[ci]? = some r) (hr : r.1 = y.cls) (hn : As.length = n) (hst : S = As.reverse ++ .ref a :: rest) (hW : (rest.map fun v => v.category).sum ≤ 8) (hd : decode cc pc = .ok (.invokevirtual idx, 3)) {ls : Array Slot} {H : Heap} {locs : List Loc} (hjl : jl ls nL L) (hP : va_P (gD g) vwCl ws H) (hD : va_D (kA κ) ws) (hS : va_S (kA κ) (kS κ).heap H locs) :
    va_Run (kP κ) (gL g) (kE κ) (kR κ) (kS κ) (kM κ) (kAr κ) (kBl κ) (kMe κ) (kC κ) H locs kc ks r'.cells r'.slots (F0 (kM κ) pc ls S) rest (jQ g (va_A ws H.size) ret Q (Value.ref a :: As).toArray) (va_A ws H.size) := by
  obtain ⟨c1, c2, c3, c4, c5, c6, c7, c8, c9⟩ := C
  obtain ⟨m1, m2, m3, m4, m5, m6, m7⟩ := hl
  have hrc := va_recv c6 hP hci hq0
  rw [hr] at hrc
  refine va_runV (Ts := lw_gd) (own := own) (C := y.cls) (n := n) (As := As) (rest := rest) ⟨c1, c2, c3, c4, c5⟩ (hM H.size) ⟨callB_of n c5 (gd_in hcd) rfl rfl rfl (c5 _ m4) (c5 _ m1) ⟨m5, m6, m7⟩ (by rw [c9]; exact hR), c5 _ m2, c5 _ m3⟩ ⟨jP_blind, hrc, jP_now ⟨c1, c2, c3, c4, c5, c6, c7, c8, c9⟩ hP hD hS⟩ rfl hn hjl.1.1 hst (lv_room hW) hd (by rw [c9]; exact hf)
end JCALL
section JCALL2
variable {g : jG} {κ : jC} {cc : ByteArray} {nL pc : Nat} {own : String} {rm : Room} {L : List (Option Value)} {S : List Value} {ws : va_W} {kc ks : Nat}
theorem j_runS {y : MethodName} {c' : ByteArray} {n' idx n : Nat} {ret : Option FieldType} {r' : Room} {As rest : List Value} {Q : Int32 → va_W → Prop} (C : Cx g κ cc nL own rm) (hM : MJ g y c' n' ret r' As ws Q) (hcd : Cond.code y c' n' ret ∈ lw_gd) (hl : jms own idx y n) (hR : r'.frames + 1 ≤ rm.frames ∧ 8 + (n' + 11) + r'.locals ≤ rm.locals) (hf : kc + r'.cells ≤ rm.cells ∧ ks + r'.slots ≤ rm.slots)
    (hn : As.length = n) (hst : S = As.reverse ++ rest) (hW : (rest.map fun v => v.category).sum ≤ 8) (hd : decode cc pc = .ok (.invokestatic idx, 3)) {ls : Array Slot} {H : Heap} {locs : List Loc} (hjl : jl ls nL L) (hP : va_P (gD g) vwCl ws H) (hD : va_D (kA κ) ws) (hS : va_S (kA κ) (kS κ).heap H locs) :
    va_Run (kP κ) (gL g) (kE κ) (kR κ) (kS κ) (kM κ) (kAr κ) (kBl κ) (kMe κ) (kC κ) H locs kc ks r'.cells r'.slots (F0 (kM κ) pc ls S) rest (jQ g (va_A ws H.size) ret Q As.toArray) (va_A ws H.size) := by
  obtain ⟨c1, c2, c3, c4, c5, c6, c7, c8, c9⟩ := C
  obtain ⟨m1, m2, m4, m5, m6, m7⟩ := hl
  refine va_runS (Ts := lw_gd) (own := own) (n := n) (As := As) (rest := rest) ⟨c1, c2, c3, c4, c5⟩ (hM H.size) ⟨callB_of n c5 (gd_in hcd) rfl rfl rfl (c5 _ m4) (c5 _ m1) ⟨m5, m6, m7⟩ (by rw [c9]; exact hR), c5 _ m2⟩ ⟨jP_blind, jP_now ⟨c1, c2, c3, c4, c5, c6, c7, c8, c9⟩ hP hD hS⟩ rfl hn hjl.1.1 hst (lv_room hW) hd (by rw [c9]; exact hf)
theorem j_runSN {y : MethodName} {c' : ByteArray} {n' idx n : Nat} {ret : Option FieldType} {r' : Room} {host : String} {As rest : List Value} {Q : Int32 → va_W → Prop} (C : Cx g κ cc nL own rm) (hM : MJ g y c' n' ret r' As ws Q) (hcd : Cond.code y c' n' ret ∈ lw_gd) (hl : va_Nw (.methodLinkNest own idx y host) (kS κ)) (hst0 : Cond.static y ∈ lw_gd) (hini : Cond.initialized y.cls ∈ lw_gd) (hdy : y.cls ≠ "java/lang/invoke/MethodHandle" ∧ y.cls ≠ "java/lang/invoke/VarHandle" ∧ (parseMethodDescriptor y.desc).map (fun d => d.parameters.length) = some n) (hR : r'.frames + 1 ≤ rm.frames ∧ 8 + (n' + 11) + r'.locals ≤ rm.locals) (hf : kc + r'.cells ≤ rm.cells ∧ ks + r'.slots ≤ rm.slots)
    (hn : As.length = n) (hst : S = As.reverse ++ rest) (hW : (rest.map fun v => v.category).sum ≤ 8) (hd : decode cc pc = .ok (.invokestatic idx, 3)) {ls : Array Slot} {H : Heap} {locs : List Loc} (hjl : jl ls nL L) (hP : va_P (gD g) vwCl ws H) (hD : va_D (kA κ) ws) (hS : va_S (kA κ) (kS κ).heap H locs) :
    va_Run (kP κ) (gL g) (kE κ) (kR κ) (kS κ) (kM κ) (kAr κ) (kBl κ) (kMe κ) (kC κ) H locs kc ks r'.cells r'.slots (F0 (kM κ) pc ls S) rest (jQ g (va_A ws H.size) ret Q As.toArray) (va_A ws H.size) := by
  obtain ⟨c1, c2, c3, c4, c5, c6, c7, c8, c9⟩ := C
  refine va_runSN (Ts := lw_gd) (own := own) (n := n) (As := As) (rest := rest) ⟨c1, c2, c3, c4, c5⟩ (hM H.size) ⟨va_cnB n c5 (gd_in hcd) rfl rfl rfl hl (c5 _ hini) hdy (by rw [c9]; exact hR), c5 _ hst0, trivial⟩ ⟨jP_blind, jP_now ⟨c1, c2, c3, c4, c5, c6, c7, c8, c9⟩ hP hD hS⟩ rfl hn hjl.1.1 hst (lv_room hW) hd (by rw [c9]; exact hf)
/-- behind a call -/
theorem j_backi {mc ms : Nat} {rest : List Value} {Q : Int32 → va_W → Prop} {t0 : FieldType} {a : Array Value} (C : Cx g κ cc nL own rm)
    (hr : ∀ (ls : Array Slot) (H : Heap) (locs : List Loc), jl ls nL L → va_P (gD g) vwCl ws H → va_D (kA κ) ws → va_S (kA κ) (kS κ).heap H locs → va_Run (kP κ) (gL g) (kE κ) (kR κ) (kS κ) (kM κ) (kAr κ) (kBl κ) (kMe κ) (kC κ) H locs kc ks mc ms (F0 (kM κ) pc ls S) rest (jQ g (va_A ws H.size) (some t0) Q a) (va_A ws H.size))
    (kk : ∀ (r : Int32) (ws' : va_W), Q r ws' → Jw g κ nL (pc + 3) L (.int r :: rest) ws' (kc + mc) (ks + ms)) : Jw g κ nL pc L S ws kc ks := fun ls H locs hl hP hD hS => by
  have hsub := j_sub C hD hS
  refine va_calli (a := a) (post := Q) (B := jB g (va_A ws H.size)) (A1 := va_A ws H.size) (hr ls H locs hl hP hD hS) hS (fun q _ h => hsub q h) hsub (fun r u t H1 locs1 ht hvm hw hB hz1 hk1 hS1 => ?_)
  obtain ⟨hP1, hK1, hD1⟩ := hB
  rw [ht] at hP1
  exact kk r u hw ls H1 locs1 hl hP1 (hD1.weaken (fun k q _ h => hsub q.1 h)) hS1
theorem j_backv {mc ms : Nat} {rest : List Value} {Q : Int32 → va_W → Prop} {a : Array Value} (C : Cx g κ cc nL own rm)
    (hr : ∀ (ls : Array Slot) (H : Heap) (locs : List Loc), jl ls nL L → va_P (gD g) vwCl ws H → va_D (kA κ) ws → va_S (kA κ) (kS κ).heap H locs → va_Run (kP κ) (gL g) (kE κ) (kR κ) (kS κ) (kM κ) (kAr κ) (kBl κ) (kMe κ) (kC κ) H locs kc ks mc ms (F0 (kM κ) pc ls S) rest (jQ g (va_A ws H.size) none Q a) (va_A ws H.size))
    (kk : ∀ ws' : va_W, Q 0 ws' → Jw g κ nL (pc + 3) L rest ws' (kc + mc) (ks + ms)) : Jw g κ nL pc L S ws kc ks := fun ls H locs hl hP hD hS => by
  have hsub := j_sub C hD hS
  refine va_callv (a := a) (post := fun u => Q 0 u) (B := jB g (va_A ws H.size)) (A1 := va_A ws H.size) (hr ls H locs hl hP hD hS) hS (fun q _ h => hsub q h) hsub (fun u t H1 locs1 ht hvm hw hB hz1 hk1 hS1 => ?_)
  obtain ⟨hP1, hK1, hD1⟩ := hB
  rw [ht] at hP1
  exact kk u hw ls H1 locs1 hl hP1 (hD1.weaken (fun k q _ h => hsub q.1 h)) hS1
/-- a method's end -/
theorem j_ireturn {Q : Int32 → va_W → Prop} {nm : String} {x : Int32} (M : Mx g κ cc nL own rm (some .int) nm Q) (hd : decode cc pc = .ok (.ireturn, 1)) (hc : kc ≤ rm.cells) (hs : ks ≤ rm.slots) (hq : Q x ws) : Jw g κ nL pc L [.int x] ws kc ks := fun ls H locs hl hP hD hS => by
  obtain ⟨C, m1, m2, m3, m4⟩ := M
  obtain ⟨c1, c2, c3, c4, c5, c6, c7, c8, c9⟩ := C
  rw [m3]
  refine W.widen (k := rm.cells) (n := rm.slots) hc hs ?_
  exact W.iret (v := x) c1 c2 m1 (fun t ht hW => ⟨⟨x, ws, rfl, hq, by rw [ht]; exact hP, va_K.moved hW.alike c6, hD⟩, hS.F ht⟩) hS.2.2 hd m2
theorem j_zreturn {Q : Int32 → va_W → Prop} {nm : String} {x : Int32} (M : Mx g κ cc nL own rm (some .boolean) nm Q) (hx : narrow .boolean (.int x) = .int x) (hd : decode cc pc = .ok (.ireturn, 1)) (hc : kc ≤ rm.cells) (hs : ks ≤ rm.slots) (hq : Q x ws) : Jw g κ nL pc L [.int x] ws kc ks := fun ls H locs hl hP hD hS => by
  obtain ⟨C, m1, m2, m3, m4⟩ := M
  obtain ⟨c1, c2, c3, c4, c5, c6, c7, c8, c9⟩ := C
  rw [m3]
  refine W.widen (k := rm.cells) (n := rm.slots) hc hs ?_
  exact W.zret (v := x) c1 c2 m1 hx (fun t ht hW => ⟨⟨x, ws, rfl, hq, by rw [ht]; exact hP, va_K.moved hW.alike c6, hD⟩, hS.F ht⟩) hS.2.2 hd m2
theorem j_return {Q : Int32 → va_W → Prop} {nm : String} (M : Mx g κ cc nL own rm none nm Q) (hd : decode cc pc = .ok (.return_, 1)) (hc : kc ≤ rm.cells) (hs : ks ≤ rm.slots) (hq : Q 0 ws) : Jw g κ nL pc L [] ws kc ks := fun ls H locs hl hP hD hS => by
  obtain ⟨C, m1, m2, m3, m4⟩ := M
  obtain ⟨c1, c2, c3, c4, c5, c6, c7, c8, c9⟩ := C
  rw [m3]
  refine W.widen (k := rm.cells) (n := rm.slots) hc hs ?_
  exact W.vret c1 c2 m1 (fun t ht hW => ⟨⟨ws, rfl, hq, by rw [ht]; exact hP, va_K.moved hW.alike c6, hD⟩, hS.F ht⟩) hS.2.2 hd m2
end JCALL2
/-! the cells: by their places -/
def cI (g : jG) (n : Nat) (f : Nat → Int32) : va_E := .inl (gA g 0, n, .inl f)
def cZ (g : jG) (n : Nat) (f : Nat → Int32) : va_E := .inl (gA g 1, n, .inl f)
/-- a row of references: to the cells at b, b + w, b + 2 w .. -/
def cR (g : jG) (ty b w n : Nat) (_ : Nat → Int32) : va_E := .inl (gA g ty, n, .inr (.inr (.inr (.inr (fun i => if i < n then some (gad g (b + w * i)) else none)))))
def cNet (g : jG) (b : Nat) (f : Nat → Int32) : va_E := .inr (3, [.int (f 0), .int (f 1), .int (f 2), .ref (gad g (b + 1)), .ref (gad g (b + 2)), .ref (gad g (b + 3)), .ref (gad g (b + 4)), .ref (gad g (b + 5)), .ref (gad g (b + 6)), .ref (gad g (b + 7)), .ref (gad g (b + 8))])
def cSt (g : jG) (b : Nat) (f : Nat → Int32) : va_E := .inr (6, [.int (f 0), .ref (gad g (b + 1)), .ref (gad g (b + 2)), .ref (gad g (b + 3)), .int (f 4), .int (f 5), .int (f 6)])
def cf (g : jG) (k : Nat) : (Nat → Int32) → va_E := (cond (Nat.blt k 48) (cond (Nat.blt k 24) (cond (Nat.blt k 12) (cond (Nat.blt k 6) (cond (Nat.blt k 3) (cond (Nat.blt k 1) (fun _ => .inr (7, [.ref (gad g 1), .ref (gad g 3), .ref (gad g 12), .ref (gad g 21), .ref (gad g 23), .ref (gad g 44), .ref (gad g 48), .ref (gad g 52), .ref (gad g 45), .ref (gad g 47)])) (cond (Nat.blt k 2) (fun f => .inr (1, [.ref (gad g 2), .int (f 1)])) (cI g 200))) (cond (Nat.blt k 4) (cNet g 3) (cond (Nat.blt k 5) (cI g 12) (cI g 12)))) (cond (Nat.blt k 9) (cond (Nat.blt k 7) (cI g 12) (cond (Nat.blt k 8) (cI g 12) (cI g 6))) (cond (Nat.blt k 10) (cI g 6) (cond (Nat.blt k 11) (cI g 6) (cZ g 7))))) (cond (Nat.blt k 18) (cond (Nat.blt k 15) (cond (Nat.blt k 13) (cNet g 12) (cond (Nat.blt k 14) (cI g 12) (cI g 12))) (cond (Nat.blt k 16) (cI g 12) (cond (Nat.blt k 17) (cI g 12) (cI g 6)))) (cond (Nat.blt k 21) (cond (Nat.blt k 19) (cI g 6) (cond (Nat.blt k 20) (cI g 6) (cZ g 7))) (cond (Nat.blt k 22) (fun _ => .inr (5, [.ref (gad g 22)])) (cond (Nat.blt k 23) (cI g 4) (fun _ => .inr (0, [.ref (gad g 3), .ref (gad g 24), .ref (gad g 32), .ref (gad g 39), .ref (gad g 40), .ref (gad g 41), .ref (gad g 42), .ref (gad g 43)]))))))) (cond (Nat.blt k 36) (cond (Nat.blt k 30) (cond (Nat.blt k 27) (cond (Nat.blt k 25) (cR g 2 25 1 7) (cond (Nat.blt k 26) (cI g 7) (cI g 7))) (cond (Nat.blt k 28) (cI g 7) (cond (Nat.blt k 29) (cI g 7) (cI g 7)))) (cond (Nat.blt k 33) (cond (Nat.blt k 31) (cI g 7) (cond (Nat.blt k 32) (cI g 7) (cR g 2 33 1 6))) (cond (Nat.blt k 34) (cI g 12) (cond (Nat.blt k 35) (cI g 12) (cI g 12))))) (cond (Nat.blt k 42) (cond (Nat.blt k 39) (cond (Nat.blt k 37) (cI g 12) (cond (Nat.blt k 38) (cI g 12) (cI g 12))) (cond (Nat.blt k 40) (cI g 12) (cond (Nat.blt k 41) (cZ g 6) (cI g 7)))) (cond (Nat.blt k 45) (cond (Nat.blt k 43) (cI g 7) (cond (Nat.blt k 44) (cI g 12) (fun f => .inr (2, [.ref (gad g 3), .ref (gad g 23), .ref (gad g 56), .int (f 3), .int (f 4), .int (f 5)])))) (cond (Nat.blt k 46) (fun f => .inr (4, [.ref (gad g 46), .int (f 1), .int (f 2)])) (cond (Nat.blt k 47) (cR g 3 60 4 6) (cI g 12))))))) (cond (Nat.blt k 72) (cond (Nat.blt k 60) (cond (Nat.blt k 54) (cond (Nat.blt k 51) (cond (Nat.blt k 49) (cSt g 48) (cond (Nat.blt k 50) (cI g 12) (cZ g 12))) (cond (Nat.blt k 52) (cI g 6) (cond (Nat.blt k 53) (cSt g 52) (cI g 12)))) (cond (Nat.blt k 57) (cond (Nat.blt k 55) (cZ g 12) (cond (Nat.blt k 56) (cI g 6) (cSt g 56))) (cond (Nat.blt k 58) (cI g 12) (cond (Nat.blt k 59) (cZ g 12) (cI g 6))))) (cond (Nat.blt k 66) (cond (Nat.blt k 63) (cond (Nat.blt k 61) (cSt g 60) (cond (Nat.blt k 62) (cI g 12) (cZ g 12))) (cond (Nat.blt k 64) (cI g 6) (cond (Nat.blt k 65) (cSt g 64) (cI g 12)))) (cond (Nat.blt k 69) (cond (Nat.blt k 67) (cZ g 12) (cond (Nat.blt k 68) (cI g 6) (cSt g 68))) (cond (Nat.blt k 70) (cI g 12) (cond (Nat.blt k 71) (cZ g 12) (cI g 6)))))) (cond (Nat.blt k 84) (cond (Nat.blt k 78) (cond (Nat.blt k 75) (cond (Nat.blt k 73) (cSt g 72) (cond (Nat.blt k 74) (cI g 12) (cZ g 12))) (cond (Nat.blt k 76) (cI g 6) (cond (Nat.blt k 77) (cSt g 76) (cI g 12)))) (cond (Nat.blt k 81) (cond (Nat.blt k 79) (cZ g 12) (cond (Nat.blt k 80) (cI g 6) (cSt g 80))) (cond (Nat.blt k 82) (cI g 12) (cond (Nat.blt k 83) (cZ g 12) (cI g 6))))) (cond (Nat.blt k 90) (cond (Nat.blt k 87) (cond (Nat.blt k 85) (fun f => .inr (8, [.ref (gad g 85), .int (f 1), .int (f 2), .ref (gad g 86), .ref (gad g 87), .int (f 5), .int (f 6), .int (f 7), .ref (gad g 88), .ref (gad g 89), .int (f 10), .int (f 11), .int (f 12), .ref (gad g 90), .ref (gad g 91), .int (f 15), .int (f 16), .ref (gad g 92), .ref (gad g 93), .ref (gad g 94), .ref (gad g 95), .ref (gad g 96), .int (f 22), .int (f 23), .int (f 24), .int (f 25)])) (cond (Nat.blt k 86) (cI g 200) (cI g 48))) (cond (Nat.blt k 88) (cI g 18) (cond (Nat.blt k 89) (cI g 48) (cI g 18)))) (cond (Nat.blt k 93) (cond (Nat.blt k 91) (cI g 21) (cond (Nat.blt k 92) (cI g 126) (cI g 4))) (cond (Nat.blt k 95) (cond (Nat.blt k 94) (cI g 7) (cI g 12)) (cond (Nat.blt k 96) (cI g 7) (cI g 12))))))))
def Wd (g : jG) (σ : Sg) : va_W := (List.range (gN g)).map (fun k => (gad g k, cf g k (σ k)))
def up2 (σ : Sg) (k i : Nat) (v : Int32) : Sg := fun j => if j = k then upd (σ k) i v else σ j
theorem up2_at (σ : Sg) (k i : Nat) (v : Int32) : up2 σ k i v k = upd (σ k) i v := if_pos rfl
theorem up2_ne {σ : Sg} {k i j : Nat} {v : Int32} (h : j ≠ k) : up2 σ k i v j = σ j := if_neg h
theorem up2_v {σ : Sg} {k i : Nat} {v : Int32} : up2 σ k i v k i = v := by rw [up2_at]; exact pk_us
theorem up2_n {σ : Sg} {k i j n : Nat} {v : Int32} (h : ¬ (j = k ∧ n = i)) : up2 σ k i v j n = σ j n := by
  by_cases hj : j = k
  · subst hj
    rw [up2_at]
    exact pk_un (fun e => h ⟨rfl, e⟩)
  · rw [up2_ne hj]
theorem up2_all (σ : Sg) (k i : Nat) (v : Int32) (j n : Nat) : up2 σ k i v j n = if j = k ∧ n = i then v else σ j n := by
  split
  · next h =>
    obtain ⟨rfl, rfl⟩ := h
    exact up2_v
  · next h => exact up2_n h
theorem wd_get {g : jG} {σ : Sg} {k : Nat} (hk : k < gN g) : (Wd g σ)[k]? = some (gad g k, cf g k (σ k)) := by
  unfold Wd
  rw [List.getElem?_map, List.getElem?_range hk]
  rfl
theorem wd_set {g : jG} {σ : Sg} {k i : Nat} {v : Int32} {e : va_E} (he : cf g k (upd (σ k) i v) = e) : (Wd g σ).set k (gad g k, e) = Wd g (up2 σ k i v) := by
  apply List.ext_getElem?
  intro j
  unfold Wd
  by_cases hj : j < gN g
  · by_cases hjk : k = j
    · subst hjk
      rw [List.getElem?_set_self (by simpa using hj), List.getElem?_map, List.getElem?_range hj]
      show some _ = some (gad g k, cf g k (up2 σ k i v k))
      rw [up2_at, he]
    · rw [List.getElem?_set_ne hjk, List.getElem?_map, List.getElem?_map, List.getElem?_range hj]
      show some (gad g j, cf g j (σ j)) = some (gad g j, cf g j (up2 σ k i v j))
      rw [up2_ne (fun q => hjk q.symm)]
  · rw [List.getElem?_eq_none (by simp; omega), List.getElem?_eq_none (by simp; omega)]
abbrev J (g : jG) (κ : jC) (nL pc : Nat) (L : List (Option Value)) (S : List Value) (σ : Sg) : Prop := Jw g κ nL pc L S (Wd g σ) 0 0
def jS (g : jG) (Q : Int32 → Sg → Prop) : Int32 → va_W → Prop := fun r ws => ∃ σ : Sg, ws = Wd g σ ∧ Q r σ
abbrev MS (g : jG) (y : MethodName) (cc : ByteArray) (nL : Nat) (ret : Option FieldType) (rm : Room) (args : List Value) (σ : Sg) (Q : Int32 → Sg → Prop) : Prop := MJ g y cc nL ret rm args (Wd g σ) (jS g Q)
/-- links of fields -/
def jfl (own : String) (index ci k : Nat) : Prop := ∃ (C : String) (T : u_T) (n : Nat), vwCl[ci]? = some (C, T, n) ∧ k < n ∧ (∀ w ∈ u_ws C T n, w ∈ lw_gd) ∧ Cond.fieldLink own index (T k).1 (T k).2.1 (T k).2.2.1 ∈ lw_gd
def jfp (own : String) (index ci k : Nat) (ty : FieldType) : Prop := ∃ (C : String) (T : u_T) (n : Nat) (t0 : Nat → FieldType), vwCl[ci]? = some (C, T, n) ∧ k < n ∧ (∀ w ∈ u_ws C T n, w ∈ lw_gd) ∧ Cond.fieldLink own index (T k).1 (T k).2.1 (T k).2.2.1 ∈ lw_gd ∧ (∀ k, k < n → parseFieldDescriptor (T k).2.2.1 = some (t0 k)) ∧ (∀ a, a < n → ∀ b, b < n → a ≠ b → (T a).2.1 ≠ (T b).2.1) ∧ (T k).2.2.2 = false ∧ parseFieldDescriptor (T k).2.2.1 = some ty
section JH
variable {g : jG} {κ : jC} {cc : ByteArray} {nL pc : Nat} {own : String} {rm : Room} {L : List (Option Value)} {S : List Value} {σ : Sg}
theorem j_get (C : Cx g κ cc nL own rm) {index ci k q : Nat} {fs : List Value} {v : Value} (hf : jfl own index ci k) (hd : decode cc pc = .ok (.getfield index, 3)) (hq : q < gN g) (he : cf g q (σ q) = .inr (ci, fs)) (hv : fs[k]? = some v) (kk : J g κ nL (pc + 3) L (v :: S) σ) : J g κ nL pc L (.ref (gad g q) :: S) σ := fun ls H locs hl hP hD hS => by
  obtain ⟨Cn, T, n, f1, f2, f3, f4⟩ := hf
  obtain ⟨c1, c2, c3, c4, c5, c6, c7, c8, c9⟩ := C
  exact va_get (D := gD g) c1 c2 c5 f3 c4 c6 hP q (by rw [wd_get hq, he]) f1 k f2 (c5 _ f4) (fun _ h9 => h9) hv hd (kk ls H locs hl hP hD hS)
theorem j_put (C : Cx g κ cc nL own rm) {index ci k q : Nat} {ty : FieldType} {fs : (Nat → Int32) → List Value} {x : Int32} (hf : jfp own index ci k ty) (hd : decode cc pc = .ok (.putfield index, 3)) (hq : q < gN g) (he : ∀ f, cf g q f = .inr (ci, fs f)) (hset : (fs (σ q)).set k (.int x) = fs (upd (σ q) k x)) (hl0 : k < (fs (σ q)).length) (hn : narrow ty (.int x) = .int x) (hfit : fits ty (.int x) = true) (kk : J g κ nL (pc + 3) L S (up2 σ q k x)) : J g κ nL pc L (.int x :: .ref (gad g q) :: S) σ := fun ls H locs hl hP hD hS => by
  obtain ⟨Cn, T, n, t0, f1, f2, f3, f4, f5, f6, f7, f8⟩ := hf
  obtain ⟨c1, c2, c3, c4, c5, c6, c7, c8, c9⟩ := C
  refine va_put (D := gD g) (v := .int x) (ty := ty) c1 c2 c5 f3 t0 f5 f6 c4 c6 hP hD hS q (by rw [wd_get hq, he]) f1 k f2 (c5 _ f4) (fun _ h9 => h9) f7 f8 hn hfit hl0 hd (fun H1 locs1 hP1 hD1 hS1 => ?_)
  rw [hset, wd_set (he _)] at hP1 hD1
  exact kk ls H1 locs1 hl hP1 hD1 hS1
theorem j_iald (C : Cx g κ cc nL own rm) {q n e : Nat} (hd : decode cc pc = .ok (.iaload, 1)) (hq : q < gN g) (he : ∀ f, cf g q f = cI g n f) (hn : n < 2 ^ 31) (hi : e < n) (kk : J g κ nL (pc + 1) L (.int (σ q e) :: S) σ) : J g κ nL pc L (.int (nI e) :: .ref (gad g q) :: S) σ := fun ls H locs hl hP hD hS => by
  refine va_iald (D := gD g) C.1 C.2.1 C.2.2.2.2.2.1 hP q 0 (by rw [wd_get hq, he]; rfl) rfl (vp_in_nI hi hn) hd ?_
  rw [nI_clamp (by omega)]
  exact kk ls H locs hl hP hD hS
theorem j_zald (C : Cx g κ cc nL own rm) {q n e : Nat} (hd : decode cc pc = .ok (.baload, 1)) (hq : q < gN g) (he : ∀ f, cf g q f = cZ g n f) (hn : n < 2 ^ 31) (hi : e < n) (kk : J g κ nL (pc + 1) L (.int (σ q e) :: S) σ) : J g κ nL pc L (.int (nI e) :: .ref (gad g q) :: S) σ := fun ls H locs hl hP hD hS => by
  refine va_zald (D := gD g) C.1 C.2.1 C.2.2.2.2.2.1 hP q 1 (by rw [wd_get hq, he]; rfl) rfl (vp_in_nI hi hn) hd ?_
  rw [nI_clamp (by omega)]
  exact kk ls H locs hl hP hD hS
theorem j_iast (C : Cx g κ cc nL own rm) {q n e : Nat} {x : Int32} (hd : decode cc pc = .ok (.iastore, 1)) (hq : q < gN g) (he : ∀ f, cf g q f = cI g n f) (hn : n < 2 ^ 31) (hi : e < n) (kk : J g κ nL (pc + 1) L S (up2 σ q e x)) : J g κ nL pc L (.int x :: .int (nI e) :: .ref (gad g q) :: S) σ := fun ls H locs hl hP hD hS => by
  refine va_iast (D := gD g) C.1 C.2.1 C.2.2.2.2.2.1 hP hD hS q 0 (by rw [wd_get hq, he]; rfl) rfl (vp_in_nI hi hn) hd (fun H1 locs1 hP1 hD1 hS1 => ?_)
  rw [nI_clamp (by omega)] at hP1 hD1
  rw [wd_set (i := e) (v := x) (by rw [he]; rfl)] at hP1 hD1
  exact kk ls H1 locs1 hl hP1 hD1 hS1
theorem j_zast (C : Cx g κ cc nL own rm) {q n e : Nat} {x : Int32} (hd : decode cc pc = .ok (.bastore, 1)) (hq : q < gN g) (he : ∀ f, cf g q f = cZ g n f) (hn : n < 2 ^ 31) (hi : e < n) (hx : vp_nar .boolean x = x) (kk : J g κ nL (pc + 1) L S (up2 σ q e x)) : J g κ nL pc L (.int x :: .int (nI e) :: .ref (gad g q) :: S) σ := fun ls H locs hl hP hD hS => by
  refine va_zast (D := gD g) C.1 C.2.1 C.2.2.2.2.2.1 hP hD hS q 1 (by rw [wd_get hq, he]; rfl) rfl (vp_in_nI hi hn) hd (fun H1 locs1 hP1 hD1 hS1 => ?_)
  rw [nI_clamp (by omega), hx] at hP1 hD1
  rw [wd_set (i := e) (v := x) (by rw [he]; rfl)] at hP1 hD1
  exact kk ls H1 locs1 hl hP1 hD1 hS1
theorem j_aald (C : Cx g κ cc nL own rm) {q n e b w : Nat} (hd : decode cc pc = .ok (.aaload, 1)) (hq : q < gN g) (he : ∀ f, cf g q f = cR g 2 b w n f) (hn : n < 2 ^ 31) (hi : e < n) (kk : J g κ nL (pc + 1) L (.ref (gad g (b + w * e)) :: S) σ) : J g κ nL pc L (.int (nI e) :: .ref (gad g q) :: S) σ := fun ls H locs hl hP hD hS => by
  have hK := C.2.2.2.2.2.1
  have hin : vp_in (nI e) n := vp_in_nI hi hn
  have hlt : (nI e).toNatClampNeg < n := by rw [nI_clamp (by omega)]; exact hi
  have hc : H[gad g q]? = some (vp_cell (gA g 2) (n, .inr (.inr (.inr (.inr (fun i => if i < n then some (gad g (b + w * i)) else none)))))) := by
    have h0 : (Wd g σ)[q]? = some (gad g q, cR g 2 b w n (σ q)) := by rw [wd_get hq, he]
    exact hP q _ h0
  exact W.aald (v := .ref (gad g (b + w * e))) (ty := .array .int) C.1 C.2.1 hc ((hK.2 2 (gA g 2, .array .int) rfl).1 n (fun j => va_rf (if j < n then some (gad g (b + w * j)) else none))) rfl (fun q => by cases q) (by show ¬ (_ < 0 ∨ (arrV _ _ _).slots.size ≤ _); rw [arrV_size]; exact hin) (by show (arrV _ _ _).slots[_]? = _; rw [arrV_read _ _ hlt, nI_clamp (by omega)]; show some (va_rf (if e < n then _ else _)) = _; rw [if_pos hi]; rfl) rfl rfl hd (kk ls H locs hl hP hD hS)
theorem j_qald (C : Cx g κ cc nL own rm) {q n e b w p : Nat} (hp : b + w * e = p) (hd : decode cc pc = .ok (.aaload, 1)) (hq : q < gN g) (he : ∀ f, cf g q f = cR g 3 b w n f) (hn : n < 2 ^ 31) (hi : e < n) (kk : J g κ nL (pc + 1) L (.ref (gad g p) :: S) σ) : J g κ nL pc L (.int (nI e) :: .ref (gad g q) :: S) σ := fun ls H locs hl hP hD hS => by
  refine va_aldq (D := gD g) C.1 C.2.1 C.2.2.2.2.2.1 hP q 3 (by rw [wd_get hq, he]; rfl) rfl (vp_in_nI hi hn) hd ?_
  rw [nI_clamp (by omega), if_pos hi, hp]
  exact kk ls H locs hl hP hD hS
end JH
end
section
/-! links and words of the tables, by their places (by program) -/
theorem gd_r (ws : List Cond) (ps : List Nat) (hp : ws = ps.filterMap (fun i => tables_1[i]?)) (h : ws.all goodWord = true) : ∀ w ∈ ws, w ∈ lw_gd := by
  intro w hw
  have h1 := List.all_eq_true.mp h w hw
  rw [hp] at hw
  obtain ⟨i, -, hi⟩ := List.mem_filterMap.mp hw
  exact gd_t i hi h1
theorem inX0 : ∀ w ∈ u_ws RX0 TX0 8, w ∈ lw_gd := gd_r _ [129, 131, 133, 135, 137, 139, 141, 143] (by decide +kernel) (by decide +kernel)
theorem inX1 : ∀ w ∈ u_ws RX1 TX1 2, w ∈ lw_gd := gd_r _ [34, 36] (by decide +kernel) (by decide +kernel)
theorem inX2 : ∀ w ∈ u_ws RX2 TX2 6, w ∈ lw_gd := gd_r _ [197, 199, 201, 203, 205, 207] (by decide +kernel) (by decide +kernel)
theorem inX3 : ∀ w ∈ u_ws RX3 TX3 11, w ∈ lw_gd := gd_r _ [76, 78, 80, 82, 84, 86, 88, 90, 92, 94, 96] (by decide +kernel) (by decide +kernel)
theorem inX4 : ∀ w ∈ u_ws RX4 TX4 3, w ∈ lw_gd := gd_r _ [225, 227, 229] (by decide +kernel) (by decide +kernel)
theorem inX5 : ∀ w ∈ u_ws RX5 TX5 1, w ∈ lw_gd := gd_r _ [107] (by decide +kernel) (by decide +kernel)
theorem inX6 : ∀ w ∈ u_ws RX6 TX6 7, w ∈ lw_gd := gd_r _ [173, 175, 177, 179, 181, 183, 185] (by decide +kernel) (by decide +kernel)
theorem inX7 : ∀ w ∈ u_ws RX7 TX7 10, w ∈ lw_gd := gd_r _ [380, 382, 384, 386, 388, 390, 392, 394, 396, 398] (by decide +kernel) (by decide +kernel)
theorem inX8 : ∀ w ∈ u_ws RX8 TX8 26, w ∈ lw_gd := gd_r _ [668, 670, 672, 674, 676, 678, 680, 682, 684, 686, 688, 690, 692, 694, 696, 698, 700, 702, 704, 706, 708, 710, 712, 714, 716, 718] (by decide +kernel) (by decide +kernel)
theorem iniX7 : Cond.initialized RX7 ∈ lw_gd := gd_t 1 (by decide +kernel) (by decide +kernel)
theorem iniX1 : Cond.initialized RX1 ∈ lw_gd := gd_t 2 (by decide +kernel) (by decide +kernel)
theorem iniX3 : Cond.initialized RX3 ∈ lw_gd := gd_t 3 (by decide +kernel) (by decide +kernel)
theorem iniX5 : Cond.initialized RX5 ∈ lw_gd := gd_t 4 (by decide +kernel) (by decide +kernel)
theorem iniX0 : Cond.initialized RX0 ∈ lw_gd := gd_t 5 (by decide +kernel) (by decide +kernel)
theorem iniX2 : Cond.initialized RX2 ∈ lw_gd := gd_t 6 (by decide +kernel) (by decide +kernel)
theorem iniX6 : Cond.initialized RX6 ∈ lw_gd := gd_t 7 (by decide +kernel) (by decide +kernel)
theorem iniX4 : Cond.initialized RX4 ∈ lw_gd := gd_t 8 (by decide +kernel) (by decide +kernel)
theorem iniX8 : Cond.initialized RX8 ∈ lw_gd := gd_t 14 (by decide +kernel) (by decide +kernel)
theorem flX7_10 : jfl RX7 10 7 0 := ⟨RX7, TX7, 10, rfl, by decide, inX7, gd_t 370 (by decide +kernel) (by decide +kernel)⟩
theorem flX7_19 : jfl RX7 19 7 1 := ⟨RX7, TX7, 10, rfl, by decide, inX7, gd_t 371 (by decide +kernel) (by decide +kernel)⟩
theorem flX7_23 : jfl RX7 23 7 2 := ⟨RX7, TX7, 10, rfl, by decide, inX7, gd_t 372 (by decide +kernel) (by decide +kernel)⟩
theorem flX7_29 : jfl RX7 29 7 3 := ⟨RX7, TX7, 10, rfl, by decide, inX7, gd_t 373 (by decide +kernel) (by decide +kernel)⟩
theorem flX7_38 : jfl RX7 38 7 4 := ⟨RX7, TX7, 10, rfl, by decide, inX7, gd_t 374 (by decide +kernel) (by decide +kernel)⟩
theorem flX7_47 : jfl RX7 47 7 5 := ⟨RX7, TX7, 10, rfl, by decide, inX7, gd_t 375 (by decide +kernel) (by decide +kernel)⟩
theorem flX7_54 : jfl RX7 54 7 6 := ⟨RX7, TX7, 10, rfl, by decide, inX7, gd_t 376 (by decide +kernel) (by decide +kernel)⟩
theorem flX7_58 : jfl RX7 58 7 7 := ⟨RX7, TX7, 10, rfl, by decide, inX7, gd_t 377 (by decide +kernel) (by decide +kernel)⟩
theorem flX7_64 : jfl RX7 64 7 8 := ⟨RX7, TX7, 10, rfl, by decide, inX7, gd_t 378 (by decide +kernel) (by decide +kernel)⟩
theorem flX7_68 : jfl RX7 68 7 9 := ⟨RX7, TX7, 10, rfl, by decide, inX7, gd_t 379 (by decide +kernel) (by decide +kernel)⟩
theorem flX7_92 : jfl RX7 92 1 1 := ⟨RX1, TX1, 2, rfl, by decide, inX1, gd_t 31 (by decide +kernel) (by decide +kernel)⟩
theorem fpX7_92 : jfp RX7 92 1 1 .int := ⟨RX1, TX1, 2, tyX1, rfl, by decide, inX1, gd_t 31 (by decide +kernel) (by decide +kernel), tyX1_ok, nmX1, rfl, by decide +kernel⟩
theorem flX7_99 : jfl RX7 99 3 1 := ⟨RX3, TX3, 11, rfl, by decide, inX3, gd_t 53 (by decide +kernel) (by decide +kernel)⟩
theorem flX7_108 : jfl RX7 108 6 1 := ⟨RX6, TX6, 7, rfl, by decide, inX6, gd_t 162 (by decide +kernel) (by decide +kernel)⟩
theorem flX7_140 : jfl RX7 140 2 3 := ⟨RX2, TX2, 6, rfl, by decide, inX2, gd_t 192 (by decide +kernel) (by decide +kernel)⟩
theorem flX7_143 : jfl RX7 143 2 4 := ⟨RX2, TX2, 6, rfl, by decide, inX2, gd_t 194 (by decide +kernel) (by decide +kernel)⟩
theorem flX7_145 : jfl RX7 145 2 5 := ⟨RX2, TX2, 6, rfl, by decide, inX2, gd_t 196 (by decide +kernel) (by decide +kernel)⟩
theorem flX7_148 : jfl RX7 148 6 2 := ⟨RX6, TX6, 7, rfl, by decide, inX6, gd_t 165 (by decide +kernel) (by decide +kernel)⟩
theorem flX7_156 : jfl RX7 156 4 2 := ⟨RX4, TX4, 3, rfl, by decide, inX4, gd_t 224 (by decide +kernel) (by decide +kernel)⟩
theorem fpX7_156 : jfp RX7 156 4 2 .int := ⟨RX4, TX4, 3, tyX4, rfl, by decide, inX4, gd_t 224 (by decide +kernel) (by decide +kernel), tyX4_ok, nmX4, rfl, by decide +kernel⟩
theorem flX7_159 : jfl RX7 159 3 3 := ⟨RX3, TX3, 11, rfl, by decide, inX3, gd_t 59 (by decide +kernel) (by decide +kernel)⟩
theorem flX7_162 : jfl RX7 162 3 4 := ⟨RX3, TX3, 11, rfl, by decide, inX3, gd_t 62 (by decide +kernel) (by decide +kernel)⟩
theorem flX7_165 : jfl RX7 165 3 5 := ⟨RX3, TX3, 11, rfl, by decide, inX3, gd_t 65 (by decide +kernel) (by decide +kernel)⟩
theorem flX7_168 : jfl RX7 168 0 3 := ⟨RX0, TX0, 8, rfl, by decide, inX0, gd_t 124 (by decide +kernel) (by decide +kernel)⟩
theorem flX7_183 : jfl RX7 183 0 1 := ⟨RX0, TX0, 8, rfl, by decide, inX0, gd_t 120 (by decide +kernel) (by decide +kernel)⟩
theorem flX7_190 : jfl RX7 190 0 2 := ⟨RX0, TX0, 8, rfl, by decide, inX0, gd_t 122 (by decide +kernel) (by decide +kernel)⟩
theorem flX7_205 : jfl RX7 205 3 0 := ⟨RX3, TX3, 11, rfl, by decide, inX3, gd_t 48 (by decide +kernel) (by decide +kernel)⟩
theorem flX7_208 : jfl RX7 208 3 2 := ⟨RX3, TX3, 11, rfl, by decide, inX3, gd_t 56 (by decide +kernel) (by decide +kernel)⟩
theorem flX7_220 : jfl RX7 220 6 6 := ⟨RX6, TX6, 7, rfl, by decide, inX6, gd_t 172 (by decide +kernel) (by decide +kernel)⟩
theorem fpX7_220 : jfp RX7 220 6 6 .int := ⟨RX6, TX6, 7, tyX6, rfl, by decide, inX6, gd_t 172 (by decide +kernel) (by decide +kernel), tyX6_ok, nmX6, rfl, by decide +kernel⟩
theorem flX7_223 : jfl RX7 223 6 4 := ⟨RX6, TX6, 7, rfl, by decide, inX6, gd_t 168 (by decide +kernel) (by decide +kernel)⟩
theorem flX0_11 : jfl RX0 11 0 1 := ⟨RX0, TX0, 8, rfl, by decide, inX0, gd_t 119 (by decide +kernel) (by decide +kernel)⟩
theorem flX0_16 : jfl RX0 16 0 2 := ⟨RX0, TX0, 8, rfl, by decide, inX0, gd_t 121 (by decide +kernel) (by decide +kernel)⟩
theorem flX0_19 : jfl RX0 19 0 3 := ⟨RX0, TX0, 8, rfl, by decide, inX0, gd_t 123 (by decide +kernel) (by decide +kernel)⟩
theorem flX0_23 : jfl RX0 23 0 4 := ⟨RX0, TX0, 8, rfl, by decide, inX0, gd_t 125 (by decide +kernel) (by decide +kernel)⟩
theorem flX0_27 : jfl RX0 27 0 5 := ⟨RX0, TX0, 8, rfl, by decide, inX0, gd_t 126 (by decide +kernel) (by decide +kernel)⟩
theorem flX0_30 : jfl RX0 30 0 6 := ⟨RX0, TX0, 8, rfl, by decide, inX0, gd_t 127 (by decide +kernel) (by decide +kernel)⟩
theorem flX0_33 : jfl RX0 33 0 7 := ⟨RX0, TX0, 8, rfl, by decide, inX0, gd_t 128 (by decide +kernel) (by decide +kernel)⟩
theorem flX0_36 : jfl RX0 36 0 0 := ⟨RX0, TX0, 8, rfl, by decide, inX0, gd_t 118 (by decide +kernel) (by decide +kernel)⟩
theorem flX0_40 : jfl RX0 40 3 0 := ⟨RX3, TX3, 11, rfl, by decide, inX3, gd_t 47 (by decide +kernel) (by decide +kernel)⟩
theorem flX0_46 : jfl RX0 46 3 10 := ⟨RX3, TX3, 11, rfl, by decide, inX3, gd_t 75 (by decide +kernel) (by decide +kernel)⟩
theorem flX0_53 : jfl RX0 53 3 1 := ⟨RX3, TX3, 11, rfl, by decide, inX3, gd_t 52 (by decide +kernel) (by decide +kernel)⟩
theorem flX0_56 : jfl RX0 56 3 2 := ⟨RX3, TX3, 11, rfl, by decide, inX3, gd_t 55 (by decide +kernel) (by decide +kernel)⟩
theorem flX0_62 : jfl RX0 62 3 9 := ⟨RX3, TX3, 11, rfl, by decide, inX3, gd_t 73 (by decide +kernel) (by decide +kernel)⟩
theorem flX0_69 : jfl RX0 69 6 2 := ⟨RX6, TX6, 7, rfl, by decide, inX6, gd_t 164 (by decide +kernel) (by decide +kernel)⟩
theorem flX0_74 : jfl RX0 74 3 4 := ⟨RX3, TX3, 11, rfl, by decide, inX3, gd_t 61 (by decide +kernel) (by decide +kernel)⟩
theorem flX0_77 : jfl RX0 77 6 1 := ⟨RX6, TX6, 7, rfl, by decide, inX6, gd_t 161 (by decide +kernel) (by decide +kernel)⟩
theorem flX0_80 : jfl RX0 80 3 3 := ⟨RX3, TX3, 11, rfl, by decide, inX3, gd_t 58 (by decide +kernel) (by decide +kernel)⟩
theorem flX0_87 : jfl RX0 87 3 8 := ⟨RX3, TX3, 11, rfl, by decide, inX3, gd_t 71 (by decide +kernel) (by decide +kernel)⟩
theorem flX0_90 : jfl RX0 90 3 5 := ⟨RX3, TX3, 11, rfl, by decide, inX3, gd_t 64 (by decide +kernel) (by decide +kernel)⟩
theorem flX0_105 : jfl RX0 105 3 7 := ⟨RX3, TX3, 11, rfl, by decide, inX3, gd_t 69 (by decide +kernel) (by decide +kernel)⟩
theorem flX1_9 : jfl RX1 9 1 0 := ⟨RX1, TX1, 2, rfl, by decide, inX1, gd_t 29 (by decide +kernel) (by decide +kernel)⟩
theorem flX1_15 : jfl RX1 15 1 1 := ⟨RX1, TX1, 2, rfl, by decide, inX1, gd_t 32 (by decide +kernel) (by decide +kernel)⟩
theorem fpX1_15 : jfp RX1 15 1 1 .int := ⟨RX1, TX1, 2, tyX1, rfl, by decide, inX1, gd_t 32 (by decide +kernel) (by decide +kernel), tyX1_ok, nmX1, rfl, by decide +kernel⟩
theorem flX2_12 : jfl RX2 12 2 2 := ⟨RX2, TX2, 6, rfl, by decide, inX2, gd_t 190 (by decide +kernel) (by decide +kernel)⟩
theorem flX2_18 : jfl RX2 18 2 0 := ⟨RX2, TX2, 6, rfl, by decide, inX2, gd_t 188 (by decide +kernel) (by decide +kernel)⟩
theorem flX2_22 : jfl RX2 22 2 1 := ⟨RX2, TX2, 6, rfl, by decide, inX2, gd_t 189 (by decide +kernel) (by decide +kernel)⟩
theorem flX2_26 : jfl RX2 26 2 3 := ⟨RX2, TX2, 6, rfl, by decide, inX2, gd_t 191 (by decide +kernel) (by decide +kernel)⟩
theorem fpX2_26 : jfp RX2 26 2 3 .int := ⟨RX2, TX2, 6, tyX2, rfl, by decide, inX2, gd_t 191 (by decide +kernel) (by decide +kernel), tyX2_ok, nmX2, rfl, by decide +kernel⟩
theorem flX2_34 : jfl RX2 34 3 1 := ⟨RX3, TX3, 11, rfl, by decide, inX3, gd_t 51 (by decide +kernel) (by decide +kernel)⟩
theorem flX2_43 : jfl RX2 43 6 1 := ⟨RX6, TX6, 7, rfl, by decide, inX6, gd_t 160 (by decide +kernel) (by decide +kernel)⟩
theorem flX2_47 : jfl RX2 47 2 4 := ⟨RX2, TX2, 6, rfl, by decide, inX2, gd_t 193 (by decide +kernel) (by decide +kernel)⟩
theorem fpX2_47 : jfp RX2 47 2 4 .int := ⟨RX2, TX2, 6, tyX2, rfl, by decide, inX2, gd_t 193 (by decide +kernel) (by decide +kernel), tyX2_ok, nmX2, rfl, by decide +kernel⟩
theorem flX2_49 : jfl RX2 49 2 5 := ⟨RX2, TX2, 6, rfl, by decide, inX2, gd_t 195 (by decide +kernel) (by decide +kernel)⟩
theorem fpX2_49 : jfp RX2 49 2 5 .int := ⟨RX2, TX2, 6, tyX2, rfl, by decide, inX2, gd_t 195 (by decide +kernel) (by decide +kernel), tyX2_ok, nmX2, rfl, by decide +kernel⟩
theorem flX2_66 : jfl RX2 66 6 6 := ⟨RX6, TX6, 7, rfl, by decide, inX6, gd_t 171 (by decide +kernel) (by decide +kernel)⟩
theorem flX3_9 : jfl RX3 9 3 3 := ⟨RX3, TX3, 11, rfl, by decide, inX3, gd_t 57 (by decide +kernel) (by decide +kernel)⟩
theorem flX3_15 : jfl RX3 15 3 4 := ⟨RX3, TX3, 11, rfl, by decide, inX3, gd_t 60 (by decide +kernel) (by decide +kernel)⟩
theorem flX3_18 : jfl RX3 18 3 5 := ⟨RX3, TX3, 11, rfl, by decide, inX3, gd_t 63 (by decide +kernel) (by decide +kernel)⟩
theorem flX3_21 : jfl RX3 21 3 6 := ⟨RX3, TX3, 11, rfl, by decide, inX3, gd_t 66 (by decide +kernel) (by decide +kernel)⟩
theorem flX3_24 : jfl RX3 24 3 7 := ⟨RX3, TX3, 11, rfl, by decide, inX3, gd_t 68 (by decide +kernel) (by decide +kernel)⟩
theorem flX3_27 : jfl RX3 27 3 8 := ⟨RX3, TX3, 11, rfl, by decide, inX3, gd_t 70 (by decide +kernel) (by decide +kernel)⟩
theorem flX3_30 : jfl RX3 30 3 9 := ⟨RX3, TX3, 11, rfl, by decide, inX3, gd_t 72 (by decide +kernel) (by decide +kernel)⟩
theorem flX3_33 : jfl RX3 33 3 10 := ⟨RX3, TX3, 11, rfl, by decide, inX3, gd_t 74 (by decide +kernel) (by decide +kernel)⟩
theorem flX3_37 : jfl RX3 37 3 0 := ⟨RX3, TX3, 11, rfl, by decide, inX3, gd_t 46 (by decide +kernel) (by decide +kernel)⟩
theorem fpX3_37 : jfp RX3 37 3 0 .int := ⟨RX3, TX3, 11, tyX3, rfl, by decide, inX3, gd_t 46 (by decide +kernel) (by decide +kernel), tyX3_ok, nmX3, rfl, by decide +kernel⟩
theorem flX3_41 : jfl RX3 41 3 1 := ⟨RX3, TX3, 11, rfl, by decide, inX3, gd_t 50 (by decide +kernel) (by decide +kernel)⟩
theorem fpX3_41 : jfp RX3 41 3 1 .int := ⟨RX3, TX3, 11, tyX3, rfl, by decide, inX3, gd_t 50 (by decide +kernel) (by decide +kernel), tyX3_ok, nmX3, rfl, by decide +kernel⟩
theorem flX3_44 : jfl RX3 44 3 2 := ⟨RX3, TX3, 11, rfl, by decide, inX3, gd_t 54 (by decide +kernel) (by decide +kernel)⟩
theorem fpX3_44 : jfp RX3 44 3 2 .int := ⟨RX3, TX3, 11, tyX3, rfl, by decide, inX3, gd_t 54 (by decide +kernel) (by decide +kernel), tyX3_ok, nmX3, rfl, by decide +kernel⟩
theorem flX4_11 : jfl RX4 11 4 0 := ⟨RX4, TX4, 3, rfl, by decide, inX4, gd_t 221 (by decide +kernel) (by decide +kernel)⟩
theorem flX4_18 : jfl RX4 18 4 1 := ⟨RX4, TX4, 3, rfl, by decide, inX4, gd_t 222 (by decide +kernel) (by decide +kernel)⟩
theorem fpX4_18 : jfp RX4 18 4 1 .int := ⟨RX4, TX4, 3, tyX4, rfl, by decide, inX4, gd_t 222 (by decide +kernel) (by decide +kernel), tyX4_ok, nmX4, rfl, by decide +kernel⟩
theorem flX4_26 : jfl RX4 26 4 2 := ⟨RX4, TX4, 3, rfl, by decide, inX4, gd_t 223 (by decide +kernel) (by decide +kernel)⟩
theorem fpX4_26 : jfp RX4 26 4 2 .int := ⟨RX4, TX4, 3, tyX4, rfl, by decide, inX4, gd_t 223 (by decide +kernel) (by decide +kernel), tyX4_ok, nmX4, rfl, by decide +kernel⟩
theorem flX5_11 : jfl RX5 11 5 0 := ⟨RX5, TX5, 1, rfl, by decide, inX5, gd_t 106 (by decide +kernel) (by decide +kernel)⟩
theorem flX5_20 : jfl RX5 20 1 1 := ⟨RX1, TX1, 2, rfl, by decide, inX1, gd_t 33 (by decide +kernel) (by decide +kernel)⟩
theorem flX5_26 : jfl RX5 26 1 0 := ⟨RX1, TX1, 2, rfl, by decide, inX1, gd_t 30 (by decide +kernel) (by decide +kernel)⟩
theorem flX6_9 : jfl RX6 9 6 1 := ⟨RX6, TX6, 7, rfl, by decide, inX6, gd_t 159 (by decide +kernel) (by decide +kernel)⟩
theorem flX6_15 : jfl RX6 15 6 2 := ⟨RX6, TX6, 7, rfl, by decide, inX6, gd_t 163 (by decide +kernel) (by decide +kernel)⟩
theorem flX6_19 : jfl RX6 19 6 3 := ⟨RX6, TX6, 7, rfl, by decide, inX6, gd_t 166 (by decide +kernel) (by decide +kernel)⟩
theorem flX6_22 : jfl RX6 22 3 1 := ⟨RX3, TX3, 11, rfl, by decide, inX3, gd_t 49 (by decide +kernel) (by decide +kernel)⟩
theorem flX6_28 : jfl RX6 28 6 0 := ⟨RX6, TX6, 7, rfl, by decide, inX6, gd_t 158 (by decide +kernel) (by decide +kernel)⟩
theorem fpX6_28 : jfp RX6 28 6 0 .int := ⟨RX6, TX6, 7, tyX6, rfl, by decide, inX6, gd_t 158 (by decide +kernel) (by decide +kernel), tyX6_ok, nmX6, rfl, by decide +kernel⟩
theorem flX6_29 : jfl RX6 29 3 6 := ⟨RX3, TX3, 11, rfl, by decide, inX3, gd_t 67 (by decide +kernel) (by decide +kernel)⟩
theorem flX6_32 : jfl RX6 32 6 4 := ⟨RX6, TX6, 7, rfl, by decide, inX6, gd_t 167 (by decide +kernel) (by decide +kernel)⟩
theorem fpX6_32 : jfp RX6 32 6 4 .int := ⟨RX6, TX6, 7, tyX6, rfl, by decide, inX6, gd_t 167 (by decide +kernel) (by decide +kernel), tyX6_ok, nmX6, rfl, by decide +kernel⟩
theorem flX6_35 : jfl RX6 35 6 5 := ⟨RX6, TX6, 7, rfl, by decide, inX6, gd_t 169 (by decide +kernel) (by decide +kernel)⟩
theorem fpX6_35 : jfp RX6 35 6 5 .int := ⟨RX6, TX6, 7, tyX6, rfl, by decide, inX6, gd_t 169 (by decide +kernel) (by decide +kernel), tyX6_ok, nmX6, rfl, by decide +kernel⟩
theorem flX6_38 : jfl RX6 38 6 6 := ⟨RX6, TX6, 7, rfl, by decide, inX6, gd_t 170 (by decide +kernel) (by decide +kernel)⟩
theorem fpX6_38 : jfp RX6 38 6 6 .int := ⟨RX6, TX6, 7, tyX6, rfl, by decide, inX6, gd_t 170 (by decide +kernel) (by decide +kernel), tyX6_ok, nmX6, rfl, by decide +kernel⟩
theorem flX8_7 : jfl RX8 7 8 0 := ⟨RX8, TX8, 26, rfl, by decide, inX8, gd_t 642 (by decide +kernel) (by decide +kernel)⟩
theorem flX8_13 : jfl RX8 13 8 3 := ⟨RX8, TX8, 26, rfl, by decide, inX8, gd_t 645 (by decide +kernel) (by decide +kernel)⟩
theorem flX8_16 : jfl RX8 16 8 4 := ⟨RX8, TX8, 26, rfl, by decide, inX8, gd_t 646 (by decide +kernel) (by decide +kernel)⟩
theorem flX8_19 : jfl RX8 19 8 8 := ⟨RX8, TX8, 26, rfl, by decide, inX8, gd_t 650 (by decide +kernel) (by decide +kernel)⟩
theorem flX8_22 : jfl RX8 22 8 9 := ⟨RX8, TX8, 26, rfl, by decide, inX8, gd_t 651 (by decide +kernel) (by decide +kernel)⟩
theorem flX8_25 : jfl RX8 25 8 13 := ⟨RX8, TX8, 26, rfl, by decide, inX8, gd_t 655 (by decide +kernel) (by decide +kernel)⟩
theorem flX8_28 : jfl RX8 28 8 14 := ⟨RX8, TX8, 26, rfl, by decide, inX8, gd_t 656 (by decide +kernel) (by decide +kernel)⟩
theorem flX8_31 : jfl RX8 31 8 17 := ⟨RX8, TX8, 26, rfl, by decide, inX8, gd_t 659 (by decide +kernel) (by decide +kernel)⟩
theorem flX8_34 : jfl RX8 34 8 18 := ⟨RX8, TX8, 26, rfl, by decide, inX8, gd_t 660 (by decide +kernel) (by decide +kernel)⟩
theorem flX8_37 : jfl RX8 37 8 19 := ⟨RX8, TX8, 26, rfl, by decide, inX8, gd_t 661 (by decide +kernel) (by decide +kernel)⟩
theorem flX8_40 : jfl RX8 40 8 20 := ⟨RX8, TX8, 26, rfl, by decide, inX8, gd_t 662 (by decide +kernel) (by decide +kernel)⟩
theorem flX8_43 : jfl RX8 43 8 21 := ⟨RX8, TX8, 26, rfl, by decide, inX8, gd_t 663 (by decide +kernel) (by decide +kernel)⟩
theorem flX8_49 : jfl RX8 49 8 5 := ⟨RX8, TX8, 26, rfl, by decide, inX8, gd_t 647 (by decide +kernel) (by decide +kernel)⟩
theorem fpX8_49 : jfp RX8 49 8 5 .int := ⟨RX8, TX8, 26, tyX8, rfl, by decide, inX8, gd_t 647 (by decide +kernel) (by decide +kernel), tyX8_ok, nmX8, rfl, by decide +kernel⟩
theorem flX8_64 : jfl RX8 64 8 6 := ⟨RX8, TX8, 26, rfl, by decide, inX8, gd_t 648 (by decide +kernel) (by decide +kernel)⟩
theorem fpX8_64 : jfp RX8 64 8 6 .int := ⟨RX8, TX8, 26, tyX8, rfl, by decide, inX8, gd_t 648 (by decide +kernel) (by decide +kernel), tyX8_ok, nmX8, rfl, by decide +kernel⟩
theorem flX8_67 : jfl RX8 67 8 7 := ⟨RX8, TX8, 26, rfl, by decide, inX8, gd_t 649 (by decide +kernel) (by decide +kernel)⟩
theorem fpX8_67 : jfp RX8 67 8 7 .int := ⟨RX8, TX8, 26, tyX8, rfl, by decide, inX8, gd_t 649 (by decide +kernel) (by decide +kernel), tyX8_ok, nmX8, rfl, by decide +kernel⟩
theorem flX8_70 : jfl RX8 70 8 16 := ⟨RX8, TX8, 26, rfl, by decide, inX8, gd_t 658 (by decide +kernel) (by decide +kernel)⟩
theorem fpX8_70 : jfp RX8 70 8 16 .boolean := ⟨RX8, TX8, 26, tyX8, rfl, by decide, inX8, gd_t 658 (by decide +kernel) (by decide +kernel), tyX8_ok, nmX8, rfl, by decide +kernel⟩
theorem flX8_74 : jfl RX8 74 8 10 := ⟨RX8, TX8, 26, rfl, by decide, inX8, gd_t 652 (by decide +kernel) (by decide +kernel)⟩
theorem fpX8_74 : jfp RX8 74 8 10 .int := ⟨RX8, TX8, 26, tyX8, rfl, by decide, inX8, gd_t 652 (by decide +kernel) (by decide +kernel), tyX8_ok, nmX8, rfl, by decide +kernel⟩
theorem flX8_77 : jfl RX8 77 8 11 := ⟨RX8, TX8, 26, rfl, by decide, inX8, gd_t 653 (by decide +kernel) (by decide +kernel)⟩
theorem fpX8_77 : jfp RX8 77 8 11 .int := ⟨RX8, TX8, 26, tyX8, rfl, by decide, inX8, gd_t 653 (by decide +kernel) (by decide +kernel), tyX8_ok, nmX8, rfl, by decide +kernel⟩
theorem flX8_80 : jfl RX8 80 8 12 := ⟨RX8, TX8, 26, rfl, by decide, inX8, gd_t 654 (by decide +kernel) (by decide +kernel)⟩
theorem fpX8_80 : jfp RX8 80 8 12 .int := ⟨RX8, TX8, 26, tyX8, rfl, by decide, inX8, gd_t 654 (by decide +kernel) (by decide +kernel), tyX8_ok, nmX8, rfl, by decide +kernel⟩
theorem flX8_87 : jfl RX8 87 8 15 := ⟨RX8, TX8, 26, rfl, by decide, inX8, gd_t 657 (by decide +kernel) (by decide +kernel)⟩
theorem fpX8_87 : jfp RX8 87 8 15 .int := ⟨RX8, TX8, 26, tyX8, rfl, by decide, inX8, gd_t 657 (by decide +kernel) (by decide +kernel), tyX8_ok, nmX8, rfl, by decide +kernel⟩
theorem flX8_90 : jfl RX8 90 8 2 := ⟨RX8, TX8, 26, rfl, by decide, inX8, gd_t 644 (by decide +kernel) (by decide +kernel)⟩
theorem fpX8_90 : jfp RX8 90 8 2 .int := ⟨RX8, TX8, 26, tyX8, rfl, by decide, inX8, gd_t 644 (by decide +kernel) (by decide +kernel), tyX8_ok, nmX8, rfl, by decide +kernel⟩
theorem flX8_93 : jfl RX8 93 8 1 := ⟨RX8, TX8, 26, rfl, by decide, inX8, gd_t 643 (by decide +kernel) (by decide +kernel)⟩
theorem fpX8_93 : jfp RX8 93 8 1 .int := ⟨RX8, TX8, 26, tyX8, rfl, by decide, inX8, gd_t 643 (by decide +kernel) (by decide +kernel), tyX8_ok, nmX8, rfl, by decide +kernel⟩
theorem flX8_140 : jfl RX8 140 8 22 := ⟨RX8, TX8, 26, rfl, by decide, inX8, gd_t 664 (by decide +kernel) (by decide +kernel)⟩
theorem fpX8_140 : jfp RX8 140 8 22 .int := ⟨RX8, TX8, 26, tyX8, rfl, by decide, inX8, gd_t 664 (by decide +kernel) (by decide +kernel), tyX8_ok, nmX8, rfl, by decide +kernel⟩
theorem flX8_163 : jfl RX8 163 8 23 := ⟨RX8, TX8, 26, rfl, by decide, inX8, gd_t 665 (by decide +kernel) (by decide +kernel)⟩
theorem fpX8_163 : jfp RX8 163 8 23 .int := ⟨RX8, TX8, 26, tyX8, rfl, by decide, inX8, gd_t 665 (by decide +kernel) (by decide +kernel), tyX8_ok, nmX8, rfl, by decide +kernel⟩
theorem flX8_166 : jfl RX8 166 8 25 := ⟨RX8, TX8, 26, rfl, by decide, inX8, gd_t 667 (by decide +kernel) (by decide +kernel)⟩
theorem fpX8_166 : jfp RX8 166 8 25 .int := ⟨RX8, TX8, 26, tyX8, rfl, by decide, inX8, gd_t 667 (by decide +kernel) (by decide +kernel), tyX8_ok, nmX8, rfl, by decide +kernel⟩
theorem flX8_177 : jfl RX8 177 8 24 := ⟨RX8, TX8, 26, rfl, by decide, inX8, gd_t 666 (by decide +kernel) (by decide +kernel)⟩
theorem fpX8_177 : jfp RX8 177 8 24 .int := ⟨RX8, TX8, 26, tyX8, rfl, by decide, inX8, gd_t 666 (by decide +kernel) (by decide +kernel), tyX8_ok, nmX8, rfl, by decide +kernel⟩
theorem cdX0_init : Cond.code yX0_init cX0_init 2 none ∈ lw_gd := gd_t 114 (by decide +kernel) (by decide +kernel)
theorem cdX0_measure : Cond.code yX0_measure cX0_measure 9 none ∈ lw_gd := gd_t 342 (by decide +kernel) (by decide +kernel)
def rmX0_measure : Room := { frames := 0, cells := 0, slots := 0, locals := 0 }
theorem cdX0_orderFarthestFirst : Cond.code yX0_orderFarthestFirst cX0_orderFarthestFirst 4 none ∈ lw_gd := gd_t 350 (by decide +kernel) (by decide +kernel)
def rmX0_orderFarthestFirst : Room := { frames := 0, cells := 0, slots := 0, locals := 0 }
theorem cdX0_isShort : Cond.code yX0_isShort cX0_isShort 5 (some .boolean) ∈ lw_gd := gd_t 358 (by decide +kernel) (by decide +kernel)
def rmX0_isShort : Room := { frames := 0, cells := 0, slots := 0, locals := 0 }
theorem cdX0_sendOn : Cond.code yX0_sendOn cX0_sendOn 10 none ∈ lw_gd := gd_t 354 (by decide +kernel) (by decide +kernel)
def rmX0_sendOn : Room := { frames := 1, cells := 0, slots := 0, locals := 24 }
theorem cdX0_send : Cond.code yX0_send cX0_send 5 none ∈ lw_gd := gd_t 346 (by decide +kernel) (by decide +kernel)
def rmX0_send : Room := { frames := 2, cells := 0, slots := 0, locals := 53 }
theorem cdX0_linkCost : Cond.code yX0_linkCost cX0_linkCost 6 (some .int) ∈ lw_gd := gd_t 362 (by decide +kernel) (by decide +kernel)
def rmX0_linkCost : Room := { frames := 1, cells := 0, slots := 0, locals := 21 }
theorem cdX0_costOf : Cond.code yX0_costOf cX0_costOf 4 (some .int) ∈ lw_gd := gd_t 338 (by decide +kernel) (by decide +kernel)
def rmX0_costOf : Room := { frames := 3, cells := 0, slots := 0, locals := 77 }
theorem cdX0_isShortForAGoal : Cond.code yX0_isShortForAGoal cX0_isShortForAGoal 4 (some .boolean) ∈ lw_gd := gd_t 475 (by decide +kernel) (by decide +kernel)
def rmX0_isShortForAGoal : Room := { frames := 1, cells := 0, slots := 0, locals := 24 }
theorem cdX0_shortDemands : Cond.code yX0_shortDemands cX0_shortDemands 5 (some .int) ∈ lw_gd := gd_t 516 (by decide +kernel) (by decide +kernel)
def rmX0_shortDemands : Room := { frames := 1, cells := 0, slots := 0, locals := 24 }
theorem cdX0_lostDemands : Cond.code yX0_lostDemands cX0_lostDemands 3 (some .int) ∈ lw_gd := gd_t 571 (by decide +kernel) (by decide +kernel)
def rmX0_lostDemands : Room := { frames := 0, cells := 0, slots := 0, locals := 0 }
theorem cdX0_overfullLinks : Cond.code yX0_overfullLinks cX0_overfullLinks 3 (some .int) ∈ lw_gd := gd_t 575 (by decide +kernel) (by decide +kernel)
def rmX0_overfullLinks : Room := { frames := 0, cells := 0, slots := 0, locals := 0 }
theorem cdX1_init : Cond.code yX1_init cX1_init 1 none ∈ lw_gd := gd_t 27 (by decide +kernel) (by decide +kernel)
theorem cdX1_put : Cond.code yX1_put cX1_put 2 (some .boolean) ∈ lw_gd := gd_t 284 (by decide +kernel) (by decide +kernel)
def rmX1_put : Room := { frames := 0, cells := 0, slots := 0, locals := 0 }
theorem cdX6_init : Cond.code yX6_init cX6_init 1 none ∈ lw_gd := gd_t 156 (by decide +kernel) (by decide +kernel)
theorem cdX2_init : Cond.code yX2_init cX2_init 3 none ∈ lw_gd := gd_t 150 (by decide +kernel) (by decide +kernel)
theorem cdX6_copyFrom : Cond.code yX6_copyFrom cX6_copyFrom 3 none ∈ lw_gd := gd_t 434 (by decide +kernel) (by decide +kernel)
def rmX6_copyFrom : Room := { frames := 0, cells := 0, slots := 0, locals := 0 }
theorem cdX6_markWith : Cond.code yX6_markWith cX6_markWith 5 (some .int) ∈ lw_gd := gd_t 482 (by decide +kernel) (by decide +kernel)
def rmX6_markWith : Room := { frames := 0, cells := 0, slots := 0, locals := 0 }
theorem cdX6_isTabu : Cond.code yX6_isTabu cX6_isTabu 3 (some .boolean) ∈ lw_gd := gd_t 486 (by decide +kernel) (by decide +kernel)
def rmX6_isTabu : Room := { frames := 0, cells := 0, slots := 0, locals := 0 }
theorem cdX2_isFree : Cond.code yX2_isFree cX2_isFree 4 (some .boolean) ∈ lw_gd := gd_t 478 (by decide +kernel) (by decide +kernel)
def rmX2_isFree : Room := { frames := 1, cells := 0, slots := 0, locals := 24 }
theorem cdX2_tryWeights : Cond.code yX2_tryWeights cX2_tryWeights 8 none ∈ lw_gd := gd_t 470 (by decide +kernel) (by decide +kernel)
def rmX2_tryWeights : Room := { frames := 4, cells := 0, slots := 0, locals := 100 }
theorem cdX2_find : Cond.code yX2_find cX2_find 5 (some .boolean) ∈ lw_gd := gd_t 465 (by decide +kernel) (by decide +kernel)
def rmX2_find : Room := { frames := 5, cells := 0, slots := 0, locals := 127 }
theorem cdX2_found : Cond.code yX2_found cX2_found 2 (some .int) ∈ lw_gd := gd_t 546 (by decide +kernel) (by decide +kernel)
def rmX2_found : Room := { frames := 0, cells := 0, slots := 0, locals := 0 }
theorem cdX3_init : Cond.code yX3_init cX3_init 1 none ∈ lw_gd := gd_t 44 (by decide +kernel) (by decide +kernel)
theorem cdX3_clear : Cond.code yX3_clear cX3_clear 2 none ∈ lw_gd := gd_t 296 (by decide +kernel) (by decide +kernel)
def rmX3_clear : Room := { frames := 0, cells := 0, slots := 0, locals := 0 }
theorem cdX3_hasNode : Cond.code yX3_hasNode cX3_hasNode 2 (some .boolean) ∈ lw_gd := gd_t 320 (by decide +kernel) (by decide +kernel)
def rmX3_hasNode : Room := { frames := 0, cells := 0, slots := 0, locals := 0 }
theorem cdX3_hasLink : Cond.code yX3_hasLink cX3_hasLink 2 (some .boolean) ∈ lw_gd := gd_t 425 (by decide +kernel) (by decide +kernel)
def rmX3_hasLink : Room := { frames := 0, cells := 0, slots := 0, locals := 0 }
theorem cdX3_hasDemand : Cond.code yX3_hasDemand cX3_hasDemand 2 (some .boolean) ∈ lw_gd := gd_t 528 (by decide +kernel) (by decide +kernel)
def rmX3_hasDemand : Room := { frames := 0, cells := 0, slots := 0, locals := 0 }
theorem cdX3_takeNodes : Cond.code yX3_takeNodes cX3_takeNodes 2 (some .boolean) ∈ lw_gd := gd_t 308 (by decide +kernel) (by decide +kernel)
def rmX3_takeNodes : Room := { frames := 0, cells := 0, slots := 0, locals := 0 }
theorem cdX3_areTwoNodes : Cond.code yX3_areTwoNodes cX3_areTwoNodes 3 (some .boolean) ∈ lw_gd := gd_t 316 (by decide +kernel) (by decide +kernel)
def rmX3_areTwoNodes : Room := { frames := 1, cells := 0, slots := 0, locals := 21 }
theorem cdX3_isSize : Cond.code yX3_isSize cX3_isSize 1 (some .boolean) ∈ lw_gd := gd_t 323 (by decide +kernel) (by decide +kernel)
def rmX3_isSize : Room := { frames := 0, cells := 0, slots := 0, locals := 0 }
theorem cdX7_isWeight : Cond.code yX7_isWeight cX7_isWeight 1 (some .boolean) ∈ lw_gd := gd_t 326 (by decide +kernel) (by decide +kernel)
def rmX7_isWeight : Room := { frames := 0, cells := 0, slots := 0, locals := 0 }
theorem cdX3_takeLink : Cond.code yX3_takeLink cX3_takeLink 5 (some .boolean) ∈ lw_gd := gd_t 312 (by decide +kernel) (by decide +kernel)
def rmX3_takeLink : Room := { frames := 2, cells := 0, slots := 0, locals := 43 }
theorem cdX3_takeDemand : Cond.code yX3_takeDemand cX3_takeDemand 4 (some .boolean) ∈ lw_gd := gd_t 330 (by decide +kernel) (by decide +kernel)
def rmX3_takeDemand : Room := { frames := 2, cells := 0, slots := 0, locals := 43 }
theorem cdX4_init : Cond.code yX4_init cX4_init 2 none ∈ lw_gd := gd_t 216 (by decide +kernel) (by decide +kernel)
theorem cdX4_keep : Cond.code yX4_keep cX4_keep 2 none ∈ lw_gd := gd_t 430 (by decide +kernel) (by decide +kernel)
def rmX4_keep : Room := { frames := 1, cells := 0, slots := 0, locals := 22 }
theorem cdX4_giveBack : Cond.code yX4_giveBack cX4_giveBack 2 (some .boolean) ∈ lw_gd := gd_t 507 (by decide +kernel) (by decide +kernel)
def rmX4_giveBack : Room := { frames := 1, cells := 0, slots := 0, locals := 22 }
theorem cdX5_init : Cond.code yX5_init cX5_init 1 none ∈ lw_gd := gd_t 104 (by decide +kernel) (by decide +kernel)
theorem cdX5_takeNumbers : Cond.code yX5_takeNumbers cX5_takeNumbers 9 (some .int) ∈ lw_gd := gd_t 304 (by decide +kernel) (by decide +kernel)
def rmX5_takeNumbers : Room := { frames := 0, cells := 0, slots := 0, locals := 0 }
theorem cdX5_takeItem : Cond.code yX5_takeItem cX5_takeItem 6 (some .boolean) ∈ lw_gd := gd_t 300 (by decide +kernel) (by decide +kernel)
def rmX5_takeItem : Room := { frames := 3, cells := 0, slots := 0, locals := 67 }
theorem cdX5_read : Cond.code yX5_read cX5_read 5 (some .int) ∈ lw_gd := gd_t 292 (by decide +kernel) (by decide +kernel)
def rmX5_read : Room := { frames := 4, cells := 0, slots := 0, locals := 92 }
theorem cdX6_begin : Cond.code yX6_begin cX6_begin 3 none ∈ lw_gd := gd_t 334 (by decide +kernel) (by decide +kernel)
def rmX6_begin : Room := { frames := 0, cells := 0, slots := 0, locals := 0 }
theorem cdX6_noteCost : Cond.code yX6_noteCost cX6_noteCost 2 none ∈ lw_gd := gd_t 439 (by decide +kernel) (by decide +kernel)
def rmX6_noteCost : Room := { frames := 1, cells := 0, slots := 0, locals := 21 }
theorem cdX6_mark : Cond.code yX6_mark cX6_mark 1 (some .int) ∈ lw_gd := gd_t 490 (by decide +kernel) (by decide +kernel)
def rmX6_mark : Room := { frames := 1, cells := 0, slots := 0, locals := 24 }
theorem cdX6_addTabu : Cond.code yX6_addTabu cX6_addTabu 2 none ∈ lw_gd := gd_t 495 (by decide +kernel) (by decide +kernel)
def rmX6_addTabu : Room := { frames := 1, cells := 0, slots := 0, locals := 21 }
theorem cdX6_linksDown : Cond.code yX6_linksDown cX6_linksDown 3 (some .int) ∈ lw_gd := gd_t 567 (by decide +kernel) (by decide +kernel)
def rmX6_linksDown : Room := { frames := 0, cells := 0, slots := 0, locals := 0 }
theorem cdX7_layText : Cond.code yX7_layText cX7_layText 1 (some .boolean) ∈ lw_gd := gd_t 288 (by decide +kernel) (by decide +kernel)
def rmX7_layText : Room := { frames := 5, cells := 0, slots := 0, locals := 116 }
theorem cdX7_init : Cond.code yX7_init cX7_init 2 none ∈ lw_gd := gd_t 19 (by decide +kernel) (by decide +kernel)
theorem cdX7_write : Cond.code yX7_write cX7_write 2 (some .int) ∈ lw_gd := gd_t 405 (by decide +kernel) (by decide +kernel)
def rmX7_write : Room := { frames := 1, cells := 0, slots := 0, locals := 21 }
theorem cdX7_wipe : Cond.code yX7_wipe cX7_wipe 2 (some .int) ∈ lw_gd := gd_t 409 (by decide +kernel) (by decide +kernel)
def rmX7_wipe : Room := { frames := 0, cells := 0, slots := 0, locals := 0 }
theorem cdX7_fault : Cond.code yX7_fault cX7_fault 1 (some .int) ∈ lw_gd := gd_t 413 (by decide +kernel) (by decide +kernel)
def rmX7_fault : Room := { frames := 5, cells := 0, slots := 0, locals := 116 }
theorem cdX7_lay : Cond.code yX7_lay cX7_lay 1 (some .int) ∈ lw_gd := gd_t 417 (by decide +kernel) (by decide +kernel)
def rmX7_lay : Room := { frames := 6, cells := 0, slots := 0, locals := 136 }
theorem cdX7_move : Cond.code yX7_move cX7_move 4 (some .int) ∈ lw_gd := gd_t 421 (by decide +kernel) (by decide +kernel)
def rmX7_move : Room := { frames := 4, cells := 0, slots := 0, locals := 100 }
theorem cdX7_leadsOn : Cond.code yX7_leadsOn cX7_leadsOn 4 (some .boolean) ∈ lw_gd := gd_t 454 (by decide +kernel) (by decide +kernel)
def rmX7_leadsOn : Room := { frames := 0, cells := 0, slots := 0, locals := 0 }
theorem cdX7_planEvening : Cond.code yX7_planEvening cX7_planEvening 8 (some .int) ∈ lw_gd := gd_t 449 (by decide +kernel) (by decide +kernel)
def rmX7_planEvening : Room := { frames := 1, cells := 0, slots := 0, locals := 28 }
theorem cdX7_even : Cond.code yX7_even cX7_even 5 (some .int) ∈ lw_gd := gd_t 444 (by decide +kernel) (by decide +kernel)
def rmX7_even : Room := { frames := 4, cells := 0, slots := 0, locals := 100 }
theorem cdX7_step : Cond.code yX7_step cX7_step 4 (some .int) ∈ lw_gd := gd_t 461 (by decide +kernel) (by decide +kernel)
def rmX7_step : Room := { frames := 6, cells := 0, slots := 0, locals := 151 }
theorem cdX7_turn : Cond.code yX7_turn cX7_turn 4 (some .int) ∈ lw_gd := gd_t 499 (by decide +kernel) (by decide +kernel)
def rmX7_turn : Room := { frames := 4, cells := 0, slots := 0, locals := 100 }
theorem cdX7_undo : Cond.code yX7_undo cX7_undo 1 (some .int) ∈ lw_gd := gd_t 503 (by decide +kernel) (by decide +kernel)
def rmX7_undo : Room := { frames := 2, cells := 0, slots := 0, locals := 43 }
theorem cdX7_link : Cond.code yX7_link cX7_link 3 (some .int) ∈ lw_gd := gd_t 511 (by decide +kernel) (by decide +kernel)
def rmX7_link : Room := { frames := 4, cells := 0, slots := 0, locals := 100 }
theorem cdX7_far : Cond.code yX7_far cX7_far 4 (some .int) ∈ lw_gd := gd_t 520 (by decide +kernel) (by decide +kernel)
def rmX7_far : Room := { frames := 1, cells := 0, slots := 0, locals := 28 }
theorem cdX7_share : Cond.code yX7_share cX7_share 3 (some .int) ∈ lw_gd := gd_t 524 (by decide +kernel) (by decide +kernel)
def rmX7_share : Room := { frames := 4, cells := 0, slots := 0, locals := 100 }
theorem cdX7_cost : Cond.code yX7_cost cX7_cost 1 (some .int) ∈ lw_gd := gd_t 532 (by decide +kernel) (by decide +kernel)
def rmX7_cost : Room := { frames := 4, cells := 0, slots := 0, locals := 100 }
theorem cdX7_tabu : Cond.code yX7_tabu cX7_tabu 3 (some .int) ∈ lw_gd := gd_t 536 (by decide +kernel) (by decide +kernel)
def rmX7_tabu : Room := { frames := 1, cells := 0, slots := 0, locals := 24 }
theorem cdX7_best : Cond.code yX7_best cX7_best 2 (some .int) ∈ lw_gd := gd_t 542 (by decide +kernel) (by decide +kernel)
def rmX7_best : Room := { frames := 6, cells := 0, slots := 0, locals := 151 }
theorem cdX7_costWithout : Cond.code yX7_costWithout cX7_costWithout 2 (some .int) ∈ lw_gd := gd_t 554 (by decide +kernel) (by decide +kernel)
def rmX7_costWithout : Room := { frames := 4, cells := 0, slots := 0, locals := 100 }
theorem cdX7_worst : Cond.code yX7_worst cX7_worst 6 (some .int) ∈ lw_gd := gd_t 550 (by decide +kernel) (by decide +kernel)
def rmX7_worst : Room := { frames := 5, cells := 0, slots := 0, locals := 121 }
theorem cdX7_rescue : Cond.code yX7_rescue cX7_rescue 4 (some .int) ∈ lw_gd := gd_t 559 (by decide +kernel) (by decide +kernel)
def rmX7_rescue : Room := { frames := 6, cells := 0, slots := 0, locals := 151 }
theorem cdX7_count : Cond.code yX7_count cX7_count 2 (some .int) ∈ lw_gd := gd_t 563 (by decide +kernel) (by decide +kernel)
def rmX7_count : Room := { frames := 4, cells := 0, slots := 0, locals := 100 }
theorem cdX8_beginRead : Cond.code yX8_beginRead cX8_beginRead 1 none ∈ lw_gd := gd_t 585 (by decide +kernel) (by decide +kernel)
def rmX8_beginRead : Room := { frames := 0, cells := 0, slots := 0, locals := 0 }
theorem cdX8_putLink : Cond.code yX8_putLink cX8_putLink 5 none ∈ lw_gd := gd_t 589 (by decide +kernel) (by decide +kernel)
def rmX8_putLink : Room := { frames := 0, cells := 0, slots := 0, locals := 0 }
theorem cdX8_putDemand : Cond.code yX8_putDemand cX8_putDemand 4 none ∈ lw_gd := gd_t 593 (by decide +kernel) (by decide +kernel)
def rmX8_putDemand : Room := { frames := 0, cells := 0, slots := 0, locals := 0 }
theorem cdX8_end : Cond.code yX8_end cX8_end 2 (some .int) ∈ lw_gd := gd_t 617 (by decide +kernel) (by decide +kernel)
def rmX8_end : Room := { frames := 0, cells := 0, slots := 0, locals := 0 }
theorem cdX8_isUp : Cond.code yX8_isUp cX8_isUp 2 (some .boolean) ∈ lw_gd := gd_t 621 (by decide +kernel) (by decide +kernel)
def rmX8_isUp : Room := { frames := 0, cells := 0, slots := 0, locals := 0 }
theorem cdX8_begin : Cond.code yX8_begin cX8_begin 2 (some .int) ∈ lw_gd := gd_t 625 (by decide +kernel) (by decide +kernel)
def rmX8_begin : Room := { frames := 0, cells := 0, slots := 0, locals := 0 }
theorem cdX8_findFar : Cond.code yX8_findFar cX8_findFar 6 none ∈ lw_gd := gd_t 613 (by decide +kernel) (by decide +kernel)
def rmX8_findFar : Room := { frames := 1, cells := 0, slots := 0, locals := 21 }
theorem cdX8_isShort : Cond.code yX8_isShort cX8_isShort 2 (some .boolean) ∈ lw_gd := gd_t 633 (by decide +kernel) (by decide +kernel)
def rmX8_isShort : Room := { frames := 1, cells := 0, slots := 0, locals := 21 }
theorem cdX8_goOn : Cond.code yX8_goOn cX8_goOn 6 none ∈ lw_gd := gd_t 629 (by decide +kernel) (by decide +kernel)
def rmX8_goOn : Room := { frames := 2, cells := 0, slots := 0, locals := 42 }
theorem cdX8_layShares : Cond.code yX8_layShares cX8_layShares 9 (some .boolean) ∈ lw_gd := gd_t 609 (by decide +kernel) (by decide +kernel)
def rmX8_layShares : Room := { frames := 3, cells := 0, slots := 0, locals := 67 }
theorem cdX8_layLoads : Cond.code yX8_layLoads cX8_layLoads 3 none ∈ lw_gd := gd_t 605 (by decide +kernel) (by decide +kernel)
def rmX8_layLoads : Room := { frames := 4, cells := 0, slots := 0, locals := 95 }
theorem cdX8_piece : Cond.code yX8_piece cX8_piece 3 (some .int) ∈ lw_gd := gd_t 640 (by decide +kernel) (by decide +kernel)
def rmX8_piece : Room := { frames := 0, cells := 0, slots := 0, locals := 0 }
theorem cdX8_costOf : Cond.code yX8_costOf cX8_costOf 5 (some .int) ∈ lw_gd := gd_t 637 (by decide +kernel) (by decide +kernel)
def rmX8_costOf : Room := { frames := 1, cells := 0, slots := 0, locals := 22 }
theorem cdX8_costNow : Cond.code yX8_costNow cX8_costNow 3 (some .int) ∈ lw_gd := gd_t 601 (by decide +kernel) (by decide +kernel)
def rmX8_costNow : Room := { frames := 5, cells := 0, slots := 0, locals := 117 }
theorem cdX8_takeRead : Cond.code yX8_takeRead cX8_takeRead 2 none ∈ lw_gd := gd_t 597 (by decide +kernel) (by decide +kernel)
def rmX8_takeRead : Room := { frames := 6, cells := 0, slots := 0, locals := 139 }
theorem cdX8_init : Cond.code yX8_init cX8_init 1 none ∈ lw_gd := gd_t 580 (by decide +kernel) (by decide +kernel)
theorem cdX8_in : Cond.code yX8_in cX8_in 3 (some .boolean) ∈ lw_gd := gd_t 727 (by decide +kernel) (by decide +kernel)
def rmX8_in : Room := { frames := 0, cells := 0, slots := 0, locals := 0 }
theorem cdX8_isFigure : Cond.code yX8_isFigure cX8_isFigure 1 (some .boolean) ∈ lw_gd := gd_t 751 (by decide +kernel) (by decide +kernel)
def rmX8_isFigure : Room := { frames := 1, cells := 0, slots := 0, locals := 22 }
theorem cdX8_readNumbers : Cond.code yX8_readNumbers cX8_readNumbers 5 (some .boolean) ∈ lw_gd := gd_t 747 (by decide +kernel) (by decide +kernel)
def rmX8_readNumbers : Room := { frames := 2, cells := 0, slots := 0, locals := 42 }
theorem cdX8_isNumber : Cond.code yX8_isNumber cX8_isNumber 4 (some .boolean) ∈ lw_gd := gd_t 755 (by decide +kernel) (by decide +kernel)
def rmX8_isNumber : Room := { frames := 1, cells := 0, slots := 0, locals := 22 }
theorem cdX8_areEnds : Cond.code yX8_areEnds cX8_areEnds 1 (some .boolean) ∈ lw_gd := gd_t 759 (by decide +kernel) (by decide +kernel)
def rmX8_areEnds : Room := { frames := 2, cells := 0, slots := 0, locals := 45 }
theorem cdX8_readItem : Cond.code yX8_readItem cX8_readItem 3 (some .boolean) ∈ lw_gd := gd_t 743 (by decide +kernel) (by decide +kernel)
def rmX8_readItem : Room := { frames := 3, cells := 0, slots := 0, locals := 66 }
theorem cdX8_readText : Cond.code yX8_readText cX8_readText 3 (some .int) ∈ lw_gd := gd_t 739 (by decide +kernel) (by decide +kernel)
def rmX8_readText : Room := { frames := 4, cells := 0, slots := 0, locals := 88 }
theorem cdX8_write : Cond.code yX8_write cX8_write 2 (some .int) ∈ lw_gd := gd_t 724 (by decide +kernel) (by decide +kernel)
def rmX8_write : Room := { frames := 1, cells := 0, slots := 0, locals := 22 }
theorem cdX8_wipe : Cond.code yX8_wipe cX8_wipe 2 (some .int) ∈ lw_gd := gd_t 731 (by decide +kernel) (by decide +kernel)
def rmX8_wipe : Room := { frames := 0, cells := 0, slots := 0, locals := 0 }
theorem cdX8_fault : Cond.code yX8_fault cX8_fault 1 (some .int) ∈ lw_gd := gd_t 735 (by decide +kernel) (by decide +kernel)
def rmX8_fault : Room := { frames := 5, cells := 0, slots := 0, locals := 110 }
theorem cdX8_lay : Cond.code yX8_lay cX8_lay 1 (some .int) ∈ lw_gd := gd_t 763 (by decide +kernel) (by decide +kernel)
def rmX8_lay : Room := { frames := 7, cells := 0, slots := 0, locals := 160 }
theorem cdX8_isLink : Cond.code yX8_isLink cX8_isLink 2 (some .boolean) ∈ lw_gd := gd_t 775 (by decide +kernel) (by decide +kernel)
def rmX8_isLink : Room := { frames := 1, cells := 0, slots := 0, locals := 22 }
theorem cdX8_isNode : Cond.code yX8_isNode cX8_isNode 2 (some .boolean) ∈ lw_gd := gd_t 791 (by decide +kernel) (by decide +kernel)
def rmX8_isNode : Room := { frames := 1, cells := 0, slots := 0, locals := 22 }
theorem cdX8_costBy : Cond.code yX8_costBy cX8_costBy 5 (some .int) ∈ lw_gd := gd_t 807 (by decide +kernel) (by decide +kernel)
def rmX8_costBy : Room := { frames := 6, cells := 0, slots := 0, locals := 139 }
theorem cdX8_costTurned : Cond.code yX8_costTurned cX8_costTurned 3 (some .int) ∈ lw_gd := gd_t 871 (by decide +kernel) (by decide +kernel)
def rmX8_costTurned : Room := { frames := 6, cells := 0, slots := 0, locals := 139 }
theorem cdX8_markNow : Cond.code yX8_markNow cX8_markNow 3 (some .int) ∈ lw_gd := gd_t 815 (by decide +kernel) (by decide +kernel)
def rmX8_markNow : Room := { frames := 0, cells := 0, slots := 0, locals := 0 }
theorem cdX8_isTabu : Cond.code yX8_isTabu cX8_isTabu 4 (some .boolean) ∈ lw_gd := gd_t 819 (by decide +kernel) (by decide +kernel)
def rmX8_isTabu : Room := { frames := 0, cells := 0, slots := 0, locals := 0 }
theorem cdX8_isTabuBy : Cond.code yX8_isTabuBy cX8_isTabuBy 5 (some .boolean) ∈ lw_gd := gd_t 811 (by decide +kernel) (by decide +kernel)
def rmX8_isTabuBy : Room := { frames := 1, cells := 0, slots := 0, locals := 23 }
theorem cdX8_becomesTabu : Cond.code yX8_becomesTabu cX8_becomesTabu 3 none ∈ lw_gd := gd_t 827 (by decide +kernel) (by decide +kernel)
def rmX8_becomesTabu : Room := { frames := 0, cells := 0, slots := 0, locals := 0 }
theorem cdX8_findMove : Cond.code yX8_findMove cX8_findMove 8 (some .boolean) ∈ lw_gd := gd_t 803 (by decide +kernel) (by decide +kernel)
def rmX8_findMove : Room := { frames := 7, cells := 0, slots := 0, locals := 163 }
theorem cdX8_note : Cond.code yX8_note cX8_note 2 none ∈ lw_gd := gd_t 779 (by decide +kernel) (by decide +kernel)
def rmX8_note : Room := { frames := 0, cells := 0, slots := 0, locals := 0 }
theorem cdX8_tellLeast : Cond.code yX8_tellLeast cX8_tellLeast 2 none ∈ lw_gd := gd_t 783 (by decide +kernel) (by decide +kernel)
def rmX8_tellLeast : Room := { frames := 6, cells := 0, slots := 0, locals := 139 }
theorem cdX8_undo : Cond.code yX8_undo cX8_undo 2 (some .int) ∈ lw_gd := gd_t 767 (by decide +kernel) (by decide +kernel)
def rmX8_undo : Room := { frames := 0, cells := 0, slots := 0, locals := 0 }
theorem cdX8_move : Cond.code yX8_move cX8_move 4 (some .int) ∈ lw_gd := gd_t 771 (by decide +kernel) (by decide +kernel)
def rmX8_move : Room := { frames := 7, cells := 0, slots := 0, locals := 160 }
theorem cdX8_isEvened : Cond.code yX8_isEvened cX8_isEvened 3 (some .boolean) ∈ lw_gd := gd_t 795 (by decide +kernel) (by decide +kernel)
def rmX8_isEvened : Room := { frames := 1, cells := 0, slots := 0, locals := 21 }
theorem cdX8_even : Cond.code yX8_even cX8_even 9 (some .int) ∈ lw_gd := gd_t 787 (by decide +kernel) (by decide +kernel)
def rmX8_even : Room := { frames := 7, cells := 0, slots := 0, locals := 160 }
theorem cdX8_stepOnce : Cond.code yX8_stepOnce cX8_stepOnce 1 (some .boolean) ∈ lw_gd := gd_t 823 (by decide +kernel) (by decide +kernel)
def rmX8_stepOnce : Room := { frames := 8, cells := 0, slots := 0, locals := 190 }
theorem cdX8_step : Cond.code yX8_step cX8_step 4 (some .int) ∈ lw_gd := gd_t 799 (by decide +kernel) (by decide +kernel)
def rmX8_step : Room := { frames := 9, cells := 0, slots := 0, locals := 210 }
theorem cdX8_turn : Cond.code yX8_turn cX8_turn 3 (some .int) ∈ lw_gd := gd_t 831 (by decide +kernel) (by decide +kernel)
def rmX8_turn : Room := { frames := 6, cells := 0, slots := 0, locals := 139 }
theorem cdX8_shortFor : Cond.code yX8_shortFor cX8_shortFor 4 (some .int) ∈ lw_gd := gd_t 839 (by decide +kernel) (by decide +kernel)
def rmX8_shortFor : Room := { frames := 2, cells := 0, slots := 0, locals := 46 }
theorem cdX8_link : Cond.code yX8_link cX8_link 3 (some .int) ∈ lw_gd := gd_t 835 (by decide +kernel) (by decide +kernel)
def rmX8_link : Room := { frames := 5, cells := 0, slots := 0, locals := 117 }
theorem cdX8_far : Cond.code yX8_far cX8_far 3 (some .int) ∈ lw_gd := gd_t 843 (by decide +kernel) (by decide +kernel)
def rmX8_far : Room := { frames := 2, cells := 0, slots := 0, locals := 46 }
theorem cdX8_share : Cond.code yX8_share cX8_share 3 (some .int) ∈ lw_gd := gd_t 847 (by decide +kernel) (by decide +kernel)
def rmX8_share : Room := { frames := 4, cells := 0, slots := 0, locals := 95 }
theorem cdX8_cost : Cond.code yX8_cost cX8_cost 1 (some .int) ∈ lw_gd := gd_t 851 (by decide +kernel) (by decide +kernel)
def rmX8_cost : Room := { frames := 6, cells := 0, slots := 0, locals := 139 }
theorem cdX8_tabu : Cond.code yX8_tabu cX8_tabu 3 (some .int) ∈ lw_gd := gd_t 855 (by decide +kernel) (by decide +kernel)
def rmX8_tabu : Room := { frames := 2, cells := 0, slots := 0, locals := 47 }
theorem cdX8_bestOf : Cond.code yX8_bestOf cX8_bestOf 2 (some .int) ∈ lw_gd := gd_t 863 (by decide +kernel) (by decide +kernel)
def rmX8_bestOf : Room := { frames := 0, cells := 0, slots := 0, locals := 0 }
theorem cdX8_best : Cond.code yX8_best cX8_best 3 (some .int) ∈ lw_gd := gd_t 859 (by decide +kernel) (by decide +kernel)
def rmX8_best : Room := { frames := 8, cells := 0, slots := 0, locals := 190 }
theorem cdX8_worst : Cond.code yX8_worst cX8_worst 6 (some .int) ∈ lw_gd := gd_t 867 (by decide +kernel) (by decide +kernel)
def rmX8_worst : Room := { frames := 7, cells := 0, slots := 0, locals := 161 }
theorem cdX8_rescue : Cond.code yX8_rescue cX8_rescue 5 (some .int) ∈ lw_gd := gd_t 875 (by decide +kernel) (by decide +kernel)
def rmX8_rescue : Room := { frames := 8, cells := 0, slots := 0, locals := 190 }
theorem cdX8_moreThanFull : Cond.code yX8_moreThanFull cX8_moreThanFull 3 (some .int) ∈ lw_gd := gd_t 886 (by decide +kernel) (by decide +kernel)
def rmX8_moreThanFull : Room := { frames := 5, cells := 0, slots := 0, locals := 117 }
theorem cdX8_ones : Cond.code yX8_ones cX8_ones 3 (some .int) ∈ lw_gd := gd_t 882 (by decide +kernel) (by decide +kernel)
def rmX8_ones : Room := { frames := 0, cells := 0, slots := 0, locals := 0 }
theorem cdX8_count : Cond.code yX8_count cX8_count 2 (some .int) ∈ lw_gd := gd_t 879 (by decide +kernel) (by decide +kernel)
def rmX8_count : Room := { frames := 6, cells := 0, slots := 0, locals := 139 }
theorem mlX7_84 : jml RX7 84 yX1_put 1 := ⟨gd_t 281 (by decide +kernel) (by decide +kernel), gd_t 282 (by decide +kernel) (by decide +kernel), gd_t 283 (by decide +kernel) (by decide +kernel), gd_t 2 (by decide +kernel) (by decide +kernel), (by decide +kernel), (by decide +kernel), (by decide +kernel)⟩
theorem mlX7_88 : jml RX7 88 yX7_layText 0 := ⟨gd_t 285 (by decide +kernel) (by decide +kernel), gd_t 287 (by decide +kernel) (by decide +kernel), gd_s 0 (by decide +kernel) (by decide +kernel), gd_t 1 (by decide +kernel) (by decide +kernel), (by decide +kernel), (by decide +kernel), (by decide +kernel)⟩
theorem mlX7_95 : jml RX7 95 yX5_read 2 := ⟨gd_t 289 (by decide +kernel) (by decide +kernel), gd_t 290 (by decide +kernel) (by decide +kernel), gd_t 291 (by decide +kernel) (by decide +kernel), gd_t 4 (by decide +kernel) (by decide +kernel), (by decide +kernel), (by decide +kernel), (by decide +kernel)⟩
theorem mlX7_102 : jml RX7 102 yX3_hasLink 1 := ⟨gd_t 422 (by decide +kernel) (by decide +kernel), gd_t 423 (by decide +kernel) (by decide +kernel), gd_t 424 (by decide +kernel) (by decide +kernel), gd_t 3 (by decide +kernel) (by decide +kernel), (by decide +kernel), (by decide +kernel), (by decide +kernel)⟩
theorem msX7_105 : jms RX7 105 yX7_isWeight 1 := ⟨gd_t 426 (by decide +kernel) (by decide +kernel), gd_t 325 (by decide +kernel) (by decide +kernel), gd_t 1 (by decide +kernel) (by decide +kernel), (by decide +kernel), (by decide +kernel), (by decide +kernel)⟩
theorem mlX7_111 : jml RX7 111 yX4_keep 1 := ⟨gd_t 427 (by decide +kernel) (by decide +kernel), gd_t 428 (by decide +kernel) (by decide +kernel), gd_t 429 (by decide +kernel) (by decide +kernel), gd_t 8 (by decide +kernel) (by decide +kernel), (by decide +kernel), (by decide +kernel), (by decide +kernel)⟩
theorem mlX7_115 : jml RX7 115 yX0_costOf 1 := ⟨gd_t 335 (by decide +kernel) (by decide +kernel), gd_t 336 (by decide +kernel) (by decide +kernel), gd_t 337 (by decide +kernel) (by decide +kernel), gd_t 5 (by decide +kernel) (by decide +kernel), (by decide +kernel), (by decide +kernel), (by decide +kernel)⟩
theorem mlX7_119 : jml RX7 119 yX6_noteCost 1 := ⟨gd_t 436 (by decide +kernel) (by decide +kernel), gd_t 437 (by decide +kernel) (by decide +kernel), gd_t 438 (by decide +kernel) (by decide +kernel), gd_t 7 (by decide +kernel) (by decide +kernel), (by decide +kernel), (by decide +kernel), (by decide +kernel)⟩
theorem mlX7_123 : jml RX7 123 yX3_hasNode 1 := ⟨gd_t 445 (by decide +kernel) (by decide +kernel), gd_t 318 (by decide +kernel) (by decide +kernel), gd_t 319 (by decide +kernel) (by decide +kernel), gd_t 3 (by decide +kernel) (by decide +kernel), (by decide +kernel), (by decide +kernel), (by decide +kernel)⟩
theorem mlX7_126 : jml RX7 126 yX7_planEvening 2 := ⟨gd_t 446 (by decide +kernel) (by decide +kernel), gd_t 448 (by decide +kernel) (by decide +kernel), gd_s 7 (by decide +kernel) (by decide +kernel), gd_t 1 (by decide +kernel) (by decide +kernel), (by decide +kernel), (by decide +kernel), (by decide +kernel)⟩
theorem mlX7_130 : jml RX7 130 yX2_find 3 := ⟨gd_t 462 (by decide +kernel) (by decide +kernel), gd_t 463 (by decide +kernel) (by decide +kernel), gd_t 464 (by decide +kernel) (by decide +kernel), gd_t 6 (by decide +kernel) (by decide +kernel), (by decide +kernel), (by decide +kernel), (by decide +kernel)⟩
theorem mlX7_134 : jml RX7 134 yX6_mark 0 := ⟨gd_t 487 (by decide +kernel) (by decide +kernel), gd_t 488 (by decide +kernel) (by decide +kernel), gd_t 489 (by decide +kernel) (by decide +kernel), gd_t 7 (by decide +kernel) (by decide +kernel), (by decide +kernel), (by decide +kernel), (by decide +kernel)⟩
theorem mlX7_137 : jml RX7 137 yX6_addTabu 1 := ⟨gd_t 492 (by decide +kernel) (by decide +kernel), gd_t 493 (by decide +kernel) (by decide +kernel), gd_t 494 (by decide +kernel) (by decide +kernel), gd_t 7 (by decide +kernel) (by decide +kernel), (by decide +kernel), (by decide +kernel), (by decide +kernel)⟩
theorem mlX7_152 : jml RX7 152 yX4_giveBack 1 := ⟨gd_t 504 (by decide +kernel) (by decide +kernel), gd_t 505 (by decide +kernel) (by decide +kernel), gd_t 506 (by decide +kernel) (by decide +kernel), gd_t 8 (by decide +kernel) (by decide +kernel), (by decide +kernel), (by decide +kernel), (by decide +kernel)⟩
theorem mlX7_171 : jml RX7 171 yX0_linkCost 1 := ⟨gd_t 512 (by decide +kernel) (by decide +kernel), gd_t 360 (by decide +kernel) (by decide +kernel), gd_t 361 (by decide +kernel) (by decide +kernel), gd_t 5 (by decide +kernel) (by decide +kernel), (by decide +kernel), (by decide +kernel), (by decide +kernel)⟩
theorem mlX7_175 : jml RX7 175 yX0_shortDemands 2 := ⟨gd_t 513 (by decide +kernel) (by decide +kernel), gd_t 514 (by decide +kernel) (by decide +kernel), gd_t 515 (by decide +kernel) (by decide +kernel), gd_t 5 (by decide +kernel) (by decide +kernel), (by decide +kernel), (by decide +kernel), (by decide +kernel)⟩
theorem mlX7_179 : jml RX7 179 yX0_measure 2 := ⟨gd_t 450 (by decide +kernel) (by decide +kernel), gd_t 340 (by decide +kernel) (by decide +kernel), gd_t 341 (by decide +kernel) (by decide +kernel), gd_t 5 (by decide +kernel) (by decide +kernel), (by decide +kernel), (by decide +kernel), (by decide +kernel)⟩
theorem mlX7_187 : jml RX7 187 yX3_hasDemand 1 := ⟨gd_t 525 (by decide +kernel) (by decide +kernel), gd_t 526 (by decide +kernel) (by decide +kernel), gd_t 527 (by decide +kernel) (by decide +kernel), gd_t 3 (by decide +kernel) (by decide +kernel), (by decide +kernel), (by decide +kernel), (by decide +kernel)⟩
theorem mlX7_193 : jml RX7 193 yX6_markWith 2 := ⟨gd_t 537 (by decide +kernel) (by decide +kernel), gd_t 480 (by decide +kernel) (by decide +kernel), gd_t 481 (by decide +kernel) (by decide +kernel), gd_t 7 (by decide +kernel) (by decide +kernel), (by decide +kernel), (by decide +kernel), (by decide +kernel)⟩
theorem mlX7_196 : jml RX7 196 yX6_isTabu 1 := ⟨gd_t 538 (by decide +kernel) (by decide +kernel), gd_t 484 (by decide +kernel) (by decide +kernel), gd_t 485 (by decide +kernel) (by decide +kernel), gd_t 7 (by decide +kernel) (by decide +kernel), (by decide +kernel), (by decide +kernel), (by decide +kernel)⟩
theorem mlX7_199 : jml RX7 199 yX2_found 1 := ⟨gd_t 543 (by decide +kernel) (by decide +kernel), gd_t 544 (by decide +kernel) (by decide +kernel), gd_t 545 (by decide +kernel) (by decide +kernel), gd_t 6 (by decide +kernel) (by decide +kernel), (by decide +kernel), (by decide +kernel), (by decide +kernel)⟩
theorem mlX7_202 : jml RX7 202 yX7_costWithout 1 := ⟨gd_t 551 (by decide +kernel) (by decide +kernel), gd_t 553 (by decide +kernel) (by decide +kernel), gd_s 10 (by decide +kernel) (by decide +kernel), gd_t 1 (by decide +kernel) (by decide +kernel), (by decide +kernel), (by decide +kernel), (by decide +kernel)⟩
theorem mlX7_211 : jml RX7 211 yX6_linksDown 0 := ⟨gd_t 564 (by decide +kernel) (by decide +kernel), gd_t 565 (by decide +kernel) (by decide +kernel), gd_t 566 (by decide +kernel) (by decide +kernel), gd_t 7 (by decide +kernel) (by decide +kernel), (by decide +kernel), (by decide +kernel), (by decide +kernel)⟩
theorem mlX7_214 : jml RX7 214 yX0_lostDemands 0 := ⟨gd_t 568 (by decide +kernel) (by decide +kernel), gd_t 569 (by decide +kernel) (by decide +kernel), gd_t 570 (by decide +kernel) (by decide +kernel), gd_t 5 (by decide +kernel) (by decide +kernel), (by decide +kernel), (by decide +kernel), (by decide +kernel)⟩
theorem mlX7_217 : jml RX7 217 yX0_overfullLinks 0 := ⟨gd_t 572 (by decide +kernel) (by decide +kernel), gd_t 573 (by decide +kernel) (by decide +kernel), gd_t 574 (by decide +kernel) (by decide +kernel), gd_t 5 (by decide +kernel) (by decide +kernel), (by decide +kernel), (by decide +kernel), (by decide +kernel)⟩
theorem mlX7_226 : jml RX7 226 yX6_begin 1 := ⟨gd_t 331 (by decide +kernel) (by decide +kernel), gd_t 332 (by decide +kernel) (by decide +kernel), gd_t 333 (by decide +kernel) (by decide +kernel), gd_t 7 (by decide +kernel) (by decide +kernel), (by decide +kernel), (by decide +kernel), (by decide +kernel)⟩
theorem mlX7_229 : jml RX7 229 yX7_leadsOn 3 := ⟨gd_t 451 (by decide +kernel) (by decide +kernel), gd_t 453 (by decide +kernel) (by decide +kernel), gd_s 8 (by decide +kernel) (by decide +kernel), gd_t 1 (by decide +kernel) (by decide +kernel), (by decide +kernel), (by decide +kernel), (by decide +kernel)⟩
theorem mlX7_238 : jml RX7 238 yX6_copyFrom 1 := ⟨gd_t 555 (by decide +kernel) (by decide +kernel), gd_t 432 (by decide +kernel) (by decide +kernel), gd_t 433 (by decide +kernel) (by decide +kernel), gd_t 7 (by decide +kernel) (by decide +kernel), (by decide +kernel), (by decide +kernel), (by decide +kernel)⟩
theorem mlX0_49 : jml RX0 49 yX0_measure 2 := ⟨gd_t 339 (by decide +kernel) (by decide +kernel), gd_t 340 (by decide +kernel) (by decide +kernel), gd_t 341 (by decide +kernel) (by decide +kernel), gd_t 5 (by decide +kernel) (by decide +kernel), (by decide +kernel), (by decide +kernel), (by decide +kernel)⟩
theorem mlX0_59 : jml RX0 59 yX0_send 2 := ⟨gd_t 343 (by decide +kernel) (by decide +kernel), gd_t 345 (by decide +kernel) (by decide +kernel), gd_s 4 (by decide +kernel) (by decide +kernel), gd_t 5 (by decide +kernel) (by decide +kernel), (by decide +kernel), (by decide +kernel), (by decide +kernel)⟩
theorem mlX0_65 : jml RX0 65 yX0_linkCost 1 := ⟨gd_t 359 (by decide +kernel) (by decide +kernel), gd_t 360 (by decide +kernel) (by decide +kernel), gd_t 361 (by decide +kernel) (by decide +kernel), gd_t 5 (by decide +kernel) (by decide +kernel), (by decide +kernel), (by decide +kernel), (by decide +kernel)⟩
theorem mlX0_83 : jml RX0 83 yX0_isShort 3 := ⟨gd_t 355 (by decide +kernel) (by decide +kernel), gd_t 356 (by decide +kernel) (by decide +kernel), gd_t 357 (by decide +kernel) (by decide +kernel), gd_t 5 (by decide +kernel) (by decide +kernel), (by decide +kernel), (by decide +kernel), (by decide +kernel)⟩
theorem mlX0_108 : jml RX0 108 yX0_orderFarthestFirst 1 := ⟨gd_t 347 (by decide +kernel) (by decide +kernel), gd_t 349 (by decide +kernel) (by decide +kernel), gd_s 5 (by decide +kernel) (by decide +kernel), gd_t 5 (by decide +kernel) (by decide +kernel), (by decide +kernel), (by decide +kernel), (by decide +kernel)⟩
theorem mlX0_112 : jml RX0 112 yX0_sendOn 3 := ⟨gd_t 351 (by decide +kernel) (by decide +kernel), gd_t 353 (by decide +kernel) (by decide +kernel), gd_s 6 (by decide +kernel) (by decide +kernel), gd_t 5 (by decide +kernel) (by decide +kernel), (by decide +kernel), (by decide +kernel), (by decide +kernel)⟩
theorem mlX2_30 : jml RX2 30 yX6_copyFrom 1 := ⟨gd_t 466 (by decide +kernel) (by decide +kernel), gd_t 432 (by decide +kernel) (by decide +kernel), gd_t 433 (by decide +kernel) (by decide +kernel), gd_t 7 (by decide +kernel) (by decide +kernel), (by decide +kernel), (by decide +kernel), (by decide +kernel)⟩
theorem mlX2_39 : jml RX2 39 yX2_tryWeights 3 := ⟨gd_t 467 (by decide +kernel) (by decide +kernel), gd_t 469 (by decide +kernel) (by decide +kernel), gd_s 9 (by decide +kernel) (by decide +kernel), gd_t 6 (by decide +kernel) (by decide +kernel), (by decide +kernel), (by decide +kernel), (by decide +kernel)⟩
theorem mlX2_52 : jml RX2 52 yX0_costOf 1 := ⟨gd_t 471 (by decide +kernel) (by decide +kernel), gd_t 336 (by decide +kernel) (by decide +kernel), gd_t 337 (by decide +kernel) (by decide +kernel), gd_t 5 (by decide +kernel) (by decide +kernel), (by decide +kernel), (by decide +kernel), (by decide +kernel)⟩
theorem mlX2_58 : jml RX2 58 yX0_isShortForAGoal 2 := ⟨gd_t 472 (by decide +kernel) (by decide +kernel), gd_t 473 (by decide +kernel) (by decide +kernel), gd_t 474 (by decide +kernel) (by decide +kernel), gd_t 5 (by decide +kernel) (by decide +kernel), (by decide +kernel), (by decide +kernel), (by decide +kernel)⟩
theorem msX2_62 : jms RX2 62 yX2_isFree 4 := ⟨gd_t 476 (by decide +kernel) (by decide +kernel), gd_t 477 (by decide +kernel) (by decide +kernel), gd_t 6 (by decide +kernel) (by decide +kernel), (by decide +kernel), (by decide +kernel), (by decide +kernel)⟩
theorem mlX2_69 : jml RX2 69 yX6_markWith 2 := ⟨gd_t 479 (by decide +kernel) (by decide +kernel), gd_t 480 (by decide +kernel) (by decide +kernel), gd_t 481 (by decide +kernel) (by decide +kernel), gd_t 7 (by decide +kernel) (by decide +kernel), (by decide +kernel), (by decide +kernel), (by decide +kernel)⟩
theorem mlX2_73 : jml RX2 73 yX6_isTabu 1 := ⟨gd_t 483 (by decide +kernel) (by decide +kernel), gd_t 484 (by decide +kernel) (by decide +kernel), gd_t 485 (by decide +kernel) (by decide +kernel), gd_t 7 (by decide +kernel) (by decide +kernel), (by decide +kernel), (by decide +kernel), (by decide +kernel)⟩
theorem mlX3_47 : jml RX3 47 yX3_areTwoNodes 2 := ⟨gd_t 313 (by decide +kernel) (by decide +kernel), gd_t 315 (by decide +kernel) (by decide +kernel), gd_s 3 (by decide +kernel) (by decide +kernel), gd_t 3 (by decide +kernel) (by decide +kernel), (by decide +kernel), (by decide +kernel), (by decide +kernel)⟩
theorem msX3_51 : jms RX3 51 yX3_isSize 1 := ⟨gd_t 321 (by decide +kernel) (by decide +kernel), gd_t 322 (by decide +kernel) (by decide +kernel), gd_t 3 (by decide +kernel) (by decide +kernel), (by decide +kernel), (by decide +kernel), (by decide +kernel)⟩
theorem mlX3_58 : jml RX3 58 yX3_hasNode 1 := ⟨gd_t 317 (by decide +kernel) (by decide +kernel), gd_t 318 (by decide +kernel) (by decide +kernel), gd_t 319 (by decide +kernel) (by decide +kernel), gd_t 3 (by decide +kernel) (by decide +kernel), (by decide +kernel), (by decide +kernel), (by decide +kernel)⟩
theorem mlX4_22 : jml RX4 22 yX6_copyFrom 1 := ⟨gd_t 431 (by decide +kernel) (by decide +kernel), gd_t 432 (by decide +kernel) (by decide +kernel), gd_t 433 (by decide +kernel) (by decide +kernel), gd_t 7 (by decide +kernel) (by decide +kernel), (by decide +kernel), (by decide +kernel), (by decide +kernel)⟩
theorem mlX5_15 : jml RX5 15 yX3_clear 0 := ⟨gd_t 293 (by decide +kernel) (by decide +kernel), gd_t 294 (by decide +kernel) (by decide +kernel), gd_t 295 (by decide +kernel) (by decide +kernel), gd_t 3 (by decide +kernel) (by decide +kernel), (by decide +kernel), (by decide +kernel), (by decide +kernel)⟩
theorem mlX5_29 : jml RX5 29 yX5_takeItem 4 := ⟨gd_t 297 (by decide +kernel) (by decide +kernel), gd_t 299 (by decide +kernel) (by decide +kernel), gd_s 1 (by decide +kernel) (by decide +kernel), gd_t 4 (by decide +kernel) (by decide +kernel), (by decide +kernel), (by decide +kernel), (by decide +kernel)⟩
theorem mlX5_33 : jml RX5 33 yX5_takeNumbers 3 := ⟨gd_t 301 (by decide +kernel) (by decide +kernel), gd_t 303 (by decide +kernel) (by decide +kernel), gd_s 2 (by decide +kernel) (by decide +kernel), gd_t 4 (by decide +kernel) (by decide +kernel), (by decide +kernel), (by decide +kernel), (by decide +kernel)⟩
theorem mlX5_37 : jml RX5 37 yX3_takeNodes 1 := ⟨gd_t 305 (by decide +kernel) (by decide +kernel), gd_t 306 (by decide +kernel) (by decide +kernel), gd_t 307 (by decide +kernel) (by decide +kernel), gd_t 3 (by decide +kernel) (by decide +kernel), (by decide +kernel), (by decide +kernel), (by decide +kernel)⟩
theorem mlX5_41 : jml RX5 41 yX3_takeLink 4 := ⟨gd_t 309 (by decide +kernel) (by decide +kernel), gd_t 310 (by decide +kernel) (by decide +kernel), gd_t 311 (by decide +kernel) (by decide +kernel), gd_t 3 (by decide +kernel) (by decide +kernel), (by decide +kernel), (by decide +kernel), (by decide +kernel)⟩
theorem mlX5_45 : jml RX5 45 yX3_takeDemand 3 := ⟨gd_t 327 (by decide +kernel) (by decide +kernel), gd_t 328 (by decide +kernel) (by decide +kernel), gd_t 329 (by decide +kernel) (by decide +kernel), gd_t 3 (by decide +kernel) (by decide +kernel), (by decide +kernel), (by decide +kernel), (by decide +kernel)⟩
theorem mlX6_47 : jml RX6 47 yX6_markWith 2 := ⟨gd_t 491 (by decide +kernel) (by decide +kernel), gd_t 480 (by decide +kernel) (by decide +kernel), gd_t 481 (by decide +kernel) (by decide +kernel), gd_t 7 (by decide +kernel) (by decide +kernel), (by decide +kernel), (by decide +kernel), (by decide +kernel)⟩
theorem mlL_13 : jml RL 13 yX7_write 1 := ⟨gd_t 402 (by decide +kernel) (by decide +kernel), gd_t 403 (by decide +kernel) (by decide +kernel), gd_t 404 (by decide +kernel) (by decide +kernel), gd_t 1 (by decide +kernel) (by decide +kernel), (by decide +kernel), (by decide +kernel), (by decide +kernel)⟩
theorem mlL_17 : jml RL 17 yX8_write 1 := ⟨gd_t 721 (by decide +kernel) (by decide +kernel), gd_t 722 (by decide +kernel) (by decide +kernel), gd_t 723 (by decide +kernel) (by decide +kernel), gd_t 14 (by decide +kernel) (by decide +kernel), (by decide +kernel), (by decide +kernel), (by decide +kernel)⟩
theorem mlL_18 : jml RL 18 yX7_wipe 0 := ⟨gd_t 406 (by decide +kernel) (by decide +kernel), gd_t 407 (by decide +kernel) (by decide +kernel), gd_t 408 (by decide +kernel) (by decide +kernel), gd_t 1 (by decide +kernel) (by decide +kernel), (by decide +kernel), (by decide +kernel), (by decide +kernel)⟩
theorem mlL_22 : jml RL 22 yX8_wipe 0 := ⟨gd_t 728 (by decide +kernel) (by decide +kernel), gd_t 729 (by decide +kernel) (by decide +kernel), gd_t 730 (by decide +kernel) (by decide +kernel), gd_t 14 (by decide +kernel) (by decide +kernel), (by decide +kernel), (by decide +kernel), (by decide +kernel)⟩
theorem mlL_23 : jml RL 23 yX7_fault 0 := ⟨gd_t 410 (by decide +kernel) (by decide +kernel), gd_t 411 (by decide +kernel) (by decide +kernel), gd_t 412 (by decide +kernel) (by decide +kernel), gd_t 1 (by decide +kernel) (by decide +kernel), (by decide +kernel), (by decide +kernel), (by decide +kernel)⟩
theorem mlL_26 : jml RL 26 yX8_fault 0 := ⟨gd_t 732 (by decide +kernel) (by decide +kernel), gd_t 733 (by decide +kernel) (by decide +kernel), gd_t 734 (by decide +kernel) (by decide +kernel), gd_t 14 (by decide +kernel) (by decide +kernel), (by decide +kernel), (by decide +kernel), (by decide +kernel)⟩
theorem mlL_27 : jml RL 27 yX7_lay 0 := ⟨gd_t 414 (by decide +kernel) (by decide +kernel), gd_t 415 (by decide +kernel) (by decide +kernel), gd_t 416 (by decide +kernel) (by decide +kernel), gd_t 1 (by decide +kernel) (by decide +kernel), (by decide +kernel), (by decide +kernel), (by decide +kernel)⟩
theorem mlL_30 : jml RL 30 yX8_lay 0 := ⟨gd_t 760 (by decide +kernel) (by decide +kernel), gd_t 761 (by decide +kernel) (by decide +kernel), gd_t 762 (by decide +kernel) (by decide +kernel), gd_t 14 (by decide +kernel) (by decide +kernel), (by decide +kernel), (by decide +kernel), (by decide +kernel)⟩
theorem mlL_31 : jml RL 31 yX7_move 2 := ⟨gd_t 418 (by decide +kernel) (by decide +kernel), gd_t 419 (by decide +kernel) (by decide +kernel), gd_t 420 (by decide +kernel) (by decide +kernel), gd_t 1 (by decide +kernel) (by decide +kernel), (by decide +kernel), (by decide +kernel), (by decide +kernel)⟩
theorem mlL_35 : jml RL 35 yX8_move 2 := ⟨gd_t 768 (by decide +kernel) (by decide +kernel), gd_t 769 (by decide +kernel) (by decide +kernel), gd_t 770 (by decide +kernel) (by decide +kernel), gd_t 14 (by decide +kernel) (by decide +kernel), (by decide +kernel), (by decide +kernel), (by decide +kernel)⟩
theorem mlL_36 : jml RL 36 yX7_even 2 := ⟨gd_t 441 (by decide +kernel) (by decide +kernel), gd_t 442 (by decide +kernel) (by decide +kernel), gd_t 443 (by decide +kernel) (by decide +kernel), gd_t 1 (by decide +kernel) (by decide +kernel), (by decide +kernel), (by decide +kernel), (by decide +kernel)⟩
theorem mlL_39 : jml RL 39 yX8_even 2 := ⟨gd_t 784 (by decide +kernel) (by decide +kernel), gd_t 785 (by decide +kernel) (by decide +kernel), gd_t 786 (by decide +kernel) (by decide +kernel), gd_t 14 (by decide +kernel) (by decide +kernel), (by decide +kernel), (by decide +kernel), (by decide +kernel)⟩
theorem mlL_40 : jml RL 40 yX7_step 1 := ⟨gd_t 458 (by decide +kernel) (by decide +kernel), gd_t 459 (by decide +kernel) (by decide +kernel), gd_t 460 (by decide +kernel) (by decide +kernel), gd_t 1 (by decide +kernel) (by decide +kernel), (by decide +kernel), (by decide +kernel), (by decide +kernel)⟩
theorem mlL_43 : jml RL 43 yX8_step 1 := ⟨gd_t 796 (by decide +kernel) (by decide +kernel), gd_t 797 (by decide +kernel) (by decide +kernel), gd_t 798 (by decide +kernel) (by decide +kernel), gd_t 14 (by decide +kernel) (by decide +kernel), (by decide +kernel), (by decide +kernel), (by decide +kernel)⟩
theorem mlL_44 : jml RL 44 yX7_turn 2 := ⟨gd_t 496 (by decide +kernel) (by decide +kernel), gd_t 497 (by decide +kernel) (by decide +kernel), gd_t 498 (by decide +kernel) (by decide +kernel), gd_t 1 (by decide +kernel) (by decide +kernel), (by decide +kernel), (by decide +kernel), (by decide +kernel)⟩
theorem mlL_47 : jml RL 47 yX8_turn 2 := ⟨gd_t 828 (by decide +kernel) (by decide +kernel), gd_t 829 (by decide +kernel) (by decide +kernel), gd_t 830 (by decide +kernel) (by decide +kernel), gd_t 14 (by decide +kernel) (by decide +kernel), (by decide +kernel), (by decide +kernel), (by decide +kernel)⟩
theorem mlL_48 : jml RL 48 yX7_undo 0 := ⟨gd_t 500 (by decide +kernel) (by decide +kernel), gd_t 501 (by decide +kernel) (by decide +kernel), gd_t 502 (by decide +kernel) (by decide +kernel), gd_t 1 (by decide +kernel) (by decide +kernel), (by decide +kernel), (by decide +kernel), (by decide +kernel)⟩
theorem mlL_51 : jml RL 51 yX8_undo 0 := ⟨gd_t 764 (by decide +kernel) (by decide +kernel), gd_t 765 (by decide +kernel) (by decide +kernel), gd_t 766 (by decide +kernel) (by decide +kernel), gd_t 14 (by decide +kernel) (by decide +kernel), (by decide +kernel), (by decide +kernel), (by decide +kernel)⟩
theorem mlL_52 : jml RL 52 yX7_link 2 := ⟨gd_t 508 (by decide +kernel) (by decide +kernel), gd_t 509 (by decide +kernel) (by decide +kernel), gd_t 510 (by decide +kernel) (by decide +kernel), gd_t 1 (by decide +kernel) (by decide +kernel), (by decide +kernel), (by decide +kernel), (by decide +kernel)⟩
theorem mlL_55 : jml RL 55 yX8_link 2 := ⟨gd_t 832 (by decide +kernel) (by decide +kernel), gd_t 833 (by decide +kernel) (by decide +kernel), gd_t 834 (by decide +kernel) (by decide +kernel), gd_t 14 (by decide +kernel) (by decide +kernel), (by decide +kernel), (by decide +kernel), (by decide +kernel)⟩
theorem mlL_56 : jml RL 56 yX7_far 2 := ⟨gd_t 517 (by decide +kernel) (by decide +kernel), gd_t 518 (by decide +kernel) (by decide +kernel), gd_t 519 (by decide +kernel) (by decide +kernel), gd_t 1 (by decide +kernel) (by decide +kernel), (by decide +kernel), (by decide +kernel), (by decide +kernel)⟩
theorem mlL_59 : jml RL 59 yX8_far 2 := ⟨gd_t 840 (by decide +kernel) (by decide +kernel), gd_t 841 (by decide +kernel) (by decide +kernel), gd_t 842 (by decide +kernel) (by decide +kernel), gd_t 14 (by decide +kernel) (by decide +kernel), (by decide +kernel), (by decide +kernel), (by decide +kernel)⟩
theorem mlL_60 : jml RL 60 yX7_share 2 := ⟨gd_t 521 (by decide +kernel) (by decide +kernel), gd_t 522 (by decide +kernel) (by decide +kernel), gd_t 523 (by decide +kernel) (by decide +kernel), gd_t 1 (by decide +kernel) (by decide +kernel), (by decide +kernel), (by decide +kernel), (by decide +kernel)⟩
theorem mlL_63 : jml RL 63 yX8_share 2 := ⟨gd_t 844 (by decide +kernel) (by decide +kernel), gd_t 845 (by decide +kernel) (by decide +kernel), gd_t 846 (by decide +kernel) (by decide +kernel), gd_t 14 (by decide +kernel) (by decide +kernel), (by decide +kernel), (by decide +kernel), (by decide +kernel)⟩
theorem mlL_64 : jml RL 64 yX7_cost 0 := ⟨gd_t 529 (by decide +kernel) (by decide +kernel), gd_t 530 (by decide +kernel) (by decide +kernel), gd_t 531 (by decide +kernel) (by decide +kernel), gd_t 1 (by decide +kernel) (by decide +kernel), (by decide +kernel), (by decide +kernel), (by decide +kernel)⟩
theorem mlL_67 : jml RL 67 yX8_cost 0 := ⟨gd_t 848 (by decide +kernel) (by decide +kernel), gd_t 849 (by decide +kernel) (by decide +kernel), gd_t 850 (by decide +kernel) (by decide +kernel), gd_t 14 (by decide +kernel) (by decide +kernel), (by decide +kernel), (by decide +kernel), (by decide +kernel)⟩
theorem mlL_68 : jml RL 68 yX7_tabu 2 := ⟨gd_t 533 (by decide +kernel) (by decide +kernel), gd_t 534 (by decide +kernel) (by decide +kernel), gd_t 535 (by decide +kernel) (by decide +kernel), gd_t 1 (by decide +kernel) (by decide +kernel), (by decide +kernel), (by decide +kernel), (by decide +kernel)⟩
theorem mlL_71 : jml RL 71 yX8_tabu 2 := ⟨gd_t 852 (by decide +kernel) (by decide +kernel), gd_t 853 (by decide +kernel) (by decide +kernel), gd_t 854 (by decide +kernel) (by decide +kernel), gd_t 14 (by decide +kernel) (by decide +kernel), (by decide +kernel), (by decide +kernel), (by decide +kernel)⟩
theorem mlL_72 : jml RL 72 yX7_best 1 := ⟨gd_t 539 (by decide +kernel) (by decide +kernel), gd_t 540 (by decide +kernel) (by decide +kernel), gd_t 541 (by decide +kernel) (by decide +kernel), gd_t 1 (by decide +kernel) (by decide +kernel), (by decide +kernel), (by decide +kernel), (by decide +kernel)⟩
theorem mlL_75 : jml RL 75 yX8_best 1 := ⟨gd_t 856 (by decide +kernel) (by decide +kernel), gd_t 857 (by decide +kernel) (by decide +kernel), gd_t 858 (by decide +kernel) (by decide +kernel), gd_t 14 (by decide +kernel) (by decide +kernel), (by decide +kernel), (by decide +kernel), (by decide +kernel)⟩
theorem mlL_76 : jml RL 76 yX7_worst 1 := ⟨gd_t 547 (by decide +kernel) (by decide +kernel), gd_t 548 (by decide +kernel) (by decide +kernel), gd_t 549 (by decide +kernel) (by decide +kernel), gd_t 1 (by decide +kernel) (by decide +kernel), (by decide +kernel), (by decide +kernel), (by decide +kernel)⟩
theorem mlL_79 : jml RL 79 yX8_worst 1 := ⟨gd_t 864 (by decide +kernel) (by decide +kernel), gd_t 865 (by decide +kernel) (by decide +kernel), gd_t 866 (by decide +kernel) (by decide +kernel), gd_t 14 (by decide +kernel) (by decide +kernel), (by decide +kernel), (by decide +kernel), (by decide +kernel)⟩
theorem mlL_80 : jml RL 80 yX7_rescue 2 := ⟨gd_t 556 (by decide +kernel) (by decide +kernel), gd_t 557 (by decide +kernel) (by decide +kernel), gd_t 558 (by decide +kernel) (by decide +kernel), gd_t 1 (by decide +kernel) (by decide +kernel), (by decide +kernel), (by decide +kernel), (by decide +kernel)⟩
theorem mlL_83 : jml RL 83 yX8_rescue 2 := ⟨gd_t 872 (by decide +kernel) (by decide +kernel), gd_t 873 (by decide +kernel) (by decide +kernel), gd_t 874 (by decide +kernel) (by decide +kernel), gd_t 14 (by decide +kernel) (by decide +kernel), (by decide +kernel), (by decide +kernel), (by decide +kernel)⟩
theorem mlL_84 : jml RL 84 yX7_count 1 := ⟨gd_t 560 (by decide +kernel) (by decide +kernel), gd_t 561 (by decide +kernel) (by decide +kernel), gd_t 562 (by decide +kernel) (by decide +kernel), gd_t 1 (by decide +kernel) (by decide +kernel), (by decide +kernel), (by decide +kernel), (by decide +kernel)⟩
theorem mlL_87 : jml RL 87 yX8_count 1 := ⟨gd_t 876 (by decide +kernel) (by decide +kernel), gd_t 877 (by decide +kernel) (by decide +kernel), gd_t 878 (by decide +kernel) (by decide +kernel), gd_t 14 (by decide +kernel) (by decide +kernel), (by decide +kernel), (by decide +kernel), (by decide +kernel)⟩
theorem mlX8_46 : jml RX8 46 yX8_beginRead 0 := ⟨gd_t 582 (by decide +kernel) (by decide +kernel), gd_t 584 (by decide +kernel) (by decide +kernel), gd_s 11 (by decide +kernel) (by decide +kernel), gd_t 14 (by decide +kernel) (by decide +kernel), (by decide +kernel), (by decide +kernel), (by decide +kernel)⟩
theorem mlX8_53 : jml RX8 53 yX8_putLink 4 := ⟨gd_t 586 (by decide +kernel) (by decide +kernel), gd_t 588 (by decide +kernel) (by decide +kernel), gd_s 12 (by decide +kernel) (by decide +kernel), gd_t 14 (by decide +kernel) (by decide +kernel), (by decide +kernel), (by decide +kernel), (by decide +kernel)⟩
theorem mlX8_57 : jml RX8 57 yX8_putDemand 3 := ⟨gd_t 590 (by decide +kernel) (by decide +kernel), gd_t 592 (by decide +kernel) (by decide +kernel), gd_s 13 (by decide +kernel) (by decide +kernel), gd_t 14 (by decide +kernel) (by decide +kernel), (by decide +kernel), (by decide +kernel), (by decide +kernel)⟩
theorem mlX8_61 : jml RX8 61 yX8_takeRead 0 := ⟨gd_t 594 (by decide +kernel) (by decide +kernel), gd_t 596 (by decide +kernel) (by decide +kernel), gd_s 14 (by decide +kernel) (by decide +kernel), gd_t 14 (by decide +kernel) (by decide +kernel), (by decide +kernel), (by decide +kernel), (by decide +kernel)⟩
theorem mlX8_83 : jml RX8 83 yX8_costNow 0 := ⟨gd_t 598 (by decide +kernel) (by decide +kernel), gd_t 600 (by decide +kernel) (by decide +kernel), gd_s 15 (by decide +kernel) (by decide +kernel), gd_t 14 (by decide +kernel) (by decide +kernel), (by decide +kernel), (by decide +kernel), (by decide +kernel)⟩
theorem msX8_96 : jms RX8 96 yX8_in 3 := ⟨gd_t 725 (by decide +kernel) (by decide +kernel), gd_t 726 (by decide +kernel) (by decide +kernel), gd_t 14 (by decide +kernel) (by decide +kernel), (by decide +kernel), (by decide +kernel), (by decide +kernel)⟩
theorem mlX8_100 : jml RX8 100 yX8_isFigure 0 := ⟨gd_t 748 (by decide +kernel) (by decide +kernel), gd_t 750 (by decide +kernel) (by decide +kernel), gd_s 28 (by decide +kernel) (by decide +kernel), gd_t 14 (by decide +kernel) (by decide +kernel), (by decide +kernel), (by decide +kernel), (by decide +kernel)⟩
theorem mlX8_104 : jml RX8 104 yX8_isNumber 3 := ⟨gd_t 752 (by decide +kernel) (by decide +kernel), gd_t 754 (by decide +kernel) (by decide +kernel), gd_s 29 (by decide +kernel) (by decide +kernel), gd_t 14 (by decide +kernel) (by decide +kernel), (by decide +kernel), (by decide +kernel), (by decide +kernel)⟩
theorem mlX8_107 : jml RX8 107 yX8_readNumbers 1 := ⟨gd_t 744 (by decide +kernel) (by decide +kernel), gd_t 746 (by decide +kernel) (by decide +kernel), gd_s 27 (by decide +kernel) (by decide +kernel), gd_t 14 (by decide +kernel) (by decide +kernel), (by decide +kernel), (by decide +kernel), (by decide +kernel)⟩
theorem mlX8_111 : jml RX8 111 yX8_areEnds 0 := ⟨gd_t 756 (by decide +kernel) (by decide +kernel), gd_t 758 (by decide +kernel) (by decide +kernel), gd_s 30 (by decide +kernel) (by decide +kernel), gd_t 14 (by decide +kernel) (by decide +kernel), (by decide +kernel), (by decide +kernel), (by decide +kernel)⟩
theorem mlX8_114 : jml RX8 114 yX8_readItem 1 := ⟨gd_t 740 (by decide +kernel) (by decide +kernel), gd_t 742 (by decide +kernel) (by decide +kernel), gd_s 26 (by decide +kernel) (by decide +kernel), gd_t 14 (by decide +kernel) (by decide +kernel), (by decide +kernel), (by decide +kernel), (by decide +kernel)⟩
theorem mlX8_117 : jml RX8 117 yX8_readText 0 := ⟨gd_t 736 (by decide +kernel) (by decide +kernel), gd_t 738 (by decide +kernel) (by decide +kernel), gd_s 25 (by decide +kernel) (by decide +kernel), gd_t 14 (by decide +kernel) (by decide +kernel), (by decide +kernel), (by decide +kernel), (by decide +kernel)⟩
theorem mlX8_120 : jml RX8 120 yX8_end 1 := ⟨gd_t 614 (by decide +kernel) (by decide +kernel), gd_t 616 (by decide +kernel) (by decide +kernel), gd_s 19 (by decide +kernel) (by decide +kernel), gd_t 14 (by decide +kernel) (by decide +kernel), (by decide +kernel), (by decide +kernel), (by decide +kernel)⟩
theorem mlX8_124 : jml RX8 124 yX8_isUp 1 := ⟨gd_t 618 (by decide +kernel) (by decide +kernel), gd_t 620 (by decide +kernel) (by decide +kernel), gd_s 20 (by decide +kernel) (by decide +kernel), gd_t 14 (by decide +kernel) (by decide +kernel), (by decide +kernel), (by decide +kernel), (by decide +kernel)⟩
theorem mlX8_127 : jml RX8 127 yX8_begin 1 := ⟨gd_t 622 (by decide +kernel) (by decide +kernel), gd_t 624 (by decide +kernel) (by decide +kernel), gd_s 21 (by decide +kernel) (by decide +kernel), gd_t 14 (by decide +kernel) (by decide +kernel), (by decide +kernel), (by decide +kernel), (by decide +kernel)⟩
theorem mlX8_130 : jml RX8 130 yX8_isShort 1 := ⟨gd_t 630 (by decide +kernel) (by decide +kernel), gd_t 632 (by decide +kernel) (by decide +kernel), gd_s 23 (by decide +kernel) (by decide +kernel), gd_t 14 (by decide +kernel) (by decide +kernel), (by decide +kernel), (by decide +kernel), (by decide +kernel)⟩
theorem mlX8_133 : jml RX8 133 yX8_findFar 1 := ⟨gd_t 610 (by decide +kernel) (by decide +kernel), gd_t 612 (by decide +kernel) (by decide +kernel), gd_s 18 (by decide +kernel) (by decide +kernel), gd_t 14 (by decide +kernel) (by decide +kernel), (by decide +kernel), (by decide +kernel), (by decide +kernel)⟩
theorem mlX8_137 : jml RX8 137 yX8_goOn 1 := ⟨gd_t 626 (by decide +kernel) (by decide +kernel), gd_t 628 (by decide +kernel) (by decide +kernel), gd_s 22 (by decide +kernel) (by decide +kernel), gd_t 14 (by decide +kernel) (by decide +kernel), (by decide +kernel), (by decide +kernel), (by decide +kernel)⟩
theorem mlX8_143 : jml RX8 143 yX8_layShares 1 := ⟨gd_t 606 (by decide +kernel) (by decide +kernel), gd_t 608 (by decide +kernel) (by decide +kernel), gd_s 17 (by decide +kernel) (by decide +kernel), gd_t 14 (by decide +kernel) (by decide +kernel), (by decide +kernel), (by decide +kernel), (by decide +kernel)⟩
theorem msX8_146 : jms RX8 146 yX8_piece 3 := ⟨gd_t 638 (by decide +kernel) (by decide +kernel), gd_t 639 (by decide +kernel) (by decide +kernel), gd_t 14 (by decide +kernel) (by decide +kernel), (by decide +kernel), (by decide +kernel), (by decide +kernel)⟩
theorem mlX8_151 : jml RX8 151 yX8_layLoads 0 := ⟨gd_t 602 (by decide +kernel) (by decide +kernel), gd_t 604 (by decide +kernel) (by decide +kernel), gd_s 16 (by decide +kernel) (by decide +kernel), gd_t 14 (by decide +kernel) (by decide +kernel), (by decide +kernel), (by decide +kernel), (by decide +kernel)⟩
theorem mlX8_154 : jml RX8 154 yX8_costOf 1 := ⟨gd_t 634 (by decide +kernel) (by decide +kernel), gd_t 636 (by decide +kernel) (by decide +kernel), gd_s 24 (by decide +kernel) (by decide +kernel), gd_t 14 (by decide +kernel) (by decide +kernel), (by decide +kernel), (by decide +kernel), (by decide +kernel)⟩
theorem mlX8_157 : jml RX8 157 yX8_markNow 0 := ⟨gd_t 812 (by decide +kernel) (by decide +kernel), gd_t 814 (by decide +kernel) (by decide +kernel), gd_s 39 (by decide +kernel) (by decide +kernel), gd_t 14 (by decide +kernel) (by decide +kernel), (by decide +kernel), (by decide +kernel), (by decide +kernel)⟩
theorem mlX8_160 : jml RX8 160 yX8_isTabu 1 := ⟨gd_t 816 (by decide +kernel) (by decide +kernel), gd_t 818 (by decide +kernel) (by decide +kernel), gd_s 40 (by decide +kernel) (by decide +kernel), gd_t 14 (by decide +kernel) (by decide +kernel), (by decide +kernel), (by decide +kernel), (by decide +kernel)⟩
theorem mlX8_169 : jml RX8 169 yX8_costBy 2 := ⟨gd_t 804 (by decide +kernel) (by decide +kernel), gd_t 806 (by decide +kernel) (by decide +kernel), gd_s 37 (by decide +kernel) (by decide +kernel), gd_t 14 (by decide +kernel) (by decide +kernel), (by decide +kernel), (by decide +kernel), (by decide +kernel)⟩
theorem mlX8_173 : jml RX8 173 yX8_isTabuBy 2 := ⟨gd_t 808 (by decide +kernel) (by decide +kernel), gd_t 810 (by decide +kernel) (by decide +kernel), gd_s 38 (by decide +kernel) (by decide +kernel), gd_t 14 (by decide +kernel) (by decide +kernel), (by decide +kernel), (by decide +kernel), (by decide +kernel)⟩
theorem mlX8_180 : jml RX8 180 yX8_isLink 1 := ⟨gd_t 772 (by decide +kernel) (by decide +kernel), gd_t 774 (by decide +kernel) (by decide +kernel), gd_s 31 (by decide +kernel) (by decide +kernel), gd_t 14 (by decide +kernel) (by decide +kernel), (by decide +kernel), (by decide +kernel), (by decide +kernel)⟩
theorem mlX8_183 : jml RX8 183 yX8_note 0 := ⟨gd_t 776 (by decide +kernel) (by decide +kernel), gd_t 778 (by decide +kernel) (by decide +kernel), gd_s 32 (by decide +kernel) (by decide +kernel), gd_t 14 (by decide +kernel) (by decide +kernel), (by decide +kernel), (by decide +kernel), (by decide +kernel)⟩
theorem mlX8_186 : jml RX8 186 yX8_tellLeast 0 := ⟨gd_t 780 (by decide +kernel) (by decide +kernel), gd_t 782 (by decide +kernel) (by decide +kernel), gd_s 33 (by decide +kernel) (by decide +kernel), gd_t 14 (by decide +kernel) (by decide +kernel), (by decide +kernel), (by decide +kernel), (by decide +kernel)⟩
theorem mlX8_189 : jml RX8 189 yX8_isNode 1 := ⟨gd_t 788 (by decide +kernel) (by decide +kernel), gd_t 790 (by decide +kernel) (by decide +kernel), gd_s 34 (by decide +kernel) (by decide +kernel), gd_t 14 (by decide +kernel) (by decide +kernel), (by decide +kernel), (by decide +kernel), (by decide +kernel)⟩
theorem mlX8_192 : jml RX8 192 yX8_isEvened 2 := ⟨gd_t 792 (by decide +kernel) (by decide +kernel), gd_t 794 (by decide +kernel) (by decide +kernel), gd_s 35 (by decide +kernel) (by decide +kernel), gd_t 14 (by decide +kernel) (by decide +kernel), (by decide +kernel), (by decide +kernel), (by decide +kernel)⟩
theorem mlX8_195 : jml RX8 195 yX8_findMove 2 := ⟨gd_t 800 (by decide +kernel) (by decide +kernel), gd_t 802 (by decide +kernel) (by decide +kernel), gd_s 36 (by decide +kernel) (by decide +kernel), gd_t 14 (by decide +kernel) (by decide +kernel), (by decide +kernel), (by decide +kernel), (by decide +kernel)⟩
theorem mlX8_199 : jml RX8 199 yX8_becomesTabu 1 := ⟨gd_t 824 (by decide +kernel) (by decide +kernel), gd_t 826 (by decide +kernel) (by decide +kernel), gd_s 42 (by decide +kernel) (by decide +kernel), gd_t 14 (by decide +kernel) (by decide +kernel), (by decide +kernel), (by decide +kernel), (by decide +kernel)⟩
theorem mlX8_202 : jml RX8 202 yX8_stepOnce 0 := ⟨gd_t 820 (by decide +kernel) (by decide +kernel), gd_t 822 (by decide +kernel) (by decide +kernel), gd_s 41 (by decide +kernel) (by decide +kernel), gd_t 14 (by decide +kernel) (by decide +kernel), (by decide +kernel), (by decide +kernel), (by decide +kernel)⟩
theorem mlX8_205 : jml RX8 205 yX8_shortFor 1 := ⟨gd_t 836 (by decide +kernel) (by decide +kernel), gd_t 838 (by decide +kernel) (by decide +kernel), gd_s 43 (by decide +kernel) (by decide +kernel), gd_t 14 (by decide +kernel) (by decide +kernel), (by decide +kernel), (by decide +kernel), (by decide +kernel)⟩
theorem mlX8_208 : jml RX8 208 yX8_bestOf 1 := ⟨gd_t 860 (by decide +kernel) (by decide +kernel), gd_t 862 (by decide +kernel) (by decide +kernel), gd_s 44 (by decide +kernel) (by decide +kernel), gd_t 14 (by decide +kernel) (by decide +kernel), (by decide +kernel), (by decide +kernel), (by decide +kernel)⟩
theorem mlX8_211 : jml RX8 211 yX8_costTurned 1 := ⟨gd_t 868 (by decide +kernel) (by decide +kernel), gd_t 870 (by decide +kernel) (by decide +kernel), gd_s 45 (by decide +kernel) (by decide +kernel), gd_t 14 (by decide +kernel) (by decide +kernel), (by decide +kernel), (by decide +kernel), (by decide +kernel)⟩
theorem msX8_214 : jms RX8 214 yX8_ones 1 := ⟨gd_t 880 (by decide +kernel) (by decide +kernel), gd_t 881 (by decide +kernel) (by decide +kernel), gd_t 14 (by decide +kernel) (by decide +kernel), (by decide +kernel), (by decide +kernel), (by decide +kernel)⟩
theorem mlX8_217 : jml RX8 217 yX8_moreThanFull 0 := ⟨gd_t 883 (by decide +kernel) (by decide +kernel), gd_t 885 (by decide +kernel) (by decide +kernel), gd_s 46 (by decide +kernel) (by decide +kernel), gd_t 14 (by decide +kernel) (by decide +kernel), (by decide +kernel), (by decide +kernel), (by decide +kernel)⟩
theorem st_isWeight : Cond.static yX7_isWeight ∈ lw_gd := gd_t 325 (by decide +kernel) (by decide +kernel)
-- Jvm.Cond.constant "LoadWeightsModel" (150 : Nat) (2000000000 : Int32)
end
section
/-! rows of the second kind: writes give a fresh state; calls by contract; what is read only -/
theorem mn_l (own : String) (idx i : Nat) (h : tables_1[i]? = some (Cond.methodLink own idx Lib.Math.min.name)) : Cond.methodLink own idx Lib.Math.min.name ∈ lw_gd := gd_t i h rfl
theorem mmX0_96 : Cond.methodLink RX0 96 Lib.Math.min.name ∈ lw_gd := gd_t 365 (by decide +kernel) (by decide +kernel)
theorem mmX4_29 : Cond.methodLink RX4 29 Lib.Math.min.name ∈ lw_gd := gd_t 435 (by decide +kernel) (by decide +kernel)
theorem mmX6_41 : Cond.methodLink RX6 41 Lib.Math.min.name ∈ lw_gd := gd_t 440 (by decide +kernel) (by decide +kernel)
theorem mmX7_233 : Cond.methodLink RX7 233 Lib.Math.max.name ∈ lw_gd := gd_t 455 (by decide +kernel) (by decide +kernel)
theorem mm_min_s : Cond.static Lib.Math.min.name ∈ lw_gd := gd_t 366 (by decide +kernel) (by decide +kernel)
theorem mm_max_s : Cond.static Lib.Math.max.name ∈ lw_gd := gd_t 456 (by decide +kernel) (by decide +kernel)
theorem mm_ini : Cond.initialized "java/lang/Math" ∈ lw_gd := gd_t 13 (by decide +kernel) (by decide +kernel)
theorem mm_min_c : Cond.code Lib.Math.min.name Lib.Math.min.code 2 (some .int) ∈ lw_gd := gd_t 367 (by decide +kernel) (by decide +kernel)
theorem mm_max_c : Cond.code Lib.Math.max.name Lib.Math.max.code 2 (some .int) ∈ lw_gd := gd_t 457 (by decide +kernel) (by decide +kernel)
theorem kX8_150 : Cond.constant RX8 150 2000000000 ∈ lw_gd := gd_t 641 (by decide +kernel) (by decide +kernel)
theorem fsX0_93 : Cond.fieldLink RX0 93 "LoadWeights$Flow" "PIECE_ROOMS" "[I" ∈ lw_gd := gd_t 363 (by decide +kernel) (by decide +kernel)
theorem fsX0_102 : Cond.fieldLink RX0 102 "LoadWeights$Flow" "PIECE_PRICE" "[I" ∈ lw_gd := gd_t 368 (by decide +kernel) (by decide +kernel)
theorem nI_inc (a : Nat) : nI a + Int32.ofInt 1 = nI (a + 1) := nI_1 a
section JM
variable {g : jG} {κ : jC} {cc : ByteArray} {nL pc : Nat} {own : String} {rm : Room} {L : List (Option Value)} {S : List Value} {σ : Sg}
theorem j_put' (C : Cx g κ cc nL own rm) {index ci k q : Nat} {ty : FieldType} {fs : (Nat → Int32) → List Value} {x : Int32} (hf : jfp own index ci k ty) (hd : decode cc pc = .ok (.putfield index, 3)) (hq : q < gN g) (he : ∀ f, cf g q f = .inr (ci, fs f)) (hset : (fs (σ q)).set k (.int x) = fs (upd (σ q) k x)) (hl0 : k < (fs (σ q)).length) (hn : narrow ty (.int x) = .int x) (hfit : fits ty (.int x) = true)
    (kk : ∀ σ' : Sg, (∀ j n, ¬ (j = q ∧ n = k) → σ' j n = σ j n) → σ' q k = x → J g κ nL (pc + 3) L S σ') : J g κ nL pc L (.int x :: .ref (gad g q) :: S) σ :=
  j_put C hf hd hq he hset hl0 hn hfit (kk _ (fun _ _ h => up2_n h) up2_v)
theorem j_iast' (C : Cx g κ cc nL own rm) {q n e : Nat} {x : Int32} (hd : decode cc pc = .ok (.iastore, 1)) (hq : q < gN g) (he : ∀ f, cf g q f = cI g n f) (hn : n < 2 ^ 31) (hi : e < n)
    (kk : ∀ σ' : Sg, (∀ j n, ¬ (j = q ∧ n = e) → σ' j n = σ j n) → σ' q e = x → J g κ nL (pc + 1) L S σ') : J g κ nL pc L (.int x :: .int (nI e) :: .ref (gad g q) :: S) σ :=
  j_iast C hd hq he hn hi (kk _ (fun _ _ h => up2_n h) up2_v)
theorem j_zast' (C : Cx g κ cc nL own rm) {q n e : Nat} {x : Int32} (hd : decode cc pc = .ok (.bastore, 1)) (hq : q < gN g) (he : ∀ f, cf g q f = cZ g n f) (hn : n < 2 ^ 31) (hi : e < n) (hx : vp_nar .boolean x = x)
    (kk : ∀ σ' : Sg, (∀ j n, ¬ (j = q ∧ n = e) → σ' j n = σ j n) → σ' q e = x → J g κ nL (pc + 1) L S σ') : J g κ nL pc L (.int x :: .int (nI e) :: .ref (gad g q) :: S) σ :=
  j_zast C hd hq he hn hi hx (kk _ (fun _ _ h => up2_n h) up2_v)
theorem j_calli {y : MethodName} {c' : ByteArray} {n' idx n : Nat} {t0 : FieldType} {r' : Room} {q : Nat} {As rest : List Value} {Q : Int32 → Sg → Prop} {ci : Nat} {r : vw_C} {fs : List Value} (C : Cx g κ cc nL own rm) (hM : MS g y c' n' (some t0) r' (.ref (gad g q) :: As) σ Q) (hcd : Cond.code y c' n' (some t0) ∈ lw_gd) (hl : jml own idx y n) (hd : decode cc pc = .ok (.invokevirtual idx, 3)) (hR : r'.frames + 1 ≤ rm.frames ∧ 8 + (n' + 11) + r'.locals ≤ rm.locals) (hz : r'.cells = 0 ∧ r'.slots = 0)
    (hq : q < gN g) (he : cf g q (σ q) = .inr (ci, fs)) (hci : vwCl[ci]? = some r) (hr : r.1 = y.cls) (hn : As.length = n) (hst : S = As.reverse ++ .ref (gad g q) :: rest) (hW : (rest.map fun v => v.category).sum ≤ 8)
    (kk : ∀ (x : Int32) (σ' : Sg), Q x σ' → J g κ nL (pc + 3) L (.int x :: rest) σ') : J g κ nL pc L S σ := by
  refine j_backi (rest := rest) (t0 := t0) (Q := jS g Q) (mc := 0) (ms := 0) (a := (Value.ref (gad g q) :: As).toArray) C (fun ls H locs hjl hP hD hS => ?_) (fun x ws' h => ?_)
  · have := j_run (q0 := q) C hM hcd hl hR (by rw [hz.1, hz.2]; exact ⟨Nat.zero_le _, Nat.zero_le _⟩) (by rw [wd_get hq, he]) hci hr hn hst hW hd hjl hP hD hS
    rw [hz.1, hz.2] at this
    exact this
  · obtain ⟨σ', rfl, h⟩ := h
    exact kk x σ' h
theorem j_callv {y : MethodName} {c' : ByteArray} {n' idx n : Nat} {r' : Room} {q : Nat} {As rest : List Value} {Q : Int32 → Sg → Prop} {ci : Nat} {r : vw_C} {fs : List Value} (C : Cx g κ cc nL own rm) (hM : MS g y c' n' none r' (.ref (gad g q) :: As) σ Q) (hcd : Cond.code y c' n' none ∈ lw_gd) (hl : jml own idx y n) (hd : decode cc pc = .ok (.invokevirtual idx, 3)) (hR : r'.frames + 1 ≤ rm.frames ∧ 8 + (n' + 11) + r'.locals ≤ rm.locals) (hz : r'.cells = 0 ∧ r'.slots = 0)
    (hq : q < gN g) (he : cf g q (σ q) = .inr (ci, fs)) (hci : vwCl[ci]? = some r) (hr : r.1 = y.cls) (hn : As.length = n) (hst : S = As.reverse ++ .ref (gad g q) :: rest) (hW : (rest.map fun v => v.category).sum ≤ 8)
    (kk : ∀ σ' : Sg, Q 0 σ' → J g κ nL (pc + 3) L rest σ') : J g κ nL pc L S σ := by
  refine j_backv (rest := rest) (Q := jS g Q) (mc := 0) (ms := 0) (a := (Value.ref (gad g q) :: As).toArray) C (fun ls H locs hjl hP hD hS => ?_) (fun ws' h => ?_)
  · have := j_run (q0 := q) C hM hcd hl hR (by rw [hz.1, hz.2]; exact ⟨Nat.zero_le _, Nat.zero_le _⟩) (by rw [wd_get hq, he]) hci hr hn hst hW hd hjl hP hD hS
    rw [hz.1, hz.2] at this
    exact this
  · obtain ⟨σ', rfl, h⟩ := h
    exact kk σ' h
theorem j_calls {y : MethodName} {c' : ByteArray} {n' idx n : Nat} {t0 : FieldType} {r' : Room} {As rest : List Value} {Q : Int32 → Sg → Prop} (C : Cx g κ cc nL own rm) (hM : MS g y c' n' (some t0) r' As σ Q) (hcd : Cond.code y c' n' (some t0) ∈ lw_gd) (hl : jms own idx y n) (hd : decode cc pc = .ok (.invokestatic idx, 3)) (hR : r'.frames + 1 ≤ rm.frames ∧ 8 + (n' + 11) + r'.locals ≤ rm.locals) (hz : r'.cells = 0 ∧ r'.slots = 0)
    (hn : As.length = n) (hst : S = As.reverse ++ rest) (hW : (rest.map fun v => v.category).sum ≤ 8)
    (kk : ∀ (x : Int32) (σ' : Sg), Q x σ' → J g κ nL (pc + 3) L (.int x :: rest) σ') : J g κ nL pc L S σ := by
  refine j_backi (rest := rest) (t0 := t0) (Q := jS g Q) (mc := 0) (ms := 0) (a := As.toArray) C (fun ls H locs hjl hP hD hS => ?_) (fun x ws' h => ?_)
  · have := j_runS C hM hcd hl hR (kc := 0) (ks := 0) (by rw [hz.1, hz.2]; exact ⟨Nat.zero_le _, Nat.zero_le _⟩) hn hst hW hd hjl hP hD hS
    rw [hz.1, hz.2] at this
    exact this
  · obtain ⟨σ', rfl, h⟩ := h
    exact kk x σ' h
/-- the one call of a nest mate's private static -/
theorem j_callw {c' : ByteArray} {n' : Nat} {r' : Room} {v : Int32} {rest : List Value} {Q : Int32 → Sg → Prop} (C : Cx g κ cc nL RX3 rm) (hM : MS g yX7_isWeight c' n' (some .boolean) r' [.int v] σ Q) (hcd : Cond.code yX7_isWeight c' n' (some .boolean) ∈ lw_gd) (hd : decode cc pc = .ok (.invokestatic 55, 3)) (hR : r'.frames + 1 ≤ rm.frames ∧ 8 + (n' + 11) + r'.locals ≤ rm.locals) (hz : r'.cells = 0 ∧ r'.slots = 0) (hW : (rest.map fun v => v.category).sum ≤ 8)
    (kk : ∀ (x : Int32) (σ' : Sg), Q x σ' → J g κ nL (pc + 3) L (.int x :: rest) σ') : J g κ nL pc L (.int v :: rest) σ := by
  refine j_backi (rest := rest) (t0 := .boolean) (Q := jS g Q) (mc := 0) (ms := 0) (a := #[.int v]) C (fun ls H locs hjl hP hD hS => ?_) (fun x ws' h => ?_)
  · have := j_runSN (n := 1) (As := [.int v]) (rest := rest) (kc := 0) (ks := 0) C hM hcd C.2.2.2.2.2.2.2.1.2.2 st_isWeight iniX7 ⟨by decide +kernel, by decide +kernel, by decide +kernel⟩ hR (by rw [hz.1, hz.2]; exact ⟨Nat.zero_le _, Nat.zero_le _⟩) rfl rfl hW hd hjl hP hD hS
    rw [hz.1, hz.2] at this
    exact this
  · obtain ⟨σ', rfl, h⟩ := h
    exact kk x σ' h
theorem j_min (C : Cx g κ cc nL own rm) {idx : Nat} {x y : Int32} (hl : Cond.methodLink own idx Lib.Math.min.name ∈ lw_gd) (hd : decode cc pc = .ok (.invokestatic idx, 3)) (hR : 1 ≤ rm.frames ∧ 21 ≤ rm.locals) (hW : (S.map fun v => v.category).sum ≤ 8) (k : J g κ nL (pc + 3) L (.int (if y < x then y else x) :: S) σ) : J g κ nL pc L (.int y :: .int x :: S) σ := fun ls H locs hjl hP hD hS => by
  obtain ⟨c1, c2, c3, c4, c5, c6, c7, c8, c9⟩ := C
  exact va_mmin c1 c2 (by rw [c3]; exact hjl.1.1.symm) c4 (c5 _ hl) (c5 _ mm_min_s) (c5 _ mm_ini) (c5 _ mm_min_c) (by rw [c9]; exact hR.1) (by rw [c9]; have := hR.2; omega) (Nat.zero_le _) (Nat.zero_le _) hd (k ls H locs hjl hP hD hS)
theorem j_max (C : Cx g κ cc nL own rm) {idx : Nat} {x y : Int32} (hl : Cond.methodLink own idx Lib.Math.max.name ∈ lw_gd) (hd : decode cc pc = .ok (.invokestatic idx, 3)) (hR : 1 ≤ rm.frames ∧ 21 ≤ rm.locals) (hW : (S.map fun v => v.category).sum ≤ 8) (k : J g κ nL (pc + 3) L (.int (if x < y then y else x) :: S) σ) : J g κ nL pc L (.int y :: .int x :: S) σ := fun ls H locs hjl hP hD hS => by
  obtain ⟨c1, c2, c3, c4, c5, c6, c7, c8, c9⟩ := C
  exact va_mmax c1 c2 (by rw [c3]; exact hjl.1.1.symm) c4 (c5 _ hl) (c5 _ mm_max_s) (c5 _ mm_ini) (c5 _ mm_max_c) (by rw [c9]; exact hR.1) (by rw [c9]; have := hR.2; omega) (Nat.zero_le _) (Nat.zero_le _) hd (k ls H locs hjl hP hD hS)
/-- the static rows -/
theorem j_rooms (C : Cx g κ cc nL RX0 rm) (hd : decode cc pc = .ok (.getstatic 93, 3)) (k : J g κ nL (pc + 3) L (.ref (gsa g 0) :: S) σ) : J g κ nL pc L S σ := fun ls H locs hjl hP hD hS => by
  obtain ⟨c1, c2, c3, c4, c5, c6, c7, c8, c9⟩ := C
  exact va_gets c1 c2 c8.1.1 hS c4 (c5 _ fsX0_93) (fun _ h => h) hd (k ls H locs hjl hP hD hS)
theorem j_price (C : Cx g κ cc nL RX0 rm) (hd : decode cc pc = .ok (.getstatic 102, 3)) (k : J g κ nL (pc + 3) L (.ref (gsa g 1) :: S) σ) : J g κ nL pc L S σ := fun ls H locs hjl hP hD hS => by
  obtain ⟨c1, c2, c3, c4, c5, c6, c7, c8, c9⟩ := C
  exact va_gets c1 c2 c8.2.1.1 hS c4 (c5 _ fsX0_102) (fun _ h => h) hd (k ls H locs hjl hP hD hS)
theorem j_roomsL (C : Cx g κ cc nL RX0 rm) (hd : decode cc pc = .ok (.arraylength, 1)) (k : J g κ nL (pc + 1) L (.int (nI 4) :: S) σ) : J g κ nL pc L (.ref (gsa g 0) :: S) σ := fun ls H locs hjl hP hD hS => by
  obtain ⟨c1, c2, c3, c4, c5, c6, c7, c8, c9⟩ := C
  exact va_slen c1 c2 c8.1.2.1 c8.1.2.2.1 c8.1.2.2.2 hS hd (k ls H locs hjl hP hD hS)
theorem j_roomsI (C : Cx g κ cc nL RX0 rm) {e : Nat} (hd : decode cc pc = .ok (.iaload, 1)) (he : e < 4) (k : J g κ nL (pc + 1) L (.int (fx_rooms e) :: S) σ) : J g κ nL pc L (.int (nI e) :: .ref (gsa g 0) :: S) σ := fun ls H locs hjl hP hD hS => by
  obtain ⟨c1, c2, c3, c4, c5, c6, c7, c8, c9⟩ := C
  refine va_sld c1 c2 c8.1.2.1 c8.1.2.2.1 c8.1.2.2.2 hS (vp_in_nI he (by decide)) hd ?_
  rw [nI_clamp (by omega)]
  exact k ls H locs hjl hP hD hS
theorem j_priceI (C : Cx g κ cc nL RX0 rm) {e : Nat} (hd : decode cc pc = .ok (.iaload, 1)) (he : e < 4) (k : J g κ nL (pc + 1) L (.int (fx_price e) :: S) σ) : J g κ nL pc L (.int (nI e) :: .ref (gsa g 1) :: S) σ := fun ls H locs hjl hP hD hS => by
  obtain ⟨c1, c2, c3, c4, c5, c6, c7, c8, c9⟩ := C
  refine va_sld c1 c2 c8.2.1.2.1 c8.2.1.2.2.1 c8.2.1.2.2.2 hS (vp_in_nI he (by decide)) hd ?_
  rw [nI_clamp (by omega)]
  exact k ls H locs hjl hP hD hS
/-- ends -/
theorem j_ret {Q : Int32 → Sg → Prop} {nm : String} {x : Int32} (M : Mx g κ cc nL own rm (some .int) nm (jS g Q)) (hd : decode cc pc = .ok (.ireturn, 1)) (hq : Q x σ) : J g κ nL pc L [.int x] σ := j_ireturn M hd (Nat.zero_le _) (Nat.zero_le _) ⟨σ, rfl, hq⟩
theorem j_retz {Q : Int32 → Sg → Prop} {nm : String} {x : Int32} (M : Mx g κ cc nL own rm (some .boolean) nm (jS g Q)) (hd : decode cc pc = .ok (.ireturn, 1)) (hx : narrow .boolean (.int x) = .int x) (hq : Q x σ) : J g κ nL pc L [.int x] σ := j_zreturn M hx hd (Nat.zero_le _) (Nat.zero_le _) ⟨σ, rfl, hq⟩
theorem j_retv {Q : Int32 → Sg → Prop} {nm : String} (M : Mx g κ cc nL own rm none nm (jS g Q)) (hd : decode cc pc = .ok (.return_, 1)) (hq : Q 0 σ) : J g κ nL pc L [] σ := j_return M hd (Nat.zero_le _) (Nat.zero_le _) ⟨σ, rfl, hq⟩
theorem MS_post {y : MethodName} {c' : ByteArray} {n' : Nat} {ret : Option FieldType} {r' : Room} {As : List Value} {Q Q' : Int32 → Sg → Prop} (h : MS g y c' n' ret r' As σ Q) (hQ : ∀ x σ', Q x σ' → Q' x σ') : MS g y c' n' ret r' As σ Q' := by
  intro sz
  have h0 := h sz
  intro p e a1 a2 a3 s m args below a4 a5 a6 a7
  obtain ⟨t, o, b1, b2, b3, b4, b5⟩ := h0 p e a1 a2 a3 s m args below a4 a5 a6 a7
  refine ⟨t, o, b1, b2, b3, ?_, b5⟩
  cases ret with
  | none =>
    obtain ⟨⟨u, u1, ⟨σ', u2, u3⟩, u4⟩, u5⟩ := b4
    exact ⟨⟨u, u1, ⟨σ', u2, hQ _ _ u3⟩, u4⟩, u5⟩
  | some t1 =>
    obtain ⟨⟨x, u, u1, ⟨σ', u2, u3⟩, u4⟩, u5⟩ := b4
    exact ⟨⟨x, u, u1, ⟨σ', u2, hQ _ _ u3⟩, u4⟩, u5⟩
end JM
/-! symbolic places: rows of far and share, standings, nets -/
theorem cf_far {g : jG} {t : Nat} (h : t < 7) (f : Nat → Int32) : cf g (25 + 1 * t) f = cI g 7 f := by
  rcases (by omega : t = 0 ∨ t = 1 ∨ t = 2 ∨ t = 3 ∨ t = 4 ∨ t = 5 ∨ t = 6) with rfl | rfl | rfl | rfl | rfl | rfl | rfl <;> rfl
theorem cf_share {g : jG} {t : Nat} (h : t < 6) (f : Nat → Int32) : cf g (33 + 1 * t) f = cI g 12 f := by
  rcases (by omega : t = 0 ∨ t = 1 ∨ t = 2 ∨ t = 3 ∨ t = 4 ∨ t = 5) with rfl | rfl | rfl | rfl | rfl | rfl <;> rfl
theorem cf_st {g : jG} {i : Nat} (h : i < 9) (f : Nat → Int32) : cf g (48 + 4 * i) f = cSt g (48 + 4 * i) f := by
  rcases (by omega : i = 0 ∨ i = 1 ∨ i = 2 ∨ i = 3 ∨ i = 4 ∨ i = 5 ∨ i = 6 ∨ i = 7 ∨ i = 8) with rfl | rfl | rfl | rfl | rfl | rfl | rfl | rfl | rfl <;> rfl
theorem cf_st1 {g : jG} {i : Nat} (h : i < 9) (f : Nat → Int32) : cf g (48 + 4 * i + 1) f = cI g 12 f := by
  rcases (by omega : i = 0 ∨ i = 1 ∨ i = 2 ∨ i = 3 ∨ i = 4 ∨ i = 5 ∨ i = 6 ∨ i = 7 ∨ i = 8) with rfl | rfl | rfl | rfl | rfl | rfl | rfl | rfl | rfl <;> rfl
theorem cf_st2 {g : jG} {i : Nat} (h : i < 9) (f : Nat → Int32) : cf g (48 + 4 * i + 2) f = cZ g 12 f := by
  rcases (by omega : i = 0 ∨ i = 1 ∨ i = 2 ∨ i = 3 ∨ i = 4 ∨ i = 5 ∨ i = 6 ∨ i = 7 ∨ i = 8) with rfl | rfl | rfl | rfl | rfl | rfl | rfl | rfl | rfl <;> rfl
theorem cf_st3 {g : jG} {i : Nat} (h : i < 9) (f : Nat → Int32) : cf g (48 + 4 * i + 3) f = cI g 6 f := by
  rcases (by omega : i = 0 ∨ i = 1 ∨ i = 2 ∨ i = 3 ∨ i = 4 ∨ i = 5 ∨ i = 6 ∨ i = 7 ∨ i = 8) with rfl | rfl | rfl | rfl | rfl | rfl | rfl | rfl | rfl <;> rfl
theorem cf_net {g : jG} {i : Nat} (h : i < 2) (f : Nat → Int32) : cf g (3 + 9 * i) f = cNet g (3 + 9 * i) f := by
  rcases (by omega : i = 0 ∨ i = 1) with rfl | rfl <;> rfl
theorem cf_netI {g : jG} {i k : Nat} (h : i < 2) (h1 : 1 ≤ k) (h2 : k ≤ 4) (f : Nat → Int32) : cf g (3 + 9 * i + k) f = cI g 12 f := by
  rcases (by omega : i = 0 ∨ i = 1) with rfl | rfl <;> rcases (by omega : k = 1 ∨ k = 2 ∨ k = 3 ∨ k = 4) with rfl | rfl | rfl | rfl <;> rfl
theorem cf_netD {g : jG} {i k : Nat} (h : i < 2) (h1 : 5 ≤ k) (h2 : k ≤ 7) (f : Nat → Int32) : cf g (3 + 9 * i + k) f = cI g 6 f := by
  rcases (by omega : i = 0 ∨ i = 1) with rfl | rfl <;> rcases (by omega : k = 5 ∨ k = 6 ∨ k = 7) with rfl | rfl | rfl <;> rfl
theorem cf_netZ {g : jG} {i : Nat} (h : i < 2) (f : Nat → Int32) : cf g (3 + 9 * i + 8) f = cZ g 7 f := by
  rcases (by omega : i = 0 ∨ i = 1) with rfl | rfl <;> rfl
theorem j_zastG {g : jG} {κ : jC} {cc : ByteArray} {nL pc : Nat} {own : String} {rm : Room} {L : List (Option Value)} {S : List Value} {σ : Sg} (C : Cx g κ cc nL own rm) {q n e : Nat} {x : Int32} (hd : decode cc pc = .ok (.bastore, 1)) (hq : q < gN g) (he : ∀ f, cf g q f = cZ g n f) (hn : n < 2 ^ 31) (hi : e < n)
    (kk : ∀ σ' : Sg, (∀ j n, ¬ (j = q ∧ n = e) → σ' j n = σ j n) → σ' q e = vp_nar .boolean x → J g κ nL (pc + 1) L S σ') : J g κ nL pc L (.int x :: .int (nI e) :: .ref (gad g q) :: S) σ := fun ls H locs hl hP hD hS => by
  refine va_zast (D := gD g) C.1 C.2.1 C.2.2.2.2.2.1 hP hD hS q 1 (by rw [wd_get hq, he]; rfl) rfl (vp_in_nI hi hn) hd (fun H1 locs1 hP1 hD1 hS1 => ?_)
  rw [nI_clamp (by omega)] at hP1 hD1
  rw [wd_set (i := e) (v := vp_nar .boolean x) (by rw [he]; rfl)] at hP1 hD1
  exact kk _ (fun _ _ h => up2_n h) up2_v ls H1 locs1 hl hP1 hD1 hS1
end
section
/-! pure words: numbers -/
theorem J_loc {g : jG} {κ : jC} {nL pc : Nat} {L L' : List (Option Value)} {S : List Value} {σ : Sg} (h : L = L') (k : J g κ nL pc L' S σ) : J g κ nL pc L S σ := h ▸ k
theorem J_sg {g : jG} {κ : jC} {nL pc : Nat} {L : List (Option Value)} {S : List Value} {σ σ' : Sg} (h : σ = σ') (k : J g κ nL pc L S σ') : J g κ nL pc L S σ := h ▸ k
theorem nI_neg {a : Nat} {c : Int32} (ha : a < 2 ^ 31) (hc : c < 0) : ¬ nI a = c := fun h => nI_pos ha (h ▸ hc)
theorem nI_min {a b : Nat} (ha : a < 2 ^ 31) (hb : b < 2 ^ 31) : (if nI b < nI a then nI b else nI a) = nI (min a b) := by
  by_cases h : b < a
  · rw [if_pos ((nI_ltI hb ha).mpr h), Nat.min_eq_right (Nat.le_of_lt h)]
  · rw [if_neg (fun q => h ((nI_ltI hb ha).mp q)), Nat.min_eq_left (Nat.le_of_not_lt h)]
theorem nI_max {a b : Nat} (ha : a < 2 ^ 31) (hb : b < 2 ^ 31) : (if nI a < nI b then nI b else nI a) = nI (max a b) := by
  by_cases h : a < b
  · rw [if_pos ((nI_ltI ha hb).mpr h), Nat.max_eq_right (Nat.le_of_lt h)]
  · rw [if_neg (fun q => h ((nI_ltI ha hb).mp q)), Nat.max_eq_left (Nat.le_of_not_lt h)]
theorem nI_lt_iff {x : Int32} {n : Nat} (hn : n < 2 ^ 31) : (0 ≤ x ∧ x < nI n) ↔ ∃ k : Nat, k < n ∧ x = nI k := by
  constructor
  · rintro ⟨h1, h2⟩
    have e1 : (0 : Int32).toInt ≤ x.toInt := Int32.le_iff_toInt_le.mp h1
    have e2 : x.toInt < (nI n).toInt := Int32.lt_iff_toInt_lt.mp h2
    rw [nI_toInt hn] at e2
    have e3 : (0 : Int32).toInt = 0 := rfl
    refine ⟨x.toInt.toNat, by omega, ?_⟩
    apply Int32.toInt_inj.mp
    rw [nI_toInt (by omega)]
    omega
  · rintro ⟨k, hk, rfl⟩
    exact ⟨nI_pos' (by omega), (nI_ltI (by omega) hn).mpr hk⟩
theorem nI_rng {x : Int32} {a b : Nat} (ha : a < 2 ^ 31) (hb : b < 2 ^ 31) : (nI a ≤ x ∧ x ≤ nI b) ↔ ∃ k : Nat, a ≤ k ∧ k ≤ b ∧ x = nI k := by
  constructor
  · rintro ⟨h1, h2⟩
    have e1 : (nI a).toInt ≤ x.toInt := Int32.le_iff_toInt_le.mp h1
    have e2 : x.toInt ≤ (nI b).toInt := Int32.le_iff_toInt_le.mp h2
    rw [nI_toInt hb] at e2
    rw [nI_toInt ha] at e1
    refine ⟨x.toInt.toNat, by omega, by omega, ?_⟩
    apply Int32.toInt_inj.mp
    rw [nI_toInt (by omega)]
    omega
  · rintro ⟨k, h1, h2, rfl⟩
    exact ⟨(nI_leI ha (by omega)).mpr h1, (nI_leI (by omega) hb).mpr h2⟩
/-- MARK of the WEIGHTS f of the first l LINKS -/
def mkL (f : Nat → Int32) : Nat → Int32
  | 0 => nI 7
  | l + 1 => (nI 31 * mkL f l + f l) - (nI 31 * mkL f l + f l) / nI 997 * nI 997
theorem mkL_congr {f h : Nat → Int32} : ∀ {m : Nat}, (∀ l, l < m → f l = h l) → mkL f m = mkL h m
  | 0, _ => rfl
  | m + 1, e => by
    have e1 := mkL_congr (m := m) (fun l hl => e l (by omega))
    simp only [mkL, e1, e m (by omega)]
def cnt (p : Nat → Bool) : Nat → Nat
  | 0 => 0
  | l + 1 => cnt p l + (if p l then 1 else 0)
theorem cnt_le (p : Nat → Bool) : ∀ m, cnt p m ≤ m
  | 0 => Nat.le_refl _
  | m + 1 => by
    have := cnt_le p m
    simp only [cnt]
    split <;> omega
/-- a truth as a number -/
def bI (b : Bool) : Int32 := if b then nI 1 else nI 0
theorem bI_nar (b : Bool) : vp_nar .boolean (bI b) = bI b := by cases b <;> rfl
theorem ex_nI {a b : Nat} (ha : a < 2 ^ 31) (hb : b ≤ 2 ^ 31) : (∃ k : Nat, k < b ∧ nI a = nI k) ↔ a < b := by
  constructor
  · rintro ⟨k, h1, h2⟩
    have := (nI_eq ha (by omega)).mp h2
    omega
  · intro h
    exact ⟨a, h, rfl⟩
theorem ex_rng {a lo hi : Nat} (ha : a < 2 ^ 31) (hb : hi < 2 ^ 31) : (∃ k : Nat, lo ≤ k ∧ k ≤ hi ∧ nI a = nI k) ↔ (lo ≤ a ∧ a ≤ hi) := by
  constructor
  · rintro ⟨k, h1, h2, h3⟩
    have := (nI_eq ha (by omega)).mp h3
    omega
  · rintro ⟨h1, h2⟩
    exact ⟨a, h1, h2, rfl⟩
def updN (f : Nat → Nat) (k x : Nat) : Nat → Nat := fun j => if j = k then x else f j
theorem updN_s {f : Nat → Nat} {k x : Nat} : updN f k x k = x := if_pos rfl
theorem updN_n {f : Nat → Nat} {k x j : Nat} (h : j ≠ k) : updN f k x j = f j := if_neg h
/-- a net: how many nodes, links, demands; from, to, room, told weight of links; from, to, size of demands -/
abbrev ND : Type := Nat × Nat × Nat × (Nat → Nat) × (Nat → Nat) × (Nat → Nat) × (Nat → Nat) × (Nat → Nat) × (Nat → Nat) × (Nat → Nat)
abbrev nN (a : ND) : Nat := a.1
abbrev nM (a : ND) : Nat := a.2.1
abbrev nD (a : ND) : Nat := a.2.2.1
abbrev nFr (a : ND) : Nat → Nat := a.2.2.2.1
abbrev nTo (a : ND) : Nat → Nat := a.2.2.2.2.1
abbrev nRm (a : ND) : Nat → Nat := a.2.2.2.2.2.1
abbrev nTw (a : ND) : Nat → Nat := a.2.2.2.2.2.2.1
abbrev nSt (a : ND) : Nat → Nat := a.2.2.2.2.2.2.2.1
abbrev nGo (a : ND) : Nat → Nat := a.2.2.2.2.2.2.2.2.1
abbrev nSz (a : ND) : Nat → Nat := a.2.2.2.2.2.2.2.2.2
def isGo (go : Nat → Nat) : Nat → Nat → Bool
  | 0, _ => false
  | d + 1, x => isGo go d x || (go d == x)
/-- the cells at b .. b + 8 hold the net -/
def NetI (σ : Sg) (b : Nat) (a : ND) : Prop :=
  (σ b 0 = nI (nN a) ∧ σ b 1 = nI (nM a) ∧ σ b 2 = nI (nD a)) ∧ (∀ l, l < nM a → σ (b + 1) l = nI (nFr a l) ∧ σ (b + 2) l = nI (nTo a l) ∧ σ (b + 3) l = nI (nRm a l) ∧ σ (b + 4) l = nI (nTw a l)) ∧ (∀ d, d < nD a → σ (b + 5) d = nI (nSt a d) ∧ σ (b + 6) d = nI (nGo a d) ∧ σ (b + 7) d = nI (nSz a d)) ∧ ∀ x, x < 7 → σ (b + 8) x = bI (isGo (nGo a) (nD a) x)
/-- it is one -/
def NOk (a : ND) : Prop :=
  2 ≤ nN a ∧ nN a ≤ 7 ∧ nM a ≤ 12 ∧ nD a ≤ 6 ∧ (∀ l, l < nM a → nFr a l < nN a ∧ nTo a l < nN a ∧ nFr a l ≠ nTo a l ∧ 1 ≤ nRm a l ∧ nRm a l ≤ 99 ∧ 1 ≤ nTw a l ∧ nTw a l ≤ 20) ∧ ∀ d, d < nD a → nSt a d < nN a ∧ nGo a d < nN a ∧ nSt a d ≠ nGo a d ∧ 1 ≤ nSz a d ∧ nSz a d ≤ 99
theorem NetI.n {σ : Sg} {b : Nat} {a : ND} (h : NetI σ b a) : σ b 0 = nI (nN a) := h.1.1
theorem NetI.m {σ : Sg} {b : Nat} {a : ND} (h : NetI σ b a) : σ b 1 = nI (nM a) := h.1.2.1
theorem NetI.d {σ : Sg} {b : Nat} {a : ND} (h : NetI σ b a) : σ b 2 = nI (nD a) := h.1.2.2
theorem NetI.fr {σ : Sg} {b : Nat} {a : ND} (h : NetI σ b a) {l : Nat} (hl : l < nM a) : σ (b + 1) l = nI (nFr a l) := (h.2.1 l hl).1
theorem NetI.to {σ : Sg} {b : Nat} {a : ND} (h : NetI σ b a) {l : Nat} (hl : l < nM a) : σ (b + 2) l = nI (nTo a l) := (h.2.1 l hl).2.1
theorem NetI.rm {σ : Sg} {b : Nat} {a : ND} (h : NetI σ b a) {l : Nat} (hl : l < nM a) : σ (b + 3) l = nI (nRm a l) := (h.2.1 l hl).2.2.1
theorem NetI.tw {σ : Sg} {b : Nat} {a : ND} (h : NetI σ b a) {l : Nat} (hl : l < nM a) : σ (b + 4) l = nI (nTw a l) := (h.2.1 l hl).2.2.2
theorem NetI.st {σ : Sg} {b : Nat} {a : ND} (h : NetI σ b a) {l : Nat} (hl : l < nD a) : σ (b + 5) l = nI (nSt a l) := (h.2.2.1 l hl).1
theorem NetI.go {σ : Sg} {b : Nat} {a : ND} (h : NetI σ b a) {l : Nat} (hl : l < nD a) : σ (b + 6) l = nI (nGo a l) := (h.2.2.1 l hl).2.1
theorem NetI.sz {σ : Sg} {b : Nat} {a : ND} (h : NetI σ b a) {l : Nat} (hl : l < nD a) : σ (b + 7) l = nI (nSz a l) := (h.2.2.1 l hl).2.2
theorem NetI.gl {σ : Sg} {b : Nat} {a : ND} (h : NetI σ b a) {x : Nat} (hx : x < 7) : σ (b + 8) x = bI (isGo (nGo a) (nD a) x) := h.2.2.2 x hx
theorem NetI.kept {σ σ' : Sg} {b : Nat} {a : ND} (h : NetI σ b a) (hk : ∀ j n, b ≤ j → j ≤ b + 8 → σ' j n = σ j n) : NetI σ' b a := by
  obtain ⟨⟨h1, h2, h3⟩, h4, h5, h6⟩ := h
  refine ⟨⟨(hk _ _ (by omega) (by omega)).trans h1, (hk _ _ (by omega) (by omega)).trans h2, (hk _ _ (by omega) (by omega)).trans h3⟩, fun l hl => ?_, fun d hd => ?_, fun x hx => (hk _ _ (by omega) (by omega)).trans (h6 x hx)⟩
  · obtain ⟨q1, q2, q3, q4⟩ := h4 l hl
    exact ⟨(hk _ _ (by omega) (by omega)).trans q1, (hk _ _ (by omega) (by omega)).trans q2, (hk _ _ (by omega) (by omega)).trans q3, (hk _ _ (by omega) (by omega)).trans q4⟩
  · obtain ⟨q1, q2, q3⟩ := h5 d hd
    exact ⟨(hk _ _ (by omega) (by omega)).trans q1, (hk _ _ (by omega) (by omega)).trans q2, (hk _ _ (by omega) (by omega)).trans q3⟩
def nd0 (a : ND) : ND := (4, 0, 0, nFr a, nTo a, nRm a, nTw a, nSt a, nGo a, nSz a)
def ndN (a : ND) (v : Nat) : ND := (v, nM a, nD a, nFr a, nTo a, nRm a, nTw a, nSt a, nGo a, nSz a)
def ndL (a : ND) (p q r w : Nat) : ND := (nN a, nM a + 1, nD a, updN (nFr a) (nM a) p, updN (nTo a) (nM a) q, updN (nRm a) (nM a) r, updN (nTw a) (nM a) w, nSt a, nGo a, nSz a)
def ndD (a : ND) (p q s : Nat) : ND := (nN a, nM a, nD a + 1, nFr a, nTo a, nRm a, nTw a, updN (nSt a) (nD a) p, updN (nGo a) (nD a) q, updN (nSz a) (nD a) s)
def okN (a : ND) (v : Nat) : Prop := nM a = 0 ∧ nD a = 0 ∧ 2 ≤ v ∧ v ≤ 7
def okL (a : ND) (p q r w : Nat) : Prop := nM a < 12 ∧ p < nN a ∧ q < nN a ∧ p ≠ q ∧ 1 ≤ r ∧ r ≤ 99 ∧ 1 ≤ w ∧ w ≤ 20
def okD (a : ND) (p q s : Nat) : Prop := nD a < 6 ∧ p < nN a ∧ q < nN a ∧ p ≠ q ∧ 1 ≤ s ∧ s ≤ 99
/-- numbers read by a scan: at, figures so far, value so far, numbers so far -/
def scan (tx : Nat → Int32) (e : Nat) : Nat → Nat → Nat → Nat → List Nat → Option (List Nat)
  | 0, _, _, _, acc => some acc
  | k + 1, at_, fg, v, acc =>
    if (if at_ < e then tx at_ else nI 44) = nI 44 then (if fg = 0 ∨ 4 ≤ acc.length then none else scan tx e k (at_ + 1) 0 0 (acc ++ [v]))
    else if nI 48 ≤ tx at_ ∧ tx at_ ≤ nI 57 ∧ fg < 2 then scan tx e k (at_ + 1) (fg + 1) (10 * v + ((tx at_).toInt - 48).toNat) acc else none
end
section
set_option maxHeartbeats 4000000 in
set_option maxRecDepth 100000 in
theorem tX7_isWeight {g : jG} (hN : 84 ≤ gN g) {σ : Sg} (x : Int32) : MS g yX7_isWeight cX7_isWeight 1 (some .boolean) rmX7_isWeight [.int (x)] σ (fun r σ' => σ' = σ ∧ ((r = nI 1 ∧ ∃ k : Nat, 1 ≤ k ∧ k ≤ 20 ∧ x = nI k) ∨ (r = nI 0 ∧ ¬ ∃ k : Nat, 1 ≤ k ∧ k ≤ 20 ∧ x = nI k))) := by
  refine MJ_of (by decide) (Nat.le_of_ble_eq_true rfl) (List.forall_mem_cons.mpr ⟨rfl, fun _ h => absurd h List.not_mem_nil⟩) ?_
  intro κ M
  have C := M.1
  show J g κ 1 0 [some (.int (x))] [] σ
  refine j_iload_n C dX7_isWeight_0 rfl rfl ?_
  refine j_iconst (v := nI 1) C dX7_isWeight_1 rfl ?_
  refine j_icmp_lt (tgt := 15) C dX7_isWeight_2 rfl (fun h2 => ?_) (fun h2 => ?_)
  · refine j_iconst (v := nI 0) C dX7_isWeight_15 rfl ?_
    refine j_retz M dX7_isWeight_16 rfl ?_
    refine ⟨rfl, Or.inr ⟨rfl, fun q => ?_⟩⟩
    obtain ⟨q1, q2⟩ := (nI_rng (by decide) (by decide)).mpr q
    first | exact absurd q1 (Int32.not_le.mpr (by assumption)) | exact absurd q2 (Int32.not_le.mpr (by assumption))
  · refine j_iload_n C dX7_isWeight_5 rfl rfl ?_
    refine j_bipush (v := nI 20) C dX7_isWeight_6 rfl ?_
    refine j_icmp_gt (tgt := 15) C dX7_isWeight_8 rfl (fun h8 => ?_) (fun h8 => ?_)
    · refine j_iconst (v := nI 0) C dX7_isWeight_15 rfl ?_
      refine j_retz M dX7_isWeight_16 rfl ?_
      refine ⟨rfl, Or.inr ⟨rfl, fun q => ?_⟩⟩
      obtain ⟨q1, q2⟩ := (nI_rng (by decide) (by decide)).mpr q
      first | exact absurd q1 (Int32.not_le.mpr (by assumption)) | exact absurd q2 (Int32.not_le.mpr (by assumption))
    · refine j_iconst (v := nI 1) C dX7_isWeight_11 rfl ?_
      refine j_goto (tgt := 16) C dX7_isWeight_12 rfl ?_
      refine j_retz M dX7_isWeight_16 rfl ?_
      exact ⟨rfl, Or.inl ⟨rfl, (nI_rng (by decide) (by decide)).mp ⟨Int32.not_lt.mp h2, Int32.not_lt.mp h8⟩⟩⟩
set_option maxHeartbeats 4000000 in
set_option maxRecDepth 100000 in
theorem tX3_isSize {g : jG} (hN : 84 ≤ gN g) {σ : Sg} (x : Int32) : MS g yX3_isSize cX3_isSize 1 (some .boolean) rmX3_isSize [.int (x)] σ (fun r σ' => σ' = σ ∧ ((r = nI 1 ∧ ∃ k : Nat, 1 ≤ k ∧ k ≤ 99 ∧ x = nI k) ∨ (r = nI 0 ∧ ¬ ∃ k : Nat, 1 ≤ k ∧ k ≤ 99 ∧ x = nI k))) := by
  refine MJ_of (by decide) (Nat.le_of_ble_eq_true rfl) (List.forall_mem_cons.mpr ⟨rfl, fun _ h => absurd h List.not_mem_nil⟩) ?_
  intro κ M
  have C := M.1
  show J g κ 1 0 [some (.int (x))] [] σ
  refine j_iload_n C dX3_isSize_0 rfl rfl ?_
  refine j_iconst (v := nI 1) C dX3_isSize_1 rfl ?_
  refine j_icmp_lt (tgt := 15) C dX3_isSize_2 rfl (fun h2 => ?_) (fun h2 => ?_)
  · refine j_iconst (v := nI 0) C dX3_isSize_15 rfl ?_
    refine j_retz M dX3_isSize_16 rfl ?_
    refine ⟨rfl, Or.inr ⟨rfl, fun q => ?_⟩⟩
    obtain ⟨q1, q2⟩ := (nI_rng (by decide) (by decide)).mpr q
    first | exact absurd q1 (Int32.not_le.mpr (by assumption)) | exact absurd q2 (Int32.not_le.mpr (by assumption))
  · refine j_iload_n C dX3_isSize_5 rfl rfl ?_
    refine j_bipush (v := nI 99) C dX3_isSize_6 rfl ?_
    refine j_icmp_gt (tgt := 15) C dX3_isSize_8 rfl (fun h8 => ?_) (fun h8 => ?_)
    · refine j_iconst (v := nI 0) C dX3_isSize_15 rfl ?_
      refine j_retz M dX3_isSize_16 rfl ?_
      refine ⟨rfl, Or.inr ⟨rfl, fun q => ?_⟩⟩
      obtain ⟨q1, q2⟩ := (nI_rng (by decide) (by decide)).mpr q
      first | exact absurd q1 (Int32.not_le.mpr (by assumption)) | exact absurd q2 (Int32.not_le.mpr (by assumption))
    · refine j_iconst (v := nI 1) C dX3_isSize_11 rfl ?_
      refine j_goto (tgt := 16) C dX3_isSize_12 rfl ?_
      refine j_retz M dX3_isSize_16 rfl ?_
      exact ⟨rfl, Or.inl ⟨rfl, (nI_rng (by decide) (by decide)).mp ⟨Int32.not_lt.mp h2, Int32.not_lt.mp h8⟩⟩⟩
set_option maxHeartbeats 4000000 in
set_option maxRecDepth 100000 in
theorem tX1_put {g : jG} (hN : 84 ≤ gN g) {σ : Sg} {len : Nat} (hl : σ 1 1 = nI len) (hlen : len ≤ 200) (x : Int32) : MS g yX1_put cX1_put 2 (some .boolean) rmX1_put [.ref (gad g (1)), .int (x)] σ (fun r σ' => (len < 200 ∧ r = nI 1 ∧ (∀ j n, ¬ (j = 2 ∧ n = len ∨ j = 1 ∧ n = 1) → σ' j n = σ j n) ∧ σ' 2 len = x ∧ σ' 1 1 = nI (len + 1)) ∨ (len = 200 ∧ r = nI 0 ∧ σ' = σ)) := by
  refine MJ_of (by decide) (Nat.le_of_ble_eq_true rfl) (List.forall_mem_cons.mpr ⟨rfl, List.forall_mem_cons.mpr ⟨rfl, fun _ h => absurd h List.not_mem_nil⟩⟩) ?_
  intro κ M
  have C := M.1
  show J g κ 2 0 [some (.ref (gad g (1))), some (.int (x))] [] σ
  refine j_aload_n C dX1_put_0 rfl rfl ?_
  refine j_get C flX1_15 dX1_put_1 (Nat.lt_of_lt_of_le (by decide) hN) rfl rfl ?_
  refine j_top (hl) ?_
  refine j_sipush (v := nI 200) C dX1_put_4 rfl ?_
  refine j_icmpn_lt (tgt := 12) C dX1_put_7 rfl (by omega) (by omega) (fun h7 => ?_) (fun h7 => ?_)
  · refine j_aload_n C dX1_put_12 rfl rfl ?_
    refine j_get C flX1_9 dX1_put_13 (Nat.lt_of_lt_of_le (by decide) hN) rfl rfl ?_
    refine j_aload_n C dX1_put_16 rfl rfl ?_
    refine j_get C flX1_15 dX1_put_17 (Nat.lt_of_lt_of_le (by decide) hN) rfl rfl ?_
    refine j_top (hl) ?_
    refine j_iload_n C dX1_put_20 rfl rfl ?_
    refine j_iast' C dX1_put_21 (Nat.lt_of_lt_of_le (by decide) hN) (fun _ => rfl) (by decide) (by omega) (fun τ1 hf2 hv3 => ?_)
    refine j_aload_n C dX1_put_22 rfl rfl ?_
    refine j_dup C dX1_put_23 rfl ?_
    refine j_get C flX1_15 dX1_put_24 (Nat.lt_of_lt_of_le (by decide) hN) rfl rfl ?_
    refine j_top ((hf2 _ _ (by omega)).trans (hl)) ?_
    refine j_iconst (v := nI 1) C dX1_put_27 rfl ?_
    refine j_iadd C dX1_put_28 ?_
    refine j_top (nI_add _ _) ?_
    refine j_put' C fpX1_15 dX1_put_29 (Nat.lt_of_lt_of_le (by decide) hN) (fun _ => rfl) rfl (Nat.le_of_ble_eq_true rfl) rfl rfl (fun τ4 hf5 hv6 => ?_)
    refine j_iconst (v := nI 1) C dX1_put_32 rfl ?_
    refine j_retz M dX1_put_33 rfl ?_
    refine Or.inl ⟨by omega, rfl, (fun j n h => by rw [hf5 _ _ (by omega), hf2 _ _ (by omega)]), ?_, by assumption⟩
    rw [hf5 _ _ (by omega)]
    assumption
  · refine j_iconst (v := nI 0) C dX1_put_10 rfl ?_
    refine j_retz M dX1_put_11 rfl ?_
    exact Or.inr ⟨by omega, rfl, rfl⟩
set_option maxHeartbeats 4000000 in
set_option maxRecDepth 100000 in
theorem tX3_hasNode {g : jG} (hN : 84 ≤ gN g) {σ : Sg} {i b : Nat} (hi : i < 2) (hb : σ (3 + 9 * i) 0 = nI b) (hb1 : b < 2 ^ 31) (x : Int32) : MS g yX3_hasNode cX3_hasNode 2 (some .boolean) rmX3_hasNode [.ref (gad g (3 + 9 * i)), .int (x)] σ (fun r σ' => σ' = σ ∧ ((r = nI 1 ∧ ∃ k : Nat, k < b ∧ x = nI k) ∨ (r = nI 0 ∧ ¬ ∃ k : Nat, k < b ∧ x = nI k))) := by
  refine MJ_of (by decide) (Nat.le_of_ble_eq_true rfl) (List.forall_mem_cons.mpr ⟨rfl, List.forall_mem_cons.mpr ⟨rfl, fun _ h => absurd h List.not_mem_nil⟩⟩) ?_
  intro κ M
  have C := M.1
  show J g κ 2 0 [some (.ref (gad g (3 + 9 * i))), some (.int (x))] [] σ
  refine j_iload_n C dX3_hasNode_0 rfl rfl ?_
  refine j_if_lt (tgt := 16) C dX3_hasNode_1 rfl (fun h1 => ?_) (fun h1 => ?_)
  · refine j_iconst (v := nI 0) C dX3_hasNode_16 rfl ?_
    refine j_retz M dX3_hasNode_17 rfl ?_
    refine ⟨rfl, Or.inr ⟨rfl, fun q => ?_⟩⟩
    obtain ⟨q1, q2⟩ := (nI_lt_iff hb1).mpr q
    first | exact absurd q1 (Int32.not_le.mpr (by assumption)) | (exact absurd (show nI b ≤ x by assumption) (Int32.not_le.mpr q2))
  · refine j_iload_n C dX3_hasNode_4 rfl rfl ?_
    refine j_aload_n C dX3_hasNode_5 rfl rfl ?_
    refine j_get C flX3_37 dX3_hasNode_6 (by omega) (cf_net (by omega) _) rfl ?_
    refine j_top (hb) ?_
    refine j_icmp_ge (tgt := 16) C dX3_hasNode_9 rfl (fun h9 => ?_) (fun h9 => ?_)
    · refine j_iconst (v := nI 0) C dX3_hasNode_16 rfl ?_
      refine j_retz M dX3_hasNode_17 rfl ?_
      refine ⟨rfl, Or.inr ⟨rfl, fun q => ?_⟩⟩
      obtain ⟨q1, q2⟩ := (nI_lt_iff hb1).mpr q
      first | exact absurd q1 (Int32.not_le.mpr (by assumption)) | (exact absurd (show nI b ≤ x by assumption) (Int32.not_le.mpr q2))
    · refine j_iconst (v := nI 1) C dX3_hasNode_12 rfl ?_
      refine j_goto (tgt := 17) C dX3_hasNode_13 rfl ?_
      refine j_retz M dX3_hasNode_17 rfl ?_
      exact ⟨rfl, Or.inl ⟨rfl, (nI_lt_iff hb1).mp ⟨Int32.not_lt.mp h1, Int32.not_le.mp (by assumption)⟩⟩⟩
set_option maxHeartbeats 4000000 in
set_option maxRecDepth 100000 in
theorem tX3_hasLink {g : jG} (hN : 84 ≤ gN g) {σ : Sg} {i b : Nat} (hi : i < 2) (hb : σ (3 + 9 * i) 1 = nI b) (hb1 : b < 2 ^ 31) (x : Int32) : MS g yX3_hasLink cX3_hasLink 2 (some .boolean) rmX3_hasLink [.ref (gad g (3 + 9 * i)), .int (x)] σ (fun r σ' => σ' = σ ∧ ((r = nI 1 ∧ ∃ k : Nat, k < b ∧ x = nI k) ∨ (r = nI 0 ∧ ¬ ∃ k : Nat, k < b ∧ x = nI k))) := by
  refine MJ_of (by decide) (Nat.le_of_ble_eq_true rfl) (List.forall_mem_cons.mpr ⟨rfl, List.forall_mem_cons.mpr ⟨rfl, fun _ h => absurd h List.not_mem_nil⟩⟩) ?_
  intro κ M
  have C := M.1
  show J g κ 2 0 [some (.ref (gad g (3 + 9 * i))), some (.int (x))] [] σ
  refine j_iload_n C dX3_hasLink_0 rfl rfl ?_
  refine j_if_lt (tgt := 16) C dX3_hasLink_1 rfl (fun h1 => ?_) (fun h1 => ?_)
  · refine j_iconst (v := nI 0) C dX3_hasLink_16 rfl ?_
    refine j_retz M dX3_hasLink_17 rfl ?_
    refine ⟨rfl, Or.inr ⟨rfl, fun q => ?_⟩⟩
    obtain ⟨q1, q2⟩ := (nI_lt_iff hb1).mpr q
    first | exact absurd q1 (Int32.not_le.mpr (by assumption)) | (exact absurd (show nI b ≤ x by assumption) (Int32.not_le.mpr q2))
  · refine j_iload_n C dX3_hasLink_4 rfl rfl ?_
    refine j_aload_n C dX3_hasLink_5 rfl rfl ?_
    refine j_get C flX3_41 dX3_hasLink_6 (by omega) (cf_net (by omega) _) rfl ?_
    refine j_top (hb) ?_
    refine j_icmp_ge (tgt := 16) C dX3_hasLink_9 rfl (fun h9 => ?_) (fun h9 => ?_)
    · refine j_iconst (v := nI 0) C dX3_hasLink_16 rfl ?_
      refine j_retz M dX3_hasLink_17 rfl ?_
      refine ⟨rfl, Or.inr ⟨rfl, fun q => ?_⟩⟩
      obtain ⟨q1, q2⟩ := (nI_lt_iff hb1).mpr q
      first | exact absurd q1 (Int32.not_le.mpr (by assumption)) | (exact absurd (show nI b ≤ x by assumption) (Int32.not_le.mpr q2))
    · refine j_iconst (v := nI 1) C dX3_hasLink_12 rfl ?_
      refine j_goto (tgt := 17) C dX3_hasLink_13 rfl ?_
      refine j_retz M dX3_hasLink_17 rfl ?_
      exact ⟨rfl, Or.inl ⟨rfl, (nI_lt_iff hb1).mp ⟨Int32.not_lt.mp h1, Int32.not_le.mp (by assumption)⟩⟩⟩
set_option maxHeartbeats 4000000 in
set_option maxRecDepth 100000 in
theorem tX3_hasDemand {g : jG} (hN : 84 ≤ gN g) {σ : Sg} {i b : Nat} (hi : i < 2) (hb : σ (3 + 9 * i) 2 = nI b) (hb1 : b < 2 ^ 31) (x : Int32) : MS g yX3_hasDemand cX3_hasDemand 2 (some .boolean) rmX3_hasDemand [.ref (gad g (3 + 9 * i)), .int (x)] σ (fun r σ' => σ' = σ ∧ ((r = nI 1 ∧ ∃ k : Nat, k < b ∧ x = nI k) ∨ (r = nI 0 ∧ ¬ ∃ k : Nat, k < b ∧ x = nI k))) := by
  refine MJ_of (by decide) (Nat.le_of_ble_eq_true rfl) (List.forall_mem_cons.mpr ⟨rfl, List.forall_mem_cons.mpr ⟨rfl, fun _ h => absurd h List.not_mem_nil⟩⟩) ?_
  intro κ M
  have C := M.1
  show J g κ 2 0 [some (.ref (gad g (3 + 9 * i))), some (.int (x))] [] σ
  refine j_iload_n C dX3_hasDemand_0 rfl rfl ?_
  refine j_if_lt (tgt := 16) C dX3_hasDemand_1 rfl (fun h1 => ?_) (fun h1 => ?_)
  · refine j_iconst (v := nI 0) C dX3_hasDemand_16 rfl ?_
    refine j_retz M dX3_hasDemand_17 rfl ?_
    refine ⟨rfl, Or.inr ⟨rfl, fun q => ?_⟩⟩
    obtain ⟨q1, q2⟩ := (nI_lt_iff hb1).mpr q
    first | exact absurd q1 (Int32.not_le.mpr (by assumption)) | (exact absurd (show nI b ≤ x by assumption) (Int32.not_le.mpr q2))
  · refine j_iload_n C dX3_hasDemand_4 rfl rfl ?_
    refine j_aload_n C dX3_hasDemand_5 rfl rfl ?_
    refine j_get C flX3_44 dX3_hasDemand_6 (by omega) (cf_net (by omega) _) rfl ?_
    refine j_top (hb) ?_
    refine j_icmp_ge (tgt := 16) C dX3_hasDemand_9 rfl (fun h9 => ?_) (fun h9 => ?_)
    · refine j_iconst (v := nI 0) C dX3_hasDemand_16 rfl ?_
      refine j_retz M dX3_hasDemand_17 rfl ?_
      refine ⟨rfl, Or.inr ⟨rfl, fun q => ?_⟩⟩
      obtain ⟨q1, q2⟩ := (nI_lt_iff hb1).mpr q
      first | exact absurd q1 (Int32.not_le.mpr (by assumption)) | (exact absurd (show nI b ≤ x by assumption) (Int32.not_le.mpr q2))
    · refine j_iconst (v := nI 1) C dX3_hasDemand_12 rfl ?_
      refine j_goto (tgt := 17) C dX3_hasDemand_13 rfl ?_
      refine j_retz M dX3_hasDemand_17 rfl ?_
      exact ⟨rfl, Or.inl ⟨rfl, (nI_lt_iff hb1).mp ⟨Int32.not_lt.mp h1, Int32.not_le.mp (by assumption)⟩⟩⟩
set_option maxHeartbeats 4000000 in
set_option maxRecDepth 100000 in
theorem tX6_markWith {g : jG} (hN : 84 ≤ gN g) {σ : Sg} {i m : Nat} (hi : i < 9) (hm : σ (48 + 4 * i) 0 = nI m) (hm12 : m ≤ 12) (ch x : Int32) : MS g yX6_markWith cX6_markWith 5 (some .int) rmX6_markWith [.ref (gad g (48 + 4 * i)), .int (ch), .int (x)] σ (fun r σ' => σ' = σ ∧ r = mkL (fun l => if nI l = ch then x else σ (48 + 4 * i + 1) l) m) := by
  refine MJ_of (by decide) (Nat.le_of_ble_eq_true rfl) (List.forall_mem_cons.mpr ⟨rfl, List.forall_mem_cons.mpr ⟨rfl, List.forall_mem_cons.mpr ⟨rfl, fun _ h => absurd h List.not_mem_nil⟩⟩⟩) ?_
  intro κ M
  have C := M.1
  show J g κ 5 0 [some (.ref (gad g (48 + 4 * i))), some (.int (ch)), some (.int (x)), none, none] [] σ
  have lp : ∀ (k : Nat) (l : Nat), m - l = k → l ≤ m → J g κ 5 6 [some (.ref (gad g (48 + 4 * i))), some (.int (ch)), some (.int (x)), some (.int (mkL (fun l => if nI l = ch then x else σ (48 + 4 * i + 1) l) l)), some (.int (nI (l)))] [] σ := by
    intro k
    induction k using Nat.strongRecOn with
    | _ k ih =>
      intro l hk hl
      refine j_iload C dX6_markWith_6 rfl ?_
      refine j_aload_n C dX6_markWith_8 rfl rfl ?_
      refine j_get C flX6_28 dX6_markWith_9 (by omega) (cf_st (by omega) _) rfl ?_
      refine j_top (hm) ?_
      refine j_icmpn_ge (tgt := 48) C dX6_markWith_12 rfl (by omega) (by omega) (fun h12 => ?_) (fun h12 => ?_)
      · refine j_iload_n C dX6_markWith_48 rfl rfl ?_
        refine j_ret M dX6_markWith_49 ?_
        obtain rfl : l = m := by omega
        exact ⟨rfl, rfl⟩
      · refine j_bipush (v := nI 31) C dX6_markWith_15 rfl ?_
        refine j_iload_n C dX6_markWith_17 rfl rfl ?_
        refine j_imul C dX6_markWith_18 ?_
        refine j_iload C dX6_markWith_19 rfl ?_
        refine j_iload_n C dX6_markWith_21 rfl rfl ?_
        refine j_icmp_ne (tgt := 29) C dX6_markWith_22 rfl (fun h22 => ?_) (fun h22 => ?_)
        · refine j_aload_n C dX6_markWith_29 rfl rfl ?_
          refine j_get C flX6_9 dX6_markWith_30 (by omega) (cf_st (by omega) _) rfl ?_
          refine j_iload C dX6_markWith_33 rfl ?_
          refine j_iald C dX6_markWith_35 (by omega) (cf_st1 (by omega)) (by decide) (by omega) ?_
          refine j_iadd C dX6_markWith_36 ?_
          refine j_sipush (v := nI 997) C dX6_markWith_37 rfl ?_
          refine j_irem C dX6_markWith_40 (by decide) ?_
          refine j_istore_n (L' := [some (.ref (gad g (48 + 4 * i))), some (.int (ch)), some (.int (x)), some (.int ((((nI (31) * mkL (fun l => if nI l = ch then x else σ (48 + 4 * i + 1) l) l) + σ (48 + 4 * i + 1) (l)) - ((nI (31) * mkL (fun l => if nI l = ch then x else σ (48 + 4 * i + 1) l) l) + σ (48 + 4 * i + 1) (l)) / nI (997) * nI (997)))), some (.int (nI (l)))]) C dX6_markWith_41 rfl (by decide) rfl ?_
          refine j_iinc (L' := [some (.ref (gad g (48 + 4 * i))), some (.int (ch)), some (.int (x)), some (.int ((((nI (31) * mkL (fun l => if nI l = ch then x else σ (48 + 4 * i + 1) l) l) + σ (48 + 4 * i + 1) (l)) - ((nI (31) * mkL (fun l => if nI l = ch then x else σ (48 + 4 * i + 1) l) l) + σ (48 + 4 * i + 1) (l)) / nI (997) * nI (997)))), some (.int (nI (l + 1)))]) C dX6_markWith_42 rfl (nI_inc _) (by decide) rfl ?_
          refine j_goto (tgt := 6) C dX6_markWith_45 rfl ?_
          refine J_loc (L' := [some (.ref (gad g (48 + 4 * i))), some (.int (ch)), some (.int (x)), some (.int (mkL (fun l => if nI l = ch then x else σ (48 + 4 * i + 1) l) (l + 1))), some (.int (nI (l + 1)))]) ?_ (ih (m - (l + 1)) (by omega) (l + 1) rfl (by omega))
          simp only [mkL]
          first | rw [if_pos (by assumption)] | rw [if_neg (by assumption)]
        · refine j_iload_n C dX6_markWith_25 rfl rfl ?_
          refine j_goto (tgt := 36) C dX6_markWith_26 rfl ?_
          refine j_iadd C dX6_markWith_36 ?_
          refine j_sipush (v := nI 997) C dX6_markWith_37 rfl ?_
          refine j_irem C dX6_markWith_40 (by decide) ?_
          refine j_istore_n (L' := [some (.ref (gad g (48 + 4 * i))), some (.int (ch)), some (.int (x)), some (.int ((((nI (31) * mkL (fun l => if nI l = ch then x else σ (48 + 4 * i + 1) l) l) + x) - ((nI (31) * mkL (fun l => if nI l = ch then x else σ (48 + 4 * i + 1) l) l) + x) / nI (997) * nI (997)))), some (.int (nI (l)))]) C dX6_markWith_41 rfl (by decide) rfl ?_
          refine j_iinc (L' := [some (.ref (gad g (48 + 4 * i))), some (.int (ch)), some (.int (x)), some (.int ((((nI (31) * mkL (fun l => if nI l = ch then x else σ (48 + 4 * i + 1) l) l) + x) - ((nI (31) * mkL (fun l => if nI l = ch then x else σ (48 + 4 * i + 1) l) l) + x) / nI (997) * nI (997)))), some (.int (nI (l + 1)))]) C dX6_markWith_42 rfl (nI_inc _) (by decide) rfl ?_
          refine j_goto (tgt := 6) C dX6_markWith_45 rfl ?_
          refine J_loc (L' := [some (.ref (gad g (48 + 4 * i))), some (.int (ch)), some (.int (x)), some (.int (mkL (fun l => if nI l = ch then x else σ (48 + 4 * i + 1) l) (l + 1))), some (.int (nI (l + 1)))]) ?_ (ih (m - (l + 1)) (by omega) (l + 1) rfl (by omega))
          simp only [mkL]
          first | rw [if_pos (by assumption)] | rw [if_neg (by assumption)]
  refine j_bipush (v := nI 7) C dX6_markWith_0 rfl ?_
  refine j_istore_n (L' := [some (.ref (gad g (48 + 4 * i))), some (.int (ch)), some (.int (x)), some (.int (nI (7))), none]) C dX6_markWith_2 rfl (by decide) rfl ?_
  refine j_iconst (v := nI 0) C dX6_markWith_3 rfl ?_
  refine j_istore (L' := [some (.ref (gad g (48 + 4 * i))), some (.int (ch)), some (.int (x)), some (.int (nI (7))), some (.int (nI (0)))]) C dX6_markWith_4 (by decide) rfl ?_
  exact lp (m - 0) 0 rfl (by omega)
set_option maxHeartbeats 4000000 in
set_option maxRecDepth 100000 in
theorem tX6_mark {g : jG} (hN : 84 ≤ gN g) {σ : Sg} {m : Nat} (hm : σ 48 0 = nI m) (hm12 : m ≤ 12) : MS g yX6_mark cX6_mark 1 (some .int) rmX6_mark [.ref (gad g (48))] σ (fun r σ' => σ' = σ ∧ r = mkL (σ 49) m) := by
  refine MJ_of (by decide) (Nat.le_of_ble_eq_true rfl) (List.forall_mem_cons.mpr ⟨rfl, fun _ h => absurd h List.not_mem_nil⟩) ?_
  intro κ M
  have C := M.1
  show J g κ 1 0 [some (.ref (gad g (48)))] [] σ
  refine j_aload_n C dX6_mark_0 rfl rfl ?_
  refine j_iconst (v := -1) C dX6_mark_1 rfl ?_
  refine j_iconst (v := nI 0) C dX6_mark_2 rfl ?_
  refine j_calli (As := [.int (-1), .int (nI (0))]) (rest := []) C (tX6_markWith (i := 0) hN (by omega) hm hm12 (-1) (nI 0)) cdX6_markWith mlX6_47 dX6_mark_3 (by decide) (by decide) (Nat.lt_of_lt_of_le (by decide) hN) rfl rfl rfl rfl rfl (Nat.le_of_ble_eq_true rfl) (fun r2 τ1 hp3 => ?_)
  obtain ⟨rfl, rfl⟩ := hp3
  refine j_ret M dX6_mark_6 ?_
  refine ⟨rfl, mkL_congr (fun l hl => ?_)⟩
  rw [if_neg (nI_neg (by omega) (by decide))]
set_option maxHeartbeats 4000000 in
set_option maxRecDepth 100000 in
theorem tX6_noteCost {g : jG} (hN : 84 ≤ gN g) {σ : Sg} (x : Int32) : MS g yX6_noteCost cX6_noteCost 2 none rmX6_noteCost [.ref (gad g (48)), .int (x)] σ (fun r σ' => (∀ j n, ¬ (j = 48 ∧ n = 6) → σ' j n = σ j n) ∧ σ' 48 6 = if x < σ 48 6 then x else σ 48 6) := by
  refine MJ_of (by decide) (Nat.le_of_ble_eq_true rfl) (List.forall_mem_cons.mpr ⟨rfl, List.forall_mem_cons.mpr ⟨rfl, fun _ h => absurd h List.not_mem_nil⟩⟩) ?_
  intro κ M
  have C := M.1
  show J g κ 2 0 [some (.ref (gad g (48))), some (.int (x))] [] σ
  refine j_aload_n C dX6_noteCost_0 rfl rfl ?_
  refine j_aload_n C dX6_noteCost_1 rfl rfl ?_
  refine j_get C flX6_38 dX6_noteCost_2 (Nat.lt_of_lt_of_le (by decide) hN) rfl rfl ?_
  refine j_iload_n C dX6_noteCost_5 rfl rfl ?_
  refine j_min C mmX6_41 dX6_noteCost_6 (by decide) (Nat.le_of_ble_eq_true rfl) ?_
  refine j_put' C fpX6_38 dX6_noteCost_9 (Nat.lt_of_lt_of_le (by decide) hN) (fun _ => rfl) rfl (Nat.le_of_ble_eq_true rfl) rfl rfl (fun τ1 hf2 hv3 => ?_)
  refine j_retv M dX6_noteCost_12 ?_
  exact ⟨(fun j n h => by rw [hf2 _ _ (by omega)]), by assumption⟩
set_option maxHeartbeats 4000000 in
set_option maxRecDepth 100000 in
theorem tX6_addTabu {g : jG} (hN : 84 ≤ gN g) {σ : Sg} {nt tc : Nat} (hnt : σ 48 5 = nI nt) (hn6 : nt < 6) (htc : σ 48 4 = nI tc) (ht6 : tc ≤ 6) (x : Int32) : MS g yX6_addTabu cX6_addTabu 2 none rmX6_addTabu [.ref (gad g (48)), .int (x)] σ (fun r σ' => (∀ j n, ¬ (j = 51 ∧ n = nt ∨ j = 48 ∧ (n = 4 ∨ n = 5)) → σ' j n = σ j n) ∧ σ' 51 nt = x ∧ σ' 48 5 = nI ((nt + 1) % 6) ∧ σ' 48 4 = nI (min (tc + 1) 6)) := by
  refine MJ_of (by decide) (Nat.le_of_ble_eq_true rfl) (List.forall_mem_cons.mpr ⟨rfl, List.forall_mem_cons.mpr ⟨rfl, fun _ h => absurd h List.not_mem_nil⟩⟩) ?_
  intro κ M
  have C := M.1
  show J g κ 2 0 [some (.ref (gad g (48))), some (.int (x))] [] σ
  refine j_aload_n C dX6_addTabu_0 rfl rfl ?_
  refine j_get C flX6_19 dX6_addTabu_1 (Nat.lt_of_lt_of_le (by decide) hN) rfl rfl ?_
  refine j_aload_n C dX6_addTabu_4 rfl rfl ?_
  refine j_get C flX6_35 dX6_addTabu_5 (Nat.lt_of_lt_of_le (by decide) hN) rfl rfl ?_
  refine j_top (hnt) ?_
  refine j_iload_n C dX6_addTabu_8 rfl rfl ?_
  refine j_iast' C dX6_addTabu_9 (Nat.lt_of_lt_of_le (by decide) hN) (fun _ => rfl) (by decide) (by omega) (fun τ1 hf2 hv3 => ?_)
  refine j_aload_n C dX6_addTabu_10 rfl rfl ?_
  refine j_aload_n C dX6_addTabu_11 rfl rfl ?_
  refine j_get C flX6_35 dX6_addTabu_12 (Nat.lt_of_lt_of_le (by decide) hN) rfl rfl ?_
  refine j_top ((hf2 _ _ (by omega)).trans (hnt)) ?_
  refine j_iconst (v := nI 1) C dX6_addTabu_15 rfl ?_
  refine j_iadd C dX6_addTabu_16 ?_
  refine j_top (nI_add _ _) ?_
  refine j_bipush (v := nI 6) C dX6_addTabu_17 rfl ?_
  refine j_irem C dX6_addTabu_19 (by decide) ?_
  refine j_top (pk_rem (by omega) (by decide) (by decide)) ?_
  refine j_put' C fpX6_35 dX6_addTabu_20 (Nat.lt_of_lt_of_le (by decide) hN) (fun _ => rfl) rfl (Nat.le_of_ble_eq_true rfl) rfl rfl (fun τ4 hf5 hv6 => ?_)
  refine j_aload_n C dX6_addTabu_23 rfl rfl ?_
  refine j_aload_n C dX6_addTabu_24 rfl rfl ?_
  refine j_get C flX6_32 dX6_addTabu_25 (Nat.lt_of_lt_of_le (by decide) hN) rfl rfl ?_
  refine j_top ((hf5 _ _ (by omega)).trans ((hf2 _ _ (by omega)).trans (htc))) ?_
  refine j_iconst (v := nI 1) C dX6_addTabu_28 rfl ?_
  refine j_iadd C dX6_addTabu_29 ?_
  refine j_top (nI_add _ _) ?_
  refine j_bipush (v := nI 6) C dX6_addTabu_30 rfl ?_
  refine j_min C mmX6_41 dX6_addTabu_32 (by decide) (Nat.le_of_ble_eq_true rfl) ?_
  refine j_top (nI_min (by omega) (by decide)) ?_
  refine j_put' C fpX6_32 dX6_addTabu_35 (Nat.lt_of_lt_of_le (by decide) hN) (fun _ => rfl) rfl (Nat.le_of_ble_eq_true rfl) rfl rfl (fun τ7 hf8 hv9 => ?_)
  refine j_retv M dX6_addTabu_38 ?_
  refine ⟨(fun j n h => by rw [hf8 _ _ (by omega), hf5 _ _ (by omega), hf2 _ _ (by omega)]), ?_, ?_, by assumption⟩
  · rw [hf8 _ _ (by omega), hf5 _ _ (by omega)]; assumption
  · rw [hf8 _ _ (by omega)]; assumption
set_option maxHeartbeats 4000000 in
set_option maxRecDepth 100000 in
theorem tX6_isTabu {g : jG} (hN : 84 ≤ gN g) {σ : Sg} {tc : Nat} (htc : σ 48 4 = nI tc) (ht6 : tc ≤ 6) (x : Int32) : MS g yX6_isTabu cX6_isTabu 3 (some .boolean) rmX6_isTabu [.ref (gad g (48)), .int (x)] σ (fun r σ' => σ' = σ ∧ ((r = nI 1 ∧ ∃ k : Nat, k < tc ∧ σ 51 k = x) ∨ (r = nI 0 ∧ ∀ k : Nat, k < tc → ¬ σ 51 k = x))) := by
  refine MJ_of (by decide) (Nat.le_of_ble_eq_true rfl) (List.forall_mem_cons.mpr ⟨rfl, List.forall_mem_cons.mpr ⟨rfl, fun _ h => absurd h List.not_mem_nil⟩⟩) ?_
  intro κ M
  have C := M.1
  show J g κ 3 0 [some (.ref (gad g (48))), some (.int (x)), none] [] σ
  have lp : ∀ (k : Nat) (l : Nat), tc - l = k → l ≤ tc → (∀ q : Nat, q < l → ¬ σ 51 q = x) → J g κ 3 2 [some (.ref (gad g (48))), some (.int (x)), some (.int (nI (l)))] [] σ := by
    intro k
    induction k using Nat.strongRecOn with
    | _ k ih =>
      intro l hk hl hno
      refine j_iload_n C dX6_isTabu_2 rfl rfl ?_
      refine j_aload_n C dX6_isTabu_3 rfl rfl ?_
      refine j_get C flX6_32 dX6_isTabu_4 (Nat.lt_of_lt_of_le (by decide) hN) rfl rfl ?_
      refine j_top (htc) ?_
      refine j_icmpn_ge (tgt := 28) C dX6_isTabu_7 rfl (by omega) (by omega) (fun h7 => ?_) (fun h7 => ?_)
      · refine j_iconst (v := nI 0) C dX6_isTabu_28 rfl ?_
        refine j_retz M dX6_isTabu_29 rfl ?_
        exact ⟨rfl, Or.inr ⟨rfl, fun q hq => hno q (by omega)⟩⟩
      · refine j_aload_n C dX6_isTabu_10 rfl rfl ?_
        refine j_get C flX6_19 dX6_isTabu_11 (Nat.lt_of_lt_of_le (by decide) hN) rfl rfl ?_
        refine j_iload_n C dX6_isTabu_14 rfl rfl ?_
        refine j_iald C dX6_isTabu_15 (Nat.lt_of_lt_of_le (by decide) hN) (fun _ => rfl) (by decide) (by omega) ?_
        refine j_iload_n C dX6_isTabu_16 rfl rfl ?_
        refine j_icmp_ne (tgt := 22) C dX6_isTabu_17 rfl (fun h17 => ?_) (fun h17 => ?_)
        · refine j_iinc (L' := [some (.ref (gad g (48))), some (.int (x)), some (.int (nI (l + 1)))]) C dX6_isTabu_22 rfl (nI_inc _) (by decide) rfl ?_
          refine j_goto (tgt := 2) C dX6_isTabu_25 rfl ?_
          refine ih (tc - (l + 1)) (by omega) (l + 1) rfl (by omega) (fun q hq => ?_)
          by_cases e : q = l
          · subst e; exact h17
          · exact hno q (by omega)
        · refine j_iconst (v := nI 1) C dX6_isTabu_20 rfl ?_
          refine j_retz M dX6_isTabu_21 rfl ?_
          exact ⟨rfl, Or.inl ⟨rfl, l, by omega, h17⟩⟩
  refine j_iconst (v := nI 0) C dX6_isTabu_0 rfl ?_
  refine j_istore_n (L' := [some (.ref (gad g (48))), some (.int (x)), some (.int (nI (0)))]) C dX6_isTabu_1 rfl (by decide) rfl ?_
  exact lp (tc - 0) 0 rfl (by omega) (fun q hq => by omega)
set_option maxHeartbeats 4000000 in
set_option maxRecDepth 100000 in
theorem tX6_linksDown {g : jG} (hN : 84 ≤ gN g) {σ : Sg} {m : Nat} {u : Nat → Bool} (hm : σ 48 0 = nI m) (hm12 : m ≤ 12) (hu : ∀ l, l < m → σ 50 l = bI (u l)) : MS g yX6_linksDown cX6_linksDown 3 (some .int) rmX6_linksDown [.ref (gad g (48))] σ (fun r σ' => σ' = σ ∧ r = nI (cnt (fun l => !u l) m)) := by
  refine MJ_of (by decide) (Nat.le_of_ble_eq_true rfl) (List.forall_mem_cons.mpr ⟨rfl, fun _ h => absurd h List.not_mem_nil⟩) ?_
  intro κ M
  have C := M.1
  show J g κ 3 0 [some (.ref (gad g (48))), none, none] [] σ
  have lp : ∀ (k : Nat) (l : Nat), m - l = k → l ≤ m → J g κ 3 4 [some (.ref (gad g (48))), some (.int (nI (cnt (fun l => !u l) l))), some (.int (nI (l)))] [] σ := by
    intro k
    induction k using Nat.strongRecOn with
    | _ k ih =>
      intro l hk hl
      refine j_iload_n C dX6_linksDown_4 rfl rfl ?_
      refine j_aload_n C dX6_linksDown_5 rfl rfl ?_
      refine j_get C flX6_28 dX6_linksDown_6 (Nat.lt_of_lt_of_le (by decide) hN) rfl rfl ?_
      refine j_top (hm) ?_
      refine j_icmpn_ge (tgt := 30) C dX6_linksDown_9 rfl (by omega) (by omega) (fun h9 => ?_) (fun h9 => ?_)
      · refine j_iload_n C dX6_linksDown_30 rfl rfl ?_
        refine j_ret M dX6_linksDown_31 ?_
        obtain rfl : l = m := by omega
        exact ⟨rfl, rfl⟩
      · have hc := cnt_le (fun l => !u l) l
        rcases hul : u l with _ | _
        · refine j_aload_n C dX6_linksDown_12 rfl rfl ?_
          refine j_get C flX6_15 dX6_linksDown_13 (Nat.lt_of_lt_of_le (by decide) hN) rfl rfl ?_
          refine j_iload_n C dX6_linksDown_16 rfl rfl ?_
          refine j_zald C dX6_linksDown_17 (Nat.lt_of_lt_of_le (by decide) hN) (fun _ => rfl) (by decide) (by omega) ?_
          refine j_top ((hu l (by omega)).trans (by rw [hul])) ?_
          refine j_ifn_ne (tgt := 24) C dX6_linksDown_18 rfl (by omega) (fun h => absurd h (by decide)) (fun _ => ?_)
          refine j_iinc (L' := [some (.ref (gad g (48))), some (.int (nI (cnt (fun l => !u l) l + 1))), some (.int (nI (l)))]) C dX6_linksDown_21 rfl (nI_inc _) (by decide) rfl ?_
          refine j_iinc (L' := [some (.ref (gad g (48))), some (.int (nI (cnt (fun l => !u l) l + 1))), some (.int (nI (l + 1)))]) C dX6_linksDown_24 rfl (nI_inc _) (by decide) rfl ?_
          refine j_goto (tgt := 4) C dX6_linksDown_27 rfl ?_
          refine J_loc (L' := [some (.ref (gad g (48))), some (.int (nI (cnt (fun l => !u l) (l + 1)))), some (.int (nI (l + 1)))]) (by simp only [cnt, hul]; rfl) (ih (m - (l + 1)) (by omega) (l + 1) rfl (by omega))
        · refine j_aload_n C dX6_linksDown_12 rfl rfl ?_
          refine j_get C flX6_15 dX6_linksDown_13 (Nat.lt_of_lt_of_le (by decide) hN) rfl rfl ?_
          refine j_iload_n C dX6_linksDown_16 rfl rfl ?_
          refine j_zald C dX6_linksDown_17 (Nat.lt_of_lt_of_le (by decide) hN) (fun _ => rfl) (by decide) (by omega) ?_
          refine j_top ((hu l (by omega)).trans (by rw [hul])) ?_
          refine j_ifn_ne (tgt := 24) C dX6_linksDown_18 rfl (by omega) (fun _ => ?_) (fun h => absurd h (by decide))
          refine j_iinc (L' := [some (.ref (gad g (48))), some (.int (nI (cnt (fun l => !u l) l))), some (.int (nI (l + 1)))]) C dX6_linksDown_24 rfl (nI_inc _) (by decide) rfl ?_
          refine j_goto (tgt := 4) C dX6_linksDown_27 rfl ?_
          refine J_loc (L' := [some (.ref (gad g (48))), some (.int (nI (cnt (fun l => !u l) (l + 1)))), some (.int (nI (l + 1)))]) (by simp only [cnt, hul]; rfl) (ih (m - (l + 1)) (by omega) (l + 1) rfl (by omega))
  refine j_iconst (v := nI 0) C dX6_linksDown_0 rfl ?_
  refine j_istore_n (L' := [some (.ref (gad g (48))), some (.int (nI (0))), none]) C dX6_linksDown_1 rfl (by decide) rfl ?_
  refine j_iconst (v := nI 0) C dX6_linksDown_2 rfl ?_
  refine j_istore_n (L' := [some (.ref (gad g (48))), some (.int (nI (0))), some (.int (nI (0)))]) C dX6_linksDown_3 rfl (by decide) rfl ?_
  exact lp (m - 0) 0 rfl (by omega)
end
section
/-! pure words for the reader -/
theorem J_clr {g : jG} {κ : jC} {nL pc : Nat} {L L' : List (Option Value)} {S : List Value} {σ : Sg} (i : Nat) (h : L.set i none = L') (k : J g κ nL pc L' S σ) : J g κ nL pc L S σ := fun ls H locs hl hP hD hS => by
  subst h
  have key : ∀ (j : Nat) (v : Value), (L.set i none)[j]? = some (some v) → L[j]? = some (some v) := by
    intro j v hj
    by_cases hji : i = j
    · subst hji
      by_cases hlt : i < L.length
      · rw [List.getElem?_set_self hlt] at hj
        cases hj
      · rw [List.getElem?_eq_none (by simp; omega)] at hj
        cases hj
    · rw [List.getElem?_set_ne hji] at hj
      exact hj
  refine k ls H locs ⟨⟨hl.1.1, hl.1.2.1, ?_⟩, fun j v hj => hl.2 j v (key j v hj)⟩ hP hD hS
  rintro ⟨j, v⟩ hq
  obtain ⟨j', e1, e2⟩ := (jlv_mem _ 0 j v).mp hq
  have e3 : j' = j := by omega
  subst e3
  exact jl_at hl (key _ _ e2)
theorem dig_val {c : Int32} {a : Nat} (h1 : nI 48 ≤ c) (h2 : c ≤ nI 57) : nI a + c - nI 48 = nI (a + (c.toInt - 48).toNat) := by
  obtain ⟨k, k1, k2, rfl⟩ := (nI_rng (by decide) (by decide)).mp ⟨h1, h2⟩
  rw [nI_add, pk_sub (by omega), nI_toInt (by omega)]
  congr 1
  omega
theorem dig_lt {c : Int32} (h1 : nI 48 ≤ c) (h2 : c ≤ nI 57) : (c.toInt - 48).toNat ≤ 9 := by
  obtain ⟨k, k1, k2, rfl⟩ := (nI_rng (by decide) (by decide)).mp ⟨h1, h2⟩
  rw [nI_toInt (by omega)]
  omega
theorem scan_bad1 {tx : Nat → Int32} {e k at_ fg v : Nat} {acc : List Nat} (hc : at_ < e → tx at_ = nI 44) (h : fg = 0 ∨ 4 ≤ acc.length) : scan tx e (k + 1) at_ fg v acc = none := by
  have : (if at_ < e then tx at_ else nI 44) = nI 44 := by
    split
    · exact hc (by assumption)
    · rfl
  simp only [scan, this, if_true, h]
theorem scan_num {tx : Nat → Int32} {e k at_ fg v : Nat} {acc : List Nat} (hc : at_ < e → tx at_ = nI 44) (h1 : ¬ fg = 0) (h2 : acc.length < 4) : scan tx e (k + 1) at_ fg v acc = scan tx e k (at_ + 1) 0 0 (acc ++ [v]) := by
  have : (if at_ < e then tx at_ else nI 44) = nI 44 := by
    split
    · exact hc (by assumption)
    · rfl
  rw [scan, if_pos this, if_neg (by omega)]
theorem scan_dig {tx : Nat → Int32} {e k at_ fg v : Nat} {acc : List Nat} (ha : at_ < e) (hc : ¬ tx at_ = nI 44) (h1 : nI 48 ≤ tx at_) (h2 : tx at_ ≤ nI 57) (h3 : fg < 2) : scan tx e (k + 1) at_ fg v acc = scan tx e k (at_ + 1) (fg + 1) (10 * v + ((tx at_).toInt - 48).toNat) acc := by
  rw [scan, if_neg (by rw [if_pos ha]; exact hc), if_pos ⟨h1, h2, h3⟩]
theorem scan_bad2 {tx : Nat → Int32} {e k at_ fg v : Nat} {acc : List Nat} (ha : at_ < e) (hc : ¬ tx at_ = nI 44) (h : ¬ (nI 48 ≤ tx at_ ∧ tx at_ ≤ nI 57 ∧ fg < 2)) : scan tx e (k + 1) at_ fg v acc = none := by
  rw [scan, if_neg (by rw [if_pos ha]; exact hc), if_neg h]
theorem getD_snoc {acc : List Nat} {v : Nat} : (acc ++ [v]).getD acc.length 0 = v := by
  rw [List.getD_eq_getElem?_getD, List.getElem?_append_right (Nat.le_refl _), Nat.sub_self]
  rfl
theorem getD_app {acc : List Nat} {v i : Nat} (h : i < acc.length) : (acc ++ [v]).getD i 0 = acc.getD i 0 := by
  rw [List.getD_eq_getElem?_getD, List.getD_eq_getElem?_getD, List.getElem?_append_left h]
end
section
set_option maxHeartbeats 4000000 in
set_option maxRecDepth 100000 in
theorem tX3_areTwoNodes {g : jG} (hN : 84 ≤ gN g) {σ : Sg} {i n a b : Nat} (hi : i < 2) (hn : σ (3 + 9 * i) 0 = nI n) (hn7 : n ≤ 7) (ha : a < 2 ^ 31) (hb : b < 2 ^ 31) : MS g yX3_areTwoNodes cX3_areTwoNodes 3 (some .boolean) rmX3_areTwoNodes [.ref (gad g (3 + 9 * i)), .int (nI (a)), .int (nI (b))] σ (fun r σ' => σ' = σ ∧ ((r = nI 1 ∧ a < n ∧ b < n ∧ a ≠ b) ∨ (r = nI 0 ∧ ¬ (a < n ∧ b < n ∧ a ≠ b)))) := by
  refine MJ_of (by decide) (Nat.le_of_ble_eq_true rfl) (List.forall_mem_cons.mpr ⟨rfl, List.forall_mem_cons.mpr ⟨rfl, List.forall_mem_cons.mpr ⟨rfl, fun _ h => absurd h List.not_mem_nil⟩⟩⟩) ?_
  intro κ M
  have C := M.1
  show J g κ 3 0 [some (.ref (gad g (3 + 9 * i))), some (.int (nI (a))), some (.int (nI (b)))] [] σ
  refine j_aload_n C dX3_areTwoNodes_0 rfl rfl ?_
  refine j_iload_n C dX3_areTwoNodes_1 rfl rfl ?_
  refine j_calli (As := [.int (nI (a))]) (rest := []) C (tX3_hasNode hN hi hn (by omega) (nI a)) cdX3_hasNode mlX3_58 dX3_areTwoNodes_2 (by decide) (by decide) (by omega) (cf_net (by omega) _) rfl rfl rfl rfl (Nat.le_of_ble_eq_true rfl) (fun r2 τ1 hp3 => ?_)
  rw [ex_nI (by omega) (by omega)] at hp3
  obtain ⟨hs, hc⟩ := hp3
  replace hs := hs.symm
  subst hs
  rcases hc with ⟨rfl, ha⟩ | ⟨rfl, ha⟩
  · refine j_ifn_eq (tgt := 25) C dX3_areTwoNodes_5 rfl (by omega) (fun h => absurd h (by decide)) (fun _ => ?_)
    refine j_aload_n C dX3_areTwoNodes_8 rfl rfl ?_
    refine j_iload_n C dX3_areTwoNodes_9 rfl rfl ?_
    refine j_calli (As := [.int (nI (b))]) (rest := []) C (tX3_hasNode hN hi hn (by omega) (nI b)) cdX3_hasNode mlX3_58 dX3_areTwoNodes_10 (by decide) (by decide) (by omega) (cf_net (by omega) _) rfl rfl rfl rfl (Nat.le_of_ble_eq_true rfl) (fun r5 τ4 hp6 => ?_)
    rw [ex_nI (by omega) (by omega)] at hp6
    obtain ⟨hs, hc⟩ := hp6
    replace hs := hs.symm
    subst hs
    rcases hc with ⟨rfl, hb⟩ | ⟨rfl, hb⟩
    · refine j_ifn_eq (tgt := 25) C dX3_areTwoNodes_13 rfl (by omega) (fun h => absurd h (by decide)) (fun _ => ?_)
      refine j_iload_n C dX3_areTwoNodes_16 rfl rfl ?_
      refine j_iload_n C dX3_areTwoNodes_17 rfl rfl ?_
      refine j_icmpn_eq (tgt := 25) C dX3_areTwoNodes_18 rfl (by omega) (by omega) (fun h18 => ?_) (fun h18 => ?_)
      · refine j_iconst (v := nI 0) C dX3_areTwoNodes_25 rfl ?_
        refine j_retz M dX3_areTwoNodes_26 rfl ?_
        exact ⟨rfl, Or.inr ⟨rfl, by omega⟩⟩
      · refine j_iconst (v := nI 1) C dX3_areTwoNodes_21 rfl ?_
        refine j_goto (tgt := 26) C dX3_areTwoNodes_22 rfl ?_
        refine j_retz M dX3_areTwoNodes_26 rfl ?_
        exact ⟨rfl, Or.inl ⟨rfl, by omega, by omega, by omega⟩⟩
    · refine j_ifn_eq (tgt := 25) C dX3_areTwoNodes_13 rfl (by omega) (fun _ => ?_) (fun h => absurd h (by decide))
      refine j_iconst (v := nI 0) C dX3_areTwoNodes_25 rfl ?_
      refine j_retz M dX3_areTwoNodes_26 rfl ?_
      exact ⟨rfl, Or.inr ⟨rfl, by omega⟩⟩
  · refine j_ifn_eq (tgt := 25) C dX3_areTwoNodes_5 rfl (by omega) (fun _ => ?_) (fun h => absurd h (by decide))
    refine j_iconst (v := nI 0) C dX3_areTwoNodes_25 rfl ?_
    refine j_retz M dX3_areTwoNodes_26 rfl ?_
    exact ⟨rfl, Or.inr ⟨rfl, by omega⟩⟩
set_option maxHeartbeats 4000000 in
set_option maxRecDepth 100000 in
theorem tX3_clear {g : jG} (hN : 84 ≤ gN g) {σ : Sg} {i : Nat} (hi : i < 2) (a : ND) : MS g yX3_clear cX3_clear 2 none rmX3_clear [.ref (gad g (3 + 9 * i))] σ (fun r σ' => (∀ j n, ¬ (3 + 9 * i ≤ j ∧ j ≤ 3 + 9 * i + 8) → σ' j n = σ j n) ∧ NetI σ' (3 + 9 * i) (nd0 a)) := by
  refine MJ_of (by decide) (Nat.le_of_ble_eq_true rfl) (List.forall_mem_cons.mpr ⟨rfl, fun _ h => absurd h List.not_mem_nil⟩) ?_
  intro κ M
  have C := M.1
  show J g κ 2 0 [some (.ref (gad g (3 + 9 * i))), none] [] σ
  have lp : ∀ (k : Nat) (l : Nat) (σ1 : Sg), 7 - l = k → l ≤ 7 → (∀ j n, ¬ (3 + 9 * i ≤ j ∧ j ≤ 3 + 9 * i + 8) → σ1 j n = σ j n) → σ1 (3 + 9 * i) 0 = nI 4 → σ1 (3 + 9 * i) 1 = nI 0 → σ1 (3 + 9 * i) 2 = nI 0 → (∀ x, x < l → σ1 (3 + 9 * i + 8) x = nI 0) → J g κ 2 17 [some (.ref (gad g (3 + 9 * i))), some (.int (nI (l)))] [] σ1 := by
    intro k
    induction k using Nat.strongRecOn with
    | _ k ih =>
      intro l σ1 hk hl hf h0 h1 h2 hz
      refine j_iload_n C dX3_clear_17 rfl rfl ?_
      refine j_bipush (v := nI 7) C dX3_clear_18 rfl ?_
      refine j_icmpn_ge (tgt := 36) C dX3_clear_20 rfl (by omega) (by omega) (fun h20 => ?_) (fun h20 => ?_)
      · refine j_retv M dX3_clear_36 ?_
        refine ⟨hf, ⟨h0, h1, h2⟩, fun l hl => absurd hl (Nat.not_lt_zero _), fun d hd => absurd hd (Nat.not_lt_zero _), fun x hx => ?_⟩
        exact hz x (by omega)
      · refine j_aload_n C dX3_clear_23 rfl rfl ?_
        refine j_get C flX3_33 dX3_clear_24 (by omega) (cf_net (by omega) _) rfl ?_
        refine j_iload_n C dX3_clear_27 rfl rfl ?_
        refine j_iconst (v := nI 0) C dX3_clear_28 rfl ?_
        refine j_zast' C dX3_clear_29 (by omega) (cf_netZ (by omega)) (by decide) (by omega) rfl (fun τ1 hf2 hv3 => ?_)
        refine j_iinc (L' := [some (.ref (gad g (3 + 9 * i))), some (.int (nI (l + 1)))]) C dX3_clear_30 rfl (nI_inc _) (by decide) rfl ?_
        refine j_goto (tgt := 17) C dX3_clear_33 rfl ?_
        refine ih (7 - (l + 1)) (by omega) (l + 1) τ1 rfl (by omega) (fun j n h => by rw [hf2 _ _ (by omega)]; exact hf j n h) (by rw [hf2 _ _ (by omega)]; exact h0) (by rw [hf2 _ _ (by omega)]; exact h1) (by rw [hf2 _ _ (by omega)]; exact h2) (fun x hx => ?_)
        by_cases e : x = l
        · subst e; assumption
        · rw [hf2 _ _ (by omega)]; exact hz x (by omega)
  refine j_aload_n C dX3_clear_0 rfl rfl ?_
  refine j_iconst (v := nI 4) C dX3_clear_1 rfl ?_
  refine j_put' C fpX3_37 dX3_clear_2 (by omega) (fun f => cf_net (by omega) f) rfl (Nat.le_of_ble_eq_true rfl) rfl rfl (fun τ1 hf2 hv3 => ?_)
  refine j_aload_n C dX3_clear_5 rfl rfl ?_
  refine j_iconst (v := nI 0) C dX3_clear_6 rfl ?_
  refine j_put' C fpX3_41 dX3_clear_7 (by omega) (fun f => cf_net (by omega) f) rfl (Nat.le_of_ble_eq_true rfl) rfl rfl (fun τ4 hf5 hv6 => ?_)
  refine j_aload_n C dX3_clear_10 rfl rfl ?_
  refine j_iconst (v := nI 0) C dX3_clear_11 rfl ?_
  refine j_put' C fpX3_44 dX3_clear_12 (by omega) (fun f => cf_net (by omega) f) rfl (Nat.le_of_ble_eq_true rfl) rfl rfl (fun τ7 hf8 hv9 => ?_)
  refine j_iconst (v := nI 0) C dX3_clear_15 rfl ?_
  refine j_istore_n (L' := [some (.ref (gad g (3 + 9 * i))), some (.int (nI (0)))]) C dX3_clear_16 rfl (by decide) rfl ?_
  refine lp (7 - 0) 0 τ7 rfl (by omega) (fun j n h => by rw [hf8 _ _ (by omega), hf5 _ _ (by omega), hf2 _ _ (by omega)]) (by rw [hf8 _ _ (by omega), hf5 _ _ (by omega)]; assumption) (by rw [hf8 _ _ (by omega)]; assumption) (by assumption) (fun x hx => by omega)
set_option maxHeartbeats 4000000 in
set_option maxRecDepth 100000 in
theorem tX3_takeNodes {g : jG} (hN : 84 ≤ gN g) {σ : Sg} {i v : Nat} {a : ND} (hi : i < 2) (hI : NetI σ (3 + 9 * i) a) (hm : nM a ≤ 12) (hd : nD a ≤ 6) (hv : v < 100) : MS g yX3_takeNodes cX3_takeNodes 2 (some .boolean) rmX3_takeNodes [.ref (gad g (3 + 9 * i)), .int (nI (v))] σ (fun r σ' => (r = nI 1 ∧ okN a v ∧ (∀ j n, ¬ (3 + 9 * i ≤ j ∧ j ≤ 3 + 9 * i + 8) → σ' j n = σ j n) ∧ NetI σ' (3 + 9 * i) (ndN a v)) ∨ (r = nI 0 ∧ ¬ okN a v ∧ σ' = σ)) := by
  refine MJ_of (by decide) (Nat.le_of_ble_eq_true rfl) (List.forall_mem_cons.mpr ⟨rfl, List.forall_mem_cons.mpr ⟨rfl, fun _ h => absurd h List.not_mem_nil⟩⟩) ?_
  intro κ M
  have C := M.1
  show J g κ 2 0 [some (.ref (gad g (3 + 9 * i))), some (.int (nI (v)))] [] σ
  refine j_aload_n C dX3_takeNodes_0 rfl rfl ?_
  refine j_get C flX3_41 dX3_takeNodes_1 (by omega) (cf_net (by omega) _) rfl ?_
  refine j_top (hI.m) ?_
  refine j_ifn_gt (tgt := 25) C dX3_takeNodes_4 rfl (by omega) (fun h4 => ?_) (fun h4 => ?_)
  · refine j_iconst (v := nI 0) C dX3_takeNodes_25 rfl ?_
    refine j_retz M dX3_takeNodes_26 rfl ?_
    exact Or.inr ⟨rfl, (by unfold okN; omega), rfl⟩
  · refine j_aload_n C dX3_takeNodes_7 rfl rfl ?_
    refine j_get C flX3_44 dX3_takeNodes_8 (by omega) (cf_net (by omega) _) rfl ?_
    refine j_top (hI.d) ?_
    refine j_ifn_gt (tgt := 25) C dX3_takeNodes_11 rfl (by omega) (fun h11 => ?_) (fun h11 => ?_)
    · refine j_iconst (v := nI 0) C dX3_takeNodes_25 rfl ?_
      refine j_retz M dX3_takeNodes_26 rfl ?_
      exact Or.inr ⟨rfl, (by unfold okN; omega), rfl⟩
    · refine j_iload_n C dX3_takeNodes_14 rfl rfl ?_
      refine j_iconst (v := nI 2) C dX3_takeNodes_15 rfl ?_
      refine j_icmpn_lt (tgt := 25) C dX3_takeNodes_16 rfl (by omega) (by omega) (fun h16 => ?_) (fun h16 => ?_)
      · refine j_iconst (v := nI 0) C dX3_takeNodes_25 rfl ?_
        refine j_retz M dX3_takeNodes_26 rfl ?_
        exact Or.inr ⟨rfl, (by unfold okN; omega), rfl⟩
      · refine j_iload_n C dX3_takeNodes_19 rfl rfl ?_
        refine j_bipush (v := nI 7) C dX3_takeNodes_20 rfl ?_
        refine j_icmpn_le (tgt := 27) C dX3_takeNodes_22 rfl (by omega) (by omega) (fun h22 => ?_) (fun h22 => ?_)
        · refine j_aload_n C dX3_takeNodes_27 rfl rfl ?_
          refine j_iload_n C dX3_takeNodes_28 rfl rfl ?_
          refine j_put' C fpX3_37 dX3_takeNodes_29 (by omega) (fun f => cf_net (by omega) f) rfl (Nat.le_of_ble_eq_true rfl) rfl rfl (fun τ1 hf2 hv3 => ?_)
          refine j_iconst (v := nI 1) C dX3_takeNodes_32 rfl ?_
          refine j_retz M dX3_takeNodes_33 rfl ?_
          refine Or.inl ⟨rfl, ⟨by omega, by omega, by omega, by omega⟩, (fun j n h => by rw [hf2 _ _ (by omega)]), ⟨by assumption, by rw [hf2 _ _ (by omega)]; exact hI.m, by rw [hf2 _ _ (by omega)]; exact hI.d⟩, fun l hl => ?_, fun d hd => ?_, fun x hx => by rw [hf2 _ _ (by omega)]; exact hI.gl hx⟩
          · rw [hf2 _ _ (by omega), hf2 _ _ (by omega), hf2 _ _ (by omega), hf2 _ _ (by omega)]; exact hI.2.1 l hl
          · rw [hf2 _ _ (by omega), hf2 _ _ (by omega), hf2 _ _ (by omega)]; exact hI.2.2.1 d hd
        · refine j_iconst (v := nI 0) C dX3_takeNodes_25 rfl ?_
          refine j_retz M dX3_takeNodes_26 rfl ?_
          exact Or.inr ⟨rfl, (by unfold okN; omega), rfl⟩
set_option maxHeartbeats 4000000 in
set_option maxRecDepth 100000 in
theorem tX3_takeLink {g : jG} (hN : 84 ≤ gN g) {σ : Sg} {i p q s w : Nat} {a : ND} (hi : i < 2) (hI : NetI σ (3 + 9 * i) a) (hn : nN a ≤ 7) (hm : nM a ≤ 12) (hp : p < 100) (hq : q < 100) (hs : s < 100) (hw : w < 100) : MS g yX3_takeLink cX3_takeLink 5 (some .boolean) rmX3_takeLink [.ref (gad g (3 + 9 * i)), .int (nI (p)), .int (nI (q)), .int (nI (s)), .int (nI (w))] σ (fun r σ' => (r = nI 1 ∧ okL a p q s w ∧ (∀ j n, ¬ (3 + 9 * i ≤ j ∧ j ≤ 3 + 9 * i + 8) → σ' j n = σ j n) ∧ NetI σ' (3 + 9 * i) (ndL a p q s w)) ∨ (r = nI 0 ∧ ¬ okL a p q s w ∧ σ' = σ)) := by
  refine MJ_of (by decide) (Nat.le_of_ble_eq_true rfl) (List.forall_mem_cons.mpr ⟨rfl, List.forall_mem_cons.mpr ⟨rfl, List.forall_mem_cons.mpr ⟨rfl, List.forall_mem_cons.mpr ⟨rfl, List.forall_mem_cons.mpr ⟨rfl, fun _ h => absurd h List.not_mem_nil⟩⟩⟩⟩⟩) ?_
  intro κ M
  have C := M.1
  show J g κ 5 0 [some (.ref (gad g (3 + 9 * i))), some (.int (nI (p))), some (.int (nI (q))), some (.int (nI (s))), some (.int (nI (w)))] [] σ
  refine j_aload_n C dX3_takeLink_0 rfl rfl ?_
  refine j_get C flX3_41 dX3_takeLink_1 (by omega) (cf_net (by omega) _) rfl ?_
  refine j_top (hI.m) ?_
  refine j_bipush (v := nI 12) C dX3_takeLink_4 rfl ?_
  refine j_icmpn_ge (tgt := 33) C dX3_takeLink_6 rfl (by omega) (by omega) (fun h6 => ?_) (fun h6 => ?_)
  · refine j_iconst (v := nI 0) C dX3_takeLink_33 rfl ?_
    refine j_retz M dX3_takeLink_34 rfl ?_
    exact Or.inr ⟨rfl, (by unfold okL; omega), rfl⟩
  · refine j_aload_n C dX3_takeLink_9 rfl rfl ?_
    refine j_iload_n C dX3_takeLink_10 rfl rfl ?_
    refine j_iload_n C dX3_takeLink_11 rfl rfl ?_
    refine j_calli (As := [.int (nI (p)), .int (nI (q))]) (rest := []) C (tX3_areTwoNodes hN hi hI.n hn (by omega) (by omega)) cdX3_areTwoNodes mlX3_47 dX3_takeLink_12 (by decide) (by decide) (by omega) (cf_net (by omega) _) rfl rfl rfl rfl (Nat.le_of_ble_eq_true rfl) (fun r2 τ1 hp3 => ?_)
    obtain ⟨hs0, hc⟩ := hp3
    replace hs0 := hs0.symm
    subst hs0
    rcases hc with ⟨rfl, hA⟩ | ⟨rfl, hA⟩
    · refine j_ifn_eq (tgt := 33) C dX3_takeLink_15 rfl (by omega) (fun h => absurd h (by decide)) (fun _ => ?_)
      refine j_iload_n C dX3_takeLink_18 rfl rfl ?_
      refine j_calls (As := [.int (nI (s))]) (rest := []) C (tX3_isSize hN (nI s)) cdX3_isSize msX3_51 dX3_takeLink_19 (by decide) (by decide) rfl rfl (Nat.le_of_ble_eq_true rfl) (fun r5 τ4 hp6 => ?_)
      rw [ex_rng (by omega) (by omega)] at hp6
      obtain ⟨hs0, hc⟩ := hp6
      replace hs0 := hs0.symm
      subst hs0
      rcases hc with ⟨rfl, hB⟩ | ⟨rfl, hB⟩
      · refine j_ifn_eq (tgt := 33) C dX3_takeLink_22 rfl (by omega) (fun h => absurd h (by decide)) (fun _ => ?_)
        refine j_iload C dX3_takeLink_25 rfl ?_
        refine j_callw C (tX7_isWeight hN (nI w)) cdX7_isWeight dX3_takeLink_27 (by decide) (by decide) (Nat.le_of_ble_eq_true rfl) (fun r8 τ7 hp9 => ?_)
        rw [ex_rng (by omega) (by omega)] at hp9
        obtain ⟨hs0, hc⟩ := hp9
        replace hs0 := hs0.symm
        subst hs0
        rcases hc with ⟨rfl, hC⟩ | ⟨rfl, hC⟩
        · refine j_ifn_ne (tgt := 35) C dX3_takeLink_30 rfl (by omega) (fun _ => ?_) (fun h => absurd h (by decide))
          refine j_aload_n C dX3_takeLink_35 rfl rfl ?_
          refine j_get C flX3_9 dX3_takeLink_36 (by omega) (cf_net (by omega) _) rfl ?_
          refine j_aload_n C dX3_takeLink_39 rfl rfl ?_
          refine j_get C flX3_41 dX3_takeLink_40 (by omega) (cf_net (by omega) _) rfl ?_
          refine j_top (hI.m) ?_
          refine j_iload_n C dX3_takeLink_43 rfl rfl ?_
          refine j_iast' C dX3_takeLink_44 (by omega) (cf_netI (by omega) (by omega) (by omega)) (by decide) (by omega) (fun τ10 hf11 hv12 => ?_)
          refine j_aload_n C dX3_takeLink_45 rfl rfl ?_
          refine j_get C flX3_15 dX3_takeLink_46 (by omega) (cf_net (by omega) _) rfl ?_
          refine j_aload_n C dX3_takeLink_49 rfl rfl ?_
          refine j_get C flX3_41 dX3_takeLink_50 (by omega) (cf_net (by omega) _) rfl ?_
          refine j_top ((hf11 _ _ (by omega)).trans (hI.m)) ?_
          refine j_iload_n C dX3_takeLink_53 rfl rfl ?_
          refine j_iast' C dX3_takeLink_54 (by omega) (cf_netI (by omega) (by omega) (by omega)) (by decide) (by omega) (fun τ13 hf14 hv15 => ?_)
          refine j_aload_n C dX3_takeLink_55 rfl rfl ?_
          refine j_get C flX3_18 dX3_takeLink_56 (by omega) (cf_net (by omega) _) rfl ?_
          refine j_aload_n C dX3_takeLink_59 rfl rfl ?_
          refine j_get C flX3_41 dX3_takeLink_60 (by omega) (cf_net (by omega) _) rfl ?_
          refine j_top ((hf14 _ _ (by omega)).trans ((hf11 _ _ (by omega)).trans (hI.m))) ?_
          refine j_iload_n C dX3_takeLink_63 rfl rfl ?_
          refine j_iast' C dX3_takeLink_64 (by omega) (cf_netI (by omega) (by omega) (by omega)) (by decide) (by omega) (fun τ16 hf17 hv18 => ?_)
          refine j_aload_n C dX3_takeLink_65 rfl rfl ?_
          refine j_get C flX3_21 dX3_takeLink_66 (by omega) (cf_net (by omega) _) rfl ?_
          refine j_aload_n C dX3_takeLink_69 rfl rfl ?_
          refine j_get C flX3_41 dX3_takeLink_70 (by omega) (cf_net (by omega) _) rfl ?_
          refine j_top ((hf17 _ _ (by omega)).trans ((hf14 _ _ (by omega)).trans ((hf11 _ _ (by omega)).trans (hI.m)))) ?_
          refine j_iload C dX3_takeLink_73 rfl ?_
          refine j_iast' C dX3_takeLink_75 (by omega) (cf_netI (by omega) (by omega) (by omega)) (by decide) (by omega) (fun τ19 hf20 hv21 => ?_)
          refine j_aload_n C dX3_takeLink_76 rfl rfl ?_
          refine j_dup C dX3_takeLink_77 rfl ?_
          refine j_get C flX3_41 dX3_takeLink_78 (by omega) (cf_net (by omega) _) rfl ?_
          refine j_top ((hf20 _ _ (by omega)).trans ((hf17 _ _ (by omega)).trans ((hf14 _ _ (by omega)).trans ((hf11 _ _ (by omega)).trans (hI.m))))) ?_
          refine j_iconst (v := nI 1) C dX3_takeLink_81 rfl ?_
          refine j_iadd C dX3_takeLink_82 ?_
          refine j_top (nI_add _ _) ?_
          refine j_put' C fpX3_41 dX3_takeLink_83 (by omega) (fun f => cf_net (by omega) f) rfl (Nat.le_of_ble_eq_true rfl) rfl rfl (fun τ22 hf23 hv24 => ?_)
          refine j_iconst (v := nI 1) C dX3_takeLink_86 rfl ?_
          refine j_retz M dX3_takeLink_87 rfl ?_
          refine Or.inl ⟨rfl, ⟨by omega, by omega, by omega, by omega, by omega, by omega, by omega, by omega⟩, (fun j n h => by rw [hf23 _ _ (by omega), hf20 _ _ (by omega), hf17 _ _ (by omega), hf14 _ _ (by omega), hf11 _ _ (by omega)]), ⟨by rw [hf23 _ _ (by omega), hf20 _ _ (by omega), hf17 _ _ (by omega), hf14 _ _ (by omega), hf11 _ _ (by omega)]; exact hI.n, by assumption, by rw [hf23 _ _ (by omega), hf20 _ _ (by omega), hf17 _ _ (by omega), hf14 _ _ (by omega), hf11 _ _ (by omega)]; exact hI.d⟩, fun l hl => ?_, fun d hd => ?_, fun x hx => by rw [hf23 _ _ (by omega), hf20 _ _ (by omega), hf17 _ _ (by omega), hf14 _ _ (by omega), hf11 _ _ (by omega)]; exact hI.gl hx⟩
          · have hl' : l < nM a + 1 := hl
            by_cases e : l = nM a
            · subst e
              refine ⟨?_, ?_, ?_, ?_⟩
              · rw [hf23 _ _ (by omega), hf20 _ _ (by omega), hf17 _ _ (by omega), hf14 _ _ (by omega)]; show _ = nI (updN _ _ _ _); rw [updN_s]; assumption
              · rw [hf23 _ _ (by omega), hf20 _ _ (by omega), hf17 _ _ (by omega)]; show _ = nI (updN _ _ _ _); rw [updN_s]; assumption
              · rw [hf23 _ _ (by omega), hf20 _ _ (by omega)]; show _ = nI (updN _ _ _ _); rw [updN_s]; assumption
              · rw [hf23 _ _ (by omega)]; show _ = nI (updN _ _ _ _); rw [updN_s]; assumption
            · refine ⟨?_, ?_, ?_, ?_⟩
              · rw [hf23 _ _ (by omega), hf20 _ _ (by omega), hf17 _ _ (by omega), hf14 _ _ (by omega), hf11 _ _ (by omega)]; show _ = nI (updN _ _ _ _); rw [updN_n e]; exact hI.fr (by omega)
              · rw [hf23 _ _ (by omega), hf20 _ _ (by omega), hf17 _ _ (by omega), hf14 _ _ (by omega), hf11 _ _ (by omega)]; show _ = nI (updN _ _ _ _); rw [updN_n e]; exact hI.to (by omega)
              · rw [hf23 _ _ (by omega), hf20 _ _ (by omega), hf17 _ _ (by omega), hf14 _ _ (by omega), hf11 _ _ (by omega)]; show _ = nI (updN _ _ _ _); rw [updN_n e]; exact hI.rm (by omega)
              · rw [hf23 _ _ (by omega), hf20 _ _ (by omega), hf17 _ _ (by omega), hf14 _ _ (by omega), hf11 _ _ (by omega)]; show _ = nI (updN _ _ _ _); rw [updN_n e]; exact hI.tw (by omega)
          · refine ⟨?_, ?_, ?_⟩
            · rw [hf23 _ _ (by omega), hf20 _ _ (by omega), hf17 _ _ (by omega), hf14 _ _ (by omega), hf11 _ _ (by omega)]; exact hI.st hd
            · rw [hf23 _ _ (by omega), hf20 _ _ (by omega), hf17 _ _ (by omega), hf14 _ _ (by omega), hf11 _ _ (by omega)]; exact hI.go hd
            · rw [hf23 _ _ (by omega), hf20 _ _ (by omega), hf17 _ _ (by omega), hf14 _ _ (by omega), hf11 _ _ (by omega)]; exact hI.sz hd
        · refine j_ifn_ne (tgt := 35) C dX3_takeLink_30 rfl (by omega) (fun h => absurd h (by decide)) (fun _ => ?_)
          refine j_iconst (v := nI 0) C dX3_takeLink_33 rfl ?_
          refine j_retz M dX3_takeLink_34 rfl ?_
          exact Or.inr ⟨rfl, (by unfold okL; omega), rfl⟩
      · refine j_ifn_eq (tgt := 33) C dX3_takeLink_22 rfl (by omega) (fun _ => ?_) (fun h => absurd h (by decide))
        refine j_iconst (v := nI 0) C dX3_takeLink_33 rfl ?_
        refine j_retz M dX3_takeLink_34 rfl ?_
        exact Or.inr ⟨rfl, (by unfold okL; omega), rfl⟩
    · refine j_ifn_eq (tgt := 33) C dX3_takeLink_15 rfl (by omega) (fun _ => ?_) (fun h => absurd h (by decide))
      refine j_iconst (v := nI 0) C dX3_takeLink_33 rfl ?_
      refine j_retz M dX3_takeLink_34 rfl ?_
      exact Or.inr ⟨rfl, (by unfold okL; omega), rfl⟩
theorem isGo_congr {f h : Nat → Nat} : ∀ {d x : Nat}, (∀ k, k < d → f k = h k) → isGo f d x = isGo h d x
  | 0, _, _ => rfl
  | d + 1, x, e => by simp only [isGo, isGo_congr (d := d) (x := x) (fun k hk => e k (by omega)), e d (by omega)]
theorem isGo_upd {f : Nat → Nat} {d q x : Nat} : isGo (updN f d q) (d + 1) x = (isGo f d x || (q == x)) := by
  simp only [isGo, updN_s, isGo_congr (f := updN f d q) (h := f) (d := d) (x := x) (fun k hk => updN_n (by omega))]
set_option maxHeartbeats 4000000 in
set_option maxRecDepth 100000 in
theorem tX3_takeDemand {g : jG} (hN : 84 ≤ gN g) {σ : Sg} {i p q s : Nat} {a : ND} (hi : i < 2) (hI : NetI σ (3 + 9 * i) a) (hn : nN a ≤ 7) (hm : nD a ≤ 6) (hp : p < 100) (hq : q < 100) (hs : s < 100) : MS g yX3_takeDemand cX3_takeDemand 4 (some .boolean) rmX3_takeDemand [.ref (gad g (3 + 9 * i)), .int (nI (p)), .int (nI (q)), .int (nI (s))] σ (fun r σ' => (r = nI 1 ∧ okD a p q s ∧ (∀ j n, ¬ (3 + 9 * i ≤ j ∧ j ≤ 3 + 9 * i + 8) → σ' j n = σ j n) ∧ NetI σ' (3 + 9 * i) (ndD a p q s)) ∨ (r = nI 0 ∧ ¬ okD a p q s ∧ σ' = σ)) := by
  refine MJ_of (by decide) (Nat.le_of_ble_eq_true rfl) (List.forall_mem_cons.mpr ⟨rfl, List.forall_mem_cons.mpr ⟨rfl, List.forall_mem_cons.mpr ⟨rfl, List.forall_mem_cons.mpr ⟨rfl, fun _ h => absurd h List.not_mem_nil⟩⟩⟩⟩) ?_
  intro κ M
  have C := M.1
  show J g κ 4 0 [some (.ref (gad g (3 + 9 * i))), some (.int (nI (p))), some (.int (nI (q))), some (.int (nI (s)))] [] σ
  refine j_aload_n C dX3_takeDemand_0 rfl rfl ?_
  refine j_get C flX3_44 dX3_takeDemand_1 (by omega) (cf_net (by omega) _) rfl ?_
  refine j_top (hI.d) ?_
  refine j_bipush (v := nI 6) C dX3_takeDemand_4 rfl ?_
  refine j_icmpn_ge (tgt := 25) C dX3_takeDemand_6 rfl (by omega) (by omega) (fun h6 => ?_) (fun h6 => ?_)
  · refine j_iconst (v := nI 0) C dX3_takeDemand_25 rfl ?_
    refine j_retz M dX3_takeDemand_26 rfl ?_
    exact Or.inr ⟨rfl, (by unfold okD; omega), rfl⟩
  · refine j_aload_n C dX3_takeDemand_9 rfl rfl ?_
    refine j_iload_n C dX3_takeDemand_10 rfl rfl ?_
    refine j_iload_n C dX3_takeDemand_11 rfl rfl ?_
    refine j_calli (As := [.int (nI (p)), .int (nI (q))]) (rest := []) C (tX3_areTwoNodes hN hi hI.n hn (by omega) (by omega)) cdX3_areTwoNodes mlX3_47 dX3_takeDemand_12 (by decide) (by decide) (by omega) (cf_net (by omega) _) rfl rfl rfl rfl (Nat.le_of_ble_eq_true rfl) (fun r2 τ1 hp3 => ?_)
    obtain ⟨hs0, hc⟩ := hp3
    replace hs0 := hs0.symm
    subst hs0
    rcases hc with ⟨rfl, hA⟩ | ⟨rfl, hA⟩
    · refine j_ifn_eq (tgt := 25) C dX3_takeDemand_15 rfl (by omega) (fun h => absurd h (by decide)) (fun _ => ?_)
      refine j_iload_n C dX3_takeDemand_18 rfl rfl ?_
      refine j_calls (As := [.int (nI (s))]) (rest := []) C (tX3_isSize hN (nI s)) cdX3_isSize msX3_51 dX3_takeDemand_19 (by decide) (by decide) rfl rfl (Nat.le_of_ble_eq_true rfl) (fun r5 τ4 hp6 => ?_)
      rw [ex_rng (by omega) (by omega)] at hp6
      obtain ⟨hs0, hc⟩ := hp6
      replace hs0 := hs0.symm
      subst hs0
      rcases hc with ⟨rfl, hB⟩ | ⟨rfl, hB⟩
      · refine j_ifn_ne (tgt := 27) C dX3_takeDemand_22 rfl (by omega) (fun _ => ?_) (fun h => absurd h (by decide))
        refine j_aload_n C dX3_takeDemand_27 rfl rfl ?_
        refine j_get C flX3_24 dX3_takeDemand_28 (by omega) (cf_net (by omega) _) rfl ?_
        refine j_aload_n C dX3_takeDemand_31 rfl rfl ?_
        refine j_get C flX3_44 dX3_takeDemand_32 (by omega) (cf_net (by omega) _) rfl ?_
        refine j_top (hI.d) ?_
        refine j_iload_n C dX3_takeDemand_35 rfl rfl ?_
        refine j_iast' C dX3_takeDemand_36 (by omega) (cf_netD (by omega) (by omega) (by omega)) (by decide) (by omega) (fun τ7 hf8 hv9 => ?_)
        refine j_aload_n C dX3_takeDemand_37 rfl rfl ?_
        refine j_get C flX3_27 dX3_takeDemand_38 (by omega) (cf_net (by omega) _) rfl ?_
        refine j_aload_n C dX3_takeDemand_41 rfl rfl ?_
        refine j_get C flX3_44 dX3_takeDemand_42 (by omega) (cf_net (by omega) _) rfl ?_
        refine j_top ((hf8 _ _ (by omega)).trans (hI.d)) ?_
        refine j_iload_n C dX3_takeDemand_45 rfl rfl ?_
        refine j_iast' C dX3_takeDemand_46 (by omega) (cf_netD (by omega) (by omega) (by omega)) (by decide) (by omega) (fun τ10 hf11 hv12 => ?_)
        refine j_aload_n C dX3_takeDemand_47 rfl rfl ?_
        refine j_get C flX3_30 dX3_takeDemand_48 (by omega) (cf_net (by omega) _) rfl ?_
        refine j_aload_n C dX3_takeDemand_51 rfl rfl ?_
        refine j_get C flX3_44 dX3_takeDemand_52 (by omega) (cf_net (by omega) _) rfl ?_
        refine j_top ((hf11 _ _ (by omega)).trans ((hf8 _ _ (by omega)).trans (hI.d))) ?_
        refine j_iload_n C dX3_takeDemand_55 rfl rfl ?_
        refine j_iast' C dX3_takeDemand_56 (by omega) (cf_netD (by omega) (by omega) (by omega)) (by decide) (by omega) (fun τ13 hf14 hv15 => ?_)
        refine j_aload_n C dX3_takeDemand_57 rfl rfl ?_
        refine j_get C flX3_33 dX3_takeDemand_58 (by omega) (cf_net (by omega) _) rfl ?_
        refine j_iload_n C dX3_takeDemand_61 rfl rfl ?_
        refine j_iconst (v := nI 1) C dX3_takeDemand_62 rfl ?_
        refine j_zast' C dX3_takeDemand_63 (by omega) (cf_netZ (by omega)) (by decide) (by omega) rfl (fun τ16 hf17 hv18 => ?_)
        refine j_aload_n C dX3_takeDemand_64 rfl rfl ?_
        refine j_dup C dX3_takeDemand_65 rfl ?_
        refine j_get C flX3_44 dX3_takeDemand_66 (by omega) (cf_net (by omega) _) rfl ?_
        refine j_top ((hf17 _ _ (by omega)).trans ((hf14 _ _ (by omega)).trans ((hf11 _ _ (by omega)).trans ((hf8 _ _ (by omega)).trans (hI.d))))) ?_
        refine j_iconst (v := nI 1) C dX3_takeDemand_69 rfl ?_
        refine j_iadd C dX3_takeDemand_70 ?_
        refine j_top (nI_add _ _) ?_
        refine j_put' C fpX3_44 dX3_takeDemand_71 (by omega) (fun f => cf_net (by omega) f) rfl (Nat.le_of_ble_eq_true rfl) rfl rfl (fun τ19 hf20 hv21 => ?_)
        refine j_iconst (v := nI 1) C dX3_takeDemand_74 rfl ?_
        refine j_retz M dX3_takeDemand_75 rfl ?_
        refine Or.inl ⟨rfl, ⟨by omega, by omega, by omega, by omega, by omega, by omega⟩, (fun j n h => by rw [hf20 _ _ (by omega), hf17 _ _ (by omega), hf14 _ _ (by omega), hf11 _ _ (by omega), hf8 _ _ (by omega)]), ⟨by rw [hf20 _ _ (by omega), hf17 _ _ (by omega), hf14 _ _ (by omega), hf11 _ _ (by omega), hf8 _ _ (by omega)]; exact hI.n, by rw [hf20 _ _ (by omega), hf17 _ _ (by omega), hf14 _ _ (by omega), hf11 _ _ (by omega), hf8 _ _ (by omega)]; exact hI.m, by assumption⟩, fun l hl => ?_, fun d hd => ?_, fun x hx => ?_⟩
        · refine ⟨?_, ?_, ?_, ?_⟩
          · rw [hf20 _ _ (by omega), hf17 _ _ (by omega), hf14 _ _ (by omega), hf11 _ _ (by omega), hf8 _ _ (by omega)]; exact hI.fr hl
          · rw [hf20 _ _ (by omega), hf17 _ _ (by omega), hf14 _ _ (by omega), hf11 _ _ (by omega), hf8 _ _ (by omega)]; exact hI.to hl
          · rw [hf20 _ _ (by omega), hf17 _ _ (by omega), hf14 _ _ (by omega), hf11 _ _ (by omega), hf8 _ _ (by omega)]; exact hI.rm hl
          · rw [hf20 _ _ (by omega), hf17 _ _ (by omega), hf14 _ _ (by omega), hf11 _ _ (by omega), hf8 _ _ (by omega)]; exact hI.tw hl
        · have hd' : d < nD a + 1 := hd
          by_cases e : d = nD a
          · subst e
            refine ⟨?_, ?_, ?_⟩
            · rw [hf20 _ _ (by omega), hf17 _ _ (by omega), hf14 _ _ (by omega), hf11 _ _ (by omega)]; show _ = nI (updN _ _ _ _); rw [updN_s]; assumption
            · rw [hf20 _ _ (by omega), hf17 _ _ (by omega), hf14 _ _ (by omega)]; show _ = nI (updN _ _ _ _); rw [updN_s]; assumption
            · rw [hf20 _ _ (by omega), hf17 _ _ (by omega)]; show _ = nI (updN _ _ _ _); rw [updN_s]; assumption
          · refine ⟨?_, ?_, ?_⟩
            · rw [hf20 _ _ (by omega), hf17 _ _ (by omega), hf14 _ _ (by omega), hf11 _ _ (by omega), hf8 _ _ (by omega)]; show _ = nI (updN _ _ _ _); rw [updN_n e]; exact hI.st (by omega)
            · rw [hf20 _ _ (by omega), hf17 _ _ (by omega), hf14 _ _ (by omega), hf11 _ _ (by omega), hf8 _ _ (by omega)]; show _ = nI (updN _ _ _ _); rw [updN_n e]; exact hI.go (by omega)
            · rw [hf20 _ _ (by omega), hf17 _ _ (by omega), hf14 _ _ (by omega), hf11 _ _ (by omega), hf8 _ _ (by omega)]; show _ = nI (updN _ _ _ _); rw [updN_n e]; exact hI.sz (by omega)
        · show _ = bI (isGo (updN (nGo a) (nD a) q) (nD a + 1) x)
          rw [isGo_upd]
          by_cases e : x = q
          · subst e
            rw [hf20 _ _ (by omega), beq_self_eq_true, Bool.or_true]; assumption
          · rw [hf20 _ _ (by omega), hf17 _ _ (by omega), hf14 _ _ (by omega), hf11 _ _ (by omega), hf8 _ _ (by omega)]; rw [show (q == x) = false from beq_false_of_ne (fun z => e z.symm), Bool.or_false]; exact hI.gl hx
      · refine j_ifn_ne (tgt := 27) C dX3_takeDemand_22 rfl (by omega) (fun h => absurd h (by decide)) (fun _ => ?_)
        refine j_iconst (v := nI 0) C dX3_takeDemand_25 rfl ?_
        refine j_retz M dX3_takeDemand_26 rfl ?_
        exact Or.inr ⟨rfl, (by unfold okD; omega), rfl⟩
    · refine j_ifn_eq (tgt := 25) C dX3_takeDemand_15 rfl (by omega) (fun _ => ?_) (fun h => absurd h (by decide))
      refine j_iconst (v := nI 0) C dX3_takeDemand_25 rfl ?_
      refine j_retz M dX3_takeDemand_26 rfl ?_
      exact Or.inr ⟨rfl, (by unfold okD; omega), rfl⟩
end
section
set_option maxHeartbeats 4000000 in
set_option maxRecDepth 100000 in
theorem tX5_takeNumbers {g : jG} (hN : 84 ≤ gN g) {σ : Sg} {s e : Nat} (hs : s ≤ e) (he : e ≤ 200) : MS g yX5_takeNumbers cX5_takeNumbers 9 (some .int) rmX5_takeNumbers [.ref (gad g (21)), .ref (gad g (1)), .int (nI (s)), .int (nI (e))] σ (fun r σ' => (∀ j n, ¬ (j = 22) → σ' j n = σ j n) ∧ ((scan (σ 2) e (e + 1 - s) s 0 0 [] = none ∧ r = -1) ∨ ∃ vs : List Nat, scan (σ 2) e (e + 1 - s) s 0 0 [] = some vs ∧ r = nI vs.length ∧ vs.length ≤ 4 ∧ (∀ v ∈ vs, v < 100) ∧ ∀ i, i < vs.length → σ' 22 i = nI (vs.getD i 0))) := by
  refine MJ_of (by decide) (Nat.le_of_ble_eq_true rfl) (List.forall_mem_cons.mpr ⟨rfl, List.forall_mem_cons.mpr ⟨rfl, List.forall_mem_cons.mpr ⟨rfl, List.forall_mem_cons.mpr ⟨rfl, fun _ h => absurd h List.not_mem_nil⟩⟩⟩⟩) ?_
  intro κ M
  have C := M.1
  show J g κ 9 0 [some (.ref (gad g (21))), some (.ref (gad g (1))), some (.int (nI (s))), some (.int (nI (e))), none, none, none, none, none] [] σ
  have lp : ∀ (k : Nat) (acc : List Nat) (fg v at_ : Nat) (σ1 : Sg), e + 1 - at_ = k → s ≤ at_ → at_ ≤ e + 1 → acc.length ≤ 4 → fg ≤ 2 → (fg = 0 → v = 0) → (fg = 1 → v ≤ 9) → v ≤ 99 → (∀ x ∈ acc, x < 100) → scan (σ 2) e k at_ fg v acc = scan (σ 2) e (e + 1 - s) s 0 0 [] → (∀ j n, ¬ (j = 22) → σ1 j n = σ j n) → (∀ i, i < acc.length → σ1 22 i = nI (acc.getD i 0)) → J g κ 9 12 [some (.ref (gad g (21))), some (.ref (gad g (1))), some (.int (nI (s))), some (.int (nI (e))), some (.int (nI (acc.length))), some (.int (nI (fg))), some (.int (nI (v))), some (.int (nI (at_))), none] [] σ1 := by
    intro k
    induction k using Nat.strongRecOn with
    | _ k ih =>
      intro acc fg v at_ σ1 hk hs0 hat hac hfg hv0 hv1 hv99 hal hsc hf hnum
      refine j_iload C dX5_takeNumbers_12 rfl ?_
      refine j_iload_n C dX5_takeNumbers_14 rfl rfl ?_
      refine j_icmpn_gt (tgt := 126) C dX5_takeNumbers_15 rfl (by omega) (by omega) (fun h15 => ?_) (fun h15 => ?_)
      · refine j_iload C dX5_takeNumbers_126 rfl ?_
        refine j_ret M dX5_takeNumbers_128 ?_
        refine ⟨hf, Or.inr ⟨acc, ?_, rfl, hac, hal, hnum⟩⟩
        rw [← hsc, show k = 0 by omega]
        rfl
      · refine j_iload C dX5_takeNumbers_18 rfl ?_
        refine j_iload_n C dX5_takeNumbers_20 rfl rfl ?_
        refine j_icmpn_ge (tgt := 34) C dX5_takeNumbers_21 rfl (by omega) (by omega) (fun h21 => ?_) (fun h21 => ?_)
        · refine j_bipush (v := nI 44) C dX5_takeNumbers_34 rfl ?_
          refine j_istore (L' := [some (.ref (gad g (21))), some (.ref (gad g (1))), some (.int (nI (s))), some (.int (nI (e))), some (.int (nI (acc.length))), some (.int (nI (fg))), some (.int (nI (v))), some (.int (nI (at_))), some (.int (nI (44)))]) C dX5_takeNumbers_36 (by decide) rfl ?_
          refine j_iload C dX5_takeNumbers_38 rfl ?_
          refine j_bipush (v := nI 44) C dX5_takeNumbers_40 rfl ?_
          refine j_icmpn_ne (tgt := 79) C dX5_takeNumbers_42 rfl (by omega) (by omega) (fun h => absurd h (by decide)) (fun _ => ?_)
          refine j_iload C dX5_takeNumbers_45 rfl ?_
          refine j_ifn_eq (tgt := 56) C dX5_takeNumbers_47 rfl (by omega) (fun h47 => ?_) (fun h47 => ?_)
          · refine j_iconst (v := -1) C dX5_takeNumbers_56 rfl ?_
            refine j_ret M dX5_takeNumbers_57 ?_
            refine ⟨hf, Or.inl ⟨?_, rfl⟩⟩
            rw [← hsc, show k = (e - at_) + 1 by omega]
            first | exact scan_bad1 (fun q => by first | assumption | omega) (Or.inl (by omega)) | exact scan_bad1 (fun q => by first | assumption | omega) (Or.inr (by omega))
          · refine j_iload C dX5_takeNumbers_50 rfl ?_
            refine j_iconst (v := nI 4) C dX5_takeNumbers_52 rfl ?_
            refine j_icmpn_lt (tgt := 58) C dX5_takeNumbers_53 rfl (by omega) (by omega) (fun h53 => ?_) (fun h53 => ?_)
            · refine j_aload_n C dX5_takeNumbers_58 rfl rfl ?_
              refine j_get C flX5_11 dX5_takeNumbers_59 (Nat.lt_of_lt_of_le (by decide) hN) rfl rfl ?_
              refine j_iload C dX5_takeNumbers_62 rfl ?_
              refine j_iload C dX5_takeNumbers_64 rfl ?_
              refine j_iast' C dX5_takeNumbers_66 (Nat.lt_of_lt_of_le (by decide) hN) (fun _ => rfl) (by decide) (by omega) (fun τ1 hf2 hv3 => ?_)
              refine j_iinc (L' := [some (.ref (gad g (21))), some (.ref (gad g (1))), some (.int (nI (s))), some (.int (nI (e))), some (.int (nI (acc.length + 1))), some (.int (nI (fg))), some (.int (nI (v))), some (.int (nI (at_))), some (.int (nI (44)))]) C dX5_takeNumbers_67 rfl (nI_inc _) (by decide) rfl ?_
              refine j_iconst (v := nI 0) C dX5_takeNumbers_70 rfl ?_
              refine j_istore (L' := [some (.ref (gad g (21))), some (.ref (gad g (1))), some (.int (nI (s))), some (.int (nI (e))), some (.int (nI (acc.length + 1))), some (.int (nI (0))), some (.int (nI (v))), some (.int (nI (at_))), some (.int (nI (44)))]) C dX5_takeNumbers_71 (by decide) rfl ?_
              refine j_iconst (v := nI 0) C dX5_takeNumbers_73 rfl ?_
              refine j_istore (L' := [some (.ref (gad g (21))), some (.ref (gad g (1))), some (.int (nI (s))), some (.int (nI (e))), some (.int (nI (acc.length + 1))), some (.int (nI (0))), some (.int (nI (0))), some (.int (nI (at_))), some (.int (nI (44)))]) C dX5_takeNumbers_74 (by decide) rfl ?_
              refine j_goto (tgt := 120) C dX5_takeNumbers_76 rfl ?_
              refine j_iinc (L' := [some (.ref (gad g (21))), some (.ref (gad g (1))), some (.int (nI (s))), some (.int (nI (e))), some (.int (nI (acc.length + 1))), some (.int (nI (0))), some (.int (nI (0))), some (.int (nI (at_ + 1))), some (.int (nI (44)))]) C dX5_takeNumbers_120 rfl (nI_inc _) (by decide) rfl ?_
              refine j_goto (tgt := 12) C dX5_takeNumbers_123 rfl ?_
              refine J_clr 8 (L' := [some (.ref (gad g (21))), some (.ref (gad g (1))), some (.int (nI (s))), some (.int (nI (e))), some (.int (nI (acc.length + 1))), some (.int (nI (0))), some (.int (nI (0))), some (.int (nI (at_ + 1))), none]) rfl ?_
              refine J_loc (L' := [some (.ref (gad g (21))), some (.ref (gad g (1))), some (.int (nI (s))), some (.int (nI (e))), some (.int (nI ((acc ++ [v]).length))), some (.int (nI (0))), some (.int (nI (0))), some (.int (nI (at_ + 1))), none]) (by rw [List.length_append]; rfl) ?_
              refine ih (e + 1 - (at_ + 1)) (by omega) (acc ++ [v]) 0 0 (at_ + 1) τ1 rfl (by omega) (by omega) (by rw [List.length_append]; show acc.length + 1 ≤ 4; omega) (by omega) (fun _ => rfl) (by omega) (by omega) (fun x hx => ?_) ?_ (fun j n h => by rw [hf2 _ _ (by omega)]; exact hf j n h) (fun i hi => ?_)
              · rcases List.mem_append.mp hx with h | h
                · exact hal x h
                · rw [List.mem_singleton.mp h]; omega
              · rw [← hsc, show k = (e + 1 - (at_ + 1)) + 1 by omega]
                exact (scan_num (fun q => by first | assumption | omega) (by omega) (by omega)).symm
              · rw [List.length_append] at hi
                have hi' : i < acc.length + 1 := hi
                by_cases q : i = acc.length
                · subst q
                  rw [getD_snoc]
                  assumption
                · rw [hf2 _ _ (by omega), getD_app (by omega)]
                  exact hnum i (by omega)
            · refine j_iconst (v := -1) C dX5_takeNumbers_56 rfl ?_
              refine j_ret M dX5_takeNumbers_57 ?_
              refine ⟨hf, Or.inl ⟨?_, rfl⟩⟩
              rw [← hsc, show k = (e - at_) + 1 by omega]
              first | exact scan_bad1 (fun q => by first | assumption | omega) (Or.inl (by omega)) | exact scan_bad1 (fun q => by first | assumption | omega) (Or.inr (by omega))
        · refine j_aload_n C dX5_takeNumbers_24 rfl rfl ?_
          refine j_get C flX5_26 dX5_takeNumbers_25 (Nat.lt_of_lt_of_le (by decide) hN) rfl rfl ?_
          refine j_iload C dX5_takeNumbers_28 rfl ?_
          refine j_iald C dX5_takeNumbers_30 (Nat.lt_of_lt_of_le (by decide) hN) (fun _ => rfl) (by decide) (by omega) ?_
          refine j_top (hf _ _ (by omega)) ?_
          refine j_goto (tgt := 36) C dX5_takeNumbers_31 rfl ?_
          refine j_istore (L' := [some (.ref (gad g (21))), some (.ref (gad g (1))), some (.int (nI (s))), some (.int (nI (e))), some (.int (nI (acc.length))), some (.int (nI (fg))), some (.int (nI (v))), some (.int (nI (at_))), some (.int (σ 2 (at_)))]) C dX5_takeNumbers_36 (by decide) rfl ?_
          refine j_iload C dX5_takeNumbers_38 rfl ?_
          refine j_bipush (v := nI 44) C dX5_takeNumbers_40 rfl ?_
          refine j_icmp_ne (tgt := 79) C dX5_takeNumbers_42 rfl (fun h42 => ?_) (fun h42 => ?_)
          · refine j_iload C dX5_takeNumbers_79 rfl ?_
            refine j_bipush (v := nI 48) C dX5_takeNumbers_81 rfl ?_
            refine j_icmp_lt (tgt := 118) C dX5_takeNumbers_83 rfl (fun h83 => ?_) (fun h83 => ?_)
            · refine j_iconst (v := -1) C dX5_takeNumbers_118 rfl ?_
              refine j_ret M dX5_takeNumbers_119 ?_
              refine ⟨hf, Or.inl ⟨?_, rfl⟩⟩
              rw [← hsc, show k = (e - at_) + 1 by omega]
              exact scan_bad2 (by omega) h42 (fun q => by first | exact absurd q.1 (Int32.not_le.mpr (by assumption)) | exact absurd q.2.1 (Int32.not_le.mpr (by assumption)) | (have := q.2.2; omega))
            · refine j_iload C dX5_takeNumbers_86 rfl ?_
              refine j_bipush (v := nI 57) C dX5_takeNumbers_88 rfl ?_
              refine j_icmp_gt (tgt := 118) C dX5_takeNumbers_90 rfl (fun h90 => ?_) (fun h90 => ?_)
              · refine j_iconst (v := -1) C dX5_takeNumbers_118 rfl ?_
                refine j_ret M dX5_takeNumbers_119 ?_
                refine ⟨hf, Or.inl ⟨?_, rfl⟩⟩
                rw [← hsc, show k = (e - at_) + 1 by omega]
                exact scan_bad2 (by omega) h42 (fun q => by first | exact absurd q.1 (Int32.not_le.mpr (by assumption)) | exact absurd q.2.1 (Int32.not_le.mpr (by assumption)) | (have := q.2.2; omega))
              · refine j_iload C dX5_takeNumbers_93 rfl ?_
                refine j_iconst (v := nI 2) C dX5_takeNumbers_95 rfl ?_
                refine j_icmpn_ge (tgt := 118) C dX5_takeNumbers_96 rfl (by omega) (by omega) (fun h96 => ?_) (fun h96 => ?_)
                · refine j_iconst (v := -1) C dX5_takeNumbers_118 rfl ?_
                  refine j_ret M dX5_takeNumbers_119 ?_
                  refine ⟨hf, Or.inl ⟨?_, rfl⟩⟩
                  rw [← hsc, show k = (e - at_) + 1 by omega]
                  exact scan_bad2 (by omega) h42 (fun q => by first | exact absurd q.1 (Int32.not_le.mpr (by assumption)) | exact absurd q.2.1 (Int32.not_le.mpr (by assumption)) | (have := q.2.2; omega))
                · refine j_bipush (v := nI 10) C dX5_takeNumbers_99 rfl ?_
                  refine j_iload C dX5_takeNumbers_101 rfl ?_
                  refine j_imul C dX5_takeNumbers_103 ?_
                  refine j_top (pk_mul _ _) ?_
                  refine j_iload C dX5_takeNumbers_104 rfl ?_
                  refine j_iadd C dX5_takeNumbers_106 ?_
                  refine j_bipush (v := nI 48) C dX5_takeNumbers_107 rfl ?_
                  refine j_isub C dX5_takeNumbers_109 ?_
                  refine j_top (dig_val (Int32.not_lt.mp h83) (Int32.not_lt.mp h90)) ?_
                  refine j_istore (L' := [some (.ref (gad g (21))), some (.ref (gad g (1))), some (.int (nI (s))), some (.int (nI (e))), some (.int (nI (acc.length))), some (.int (nI (fg))), some (.int (nI (10 * v + ((σ 2 (at_)).toInt - 48).toNat))), some (.int (nI (at_))), some (.int (σ 2 (at_)))]) C dX5_takeNumbers_110 (by decide) rfl ?_
                  refine j_iinc (L' := [some (.ref (gad g (21))), some (.ref (gad g (1))), some (.int (nI (s))), some (.int (nI (e))), some (.int (nI (acc.length))), some (.int (nI (fg + 1))), some (.int (nI (10 * v + ((σ 2 (at_)).toInt - 48).toNat))), some (.int (nI (at_))), some (.int (σ 2 (at_)))]) C dX5_takeNumbers_112 rfl (nI_inc _) (by decide) rfl ?_
                  refine j_goto (tgt := 120) C dX5_takeNumbers_115 rfl ?_
                  refine j_iinc (L' := [some (.ref (gad g (21))), some (.ref (gad g (1))), some (.int (nI (s))), some (.int (nI (e))), some (.int (nI (acc.length))), some (.int (nI (fg + 1))), some (.int (nI (10 * v + ((σ 2 (at_)).toInt - 48).toNat))), some (.int (nI (at_ + 1))), some (.int (σ 2 (at_)))]) C dX5_takeNumbers_120 rfl (nI_inc _) (by decide) rfl ?_
                  refine j_goto (tgt := 12) C dX5_takeNumbers_123 rfl ?_
                  refine J_clr 8 (L' := [some (.ref (gad g (21))), some (.ref (gad g (1))), some (.int (nI (s))), some (.int (nI (e))), some (.int (nI (acc.length))), some (.int (nI (fg + 1))), some (.int (nI (10 * v + ((σ 2 (at_)).toInt - 48).toNat))), some (.int (nI (at_ + 1))), none]) rfl ?_
                  have hd9 := dig_lt (Int32.not_lt.mp h83) (Int32.not_lt.mp h90)
                  refine ih (e + 1 - (at_ + 1)) (by omega) acc (fg + 1) _ (at_ + 1) σ1 rfl (by omega) (by omega) hac (by omega) (by omega) (by omega) (by omega) hal ?_ hf hnum
                  rw [← hsc, show k = (e + 1 - (at_ + 1)) + 1 by omega]
                  exact (scan_dig (by omega) h42 (Int32.not_lt.mp h83) (Int32.not_lt.mp h90) (by omega)).symm
          · refine j_iload C dX5_takeNumbers_45 rfl ?_
            refine j_ifn_eq (tgt := 56) C dX5_takeNumbers_47 rfl (by omega) (fun h47 => ?_) (fun h47 => ?_)
            · refine j_iconst (v := -1) C dX5_takeNumbers_56 rfl ?_
              refine j_ret M dX5_takeNumbers_57 ?_
              refine ⟨hf, Or.inl ⟨?_, rfl⟩⟩
              rw [← hsc, show k = (e - at_) + 1 by omega]
              first | exact scan_bad1 (fun q => by first | assumption | omega) (Or.inl (by omega)) | exact scan_bad1 (fun q => by first | assumption | omega) (Or.inr (by omega))
            · refine j_iload C dX5_takeNumbers_50 rfl ?_
              refine j_iconst (v := nI 4) C dX5_takeNumbers_52 rfl ?_
              refine j_icmpn_lt (tgt := 58) C dX5_takeNumbers_53 rfl (by omega) (by omega) (fun h53 => ?_) (fun h53 => ?_)
              · refine j_aload_n C dX5_takeNumbers_58 rfl rfl ?_
                refine j_get C flX5_11 dX5_takeNumbers_59 (Nat.lt_of_lt_of_le (by decide) hN) rfl rfl ?_
                refine j_iload C dX5_takeNumbers_62 rfl ?_
                refine j_iload C dX5_takeNumbers_64 rfl ?_
                refine j_iast' C dX5_takeNumbers_66 (Nat.lt_of_lt_of_le (by decide) hN) (fun _ => rfl) (by decide) (by omega) (fun τ4 hf5 hv6 => ?_)
                refine j_iinc (L' := [some (.ref (gad g (21))), some (.ref (gad g (1))), some (.int (nI (s))), some (.int (nI (e))), some (.int (nI (acc.length + 1))), some (.int (nI (fg))), some (.int (nI (v))), some (.int (nI (at_))), some (.int (σ 2 (at_)))]) C dX5_takeNumbers_67 rfl (nI_inc _) (by decide) rfl ?_
                refine j_iconst (v := nI 0) C dX5_takeNumbers_70 rfl ?_
                refine j_istore (L' := [some (.ref (gad g (21))), some (.ref (gad g (1))), some (.int (nI (s))), some (.int (nI (e))), some (.int (nI (acc.length + 1))), some (.int (nI (0))), some (.int (nI (v))), some (.int (nI (at_))), some (.int (σ 2 (at_)))]) C dX5_takeNumbers_71 (by decide) rfl ?_
                refine j_iconst (v := nI 0) C dX5_takeNumbers_73 rfl ?_
                refine j_istore (L' := [some (.ref (gad g (21))), some (.ref (gad g (1))), some (.int (nI (s))), some (.int (nI (e))), some (.int (nI (acc.length + 1))), some (.int (nI (0))), some (.int (nI (0))), some (.int (nI (at_))), some (.int (σ 2 (at_)))]) C dX5_takeNumbers_74 (by decide) rfl ?_
                refine j_goto (tgt := 120) C dX5_takeNumbers_76 rfl ?_
                refine j_iinc (L' := [some (.ref (gad g (21))), some (.ref (gad g (1))), some (.int (nI (s))), some (.int (nI (e))), some (.int (nI (acc.length + 1))), some (.int (nI (0))), some (.int (nI (0))), some (.int (nI (at_ + 1))), some (.int (σ 2 (at_)))]) C dX5_takeNumbers_120 rfl (nI_inc _) (by decide) rfl ?_
                refine j_goto (tgt := 12) C dX5_takeNumbers_123 rfl ?_
                refine J_clr 8 (L' := [some (.ref (gad g (21))), some (.ref (gad g (1))), some (.int (nI (s))), some (.int (nI (e))), some (.int (nI (acc.length + 1))), some (.int (nI (0))), some (.int (nI (0))), some (.int (nI (at_ + 1))), none]) rfl ?_
                refine J_loc (L' := [some (.ref (gad g (21))), some (.ref (gad g (1))), some (.int (nI (s))), some (.int (nI (e))), some (.int (nI ((acc ++ [v]).length))), some (.int (nI (0))), some (.int (nI (0))), some (.int (nI (at_ + 1))), none]) (by rw [List.length_append]; rfl) ?_
                refine ih (e + 1 - (at_ + 1)) (by omega) (acc ++ [v]) 0 0 (at_ + 1) τ4 rfl (by omega) (by omega) (by rw [List.length_append]; show acc.length + 1 ≤ 4; omega) (by omega) (fun _ => rfl) (by omega) (by omega) (fun x hx => ?_) ?_ (fun j n h => by rw [hf5 _ _ (by omega)]; exact hf j n h) (fun i hi => ?_)
                · rcases List.mem_append.mp hx with h | h
                  · exact hal x h
                  · rw [List.mem_singleton.mp h]; omega
                · rw [← hsc, show k = (e + 1 - (at_ + 1)) + 1 by omega]
                  exact (scan_num (fun q => by first | assumption | omega) (by omega) (by omega)).symm
                · rw [List.length_append] at hi
                  have hi' : i < acc.length + 1 := hi
                  by_cases q : i = acc.length
                  · subst q
                    rw [getD_snoc]
                    assumption
                  · rw [hf5 _ _ (by omega), getD_app (by omega)]
                    exact hnum i (by omega)
              · refine j_iconst (v := -1) C dX5_takeNumbers_56 rfl ?_
                refine j_ret M dX5_takeNumbers_57 ?_
                refine ⟨hf, Or.inl ⟨?_, rfl⟩⟩
                rw [← hsc, show k = (e - at_) + 1 by omega]
                first | exact scan_bad1 (fun q => by first | assumption | omega) (Or.inl (by omega)) | exact scan_bad1 (fun q => by first | assumption | omega) (Or.inr (by omega))
  refine j_iconst (v := nI 0) C dX5_takeNumbers_0 rfl ?_
  refine j_istore (L' := [some (.ref (gad g (21))), some (.ref (gad g (1))), some (.int (nI (s))), some (.int (nI (e))), some (.int (nI (0))), none, none, none, none]) C dX5_takeNumbers_1 (by decide) rfl ?_
  refine j_iconst (v := nI 0) C dX5_takeNumbers_3 rfl ?_
  refine j_istore (L' := [some (.ref (gad g (21))), some (.ref (gad g (1))), some (.int (nI (s))), some (.int (nI (e))), some (.int (nI (0))), some (.int (nI (0))), none, none, none]) C dX5_takeNumbers_4 (by decide) rfl ?_
  refine j_iconst (v := nI 0) C dX5_takeNumbers_6 rfl ?_
  refine j_istore (L' := [some (.ref (gad g (21))), some (.ref (gad g (1))), some (.int (nI (s))), some (.int (nI (e))), some (.int (nI (0))), some (.int (nI (0))), some (.int (nI (0))), none, none]) C dX5_takeNumbers_7 (by decide) rfl ?_
  refine j_iload_n C dX5_takeNumbers_9 rfl rfl ?_
  refine j_istore (L' := [some (.ref (gad g (21))), some (.ref (gad g (1))), some (.int (nI (s))), some (.int (nI (e))), some (.int (nI (0))), some (.int (nI (0))), some (.int (nI (0))), some (.int (nI (s))), none]) C dX5_takeNumbers_10 (by decide) rfl ?_
  exact lp (e + 1 - s) [] 0 0 s σ rfl (Nat.le_refl _) (by omega) (by decide) (by omega) (fun _ => rfl) (by omega) (by omega) (fun x hx => absurd hx List.not_mem_nil) rfl (fun _ _ _ => rfl) (fun i hi => absurd hi (Nat.not_lt_zero _))
/-- an ITEM from s to e (a ; stands at e) behind what is read -/
def item (tx : Nat → Int32) (s e : Nat) (a : ND) : Option ND :=
  if s < e then
    match scan tx e (e + 1 - (s + 1)) (s + 1) 0 0 [] with
    | none => none
    | some vs => if tx s = nI 110 then (match vs with | [v] => (if nM a = 0 ∧ nD a = 0 ∧ 2 ≤ v ∧ v ≤ 7 then some (ndN a v) else none) | _ => none)
      else if tx s = nI 108 then (match vs with | [p, q, r, w] => (if nM a < 12 ∧ p < nN a ∧ q < nN a ∧ p ≠ q ∧ 1 ≤ r ∧ r ≤ 99 ∧ 1 ≤ w ∧ w ≤ 20 then some (ndL a p q r w) else none) | _ => none)
      else if tx s = nI 100 then (match vs with | [p, q, z] => (if nD a < 6 ∧ p < nN a ∧ q < nN a ∧ p ≠ q ∧ 1 ≤ z ∧ z ≤ 99 then some (ndD a p q z) else none) | _ => none)
      else none
  else none
theorem item_none {tx : Nat → Int32} {s e : Nat} {a : ND} (h : scan tx e (e + 1 - (s + 1)) (s + 1) 0 0 [] = none) : item tx s e a = none := by
  unfold item
  split
  · rw [h]
  · rfl
theorem item_other {tx : Nat → Int32} {s e : Nat} {a : ND} (h1 : ¬ tx s = nI 110) (h2 : ¬ tx s = nI 108) (h3 : ¬ tx s = nI 100) : item tx s e a = none := by
  unfold item
  split
  · split
    · rfl
    · first | rfl | rw [if_neg h1, if_neg h2, if_neg h3]
  · rfl
theorem item_len {tx : Nat → Int32} {s e n : Nat} {a : ND} {vs : List Nat} (h : scan tx e (e + 1 - (s + 1)) (s + 1) 0 0 [] = some vs) (hl : ¬ vs.length = n) (hn : (tx s = nI 110 ∧ n = 1) ∨ (tx s = nI 108 ∧ n = 4) ∨ (tx s = nI 100 ∧ n = 3)) : item tx s e a = none := by
  unfold item
  split
  · rw [h]
    rcases hn with ⟨h1, rfl⟩ | ⟨h1, rfl⟩ | ⟨h1, rfl⟩
    · simp only [h1, if_true]
      split
      · exact absurd rfl hl
      · rfl
    · simp only [h1, if_true]
      rw [if_neg (by decide)]
      split
      · exact absurd rfl hl
      · rfl
    · simp only [h1, if_true]
      rw [if_neg (by decide), if_neg (by decide)]
      split
      · exact absurd rfl hl
      · rfl
  · rfl
theorem item_n {tx : Nat → Int32} {s e v : Nat} {a : ND} (hse : s < e) (h : scan tx e (e + 1 - (s + 1)) (s + 1) 0 0 [] = some [v]) (h1 : tx s = nI 110) : item tx s e a = if nM a = 0 ∧ nD a = 0 ∧ 2 ≤ v ∧ v ≤ 7 then some (ndN a v) else none := by
  unfold item
  rw [if_pos hse, h]
  simp only [h1, if_true]
theorem item_l {tx : Nat → Int32} {s e p q r w : Nat} {a : ND} (hse : s < e) (h : scan tx e (e + 1 - (s + 1)) (s + 1) 0 0 [] = some [p, q, r, w]) (h1 : tx s = nI 108) : item tx s e a = if nM a < 12 ∧ p < nN a ∧ q < nN a ∧ p ≠ q ∧ 1 ≤ r ∧ r ≤ 99 ∧ 1 ≤ w ∧ w ≤ 20 then some (ndL a p q r w) else none := by
  unfold item
  rw [if_pos hse, h]
  simp only [h1, if_true]
  rw [if_neg (by decide)]
theorem item_d {tx : Nat → Int32} {s e p q z : Nat} {a : ND} (hse : s < e) (h : scan tx e (e + 1 - (s + 1)) (s + 1) 0 0 [] = some [p, q, z]) (h1 : tx s = nI 100) : item tx s e a = if nD a < 6 ∧ p < nN a ∧ q < nN a ∧ p ≠ q ∧ 1 ≤ z ∧ z ≤ 99 then some (ndD a p q z) else none := by
  unfold item
  rw [if_pos hse, h]
  simp only [h1, if_true]
  rw [if_neg (by decide), if_neg (by decide)]
set_option maxHeartbeats 4000000 in
set_option maxRecDepth 100000 in
theorem tX5_takeItem {g : jG} (hN : 84 ≤ gN g) {σ : Sg} {i s e : Nat} {a : ND} (hi : i < 2) (hs : s ≤ e) (he : e ≤ 200) (hlet : s < 200) (hI : NetI σ (3 + 9 * i) a) (hn : nN a ≤ 7) (hm : nM a ≤ 12) (hd : nD a ≤ 6) : MS g yX5_takeItem cX5_takeItem 6 (some .boolean) rmX5_takeItem [.ref (gad g (21)), .ref (gad g (1)), .int (nI (s)), .int (nI (e)), .ref (gad g (3 + 9 * i))] σ (fun r σ' => (∀ j n, ¬ (j = 22 ∨ 3 + 9 * i ≤ j ∧ j ≤ 3 + 9 * i + 8) → σ' j n = σ j n) ∧ ((item (σ 2) s e a = none ∧ r = nI 0 ∧ NetI σ' (3 + 9 * i) a) ∨ ∃ b : ND, item (σ 2) s e a = some b ∧ r = nI 1 ∧ NetI σ' (3 + 9 * i) b)) := by
  refine MJ_of (by decide) (Nat.le_of_ble_eq_true rfl) (List.forall_mem_cons.mpr ⟨rfl, List.forall_mem_cons.mpr ⟨rfl, List.forall_mem_cons.mpr ⟨rfl, List.forall_mem_cons.mpr ⟨rfl, List.forall_mem_cons.mpr ⟨rfl, fun _ h => absurd h List.not_mem_nil⟩⟩⟩⟩⟩) ?_
  intro κ M
  have C := M.1
  show J g κ 6 0 [some (.ref (gad g (21))), some (.ref (gad g (1))), some (.int (nI (s))), some (.int (nI (e))), some (.ref (gad g (3 + 9 * i))), none] [] σ
  refine j_iload_n C dX5_takeItem_0 rfl rfl ?_
  refine j_iload_n C dX5_takeItem_1 rfl rfl ?_
  refine j_icmpn_lt (tgt := 7) C dX5_takeItem_2 rfl (by omega) (by omega) (fun h2 => ?_) (fun h2 => ?_)
  · refine j_aload_n C dX5_takeItem_7 rfl rfl ?_
    refine j_aload_n C dX5_takeItem_8 rfl rfl ?_
    refine j_iload_n C dX5_takeItem_9 rfl rfl ?_
    refine j_iconst (v := nI 1) C dX5_takeItem_10 rfl ?_
    refine j_iadd C dX5_takeItem_11 ?_
    refine j_top (nI_add _ _) ?_
    refine j_iload_n C dX5_takeItem_12 rfl rfl ?_
    refine j_calli (As := [.ref (gad g (1)), .int (nI ((s + 1))), .int (nI (e))]) (rest := []) C (tX5_takeNumbers hN (s := s + 1) (e := e) (by omega) he) cdX5_takeNumbers mlX5_33 dX5_takeItem_13 (by decide) (by decide) (Nat.lt_of_lt_of_le (by decide) hN) rfl rfl rfl rfl rfl (Nat.le_of_ble_eq_true rfl) (fun r2 τ1 hp3 => ?_)
    obtain ⟨hf, hc⟩ := hp3
    have hI1 : NetI τ1 (3 + 9 * i) a := hI.kept (fun j n h1 h2 => hf j n (by omega))
    generalize τ1 = σ1 at hf hc hI1 ⊢
    generalize r2 = cn at hc ⊢
    refine j_istore (L' := [some (.ref (gad g (21))), some (.ref (gad g (1))), some (.int (nI (s))), some (.int (nI (e))), some (.ref (gad g (3 + 9 * i))), some (.int (cn))]) C dX5_takeItem_16 (by decide) rfl ?_
    have arm60 : σ 2 s = nI 110 → J g κ 6 60 [some (.ref (gad g (21))), some (.ref (gad g (1))), some (.int (nI (s))), some (.int (nI (e))), some (.ref (gad g (3 + 9 * i))), some (.int (cn))] [] σ1 := by
      intro hlt
      rcases hc with ⟨hsc, rfl⟩ | ⟨vs, hsc, rfl, hv4, hv100, hnum⟩
      · refine j_iload C dX5_takeItem_60 rfl ?_
        refine j_iconst (v := nI 1) C dX5_takeItem_62 rfl ?_
        refine j_icmp_ne (tgt := 84) C dX5_takeItem_63 rfl (fun _ => ?_) (fun h => absurd h (by decide))
        refine j_iconst (v := nI 0) C dX5_takeItem_84 rfl ?_
        refine j_retz M dX5_takeItem_85 rfl ?_
        refine ⟨(fun j n h => hf j n (by omega)), Or.inl ⟨item_none hsc, rfl, hI1⟩⟩
      · by_cases hlen : vs.length = 1
        · obtain ⟨v0, rfl⟩ : ∃ v0 : Nat, vs = [v0] := by
            match vs, hlen with | [v0], _ => exact ⟨v0, rfl⟩
          have hb0 : v0 < 100 := hv100 _ (by simp)
          replace hnum : ∀ i, i < 1 → σ1 22 i = nI ([v0].getD i 0) := hnum
          show J g κ 6 60 [some (.ref (gad g (21))), some (.ref (gad g (1))), some (.int (nI (s))), some (.int (nI (e))), some (.ref (gad g (3 + 9 * i))), some (.int (nI (1)))] [] σ1
          refine j_iload C dX5_takeItem_60 rfl ?_
          refine j_iconst (v := nI 1) C dX5_takeItem_62 rfl ?_
          refine j_icmpn_ne (tgt := 84) C dX5_takeItem_63 rfl (by omega) (by omega) (fun h => absurd h (by decide)) (fun _ => ?_)
          refine j_aload C dX5_takeItem_66 rfl ?_
          refine j_aload_n C dX5_takeItem_68 rfl rfl ?_
          refine j_get C flX5_11 dX5_takeItem_69 (Nat.lt_of_lt_of_le (by decide) hN) rfl rfl ?_
          refine j_iconst (v := nI 0) C dX5_takeItem_72 rfl ?_
          refine j_iald C dX5_takeItem_73 (Nat.lt_of_lt_of_le (by decide) hN) (fun _ => rfl) (by decide) (by omega) ?_
          refine j_top ((hnum 0 (by decide))) ?_
          refine j_calli (As := [.int (nI (v0))]) (rest := []) C (tX3_takeNodes hN hi hI1 hm hd (by omega)) cdX3_takeNodes mlX5_37 dX5_takeItem_74 (by decide) (by decide) (by omega) (cf_net (by omega) _) rfl rfl rfl rfl (Nat.le_of_ble_eq_true rfl) (fun r2 τ1 hp3 => ?_)
          rcases hp3 with ⟨rfl, hok, hfr, hI2⟩ | ⟨rfl, hok, hs2⟩
          · refine j_ifn_eq (tgt := 84) C dX5_takeItem_77 rfl (by omega) (fun h => absurd h (by decide)) (fun _ => ?_)
            refine j_iconst (v := nI 1) C dX5_takeItem_80 rfl ?_
            refine j_goto (tgt := 85) C dX5_takeItem_81 rfl ?_
            refine j_retz M dX5_takeItem_85 rfl ?_
            refine ⟨fun j n h => (hfr j n (by omega)).trans (hf j n (by omega)), Or.inr ⟨_, ?_, rfl, hI2⟩⟩
            rw [item_n (by omega) hsc hlt]
            exact if_pos hok
          · refine j_ifn_eq (tgt := 84) C dX5_takeItem_77 rfl (by omega) (fun _ => ?_) (fun h => absurd h (by decide))
            refine j_iconst (v := nI 0) C dX5_takeItem_84 rfl ?_
            refine j_retz M dX5_takeItem_85 rfl ?_
            subst hs2
            refine ⟨fun j n h => hf j n (by omega), Or.inl ⟨?_, rfl, hI1⟩⟩
            rw [item_n (by omega) hsc hlt]
            exact if_neg hok
        · have hne : ¬ vs.length = 1 := hlen
          refine j_iload C dX5_takeItem_60 rfl ?_
          refine j_iconst (v := nI 1) C dX5_takeItem_62 rfl ?_
          refine j_icmpn_ne (tgt := 84) C dX5_takeItem_63 rfl (by omega) (by omega) (fun h63 => ?_) (fun h63 => ?_)
          · refine j_iconst (v := nI 0) C dX5_takeItem_84 rfl ?_
            refine j_retz M dX5_takeItem_85 rfl ?_
            refine ⟨(fun j n h => hf j n (by omega)), Or.inl ⟨item_len hsc hlen (Or.inl ⟨hlt, rfl⟩), rfl, hI1⟩⟩
          · exact absurd h63 (fun q => hlen q)
    have arm86 : σ 2 s = nI 108 → J g κ 6 86 [some (.ref (gad g (21))), some (.ref (gad g (1))), some (.int (nI (s))), some (.int (nI (e))), some (.ref (gad g (3 + 9 * i))), some (.int (cn))] [] σ1 := by
      intro hlt
      rcases hc with ⟨hsc, rfl⟩ | ⟨vs, hsc, rfl, hv4, hv100, hnum⟩
      · refine j_iload C dX5_takeItem_86 rfl ?_
        refine j_iconst (v := nI 4) C dX5_takeItem_88 rfl ?_
        refine j_icmp_ne (tgt := 128) C dX5_takeItem_89 rfl (fun _ => ?_) (fun h => absurd h (by decide))
        refine j_iconst (v := nI 0) C dX5_takeItem_128 rfl ?_
        refine j_retz M dX5_takeItem_129 rfl ?_
        refine ⟨(fun j n h => hf j n (by omega)), Or.inl ⟨item_none hsc, rfl, hI1⟩⟩
      · by_cases hlen : vs.length = 4
        · obtain ⟨v0, v1, v2, v3, rfl⟩ : ∃ v0 v1 v2 v3 : Nat, vs = [v0, v1, v2, v3] := by
            match vs, hlen with | [v0, v1, v2, v3], _ => exact ⟨v0, v1, v2, v3, rfl⟩
          have hb0 : v0 < 100 := hv100 _ (by simp)
          have hb1 : v1 < 100 := hv100 _ (by simp)
          have hb2 : v2 < 100 := hv100 _ (by simp)
          have hb3 : v3 < 100 := hv100 _ (by simp)
          replace hnum : ∀ i, i < 4 → σ1 22 i = nI ([v0, v1, v2, v3].getD i 0) := hnum
          show J g κ 6 86 [some (.ref (gad g (21))), some (.ref (gad g (1))), some (.int (nI (s))), some (.int (nI (e))), some (.ref (gad g (3 + 9 * i))), some (.int (nI (4)))] [] σ1
          refine j_iload C dX5_takeItem_86 rfl ?_
          refine j_iconst (v := nI 4) C dX5_takeItem_88 rfl ?_
          refine j_icmpn_ne (tgt := 128) C dX5_takeItem_89 rfl (by omega) (by omega) (fun h => absurd h (by decide)) (fun _ => ?_)
          refine j_aload C dX5_takeItem_92 rfl ?_
          refine j_aload_n C dX5_takeItem_94 rfl rfl ?_
          refine j_get C flX5_11 dX5_takeItem_95 (Nat.lt_of_lt_of_le (by decide) hN) rfl rfl ?_
          refine j_iconst (v := nI 0) C dX5_takeItem_98 rfl ?_
          refine j_iald C dX5_takeItem_99 (Nat.lt_of_lt_of_le (by decide) hN) (fun _ => rfl) (by decide) (by omega) ?_
          refine j_top ((hnum 0 (by decide))) ?_
          refine j_aload_n C dX5_takeItem_100 rfl rfl ?_
          refine j_get C flX5_11 dX5_takeItem_101 (Nat.lt_of_lt_of_le (by decide) hN) rfl rfl ?_
          refine j_iconst (v := nI 1) C dX5_takeItem_104 rfl ?_
          refine j_iald C dX5_takeItem_105 (Nat.lt_of_lt_of_le (by decide) hN) (fun _ => rfl) (by decide) (by omega) ?_
          refine j_top ((hnum 1 (by decide))) ?_
          refine j_aload_n C dX5_takeItem_106 rfl rfl ?_
          refine j_get C flX5_11 dX5_takeItem_107 (Nat.lt_of_lt_of_le (by decide) hN) rfl rfl ?_
          refine j_iconst (v := nI 2) C dX5_takeItem_110 rfl ?_
          refine j_iald C dX5_takeItem_111 (Nat.lt_of_lt_of_le (by decide) hN) (fun _ => rfl) (by decide) (by omega) ?_
          refine j_top ((hnum 2 (by decide))) ?_
          refine j_aload_n C dX5_takeItem_112 rfl rfl ?_
          refine j_get C flX5_11 dX5_takeItem_113 (Nat.lt_of_lt_of_le (by decide) hN) rfl rfl ?_
          refine j_iconst (v := nI 3) C dX5_takeItem_116 rfl ?_
          refine j_iald C dX5_takeItem_117 (Nat.lt_of_lt_of_le (by decide) hN) (fun _ => rfl) (by decide) (by omega) ?_
          refine j_top ((hnum 3 (by decide))) ?_
          refine j_calli (As := [.int (nI (v0)), .int (nI (v1)), .int (nI (v2)), .int (nI (v3))]) (rest := []) C (tX3_takeLink hN hi hI1 hn hm (by omega) (by omega) (by omega) (by omega)) cdX3_takeLink mlX5_41 dX5_takeItem_118 (by decide) (by decide) (by omega) (cf_net (by omega) _) rfl rfl rfl rfl (Nat.le_of_ble_eq_true rfl) (fun r2 τ1 hp3 => ?_)
          rcases hp3 with ⟨rfl, hok, hfr, hI2⟩ | ⟨rfl, hok, hs2⟩
          · refine j_ifn_eq (tgt := 128) C dX5_takeItem_121 rfl (by omega) (fun h => absurd h (by decide)) (fun _ => ?_)
            refine j_iconst (v := nI 1) C dX5_takeItem_124 rfl ?_
            refine j_goto (tgt := 129) C dX5_takeItem_125 rfl ?_
            refine j_retz M dX5_takeItem_129 rfl ?_
            refine ⟨fun j n h => (hfr j n (by omega)).trans (hf j n (by omega)), Or.inr ⟨_, ?_, rfl, hI2⟩⟩
            rw [item_l (by omega) hsc hlt]
            exact if_pos hok
          · refine j_ifn_eq (tgt := 128) C dX5_takeItem_121 rfl (by omega) (fun _ => ?_) (fun h => absurd h (by decide))
            refine j_iconst (v := nI 0) C dX5_takeItem_128 rfl ?_
            refine j_retz M dX5_takeItem_129 rfl ?_
            subst hs2
            refine ⟨fun j n h => hf j n (by omega), Or.inl ⟨?_, rfl, hI1⟩⟩
            rw [item_l (by omega) hsc hlt]
            exact if_neg hok
        · have hne : ¬ vs.length = 4 := hlen
          refine j_iload C dX5_takeItem_86 rfl ?_
          refine j_iconst (v := nI 4) C dX5_takeItem_88 rfl ?_
          refine j_icmpn_ne (tgt := 128) C dX5_takeItem_89 rfl (by omega) (by omega) (fun h89 => ?_) (fun h89 => ?_)
          · refine j_iconst (v := nI 0) C dX5_takeItem_128 rfl ?_
            refine j_retz M dX5_takeItem_129 rfl ?_
            refine ⟨(fun j n h => hf j n (by omega)), Or.inl ⟨item_len hsc hlen (Or.inr (Or.inl ⟨hlt, rfl⟩)), rfl, hI1⟩⟩
          · exact absurd h89 (fun q => hlen q)
    have arm130 : σ 2 s = nI 100 → J g κ 6 130 [some (.ref (gad g (21))), some (.ref (gad g (1))), some (.int (nI (s))), some (.int (nI (e))), some (.ref (gad g (3 + 9 * i))), some (.int (cn))] [] σ1 := by
      intro hlt
      rcases hc with ⟨hsc, rfl⟩ | ⟨vs, hsc, rfl, hv4, hv100, hnum⟩
      · refine j_iload C dX5_takeItem_130 rfl ?_
        refine j_iconst (v := nI 3) C dX5_takeItem_132 rfl ?_
        refine j_icmp_ne (tgt := 166) C dX5_takeItem_133 rfl (fun _ => ?_) (fun h => absurd h (by decide))
        refine j_iconst (v := nI 0) C dX5_takeItem_166 rfl ?_
        refine j_retz M dX5_takeItem_167 rfl ?_
        refine ⟨(fun j n h => hf j n (by omega)), Or.inl ⟨item_none hsc, rfl, hI1⟩⟩
      · by_cases hlen : vs.length = 3
        · obtain ⟨v0, v1, v2, rfl⟩ : ∃ v0 v1 v2 : Nat, vs = [v0, v1, v2] := by
            match vs, hlen with | [v0, v1, v2], _ => exact ⟨v0, v1, v2, rfl⟩
          have hb0 : v0 < 100 := hv100 _ (by simp)
          have hb1 : v1 < 100 := hv100 _ (by simp)
          have hb2 : v2 < 100 := hv100 _ (by simp)
          replace hnum : ∀ i, i < 3 → σ1 22 i = nI ([v0, v1, v2].getD i 0) := hnum
          show J g κ 6 130 [some (.ref (gad g (21))), some (.ref (gad g (1))), some (.int (nI (s))), some (.int (nI (e))), some (.ref (gad g (3 + 9 * i))), some (.int (nI (3)))] [] σ1
          refine j_iload C dX5_takeItem_130 rfl ?_
          refine j_iconst (v := nI 3) C dX5_takeItem_132 rfl ?_
          refine j_icmpn_ne (tgt := 166) C dX5_takeItem_133 rfl (by omega) (by omega) (fun h => absurd h (by decide)) (fun _ => ?_)
          refine j_aload C dX5_takeItem_136 rfl ?_
          refine j_aload_n C dX5_takeItem_138 rfl rfl ?_
          refine j_get C flX5_11 dX5_takeItem_139 (Nat.lt_of_lt_of_le (by decide) hN) rfl rfl ?_
          refine j_iconst (v := nI 0) C dX5_takeItem_142 rfl ?_
          refine j_iald C dX5_takeItem_143 (Nat.lt_of_lt_of_le (by decide) hN) (fun _ => rfl) (by decide) (by omega) ?_
          refine j_top ((hnum 0 (by decide))) ?_
          refine j_aload_n C dX5_takeItem_144 rfl rfl ?_
          refine j_get C flX5_11 dX5_takeItem_145 (Nat.lt_of_lt_of_le (by decide) hN) rfl rfl ?_
          refine j_iconst (v := nI 1) C dX5_takeItem_148 rfl ?_
          refine j_iald C dX5_takeItem_149 (Nat.lt_of_lt_of_le (by decide) hN) (fun _ => rfl) (by decide) (by omega) ?_
          refine j_top ((hnum 1 (by decide))) ?_
          refine j_aload_n C dX5_takeItem_150 rfl rfl ?_
          refine j_get C flX5_11 dX5_takeItem_151 (Nat.lt_of_lt_of_le (by decide) hN) rfl rfl ?_
          refine j_iconst (v := nI 2) C dX5_takeItem_154 rfl ?_
          refine j_iald C dX5_takeItem_155 (Nat.lt_of_lt_of_le (by decide) hN) (fun _ => rfl) (by decide) (by omega) ?_
          refine j_top ((hnum 2 (by decide))) ?_
          refine j_calli (As := [.int (nI (v0)), .int (nI (v1)), .int (nI (v2))]) (rest := []) C (tX3_takeDemand hN hi hI1 hn hd (by omega) (by omega) (by omega)) cdX3_takeDemand mlX5_45 dX5_takeItem_156 (by decide) (by decide) (by omega) (cf_net (by omega) _) rfl rfl rfl rfl (Nat.le_of_ble_eq_true rfl) (fun r2 τ1 hp3 => ?_)
          rcases hp3 with ⟨rfl, hok, hfr, hI2⟩ | ⟨rfl, hok, hs2⟩
          · refine j_ifn_eq (tgt := 166) C dX5_takeItem_159 rfl (by omega) (fun h => absurd h (by decide)) (fun _ => ?_)
            refine j_iconst (v := nI 1) C dX5_takeItem_162 rfl ?_
            refine j_goto (tgt := 167) C dX5_takeItem_163 rfl ?_
            refine j_retz M dX5_takeItem_167 rfl ?_
            refine ⟨fun j n h => (hfr j n (by omega)).trans (hf j n (by omega)), Or.inr ⟨_, ?_, rfl, hI2⟩⟩
            rw [item_d (by omega) hsc hlt]
            exact if_pos hok
          · refine j_ifn_eq (tgt := 166) C dX5_takeItem_159 rfl (by omega) (fun _ => ?_) (fun h => absurd h (by decide))
            refine j_iconst (v := nI 0) C dX5_takeItem_166 rfl ?_
            refine j_retz M dX5_takeItem_167 rfl ?_
            subst hs2
            refine ⟨fun j n h => hf j n (by omega), Or.inl ⟨?_, rfl, hI1⟩⟩
            rw [item_d (by omega) hsc hlt]
            exact if_neg hok
        · have hne : ¬ vs.length = 3 := hlen
          refine j_iload C dX5_takeItem_130 rfl ?_
          refine j_iconst (v := nI 3) C dX5_takeItem_132 rfl ?_
          refine j_icmpn_ne (tgt := 166) C dX5_takeItem_133 rfl (by omega) (by omega) (fun h133 => ?_) (fun h133 => ?_)
          · refine j_iconst (v := nI 0) C dX5_takeItem_166 rfl ?_
            refine j_retz M dX5_takeItem_167 rfl ?_
            refine ⟨(fun j n h => hf j n (by omega)), Or.inl ⟨item_len hsc hlen (Or.inr (Or.inr ⟨hlt, rfl⟩)), rfl, hI1⟩⟩
          · exact absurd h133 (fun q => hlen q)
    refine j_aload_n C dX5_takeItem_18 rfl rfl ?_
    refine j_get C flX5_26 dX5_takeItem_19 (Nat.lt_of_lt_of_le (by decide) hN) rfl rfl ?_
    refine j_iload_n C dX5_takeItem_22 rfl rfl ?_
    refine j_iald C dX5_takeItem_23 (Nat.lt_of_lt_of_le (by decide) hN) (fun _ => rfl) (by decide) (by omega) ?_
    refine j_top (hf 2 s (by omega)) ?_
    by_cases e1 : σ 2 s = nI 110
    · rw [e1]
      exact j_lookup (tgt := 60) C dX5_takeItem_24 (by decide) rfl rfl (arm60 e1)
    · by_cases e2 : σ 2 s = nI 108
      · rw [e2]
        exact j_lookup (tgt := 86) C dX5_takeItem_24 (by decide) rfl rfl (arm86 e2)
      · by_cases e3 : σ 2 s = nI 100
        · rw [e3]
          exact j_lookup (tgt := 130) C dX5_takeItem_24 (by decide) rfl rfl (arm130 e3)
        · refine j_lookup (tgt := 168) (off := 144) C dX5_takeItem_24 (by decide) ?_ rfl ?_
          · show Op.lookupswitch.offset [(100, 106), (108, 62), (110, 36)] 144 (σ 2 s).toInt = 144
            rw [lv_osw (k := nI 100) (a := 100) e3 rfl, lv_osw (k := nI 108) (a := 108) e2 rfl, lv_osw (k := nI 110) (a := 110) e1 rfl]
            rfl
          refine j_iconst (v := nI 0) C dX5_takeItem_168 rfl ?_
          refine j_retz M dX5_takeItem_169 rfl ?_
          refine ⟨(fun j n h => hf j n (by omega)), Or.inl ⟨item_other e1 e2 e3, rfl, hI1⟩⟩
  · refine j_iconst (v := nI 0) C dX5_takeItem_5 rfl ?_
    refine j_retz M dX5_takeItem_6 rfl ?_
    refine ⟨fun _ _ _ => rfl, Or.inl ⟨?_, rfl, hI⟩⟩
    unfold item
    exact if_neg (by omega)
/-- a TEXT of len letters, read: at, start of the ITEM, what is read so far -/
def rdT (tx : Nat → Int32) (len : Nat) : Nat → Nat → Nat → ND → Int32 × ND
  | 0, _, s, a => (if s < len then nI s else -4, a)
  | k + 1, at_, s, a => if tx at_ = nI 59 then (match item tx s at_ a with | none => (nI s, a) | some b => rdT tx len k (at_ + 1) (at_ + 1) b) else rdT tx len k (at_ + 1) s a
theorem item_bd {tx : Nat → Int32} {s e : Nat} {a b : ND} (h : item tx s e a = some b) (hn : 2 ≤ nN a ∧ nN a ≤ 7) (hm : nM a ≤ 12) (hd : nD a ≤ 6) : (2 ≤ nN b ∧ nN b ≤ 7) ∧ nM b ≤ 12 ∧ nD b ≤ 6 := by
  unfold item at h
  split at h
  · split at h
    · cases h
    · split at h
      · split at h
        · split at h
          · next h1 => cases h; exact ⟨⟨h1.2.2.1, h1.2.2.2⟩, hm, hd⟩
          · cases h
        · cases h
      · split at h
        · split at h
          · split at h
            · next h1 => cases h; exact ⟨hn, h1.1, hd⟩
            · cases h
          · cases h
        · split at h
          · split at h
            · split at h
              · next h1 => cases h; exact ⟨hn, hm, h1.1⟩
              · cases h
            · cases h
          · cases h
  · cases h
set_option maxHeartbeats 4000000 in
set_option maxRecDepth 100000 in
theorem tX5_read {g : jG} (hN : 84 ≤ gN g) {σ : Sg} {i len : Nat} (hi : i < 2) (hl : σ 1 1 = nI len) (hlen : len ≤ 200) (a : ND) : MS g yX5_read cX5_read 5 (some .int) rmX5_read [.ref (gad g (21)), .ref (gad g (1)), .ref (gad g (3 + 9 * i))] σ (fun r σ' => (∀ j n, ¬ (j = 22 ∨ 3 + 9 * i ≤ j ∧ j ≤ 3 + 9 * i + 8) → σ' j n = σ j n) ∧ r = (rdT (σ 2) len len 0 0 (nd0 a)).1 ∧ NetI σ' (3 + 9 * i) (rdT (σ 2) len len 0 0 (nd0 a)).2) := by
  refine MJ_of (by decide) (Nat.le_of_ble_eq_true rfl) (List.forall_mem_cons.mpr ⟨rfl, List.forall_mem_cons.mpr ⟨rfl, List.forall_mem_cons.mpr ⟨rfl, fun _ h => absurd h List.not_mem_nil⟩⟩⟩) ?_
  intro κ M
  have C := M.1
  show J g κ 5 0 [some (.ref (gad g (21))), some (.ref (gad g (1))), some (.ref (gad g (3 + 9 * i))), none, none] [] σ
  have lp : ∀ (k : Nat) (s at_ : Nat) (b : ND) (σ1 : Sg), len - at_ = k → at_ ≤ len → s ≤ at_ → ((2 ≤ nN b ∧ nN b ≤ 7) ∧ nM b ≤ 12 ∧ nD b ≤ 6) → rdT (σ 2) len k at_ s b = rdT (σ 2) len len 0 0 (nd0 a) → (∀ j n, ¬ (j = 22 ∨ 3 + 9 * i ≤ j ∧ j ≤ 3 + 9 * i + 8) → σ1 j n = σ j n) → NetI σ1 (3 + 9 * i) b → J g κ 5 9 [some (.ref (gad g (21))), some (.ref (gad g (1))), some (.ref (gad g (3 + 9 * i))), some (.int (nI (s))), some (.int (nI (at_)))] [] σ1 := by
    intro k
    induction k using Nat.strongRecOn with
    | _ k ih =>
      intro s at_ b σ1 hk hat hs hb hrd hf hI
      refine j_iload C dX5_read_9 rfl ?_
      refine j_aload_n C dX5_read_11 rfl rfl ?_
      refine j_get C flX5_20 dX5_read_12 (Nat.lt_of_lt_of_le (by decide) hN) rfl rfl ?_
      refine j_top ((hf _ _ (by omega)).trans hl) ?_
      refine j_icmpn_ge (tgt := 55) C dX5_read_15 rfl (by omega) (by omega) (fun h15 => ?_) (fun h15 => ?_)
      · refine j_iload_n C dX5_read_55 rfl rfl ?_
        refine j_aload_n C dX5_read_56 rfl rfl ?_
        refine j_get C flX5_20 dX5_read_57 (Nat.lt_of_lt_of_le (by decide) hN) rfl rfl ?_
        refine j_top ((hf _ _ (by omega)).trans hl) ?_
        refine j_icmpn_ge (tgt := 67) C dX5_read_60 rfl (by omega) (by omega) (fun h60 => ?_) (fun h60 => ?_)
        · refine j_bipush (v := -4) C dX5_read_67 rfl ?_
          refine j_ret M dX5_read_69 ?_
          have e3 : rdT (σ 2) len len 0 0 (nd0 a) = (-4, b) := by
            rw [← hrd, show k = 0 by omega, rdT]
            first | rw [if_pos (by omega)] | rw [if_neg (by omega)]
          rw [e3]
          exact ⟨hf, rfl, hI⟩
        · refine j_iload_n C dX5_read_63 rfl rfl ?_
          refine j_goto (tgt := 69) C dX5_read_64 rfl ?_
          refine j_ret M dX5_read_69 ?_
          have e3 : rdT (σ 2) len len 0 0 (nd0 a) = (nI s, b) := by
            rw [← hrd, show k = 0 by omega, rdT]
            first | rw [if_pos (by omega)] | rw [if_neg (by omega)]
          rw [e3]
          exact ⟨hf, rfl, hI⟩
      · refine j_aload_n C dX5_read_18 rfl rfl ?_
        refine j_get C flX5_26 dX5_read_19 (Nat.lt_of_lt_of_le (by decide) hN) rfl rfl ?_
        refine j_iload C dX5_read_22 rfl ?_
        refine j_iald C dX5_read_24 (Nat.lt_of_lt_of_le (by decide) hN) (fun _ => rfl) (by decide) (by omega) ?_
        refine j_top (hf _ _ (by omega)) ?_
        refine j_bipush (v := nI 59) C dX5_read_25 rfl ?_
        refine j_icmp_ne (tgt := 49) C dX5_read_27 rfl (fun h27 => ?_) (fun h27 => ?_)
        · refine j_iinc (L' := [some (.ref (gad g (21))), some (.ref (gad g (1))), some (.ref (gad g (3 + 9 * i))), some (.int (nI (s))), some (.int (nI (at_ + 1)))]) C dX5_read_49 rfl (nI_inc _) (by decide) rfl ?_
          refine j_goto (tgt := 9) C dX5_read_52 rfl ?_
          refine ih (len - (at_ + 1)) (by omega) s (at_ + 1) b σ1 rfl (by omega) (by omega) hb ?_ hf hI
          rw [← hrd, show k = (len - (at_ + 1)) + 1 by omega]
          conv => rhs; rw [rdT, if_neg h27]
        · refine j_aload_n C dX5_read_30 rfl rfl ?_
          refine j_aload_n C dX5_read_31 rfl rfl ?_
          refine j_iload_n C dX5_read_32 rfl rfl ?_
          refine j_iload C dX5_read_33 rfl ?_
          refine j_aload_n C dX5_read_35 rfl rfl ?_
          refine j_calli (As := [.ref (gad g (1)), .int (nI (s)), .int (nI (at_)), .ref (gad g (3 + 9 * i))]) (rest := []) C (tX5_takeItem hN hi hs (by omega) (by omega) hI hb.1.2 hb.2.1 hb.2.2) cdX5_takeItem mlX5_29 dX5_read_36 (by decide) (by decide) (Nat.lt_of_lt_of_le (by decide) hN) rfl rfl rfl rfl rfl (Nat.le_of_ble_eq_true rfl) (fun r2 τ1 hp3 => ?_)
          obtain ⟨hf2, hc⟩ := hp3
          have e2 : σ1 2 = σ 2 := funext (fun n => hf 2 n (by omega))
          rw [e2] at hc
          rcases hc with ⟨hit, rfl, hI2⟩ | ⟨c, hit, rfl, hI2⟩
          · refine j_ifn_ne (tgt := 44) C dX5_read_39 rfl (by omega) (fun h => absurd h (by decide)) (fun _ => ?_)
            refine j_iload_n C dX5_read_42 rfl rfl ?_
            refine j_ret M dX5_read_43 ?_
            have e3 : rdT (σ 2) len len 0 0 (nd0 a) = (nI s, b) := by
              rw [← hrd, show k = (len - (at_ + 1)) + 1 by omega, rdT, if_pos h27, hit]
            rw [e3]
            exact ⟨fun j n h => (hf2 j n h).trans (hf j n h), rfl, hI2⟩
          · refine j_ifn_ne (tgt := 44) C dX5_read_39 rfl (by omega) (fun _ => ?_) (fun h => absurd h (by decide))
            refine j_iload C dX5_read_44 rfl ?_
            refine j_iconst (v := nI 1) C dX5_read_46 rfl ?_
            refine j_iadd C dX5_read_47 ?_
            refine j_top (nI_add _ _) ?_
            refine j_istore_n (L' := [some (.ref (gad g (21))), some (.ref (gad g (1))), some (.ref (gad g (3 + 9 * i))), some (.int (nI ((at_ + 1)))), some (.int (nI (at_)))]) C dX5_read_48 rfl (by decide) rfl ?_
            refine j_iinc (L' := [some (.ref (gad g (21))), some (.ref (gad g (1))), some (.ref (gad g (3 + 9 * i))), some (.int (nI ((at_ + 1)))), some (.int (nI (at_ + 1)))]) C dX5_read_49 rfl (nI_inc _) (by decide) rfl ?_
            refine j_goto (tgt := 9) C dX5_read_52 rfl ?_
            refine ih (len - (at_ + 1)) (by omega) (at_ + 1) (at_ + 1) c τ1 rfl (by omega) (by omega) (item_bd hit hb.1 hb.2.1 hb.2.2) ?_ (fun j n h => (hf2 j n h).trans (hf j n h)) hI2
            rw [← hrd, show k = (len - (at_ + 1)) + 1 by omega]
            conv => rhs; rw [rdT, if_pos h27, hit]
  refine j_aload_n C dX5_read_0 rfl rfl ?_
  refine j_callv (As := []) (rest := []) C (tX3_clear hN hi a) cdX3_clear mlX5_15 dX5_read_1 (by decide) (by decide) (by omega) (cf_net (by omega) _) rfl rfl rfl rfl (Nat.le_of_ble_eq_true rfl) (fun τ1 hp3 => ?_)
  obtain ⟨hf2, hI2⟩ := hp3
  refine j_iconst (v := nI 0) C dX5_read_4 rfl ?_
  refine j_istore_n (L' := [some (.ref (gad g (21))), some (.ref (gad g (1))), some (.ref (gad g (3 + 9 * i))), some (.int (nI (0))), none]) C dX5_read_5 rfl (by decide) rfl ?_
  refine j_iconst (v := nI 0) C dX5_read_6 rfl ?_
  refine j_istore (L' := [some (.ref (gad g (21))), some (.ref (gad g (1))), some (.ref (gad g (3 + 9 * i))), some (.int (nI (0))), some (.int (nI (0)))]) C dX5_read_7 (by decide) rfl ?_
  exact lp (len - 0) 0 0 (nd0 a) τ1 rfl (by omega) (by omega) ⟨⟨(by decide : 2 ≤ 4), (by decide : 4 ≤ 7)⟩, Nat.zero_le _, Nat.zero_le _⟩ rfl (fun j n h => hf2 j n (by omega)) hI2
end
section
set_option maxHeartbeats 4000000 in
set_option maxRecDepth 100000 in
theorem tX6_begin {g : jG} (hN : 84 ≤ gN g) {σ : Sg} {m : Nat} (hm : σ 3 1 = nI m) (hm12 : m ≤ 12) : MS g yX6_begin cX6_begin 3 none rmX6_begin [.ref (gad g (48)), .ref (gad g (3))] σ (fun r σ' => (∀ j n, ¬ (48 ≤ j ∧ j ≤ 50) → σ' j n = σ j n) ∧ σ' 48 0 = nI m ∧ σ' 48 4 = nI 0 ∧ σ' 48 5 = nI 0 ∧ (∀ l, l < m → σ' 49 l = σ 7 l ∧ σ' 50 l = bI true)) := by
  refine MJ_of (by decide) (Nat.le_of_ble_eq_true rfl) (List.forall_mem_cons.mpr ⟨rfl, List.forall_mem_cons.mpr ⟨rfl, fun _ h => absurd h List.not_mem_nil⟩⟩) ?_
  intro κ M
  have C := M.1
  show J g κ 3 0 [some (.ref (gad g (48))), some (.ref (gad g (3))), none] [] σ
  have lp : ∀ (k : Nat) (l : Nat) (σ1 : Sg), m - l = k → l ≤ m → (∀ j n, ¬ (48 ≤ j ∧ j ≤ 50) → σ1 j n = σ j n) → σ1 48 0 = nI m → (∀ x, x < l → σ1 49 x = σ 7 x ∧ σ1 50 x = bI true) → J g κ 3 10 [some (.ref (gad g (48))), some (.ref (gad g (3))), some (.int (nI (l)))] [] σ1 := by
    intro k
    induction k using Nat.strongRecOn with
    | _ k ih =>
      intro l σ1 hk hl hf h0 hz
      refine j_iload_n C dX6_begin_10 rfl rfl ?_
      refine j_aload_n C dX6_begin_11 rfl rfl ?_
      refine j_get C flX6_28 dX6_begin_12 (Nat.lt_of_lt_of_le (by decide) hN) rfl rfl ?_
      refine j_top (h0) ?_
      refine j_icmpn_ge (tgt := 43) C dX6_begin_15 rfl (by omega) (by omega) (fun h15 => ?_) (fun h15 => ?_)
      · refine j_aload_n C dX6_begin_43 rfl rfl ?_
        refine j_iconst (v := nI 0) C dX6_begin_44 rfl ?_
        refine j_put' C fpX6_32 dX6_begin_45 (Nat.lt_of_lt_of_le (by decide) hN) (fun _ => rfl) rfl (Nat.le_of_ble_eq_true rfl) rfl rfl (fun τ1 hf2 hv3 => ?_)
        refine j_aload_n C dX6_begin_48 rfl rfl ?_
        refine j_iconst (v := nI 0) C dX6_begin_49 rfl ?_
        refine j_put' C fpX6_35 dX6_begin_50 (Nat.lt_of_lt_of_le (by decide) hN) (fun _ => rfl) rfl (Nat.le_of_ble_eq_true rfl) rfl rfl (fun τ4 hf5 hv6 => ?_)
        refine j_retv M dX6_begin_53 ?_
        refine ⟨fun j n h => by rw [hf5 _ _ (by omega), hf2 _ _ (by omega)]; exact hf j n h, by rw [hf5 _ _ (by omega), hf2 _ _ (by omega)]; exact h0, by rw [hf5 _ _ (by omega)]; assumption, by assumption, fun x hx => ?_⟩
        rw [hf5 _ _ (by omega), hf2 _ _ (by omega), hf5 _ _ (by omega), hf2 _ _ (by omega)]; exact hz x (by omega)
      · refine j_aload_n C dX6_begin_18 rfl rfl ?_
        refine j_get C flX6_9 dX6_begin_19 (Nat.lt_of_lt_of_le (by decide) hN) rfl rfl ?_
        refine j_iload_n C dX6_begin_22 rfl rfl ?_
        refine j_aload_n C dX6_begin_23 rfl rfl ?_
        refine j_get C flX6_29 dX6_begin_24 (Nat.lt_of_lt_of_le (by decide) hN) rfl rfl ?_
        refine j_iload_n C dX6_begin_27 rfl rfl ?_
        refine j_iald C dX6_begin_28 (Nat.lt_of_lt_of_le (by decide) hN) (fun _ => rfl) (by decide) (by omega) ?_
        refine j_top (hf _ _ (by omega)) ?_
        refine j_iast' C dX6_begin_29 (Nat.lt_of_lt_of_le (by decide) hN) (fun _ => rfl) (by decide) (by omega) (fun τ7 hf8 hv9 => ?_)
        refine j_aload_n C dX6_begin_30 rfl rfl ?_
        refine j_get C flX6_15 dX6_begin_31 (Nat.lt_of_lt_of_le (by decide) hN) rfl rfl ?_
        refine j_iload_n C dX6_begin_34 rfl rfl ?_
        refine j_iconst (v := nI 1) C dX6_begin_35 rfl ?_
        refine j_zast' C dX6_begin_36 (Nat.lt_of_lt_of_le (by decide) hN) (fun _ => rfl) (by decide) (by omega) rfl (fun τ10 hf11 hv12 => ?_)
        refine j_iinc (L' := [some (.ref (gad g (48))), some (.ref (gad g (3))), some (.int (nI (l + 1)))]) C dX6_begin_37 rfl (nI_inc _) (by decide) rfl ?_
        refine j_goto (tgt := 10) C dX6_begin_40 rfl ?_
        refine ih (m - (l + 1)) (by omega) (l + 1) τ10 rfl (by omega) (fun j n h => by rw [hf11 _ _ (by omega), hf8 _ _ (by omega)]; exact hf j n h) (by rw [hf11 _ _ (by omega), hf8 _ _ (by omega)]; exact h0) (fun x hx => ?_)
        by_cases e : x = l
        · subst e
          refine ⟨?_, by assumption⟩
          rw [hf11 _ _ (by omega)]; assumption
        · rw [hf11 _ _ (by omega), hf8 _ _ (by omega), hf11 _ _ (by omega), hf8 _ _ (by omega)]; exact hz x (by omega)
  refine j_aload_n C dX6_begin_0 rfl rfl ?_
  refine j_aload_n C dX6_begin_1 rfl rfl ?_
  refine j_get C flX6_22 dX6_begin_2 (Nat.lt_of_lt_of_le (by decide) hN) rfl rfl ?_
  refine j_top (hm) ?_
  refine j_put' C fpX6_28 dX6_begin_5 (Nat.lt_of_lt_of_le (by decide) hN) (fun _ => rfl) rfl (Nat.le_of_ble_eq_true rfl) rfl rfl (fun τ1 hf2 hv3 => ?_)
  refine j_iconst (v := nI 0) C dX6_begin_8 rfl ?_
  refine j_istore_n (L' := [some (.ref (gad g (48))), some (.ref (gad g (3))), some (.int (nI (0)))]) C dX6_begin_9 rfl (by decide) rfl ?_
  exact lp (m - 0) 0 τ1 rfl (by omega) (fun j n h => by rw [hf2 _ _ (by omega)]) (by assumption) (fun x hx => by omega)
set_option maxHeartbeats 4000000 in
set_option maxRecDepth 100000 in
theorem tX6_copyFrom {g : jG} (hN : 84 ≤ gN g) {σ : Sg} {i c : Nat} (hi : i < 9) (hc : c < 9) (hic : i ≠ c) : MS g yX6_copyFrom cX6_copyFrom 3 none rmX6_copyFrom [.ref (gad g (48 + 4 * i)), .ref (gad g (48 + 4 * c))] σ (fun r σ' => (∀ j n, ¬ (48 + 4 * i ≤ j ∧ j ≤ 48 + 4 * i + 3) → σ' j n = σ j n) ∧ σ' (48 + 4 * i) 0 = σ (48 + 4 * c) 0 ∧ σ' (48 + 4 * i) 4 = σ (48 + 4 * c) 4 ∧ σ' (48 + 4 * i) 5 = σ (48 + 4 * c) 5 ∧ σ' (48 + 4 * i) 6 = σ (48 + 4 * c) 6 ∧ (∀ l, l < 12 → σ' (48 + 4 * i + 1) l = σ (48 + 4 * c + 1) l ∧ σ' (48 + 4 * i + 2) l = vp_nar .boolean (σ (48 + 4 * c + 2) l)) ∧ (∀ l, l < 6 → σ' (48 + 4 * i + 3) l = σ (48 + 4 * c + 3) l)) := by
  refine MJ_of (by decide) (Nat.le_of_ble_eq_true rfl) (List.forall_mem_cons.mpr ⟨rfl, List.forall_mem_cons.mpr ⟨rfl, fun _ h => absurd h List.not_mem_nil⟩⟩) ?_
  intro κ M
  have C := M.1
  show J g κ 3 0 [some (.ref (gad g (48 + 4 * i))), some (.ref (gad g (48 + 4 * c))), none] [] σ
  have lp2 : ∀ (k : Nat) (l : Nat) (σ1 : Sg), 6 - l = k → l ≤ 6 → (∀ j n, ¬ (48 + 4 * i ≤ j ∧ j ≤ 48 + 4 * i + 3) → σ1 j n = σ j n) → σ1 (48 + 4 * i) 0 = σ (48 + 4 * c) 0 → (∀ x, x < 12 → σ1 (48 + 4 * i + 1) x = σ (48 + 4 * c + 1) x ∧ σ1 (48 + 4 * i + 2) x = vp_nar .boolean (σ (48 + 4 * c + 2) x)) → (∀ x, x < l → σ1 (48 + 4 * i + 3) x = σ (48 + 4 * c + 3) x) → J g κ 3 48 [some (.ref (gad g (48 + 4 * i))), some (.ref (gad g (48 + 4 * c))), some (.int (nI (l)))] [] σ1 := by
    intro k
    induction k using Nat.strongRecOn with
    | _ k ih =>
      intro l σ1 hk hl hf h0 hw hz
      refine j_iload_n C dX6_copyFrom_48 rfl rfl ?_
      refine j_bipush (v := nI 6) C dX6_copyFrom_49 rfl ?_
      refine j_icmpn_ge (tgt := 72) C dX6_copyFrom_51 rfl (by omega) (by omega) (fun h51 => ?_) (fun h51 => ?_)
      · refine j_aload_n C dX6_copyFrom_72 rfl rfl ?_
        refine j_aload_n C dX6_copyFrom_73 rfl rfl ?_
        refine j_get C flX6_32 dX6_copyFrom_74 (by omega) (cf_st (by omega) _) rfl ?_
        refine j_top (hf _ _ (by omega)) ?_
        refine j_put' C fpX6_32 dX6_copyFrom_77 (by omega) (fun f => cf_st (by omega) f) rfl (Nat.le_of_ble_eq_true rfl) rfl rfl (fun τ1 hf2 hv3 => ?_)
        refine j_aload_n C dX6_copyFrom_80 rfl rfl ?_
        refine j_aload_n C dX6_copyFrom_81 rfl rfl ?_
        refine j_get C flX6_35 dX6_copyFrom_82 (by omega) (cf_st (by omega) _) rfl ?_
        refine j_top ((hf2 _ _ (by omega)).trans (hf _ _ (by omega))) ?_
        refine j_put' C fpX6_35 dX6_copyFrom_85 (by omega) (fun f => cf_st (by omega) f) rfl (Nat.le_of_ble_eq_true rfl) rfl rfl (fun τ4 hf5 hv6 => ?_)
        refine j_aload_n C dX6_copyFrom_88 rfl rfl ?_
        refine j_aload_n C dX6_copyFrom_89 rfl rfl ?_
        refine j_get C flX6_38 dX6_copyFrom_90 (by omega) (cf_st (by omega) _) rfl ?_
        refine j_top ((hf5 _ _ (by omega)).trans ((hf2 _ _ (by omega)).trans (hf _ _ (by omega)))) ?_
        refine j_put' C fpX6_38 dX6_copyFrom_93 (by omega) (fun f => cf_st (by omega) f) rfl (Nat.le_of_ble_eq_true rfl) rfl rfl (fun τ7 hf8 hv9 => ?_)
        refine j_retv M dX6_copyFrom_96 ?_
        refine ⟨fun j n h => by rw [hf8 _ _ (by omega), hf5 _ _ (by omega), hf2 _ _ (by omega)]; exact hf j n h, by rw [hf8 _ _ (by omega), hf5 _ _ (by omega), hf2 _ _ (by omega)]; exact h0, by rw [hf8 _ _ (by omega), hf5 _ _ (by omega)]; assumption, by rw [hf8 _ _ (by omega)]; assumption, by assumption, fun x hx => by rw [hf8 _ _ (by omega), hf5 _ _ (by omega), hf2 _ _ (by omega), hf8 _ _ (by omega), hf5 _ _ (by omega), hf2 _ _ (by omega)]; exact hw x hx, fun x hx => by rw [hf8 _ _ (by omega), hf5 _ _ (by omega), hf2 _ _ (by omega)]; exact hz x (by omega)⟩
      · refine j_aload_n C dX6_copyFrom_54 rfl rfl ?_
        refine j_get C flX6_19 dX6_copyFrom_55 (by omega) (cf_st (by omega) _) rfl ?_
        refine j_iload_n C dX6_copyFrom_58 rfl rfl ?_
        refine j_aload_n C dX6_copyFrom_59 rfl rfl ?_
        refine j_get C flX6_19 dX6_copyFrom_60 (by omega) (cf_st (by omega) _) rfl ?_
        refine j_iload_n C dX6_copyFrom_63 rfl rfl ?_
        refine j_iald C dX6_copyFrom_64 (by omega) (cf_st3 (by omega)) (by decide) (by omega) ?_
        refine j_top (hf _ _ (by omega)) ?_
        refine j_iast' C dX6_copyFrom_65 (by omega) (cf_st3 (by omega)) (by decide) (by omega) (fun τ10 hf11 hv12 => ?_)
        refine j_iinc (L' := [some (.ref (gad g (48 + 4 * i))), some (.ref (gad g (48 + 4 * c))), some (.int (nI (l + 1)))]) C dX6_copyFrom_66 rfl (nI_inc _) (by decide) rfl ?_
        refine j_goto (tgt := 48) C dX6_copyFrom_69 rfl ?_
        refine ih (6 - (l + 1)) (by omega) (l + 1) τ10 rfl (by omega) (fun j n h => by rw [hf11 _ _ (by omega)]; exact hf j n h) (by rw [hf11 _ _ (by omega)]; exact h0) (fun x hx => by rw [hf11 _ _ (by omega), hf11 _ _ (by omega)]; exact hw x hx) (fun x hx => ?_)
        by_cases e : x = l
        · subst e; assumption
        · rw [hf11 _ _ (by omega)]; exact hz x (by omega)
  have lp1 : ∀ (k : Nat) (l : Nat) (σ1 : Sg), 12 - l = k → l ≤ 12 → (∀ j n, ¬ (48 + 4 * i ≤ j ∧ j ≤ 48 + 4 * i + 3) → σ1 j n = σ j n) → σ1 (48 + 4 * i) 0 = σ (48 + 4 * c) 0 → (∀ x, x < l → σ1 (48 + 4 * i + 1) x = σ (48 + 4 * c + 1) x ∧ σ1 (48 + 4 * i + 2) x = vp_nar .boolean (σ (48 + 4 * c + 2) x)) → J g κ 3 10 [some (.ref (gad g (48 + 4 * i))), some (.ref (gad g (48 + 4 * c))), some (.int (nI (l)))] [] σ1 := by
    intro k
    induction k using Nat.strongRecOn with
    | _ k ih =>
      intro l σ1 hk hl hf h0 hw
      refine j_iload_n C dX6_copyFrom_10 rfl rfl ?_
      refine j_bipush (v := nI 12) C dX6_copyFrom_11 rfl ?_
      refine j_icmpn_ge (tgt := 46) C dX6_copyFrom_13 rfl (by omega) (by omega) (fun h13 => ?_) (fun h13 => ?_)
      · refine j_iconst (v := nI 0) C dX6_copyFrom_46 rfl ?_
        refine j_istore_n (L' := [some (.ref (gad g (48 + 4 * i))), some (.ref (gad g (48 + 4 * c))), some (.int (nI (0)))]) C dX6_copyFrom_47 rfl (by decide) rfl ?_
        exact lp2 (6 - 0) 0 σ1 rfl (by omega) hf h0 (fun x hx => hw x (by omega)) (fun x hx => by omega)
      · refine j_aload_n C dX6_copyFrom_16 rfl rfl ?_
        refine j_get C flX6_9 dX6_copyFrom_17 (by omega) (cf_st (by omega) _) rfl ?_
        refine j_iload_n C dX6_copyFrom_20 rfl rfl ?_
        refine j_aload_n C dX6_copyFrom_21 rfl rfl ?_
        refine j_get C flX6_9 dX6_copyFrom_22 (by omega) (cf_st (by omega) _) rfl ?_
        refine j_iload_n C dX6_copyFrom_25 rfl rfl ?_
        refine j_iald C dX6_copyFrom_26 (by omega) (cf_st1 (by omega)) (by decide) (by omega) ?_
        refine j_top (hf _ _ (by omega)) ?_
        refine j_iast' C dX6_copyFrom_27 (by omega) (cf_st1 (by omega)) (by decide) (by omega) (fun τ1 hf2 hv3 => ?_)
        refine j_aload_n C dX6_copyFrom_28 rfl rfl ?_
        refine j_get C flX6_15 dX6_copyFrom_29 (by omega) (cf_st (by omega) _) rfl ?_
        refine j_iload_n C dX6_copyFrom_32 rfl rfl ?_
        refine j_aload_n C dX6_copyFrom_33 rfl rfl ?_
        refine j_get C flX6_15 dX6_copyFrom_34 (by omega) (cf_st (by omega) _) rfl ?_
        refine j_iload_n C dX6_copyFrom_37 rfl rfl ?_
        refine j_zald C dX6_copyFrom_38 (by omega) (cf_st2 (by omega)) (by decide) (by omega) ?_
        refine j_top ((hf2 _ _ (by omega)).trans (hf _ _ (by omega))) ?_
        refine j_zastG C dX6_copyFrom_39 (by omega) (cf_st2 (by omega)) (by decide) (by omega) (fun τ4 hf5 hv6 => ?_)
        refine j_iinc (L' := [some (.ref (gad g (48 + 4 * i))), some (.ref (gad g (48 + 4 * c))), some (.int (nI (l + 1)))]) C dX6_copyFrom_40 rfl (nI_inc _) (by decide) rfl ?_
        refine j_goto (tgt := 10) C dX6_copyFrom_43 rfl ?_
        refine ih (12 - (l + 1)) (by omega) (l + 1) τ4 rfl (by omega) (fun j n h => by rw [hf5 _ _ (by omega), hf2 _ _ (by omega)]; exact hf j n h) (by rw [hf5 _ _ (by omega), hf2 _ _ (by omega)]; exact h0) (fun x hx => ?_)
        by_cases e : x = l
        · subst e
          refine ⟨?_, by assumption⟩
          rw [hf5 _ _ (by omega)]; assumption
        · rw [hf5 _ _ (by omega), hf2 _ _ (by omega), hf5 _ _ (by omega), hf2 _ _ (by omega)]; exact hw x (by omega)
  refine j_aload_n C dX6_copyFrom_0 rfl rfl ?_
  refine j_aload_n C dX6_copyFrom_1 rfl rfl ?_
  refine j_get C flX6_28 dX6_copyFrom_2 (by omega) (cf_st (by omega) _) rfl ?_
  refine j_put' C fpX6_28 dX6_copyFrom_5 (by omega) (fun f => cf_st (by omega) f) rfl (Nat.le_of_ble_eq_true rfl) rfl rfl (fun τ1 hf2 hv3 => ?_)
  refine j_iconst (v := nI 0) C dX6_copyFrom_8 rfl ?_
  refine j_istore_n (L' := [some (.ref (gad g (48 + 4 * i))), some (.ref (gad g (48 + 4 * c))), some (.int (nI (0)))]) C dX6_copyFrom_9 rfl (by decide) rfl ?_
  exact lp1 (12 - 0) 0 τ1 rfl (by omega) (fun j n h => by rw [hf2 _ _ (by omega)]) (by assumption) (fun x hx => by omega)
set_option maxHeartbeats 4000000 in
set_option maxRecDepth 100000 in
theorem tX4_keep {g : jG} (hN : 84 ≤ gN g) {σ : Sg} {nx ct : Nat} (hx : σ 45 1 = nI nx) (hx6 : nx < 6) (hc : σ 45 2 = nI ct) (hc6 : ct ≤ 6) : MS g yX4_keep cX4_keep 2 none rmX4_keep [.ref (gad g (45)), .ref (gad g (48))] σ (fun r σ' => (∀ j n, ¬ (j = 45 ∧ (n = 1 ∨ n = 2) ∨ 48 + 4 * (3 + nx) ≤ j ∧ j ≤ 48 + 4 * (3 + nx) + 3) → σ' j n = σ j n) ∧ σ' 45 1 = nI ((nx + 1) % 6) ∧ σ' 45 2 = nI (min (ct + 1) 6) ∧ (σ' (48 + 4 * (3 + nx)) 0 = σ 48 0 ∧ σ' (48 + 4 * (3 + nx)) 4 = σ 48 4 ∧ σ' (48 + 4 * (3 + nx)) 5 = σ 48 5 ∧ σ' (48 + 4 * (3 + nx)) 6 = σ 48 6 ∧ (∀ l, l < 12 → σ' (48 + 4 * (3 + nx) + 1) l = σ 49 l ∧ σ' (48 + 4 * (3 + nx) + 2) l = vp_nar .boolean (σ 50 l)) ∧ (∀ l, l < 6 → σ' (48 + 4 * (3 + nx) + 3) l = σ 51 l))) := by
  refine MJ_of (by decide) (Nat.le_of_ble_eq_true rfl) (List.forall_mem_cons.mpr ⟨rfl, List.forall_mem_cons.mpr ⟨rfl, fun _ h => absurd h List.not_mem_nil⟩⟩) ?_
  intro κ M
  have C := M.1
  show J g κ 2 0 [some (.ref (gad g (45))), some (.ref (gad g (48)))] [] σ
  refine j_aload_n C dX4_keep_0 rfl rfl ?_
  refine j_get C flX4_11 dX4_keep_1 (Nat.lt_of_lt_of_le (by decide) hN) rfl rfl ?_
  refine j_aload_n C dX4_keep_4 rfl rfl ?_
  refine j_get C flX4_18 dX4_keep_5 (Nat.lt_of_lt_of_le (by decide) hN) rfl rfl ?_
  refine j_top (hx) ?_
  refine j_qald (p := 48 + 4 * (3 + nx)) C (by omega) dX4_keep_8 (Nat.lt_of_lt_of_le (by decide) hN) (fun _ => rfl) (by decide) (by omega) ?_
  refine j_aload_n C dX4_keep_9 rfl rfl ?_
  refine j_callv (As := [.ref (gad g (48))]) (rest := []) C (tX6_copyFrom (i := 3 + nx) (c := 0) hN (by omega) (by omega) (by omega)) cdX6_copyFrom mlX4_22 dX4_keep_10 (by decide) (by decide) (by omega) (cf_st (by omega) _) rfl rfl rfl rfl (Nat.le_of_ble_eq_true rfl) (fun τ1 hp3 => ?_)
  obtain ⟨hf0, hcp⟩ := hp3
  refine j_aload_n C dX4_keep_13 rfl rfl ?_
  refine j_aload_n C dX4_keep_14 rfl rfl ?_
  refine j_get C flX4_18 dX4_keep_15 (Nat.lt_of_lt_of_le (by decide) hN) rfl rfl ?_
  refine j_top ((hf0 _ _ (by omega)).trans (hx)) ?_
  refine j_iconst (v := nI 1) C dX4_keep_18 rfl ?_
  refine j_iadd C dX4_keep_19 ?_
  refine j_top (nI_add _ _) ?_
  refine j_bipush (v := nI 6) C dX4_keep_20 rfl ?_
  refine j_irem C dX4_keep_22 (by decide) ?_
  refine j_top (pk_rem (by omega) (by decide) (by decide)) ?_
  refine j_put' C fpX4_18 dX4_keep_23 (Nat.lt_of_lt_of_le (by decide) hN) (fun _ => rfl) rfl (Nat.le_of_ble_eq_true rfl) rfl rfl (fun τ4 hf5 hv6 => ?_)
  refine j_aload_n C dX4_keep_26 rfl rfl ?_
  refine j_aload_n C dX4_keep_27 rfl rfl ?_
  refine j_get C flX4_26 dX4_keep_28 (Nat.lt_of_lt_of_le (by decide) hN) rfl rfl ?_
  refine j_top ((hf5 _ _ (by omega)).trans ((hf0 _ _ (by omega)).trans (hc))) ?_
  refine j_iconst (v := nI 1) C dX4_keep_31 rfl ?_
  refine j_iadd C dX4_keep_32 ?_
  refine j_top (nI_add _ _) ?_
  refine j_bipush (v := nI 6) C dX4_keep_33 rfl ?_
  refine j_min C mmX4_29 dX4_keep_35 (by decide) (Nat.le_of_ble_eq_true rfl) ?_
  refine j_top (nI_min (by omega) (by decide)) ?_
  refine j_put' C fpX4_26 dX4_keep_38 (Nat.lt_of_lt_of_le (by decide) hN) (fun _ => rfl) rfl (Nat.le_of_ble_eq_true rfl) rfl rfl (fun τ7 hf8 hv9 => ?_)
  refine j_retv M dX4_keep_41 ?_
  obtain ⟨q1, q2, q3, q4, q5, q6⟩ := hcp
  refine ⟨fun j n h => by rw [hf8 _ _ (by omega), hf5 _ _ (by omega), hf0 _ _ (by omega)], by rw [hf8 _ _ (by omega)]; assumption, by assumption, by rw [hf8 _ _ (by omega), hf5 _ _ (by omega)]; exact q1, by rw [hf8 _ _ (by omega), hf5 _ _ (by omega)]; exact q2, by rw [hf8 _ _ (by omega), hf5 _ _ (by omega)]; exact q3, by rw [hf8 _ _ (by omega), hf5 _ _ (by omega)]; exact q4, fun l hl => by rw [hf8 _ _ (by omega), hf5 _ _ (by omega), hf8 _ _ (by omega), hf5 _ _ (by omega)]; exact q5 l hl, fun l hl => by rw [hf8 _ _ (by omega), hf5 _ _ (by omega)]; exact q6 l hl⟩
set_option maxHeartbeats 4000000 in
set_option maxRecDepth 100000 in
theorem tX4_giveBack {g : jG} (hN : 84 ≤ gN g) {σ : Sg} {nx ct : Nat} (hx : σ 45 1 = nI nx) (hx6 : nx < 6) (hc : σ 45 2 = nI ct) (hc6 : ct ≤ 6) : MS g yX4_giveBack cX4_giveBack 2 (some .boolean) rmX4_giveBack [.ref (gad g (45)), .ref (gad g (48))] σ (fun r σ' => (ct = 0 ∧ r = nI 0 ∧ σ' = σ) ∨ (0 < ct ∧ r = nI 1 ∧ (∀ j n, ¬ (j = 45 ∧ (n = 1 ∨ n = 2) ∨ 48 ≤ j ∧ j ≤ 51) → σ' j n = σ j n) ∧ σ' 45 1 = nI ((nx + 6 - 1) % 6) ∧ σ' 45 2 = nI (ct - 1) ∧ (σ' 48 0 = σ (48 + 4 * (3 + (nx + 6 - 1) % 6)) 0 ∧ σ' 48 4 = σ (48 + 4 * (3 + (nx + 6 - 1) % 6)) 4 ∧ σ' 48 5 = σ (48 + 4 * (3 + (nx + 6 - 1) % 6)) 5 ∧ σ' 48 6 = σ (48 + 4 * (3 + (nx + 6 - 1) % 6)) 6 ∧ (∀ l, l < 12 → σ' 49 l = σ (48 + 4 * (3 + (nx + 6 - 1) % 6) + 1) l ∧ σ' 50 l = vp_nar .boolean (σ (48 + 4 * (3 + (nx + 6 - 1) % 6) + 2) l)) ∧ (∀ l, l < 6 → σ' 51 l = σ (48 + 4 * (3 + (nx + 6 - 1) % 6) + 3) l)))) := by
  refine MJ_of (by decide) (Nat.le_of_ble_eq_true rfl) (List.forall_mem_cons.mpr ⟨rfl, List.forall_mem_cons.mpr ⟨rfl, fun _ h => absurd h List.not_mem_nil⟩⟩) ?_
  intro κ M
  have C := M.1
  show J g κ 2 0 [some (.ref (gad g (45))), some (.ref (gad g (48)))] [] σ
  refine j_aload_n C dX4_giveBack_0 rfl rfl ?_
  refine j_get C flX4_26 dX4_giveBack_1 (Nat.lt_of_lt_of_le (by decide) hN) rfl rfl ?_
  refine j_top (hc) ?_
  refine j_ifn_ne (tgt := 9) C dX4_giveBack_4 rfl (by omega) (fun h4 => ?_) (fun h4 => ?_)
  · refine j_aload_n C dX4_giveBack_9 rfl rfl ?_
    refine j_aload_n C dX4_giveBack_10 rfl rfl ?_
    refine j_get C flX4_18 dX4_giveBack_11 (Nat.lt_of_lt_of_le (by decide) hN) rfl rfl ?_
    refine j_top (hx) ?_
    refine j_bipush (v := nI 6) C dX4_giveBack_14 rfl ?_
    refine j_iadd C dX4_giveBack_16 ?_
    refine j_top (nI_add _ _) ?_
    refine j_iconst (v := nI 1) C dX4_giveBack_17 rfl ?_
    refine j_isub C dX4_giveBack_18 ?_
    refine j_top (pk_sub (by omega)) ?_
    refine j_bipush (v := nI 6) C dX4_giveBack_19 rfl ?_
    refine j_irem C dX4_giveBack_21 (by decide) ?_
    refine j_top (pk_rem (by omega) (by decide) (by decide)) ?_
    refine j_put' C fpX4_18 dX4_giveBack_22 (Nat.lt_of_lt_of_le (by decide) hN) (fun _ => rfl) rfl (Nat.le_of_ble_eq_true rfl) rfl rfl (fun τ1 hf2 hv3 => ?_)
    refine j_aload_n C dX4_giveBack_25 rfl rfl ?_
    refine j_dup C dX4_giveBack_26 rfl ?_
    refine j_get C flX4_26 dX4_giveBack_27 (Nat.lt_of_lt_of_le (by decide) hN) rfl rfl ?_
    refine j_top ((hf2 _ _ (by omega)).trans (hc)) ?_
    refine j_iconst (v := nI 1) C dX4_giveBack_30 rfl ?_
    refine j_isub C dX4_giveBack_31 ?_
    refine j_top (pk_sub (by omega)) ?_
    refine j_put' C fpX4_26 dX4_giveBack_32 (Nat.lt_of_lt_of_le (by decide) hN) (fun _ => rfl) rfl (Nat.le_of_ble_eq_true rfl) rfl rfl (fun τ4 hf5 hv6 => ?_)
    refine j_aload_n C dX4_giveBack_35 rfl rfl ?_
    refine j_aload_n C dX4_giveBack_36 rfl rfl ?_
    refine j_get C flX4_11 dX4_giveBack_37 (Nat.lt_of_lt_of_le (by decide) hN) rfl rfl ?_
    refine j_aload_n C dX4_giveBack_40 rfl rfl ?_
    refine j_get C flX4_18 dX4_giveBack_41 (Nat.lt_of_lt_of_le (by decide) hN) rfl rfl ?_
    refine j_top ((hf5 _ _ (by omega)).trans (hv3)) ?_
    refine j_qald (p := 48 + 4 * (3 + (nx + 6 - 1) % 6)) C (by omega) dX4_giveBack_44 (Nat.lt_of_lt_of_le (by decide) hN) (fun _ => rfl) (by decide) (by omega) ?_
    refine j_callv (As := [.ref (gad g (48 + 4 * (3 + (nx + 6 - 1) % 6)))]) (rest := []) C (tX6_copyFrom (i := 0) (c := 3 + (nx + 6 - 1) % 6) hN (by omega) (by omega) (by omega)) cdX6_copyFrom mlX4_22 dX4_giveBack_45 (by decide) (by decide) (Nat.lt_of_lt_of_le (by decide) hN) rfl rfl rfl rfl rfl (Nat.le_of_ble_eq_true rfl) (fun τ7 hp9 => ?_)
    obtain ⟨hf0, hcp⟩ := hp9
    refine j_iconst (v := nI 1) C dX4_giveBack_48 rfl ?_
    refine j_retz M dX4_giveBack_49 rfl ?_
    obtain ⟨q1, q2, q3, q4, q5, q6⟩ := hcp
    have hk : ∀ j n, 48 ≤ j → τ4 j n = σ j n := fun j n h => by rw [hf5 _ _ (by omega), hf2 _ _ (by omega)]
    refine Or.inr ⟨by omega, rfl, fun j n h => by rw [hf0 _ _ (by omega), hf5 _ _ (by omega), hf2 _ _ (by omega)], by rw [hf0 _ _ (by omega), hf5 _ _ (by omega)]; assumption, by rw [hf0 _ _ (by omega)]; assumption, q1.trans (hk _ _ (by omega)), q2.trans (hk _ _ (by omega)), q3.trans (hk _ _ (by omega)), q4.trans (hk _ _ (by omega)), fun l hl => ⟨(q5 l hl).1.trans (hk _ _ (by omega)), (q5 l hl).2.trans (congrArg _ (hk _ _ (by omega)))⟩, fun l hl => (q6 l hl).trans (hk _ _ (by omega))⟩
  · refine j_iconst (v := nI 0) C dX4_giveBack_7 rfl ?_
    refine j_retz M dX4_giveBack_8 rfl ?_
    exact Or.inl ⟨by omega, rfl, rfl⟩
end
section
/-! pure words of the flow: FAR, SHORT, what goes where -/
/-- the standing at 48 + 4 i: weights and which are up -/
def StW (σ : Sg) (i m : Nat) (w : Nat → Nat) (u : Nat → Bool) : Prop := ∀ l, l < m → σ (48 + 4 * i + 1) l = nI (w l) ∧ σ (48 + 4 * i + 2) l = bI (u l)
def WOk (m : Nat) (w : Nat → Nat) : Prop := ∀ l, l < m → 1 ≤ w l ∧ w l ≤ 20
def c1 (o : Option Nat) : Int32 := match o with
  | none => -1
  | some v => nI v
def c4 (o : Option Nat) : Int32 := match o with
  | none => -4
  | some v => nI v
/-- does LINK l make its beginning nearer -/
def rlq (a : ND) (w : Nat → Nat) (u : Nat → Bool) (f : Nat → Option Nat) (l : Nat) : Option Nat :=
  if u l = true then match f (nTo a l) with
    | none => none
    | some v => match f (nFr a l) with
      | none => some (w l + v)
      | some b => if w l + v < b then some (w l + v) else none
  else none
def rlx (a : ND) (w : Nat → Nat) (u : Nat → Bool) (f : Nat → Option Nat) (l : Nat) : Nat → Option Nat := match rlq a w u f l with
  | none => f
  | some v => fun x => if x = nFr a l then some v else f x
def rnd (a : ND) (w : Nat → Nat) (u : Nat → Bool) (f : Nat → Option Nat) : Nat → (Nat → Option Nat)
  | 0 => f
  | l + 1 => rlx a w u (rnd a w u f l) l
def itr (a : ND) (w : Nat → Nat) (u : Nat → Bool) (f : Nat → Option Nat) : Nat → (Nat → Option Nat)
  | 0 => f
  | r + 1 => rnd a w u (itr a w u f r) (nM a)
def far0 (t : Nat) : Nat → Option Nat := fun x => if x = t then some 0 else none
def FAR (a : ND) (w : Nat → Nat) (u : Nat → Bool) (t : Nat) : Nat → Option Nat := itr a w u (far0 t) (nN a - 1)
def fBd (f : Nat → Option Nat) (b : Nat) : Prop := ∀ x v, f x = some v → v ≤ b
theorem far0_bd (t b : Nat) : fBd (far0 t) b := by
  intro x v h
  unfold far0 at h
  split at h
  · cases h; exact Nat.zero_le _
  · cases h
theorem rlq_bd {a : ND} {w : Nat → Nat} {u : Nat → Bool} {f : Nat → Option Nat} {l b v : Nat} (hf : fBd f b) (hw : w l ≤ 20) (h : rlq a w u f l = some v) : v ≤ b + 20 := by
  unfold rlq at h
  split at h
  · split at h
    · cases h
    · next z hz =>
      have := hf _ _ hz
      split at h
      · cases h; omega
      · split at h
        · cases h; omega
        · cases h
  · cases h
theorem rlx_bd {a : ND} {w : Nat → Nat} {u : Nat → Bool} {f : Nat → Option Nat} {l b : Nat} (hf : fBd f b) (hw : w l ≤ 20) : fBd (rlx a w u f l) (b + 20) := by
  intro x v h
  cases hz : rlq a w u f l with
  | none =>
    simp only [rlx, hz] at h
    have := hf x v h
    omega
  | some z =>
    have h1 := rlq_bd hf hw hz
    simp only [rlx, hz] at h
    split at h
    · cases h; exact h1
    · have := hf x v h; omega
theorem rnd_bd {a : ND} {w : Nat → Nat} {u : Nat → Bool} {f : Nat → Option Nat} {b : Nat} (hf : fBd f b) (hw : WOk (nM a) w) : ∀ l, l ≤ nM a → fBd (rnd a w u f l) (b + 20 * l)
  | 0, _ => hf
  | l + 1, h => by
    have := rlx_bd (a := a) (u := u) (l := l) (rnd_bd (u := u) hf hw l (by omega)) (hw l (by omega)).2
    exact fun x v hx => by have := this x v hx; omega
theorem itr_bd {a : ND} {w : Nat → Nat} {u : Nat → Bool} {t : Nat} (hm : nM a ≤ 12) (hw : WOk (nM a) w) : ∀ r, fBd (itr a w u (far0 t) r) (240 * r)
  | 0 => far0_bd t _
  | r + 1 => by
    have := rnd_bd (u := u) (itr_bd (u := u) (t := t) hm hw r) hw (nM a) (Nat.le_refl _)
    exact fun x v hx => by have := this x v hx; omega
theorem FAR_bd {a : ND} {w : Nat → Nat} {u : Nat → Bool} {t : Nat} (hN : NOk a) (hw : WOk (nM a) w) : fBd (FAR a w u t) 1440 := by
  have := itr_bd (a := a) (u := u) (t := t) hN.2.2.1 hw (nN a - 1)
  have h7 := hN.2.1
  exact fun x v hx => by have := this x v hx; omega
theorem c1_m1 {o : Option Nat} {b : Nat} (hb : b < 2 ^ 31) (h : ∀ v, o = some v → v ≤ b) : c1 o = -1 ↔ o = none := by
  cases o with
  | none => exact ⟨fun _ => rfl, fun _ => rfl⟩
  | some v =>
    refine ⟨fun q => absurd q (nI_neg (by have := h v rfl; omega) (by decide)), fun q => by cases q⟩
def key (o : Option Nat) : Nat := match o with
  | none => 0
  | some v => v + 1
theorem c1_lt {p q : Option Nat} {b : Nat} (hb : b < 2 ^ 30) (hp : ∀ v, p = some v → v ≤ b) (hq : ∀ v, q = some v → v ≤ b) : c1 p < c1 q ↔ key p < key q := by
  cases p with
  | none =>
    cases q with
    | none => exact ⟨fun h => absurd h (by decide), fun h => absurd h (by decide)⟩
    | some v =>
      have := hq v rfl
      refine ⟨fun _ => by simp [key], fun _ => ?_⟩
      show (-1 : Int32) < nI v
      apply Int32.lt_iff_toInt_lt.mpr
      rw [nI_toInt (by omega)]
      have : (-1 : Int32).toInt = -1 := rfl
      omega
  | some z =>
    have hz := hp z rfl
    cases q with
    | none =>
      refine ⟨fun h => ?_, fun h => by simp [key] at h⟩
      have h1 := Int32.lt_iff_toInt_lt.mp h
      change (nI z).toInt < (-1 : Int32).toInt at h1
      rw [nI_toInt (by omega)] at h1
      have : (-1 : Int32).toInt = -1 := rfl
      omega
    | some v =>
      have hv := hq v rfl
      show nI z < nI v ↔ z + 1 < v + 1
      rw [nI_ltI (by omega) (by omega)]
      omega
/-- SHORT by the FAR f -/
def shb (a : ND) (w : Nat → Nat) (u : Nat → Bool) (f : Nat → Option Nat) (l : Nat) : Bool := u l && (match f (nTo a l) with
  | none => false
  | some v => f (nFr a l) == some (w l + v))
def sumN (f : Nat → Nat) : Nat → Nat
  | 0 => 0
  | l + 1 => sumN f l + f l
/-- which LINKS what has come to x goes by; what goes by one -/
def prd (a : ND) (w : Nat → Nat) (u : Nat → Bool) (f : Nat → Option Nat) (x l : Nat) : Bool := nFr a l == x && shb a w u f l
def ptN (p : Nat → Bool) (c k l : Nat) : Nat := c / k + (if cnt p l < c % k then 1 else 0)
/-- what has come, and the shares, behind the first b LINKS -/
def cmB (a : ND) (p : Nat → Bool) (c k : Nat) (cm : Nat → Nat) (b : Nat) : Nat → Nat := fun y => cm y + sumN (fun l => if p l = true ∧ nTo a l = y then ptN p c k l else 0) b
def shB (p : Nat → Bool) (c k : Nat) (sh : Nat → Nat) (b : Nat) : Nat → Nat := fun l => if l < b ∧ p l = true then ptN p c k l else sh l
def ldB (p : Nat → Bool) (c k : Nat) (ld : Nat → Nat) (b : Nat) : Nat → Nat := fun l => if l < b ∧ p l = true then ld l + ptN p c k l else ld l
theorem cnt_mono (p : Nat → Bool) : ∀ {b c : Nat}, b ≤ c → cnt p b ≤ cnt p c := by
  intro b c h
  induction c with
  | zero => rw [Nat.le_zero.mp h]; exact Nat.le_refl _
  | succ c ih =>
    by_cases e : b = c + 1
    · rw [e]; exact Nat.le_refl _
    · have := ih (by omega)
      simp only [cnt]
      omega
theorem cnt_hit {p : Nat → Bool} {l : Nat} (h : p l = true) : cnt p (l + 1) = cnt p l + 1 := by simp only [cnt, h, if_true]
theorem cnt_miss {p : Nat → Bool} {l : Nat} (h : p l = false) : cnt p (l + 1) = cnt p l := by simp [cnt, h]
/-- no LINK of p between two places of the same count -/
theorem cnt_gap {p : Nat → Bool} {b c : Nat} (h : cnt p b = cnt p c) {l : Nat} (h1 : b ≤ l) (h2 : l < c) : p l = false := by
  cases e : p l with
  | false => rfl
  | true =>
    have e1 := cnt_mono p h1
    have e2 := cnt_mono p (show l + 1 ≤ c from h2)
    have e3 := cnt_hit e
    omega
theorem sumN_gap {f : Nat → Nat} {b : Nat} : ∀ {c : Nat}, b ≤ c → (∀ l, b ≤ l → l < c → f l = 0) → sumN f c = sumN f b := by
  intro c h hz
  induction c with
  | zero => rw [Nat.le_zero.mp h]
  | succ c ih =>
    by_cases e : b = c + 1
    · rw [e]
    · rw [sumN, hz c (by omega) (by omega), ih (by omega) (fun l h1 h2 => hz l h1 (by omega))]
      rfl
theorem cmB_gap {a : ND} {p : Nat → Bool} {c k : Nat} {cm : Nat → Nat} {b d : Nat} (hbd : b ≤ d) (h : cnt p b = cnt p d) : cmB a p c k cm d = cmB a p c k cm b := by
  funext y
  unfold cmB
  rw [sumN_gap hbd (fun l h1 h2 => by rw [if_neg]; intro q; rw [cnt_gap h h1 h2] at q; cases q.1)]
theorem shB_gap {p : Nat → Bool} {c k : Nat} {sh : Nat → Nat} {b d : Nat} (hbd : b ≤ d) (h : cnt p b = cnt p d) : shB p c k sh d = shB p c k sh b := by
  funext l
  unfold shB
  by_cases h1 : l < b ∧ p l = true
  · rw [if_pos h1, if_pos ⟨by omega, h1.2⟩]
  · rw [if_neg h1, if_neg]
    intro q
    by_cases h2 : l < b
    · exact h1 ⟨h2, q.2⟩
    · have := cnt_gap h (show b ≤ l by omega) q.1
      rw [q.2] at this
      cases this
theorem ldB_gap {p : Nat → Bool} {c k : Nat} {sh : Nat → Nat} {b d : Nat} (hbd : b ≤ d) (h : cnt p b = cnt p d) : ldB p c k sh d = ldB p c k sh b := by
  funext l
  unfold ldB
  by_cases h1 : l < b ∧ p l = true
  · rw [if_pos h1, if_pos ⟨by omega, h1.2⟩]
  · rw [if_neg h1, if_neg]
    intro q
    by_cases h2 : l < b
    · exact h1 ⟨h2, q.2⟩
    · have := cnt_gap h (show b ≤ l by omega) q.1
      rw [q.2] at this
      cases this
theorem cmB_hit {a : ND} {p : Nat → Bool} {c k : Nat} {cm : Nat → Nat} {l : Nat} (h : p l = true) (y : Nat) : cmB a p c k cm (l + 1) y = if y = nTo a l then cmB a p c k cm l y + ptN p c k l else cmB a p c k cm l y := by
  unfold cmB
  rw [sumN]
  by_cases e : y = nTo a l
  · rw [if_pos e, if_pos ⟨h, e.symm⟩, Nat.add_assoc]
  · rw [if_neg e, if_neg (fun q => e q.2.symm)]
    rfl
theorem shB_hit {p : Nat → Bool} {c k : Nat} {sh : Nat → Nat} {l : Nat} (h : p l = true) (y : Nat) : shB p c k sh (l + 1) y = if y = l then ptN p c k l else shB p c k sh l y := by
  unfold shB
  by_cases e : y = l
  · subst e
    rw [if_pos rfl, if_pos ⟨by omega, h⟩]
  · rw [if_neg e]
    by_cases h1 : y < l ∧ p y = true
    · rw [if_pos h1, if_pos ⟨by omega, h1.2⟩]
    · rw [if_neg h1, if_neg (fun q => h1 ⟨by omega, q.2⟩)]
theorem ldB_hit {p : Nat → Bool} {c k : Nat} {sh : Nat → Nat} {l : Nat} (h : p l = true) (y : Nat) : ldB p c k sh (l + 1) y = if y = l then sh l + ptN p c k l else ldB p c k sh l y := by
  unfold ldB
  by_cases e : y = l
  · subst e
    rw [if_pos rfl, if_pos ⟨by omega, h⟩]
  · rw [if_neg e]
    by_cases h1 : y < l ∧ p y = true
    · rw [if_pos h1, if_pos ⟨by omega, h1.2⟩]
    · rw [if_neg h1, if_neg (fun q => h1 ⟨by omega, q.2⟩)]
theorem ldB_self {p : Nat → Bool} {c k : Nat} {sh : Nat → Nat} {l : Nat} : ldB p c k sh l l = sh l := by
  unfold ldB
  rw [if_neg (by omega)]
end
section
set_option maxHeartbeats 4000000 in
set_option maxRecDepth 100000 in
theorem tX0_isShort {g : jG} (hN : 84 ≤ gN g) {σ : Sg} {i : Nat} {a : ND} {w : Nat → Nat} {u : Nat → Bool} (hi : i < 9) (hI : NetI σ 3 a) (hO : NOk a) (hW : StW σ i (nM a) w u) (hw : WOk (nM a) w) {l t : Nat} {f : Nat → Option Nat} (hl : l < nM a) (ht : t < 7) (hF : ∀ x, x < nN a → σ (25 + 1 * t) x = c1 (f x)) (hB : fBd f 1680) : MS g yX0_isShort cX0_isShort 5 (some .boolean) rmX0_isShort [.ref (gad g (23)), .ref (gad g (48 + 4 * i)), .int (nI (l)), .int (nI (t))] σ (fun r σ' => σ' = σ ∧ r = bI (shb a w u f l)) := by
  refine MJ_of (by decide) (Nat.le_of_ble_eq_true rfl) (List.forall_mem_cons.mpr ⟨rfl, List.forall_mem_cons.mpr ⟨rfl, List.forall_mem_cons.mpr ⟨rfl, List.forall_mem_cons.mpr ⟨rfl, fun _ h => absurd h List.not_mem_nil⟩⟩⟩⟩) ?_
  intro κ M
  have C := M.1
  show J g κ 5 0 [some (.ref (gad g (23))), some (.ref (gad g (48 + 4 * i))), some (.int (nI (l))), some (.int (nI (t))), none] [] σ
  have hn7 := hO.2.1
  have hm12 := hO.2.2.1
  have hd6 := hO.2.2.2.1
  obtain ⟨hb1, hb2, hb3, hb4⟩ := hO.2.2.2.2.1 l hl
  have hw1 := hw l hl
  rcases hu : u l with _ | _ <;> rcases hto : f (nTo a l) with _ | v <;> rcases hfr : f (nFr a l) with _ | z
  · refine j_aload_n C dX0_isShort_0 rfl rfl ?_
    refine j_get C flX0_11 dX0_isShort_1 (Nat.lt_of_lt_of_le (by decide) hN) rfl rfl ?_
    refine j_iload_n C dX0_isShort_4 rfl rfl ?_
    refine j_aald C dX0_isShort_5 (Nat.lt_of_lt_of_le (by decide) hN) (fun _ => rfl) (by decide) (by omega) ?_
    refine j_aload_n C dX0_isShort_6 rfl rfl ?_
    refine j_get C flX0_36 dX0_isShort_7 (Nat.lt_of_lt_of_le (by decide) hN) rfl rfl ?_
    refine j_get C flX0_74 dX0_isShort_10 (Nat.lt_of_lt_of_le (by decide) hN) rfl rfl ?_
    refine j_iload_n C dX0_isShort_13 rfl rfl ?_
    refine j_iald C dX0_isShort_14 (Nat.lt_of_lt_of_le (by decide) hN) (fun _ => rfl) (by decide) (by omega) ?_
    refine j_top (hI.to (l := l) (by omega)) ?_
    refine j_iald C dX0_isShort_15 (by omega) (cf_far (by omega)) (by decide) (by omega) ?_
    refine j_top ((hF (nTo a l) (by omega)).trans (congrArg c1 hto)) ?_
    refine j_istore (L' := [some (.ref (gad g (23))), some (.ref (gad g (48 + 4 * i))), some (.int (nI (l))), some (.int (nI (t))), some (.int (-1))]) C dX0_isShort_16 (by decide) rfl ?_
    refine j_aload_n C dX0_isShort_18 rfl rfl ?_
    refine j_get C flX0_69 dX0_isShort_19 (by omega) (cf_st (by omega) _) rfl ?_
    refine j_iload_n C dX0_isShort_22 rfl rfl ?_
    refine j_zald C dX0_isShort_23 (by omega) (cf_st2 (by omega)) (by decide) (by omega) ?_
    refine j_top ((hW l (by omega)).2.trans (by rw [hu])) ?_
    refine j_ifn_eq (tgt := 65) C dX0_isShort_24 rfl (by omega) (fun _ => ?_) (fun h => absurd h (by decide))
    refine j_iconst (v := nI 0) C dX0_isShort_65 rfl ?_
    refine j_retz M dX0_isShort_66 rfl ?_
    refine ⟨rfl, ?_⟩
    unfold shb
    rw [hu, hto]
    try rw [hfr]
    first | rfl | (simp [bI]; done) | (simp [bI]; omega)
  · have hz := hB _ _ hfr
    refine j_aload_n C dX0_isShort_0 rfl rfl ?_
    refine j_get C flX0_11 dX0_isShort_1 (Nat.lt_of_lt_of_le (by decide) hN) rfl rfl ?_
    refine j_iload_n C dX0_isShort_4 rfl rfl ?_
    refine j_aald C dX0_isShort_5 (Nat.lt_of_lt_of_le (by decide) hN) (fun _ => rfl) (by decide) (by omega) ?_
    refine j_aload_n C dX0_isShort_6 rfl rfl ?_
    refine j_get C flX0_36 dX0_isShort_7 (Nat.lt_of_lt_of_le (by decide) hN) rfl rfl ?_
    refine j_get C flX0_74 dX0_isShort_10 (Nat.lt_of_lt_of_le (by decide) hN) rfl rfl ?_
    refine j_iload_n C dX0_isShort_13 rfl rfl ?_
    refine j_iald C dX0_isShort_14 (Nat.lt_of_lt_of_le (by decide) hN) (fun _ => rfl) (by decide) (by omega) ?_
    refine j_top (hI.to (l := l) (by omega)) ?_
    refine j_iald C dX0_isShort_15 (by omega) (cf_far (by omega)) (by decide) (by omega) ?_
    refine j_top ((hF (nTo a l) (by omega)).trans (congrArg c1 hto)) ?_
    refine j_istore (L' := [some (.ref (gad g (23))), some (.ref (gad g (48 + 4 * i))), some (.int (nI (l))), some (.int (nI (t))), some (.int (-1))]) C dX0_isShort_16 (by decide) rfl ?_
    refine j_aload_n C dX0_isShort_18 rfl rfl ?_
    refine j_get C flX0_69 dX0_isShort_19 (by omega) (cf_st (by omega) _) rfl ?_
    refine j_iload_n C dX0_isShort_22 rfl rfl ?_
    refine j_zald C dX0_isShort_23 (by omega) (cf_st2 (by omega)) (by decide) (by omega) ?_
    refine j_top ((hW l (by omega)).2.trans (by rw [hu])) ?_
    refine j_ifn_eq (tgt := 65) C dX0_isShort_24 rfl (by omega) (fun _ => ?_) (fun h => absurd h (by decide))
    refine j_iconst (v := nI 0) C dX0_isShort_65 rfl ?_
    refine j_retz M dX0_isShort_66 rfl ?_
    refine ⟨rfl, ?_⟩
    unfold shb
    rw [hu, hto]
    try rw [hfr]
    first | rfl | (simp [bI]; done) | (simp [bI]; omega)
  · have hv := hB _ _ hto
    refine j_aload_n C dX0_isShort_0 rfl rfl ?_
    refine j_get C flX0_11 dX0_isShort_1 (Nat.lt_of_lt_of_le (by decide) hN) rfl rfl ?_
    refine j_iload_n C dX0_isShort_4 rfl rfl ?_
    refine j_aald C dX0_isShort_5 (Nat.lt_of_lt_of_le (by decide) hN) (fun _ => rfl) (by decide) (by omega) ?_
    refine j_aload_n C dX0_isShort_6 rfl rfl ?_
    refine j_get C flX0_36 dX0_isShort_7 (Nat.lt_of_lt_of_le (by decide) hN) rfl rfl ?_
    refine j_get C flX0_74 dX0_isShort_10 (Nat.lt_of_lt_of_le (by decide) hN) rfl rfl ?_
    refine j_iload_n C dX0_isShort_13 rfl rfl ?_
    refine j_iald C dX0_isShort_14 (Nat.lt_of_lt_of_le (by decide) hN) (fun _ => rfl) (by decide) (by omega) ?_
    refine j_top (hI.to (l := l) (by omega)) ?_
    refine j_iald C dX0_isShort_15 (by omega) (cf_far (by omega)) (by decide) (by omega) ?_
    refine j_top ((hF (nTo a l) (by omega)).trans (congrArg c1 hto)) ?_
    refine j_istore (L' := [some (.ref (gad g (23))), some (.ref (gad g (48 + 4 * i))), some (.int (nI (l))), some (.int (nI (t))), some (.int (nI (v)))]) C dX0_isShort_16 (by decide) rfl ?_
    refine j_aload_n C dX0_isShort_18 rfl rfl ?_
    refine j_get C flX0_69 dX0_isShort_19 (by omega) (cf_st (by omega) _) rfl ?_
    refine j_iload_n C dX0_isShort_22 rfl rfl ?_
    refine j_zald C dX0_isShort_23 (by omega) (cf_st2 (by omega)) (by decide) (by omega) ?_
    refine j_top ((hW l (by omega)).2.trans (by rw [hu])) ?_
    refine j_ifn_eq (tgt := 65) C dX0_isShort_24 rfl (by omega) (fun _ => ?_) (fun h => absurd h (by decide))
    refine j_iconst (v := nI 0) C dX0_isShort_65 rfl ?_
    refine j_retz M dX0_isShort_66 rfl ?_
    refine ⟨rfl, ?_⟩
    unfold shb
    rw [hu, hto]
    try rw [hfr]
    first | rfl | (simp [bI]; done) | (simp [bI]; omega)
  · have hv := hB _ _ hto
    have hz := hB _ _ hfr
    refine j_aload_n C dX0_isShort_0 rfl rfl ?_
    refine j_get C flX0_11 dX0_isShort_1 (Nat.lt_of_lt_of_le (by decide) hN) rfl rfl ?_
    refine j_iload_n C dX0_isShort_4 rfl rfl ?_
    refine j_aald C dX0_isShort_5 (Nat.lt_of_lt_of_le (by decide) hN) (fun _ => rfl) (by decide) (by omega) ?_
    refine j_aload_n C dX0_isShort_6 rfl rfl ?_
    refine j_get C flX0_36 dX0_isShort_7 (Nat.lt_of_lt_of_le (by decide) hN) rfl rfl ?_
    refine j_get C flX0_74 dX0_isShort_10 (Nat.lt_of_lt_of_le (by decide) hN) rfl rfl ?_
    refine j_iload_n C dX0_isShort_13 rfl rfl ?_
    refine j_iald C dX0_isShort_14 (Nat.lt_of_lt_of_le (by decide) hN) (fun _ => rfl) (by decide) (by omega) ?_
    refine j_top (hI.to (l := l) (by omega)) ?_
    refine j_iald C dX0_isShort_15 (by omega) (cf_far (by omega)) (by decide) (by omega) ?_
    refine j_top ((hF (nTo a l) (by omega)).trans (congrArg c1 hto)) ?_
    refine j_istore (L' := [some (.ref (gad g (23))), some (.ref (gad g (48 + 4 * i))), some (.int (nI (l))), some (.int (nI (t))), some (.int (nI (v)))]) C dX0_isShort_16 (by decide) rfl ?_
    refine j_aload_n C dX0_isShort_18 rfl rfl ?_
    refine j_get C flX0_69 dX0_isShort_19 (by omega) (cf_st (by omega) _) rfl ?_
    refine j_iload_n C dX0_isShort_22 rfl rfl ?_
    refine j_zald C dX0_isShort_23 (by omega) (cf_st2 (by omega)) (by decide) (by omega) ?_
    refine j_top ((hW l (by omega)).2.trans (by rw [hu])) ?_
    refine j_ifn_eq (tgt := 65) C dX0_isShort_24 rfl (by omega) (fun _ => ?_) (fun h => absurd h (by decide))
    refine j_iconst (v := nI 0) C dX0_isShort_65 rfl ?_
    refine j_retz M dX0_isShort_66 rfl ?_
    refine ⟨rfl, ?_⟩
    unfold shb
    rw [hu, hto]
    try rw [hfr]
    first | rfl | (simp [bI]; done) | (simp [bI]; omega)
  · refine j_aload_n C dX0_isShort_0 rfl rfl ?_
    refine j_get C flX0_11 dX0_isShort_1 (Nat.lt_of_lt_of_le (by decide) hN) rfl rfl ?_
    refine j_iload_n C dX0_isShort_4 rfl rfl ?_
    refine j_aald C dX0_isShort_5 (Nat.lt_of_lt_of_le (by decide) hN) (fun _ => rfl) (by decide) (by omega) ?_
    refine j_aload_n C dX0_isShort_6 rfl rfl ?_
    refine j_get C flX0_36 dX0_isShort_7 (Nat.lt_of_lt_of_le (by decide) hN) rfl rfl ?_
    refine j_get C flX0_74 dX0_isShort_10 (Nat.lt_of_lt_of_le (by decide) hN) rfl rfl ?_
    refine j_iload_n C dX0_isShort_13 rfl rfl ?_
    refine j_iald C dX0_isShort_14 (Nat.lt_of_lt_of_le (by decide) hN) (fun _ => rfl) (by decide) (by omega) ?_
    refine j_top (hI.to (l := l) (by omega)) ?_
    refine j_iald C dX0_isShort_15 (by omega) (cf_far (by omega)) (by decide) (by omega) ?_
    refine j_top ((hF (nTo a l) (by omega)).trans (congrArg c1 hto)) ?_
    refine j_istore (L' := [some (.ref (gad g (23))), some (.ref (gad g (48 + 4 * i))), some (.int (nI (l))), some (.int (nI (t))), some (.int (-1))]) C dX0_isShort_16 (by decide) rfl ?_
    refine j_aload_n C dX0_isShort_18 rfl rfl ?_
    refine j_get C flX0_69 dX0_isShort_19 (by omega) (cf_st (by omega) _) rfl ?_
    refine j_iload_n C dX0_isShort_22 rfl rfl ?_
    refine j_zald C dX0_isShort_23 (by omega) (cf_st2 (by omega)) (by decide) (by omega) ?_
    refine j_top ((hW l (by omega)).2.trans (by rw [hu])) ?_
    refine j_ifn_eq (tgt := 65) C dX0_isShort_24 rfl (by omega) (fun h => absurd h (by decide)) (fun _ => ?_)
    refine j_iload C dX0_isShort_27 rfl ?_
    refine j_iconst (v := -1) C dX0_isShort_29 rfl ?_
    refine j_icmp_eq (tgt := 65) C dX0_isShort_30 rfl (fun _ => ?_) (fun h => absurd h (by decide))
    refine j_iconst (v := nI 0) C dX0_isShort_65 rfl ?_
    refine j_retz M dX0_isShort_66 rfl ?_
    refine ⟨rfl, ?_⟩
    unfold shb
    rw [hu, hto]
    try rw [hfr]
    first | rfl | (simp [bI]; done) | (simp [bI]; omega)
  · have hz := hB _ _ hfr
    refine j_aload_n C dX0_isShort_0 rfl rfl ?_
    refine j_get C flX0_11 dX0_isShort_1 (Nat.lt_of_lt_of_le (by decide) hN) rfl rfl ?_
    refine j_iload_n C dX0_isShort_4 rfl rfl ?_
    refine j_aald C dX0_isShort_5 (Nat.lt_of_lt_of_le (by decide) hN) (fun _ => rfl) (by decide) (by omega) ?_
    refine j_aload_n C dX0_isShort_6 rfl rfl ?_
    refine j_get C flX0_36 dX0_isShort_7 (Nat.lt_of_lt_of_le (by decide) hN) rfl rfl ?_
    refine j_get C flX0_74 dX0_isShort_10 (Nat.lt_of_lt_of_le (by decide) hN) rfl rfl ?_
    refine j_iload_n C dX0_isShort_13 rfl rfl ?_
    refine j_iald C dX0_isShort_14 (Nat.lt_of_lt_of_le (by decide) hN) (fun _ => rfl) (by decide) (by omega) ?_
    refine j_top (hI.to (l := l) (by omega)) ?_
    refine j_iald C dX0_isShort_15 (by omega) (cf_far (by omega)) (by decide) (by omega) ?_
    refine j_top ((hF (nTo a l) (by omega)).trans (congrArg c1 hto)) ?_
    refine j_istore (L' := [some (.ref (gad g (23))), some (.ref (gad g (48 + 4 * i))), some (.int (nI (l))), some (.int (nI (t))), some (.int (-1))]) C dX0_isShort_16 (by decide) rfl ?_
    refine j_aload_n C dX0_isShort_18 rfl rfl ?_
    refine j_get C flX0_69 dX0_isShort_19 (by omega) (cf_st (by omega) _) rfl ?_
    refine j_iload_n C dX0_isShort_22 rfl rfl ?_
    refine j_zald C dX0_isShort_23 (by omega) (cf_st2 (by omega)) (by decide) (by omega) ?_
    refine j_top ((hW l (by omega)).2.trans (by rw [hu])) ?_
    refine j_ifn_eq (tgt := 65) C dX0_isShort_24 rfl (by omega) (fun h => absurd h (by decide)) (fun _ => ?_)
    refine j_iload C dX0_isShort_27 rfl ?_
    refine j_iconst (v := -1) C dX0_isShort_29 rfl ?_
    refine j_icmp_eq (tgt := 65) C dX0_isShort_30 rfl (fun _ => ?_) (fun h => absurd h (by decide))
    refine j_iconst (v := nI 0) C dX0_isShort_65 rfl ?_
    refine j_retz M dX0_isShort_66 rfl ?_
    refine ⟨rfl, ?_⟩
    unfold shb
    rw [hu, hto]
    try rw [hfr]
    first | rfl | (simp [bI]; done) | (simp [bI]; omega)
  · have hv := hB _ _ hto
    refine j_aload_n C dX0_isShort_0 rfl rfl ?_
    refine j_get C flX0_11 dX0_isShort_1 (Nat.lt_of_lt_of_le (by decide) hN) rfl rfl ?_
    refine j_iload_n C dX0_isShort_4 rfl rfl ?_
    refine j_aald C dX0_isShort_5 (Nat.lt_of_lt_of_le (by decide) hN) (fun _ => rfl) (by decide) (by omega) ?_
    refine j_aload_n C dX0_isShort_6 rfl rfl ?_
    refine j_get C flX0_36 dX0_isShort_7 (Nat.lt_of_lt_of_le (by decide) hN) rfl rfl ?_
    refine j_get C flX0_74 dX0_isShort_10 (Nat.lt_of_lt_of_le (by decide) hN) rfl rfl ?_
    refine j_iload_n C dX0_isShort_13 rfl rfl ?_
    refine j_iald C dX0_isShort_14 (Nat.lt_of_lt_of_le (by decide) hN) (fun _ => rfl) (by decide) (by omega) ?_
    refine j_top (hI.to (l := l) (by omega)) ?_
    refine j_iald C dX0_isShort_15 (by omega) (cf_far (by omega)) (by decide) (by omega) ?_
    refine j_top ((hF (nTo a l) (by omega)).trans (congrArg c1 hto)) ?_
    refine j_istore (L' := [some (.ref (gad g (23))), some (.ref (gad g (48 + 4 * i))), some (.int (nI (l))), some (.int (nI (t))), some (.int (nI (v)))]) C dX0_isShort_16 (by decide) rfl ?_
    refine j_aload_n C dX0_isShort_18 rfl rfl ?_
    refine j_get C flX0_69 dX0_isShort_19 (by omega) (cf_st (by omega) _) rfl ?_
    refine j_iload_n C dX0_isShort_22 rfl rfl ?_
    refine j_zald C dX0_isShort_23 (by omega) (cf_st2 (by omega)) (by decide) (by omega) ?_
    refine j_top ((hW l (by omega)).2.trans (by rw [hu])) ?_
    refine j_ifn_eq (tgt := 65) C dX0_isShort_24 rfl (by omega) (fun h => absurd h (by decide)) (fun _ => ?_)
    refine j_iload C dX0_isShort_27 rfl ?_
    refine j_iconst (v := -1) C dX0_isShort_29 rfl ?_
    refine j_icmp_eq (tgt := 65) C dX0_isShort_30 rfl (fun h => absurd h (nI_neg (by omega) (by decide))) (fun _ => ?_)
    refine j_aload_n C dX0_isShort_33 rfl rfl ?_
    refine j_get C flX0_11 dX0_isShort_34 (Nat.lt_of_lt_of_le (by decide) hN) rfl rfl ?_
    refine j_iload_n C dX0_isShort_37 rfl rfl ?_
    refine j_aald C dX0_isShort_38 (Nat.lt_of_lt_of_le (by decide) hN) (fun _ => rfl) (by decide) (by omega) ?_
    refine j_aload_n C dX0_isShort_39 rfl rfl ?_
    refine j_get C flX0_36 dX0_isShort_40 (Nat.lt_of_lt_of_le (by decide) hN) rfl rfl ?_
    refine j_get C flX0_80 dX0_isShort_43 (Nat.lt_of_lt_of_le (by decide) hN) rfl rfl ?_
    refine j_iload_n C dX0_isShort_46 rfl rfl ?_
    refine j_iald C dX0_isShort_47 (Nat.lt_of_lt_of_le (by decide) hN) (fun _ => rfl) (by decide) (by omega) ?_
    refine j_top (hI.fr (l := l) (by omega)) ?_
    refine j_iald C dX0_isShort_48 (by omega) (cf_far (by omega)) (by decide) (by omega) ?_
    refine j_top ((hF (nFr a l) (by omega)).trans (congrArg c1 hfr)) ?_
    refine j_aload_n C dX0_isShort_49 rfl rfl ?_
    refine j_get C flX0_77 dX0_isShort_50 (by omega) (cf_st (by omega) _) rfl ?_
    refine j_iload_n C dX0_isShort_53 rfl rfl ?_
    refine j_iald C dX0_isShort_54 (by omega) (cf_st1 (by omega)) (by decide) (by omega) ?_
    refine j_top ((hW (l) (by omega)).1) ?_
    refine j_iload C dX0_isShort_55 rfl ?_
    refine j_iadd C dX0_isShort_57 ?_
    refine j_top (nI_add _ _) ?_
    refine j_icmp_ne (tgt := 65) C dX0_isShort_58 rfl (fun _ => ?_) (fun h => absurd h (fun h => nI_neg (by omega) (by decide) h.symm))
    refine j_iconst (v := nI 0) C dX0_isShort_65 rfl ?_
    refine j_retz M dX0_isShort_66 rfl ?_
    refine ⟨rfl, ?_⟩
    unfold shb
    rw [hu, hto]
    try rw [hfr]
    first | rfl | (simp [bI]; done) | (simp [bI]; omega)
  · have hv := hB _ _ hto
    have hz := hB _ _ hfr
    refine j_aload_n C dX0_isShort_0 rfl rfl ?_
    refine j_get C flX0_11 dX0_isShort_1 (Nat.lt_of_lt_of_le (by decide) hN) rfl rfl ?_
    refine j_iload_n C dX0_isShort_4 rfl rfl ?_
    refine j_aald C dX0_isShort_5 (Nat.lt_of_lt_of_le (by decide) hN) (fun _ => rfl) (by decide) (by omega) ?_
    refine j_aload_n C dX0_isShort_6 rfl rfl ?_
    refine j_get C flX0_36 dX0_isShort_7 (Nat.lt_of_lt_of_le (by decide) hN) rfl rfl ?_
    refine j_get C flX0_74 dX0_isShort_10 (Nat.lt_of_lt_of_le (by decide) hN) rfl rfl ?_
    refine j_iload_n C dX0_isShort_13 rfl rfl ?_
    refine j_iald C dX0_isShort_14 (Nat.lt_of_lt_of_le (by decide) hN) (fun _ => rfl) (by decide) (by omega) ?_
    refine j_top (hI.to (l := l) (by omega)) ?_
    refine j_iald C dX0_isShort_15 (by omega) (cf_far (by omega)) (by decide) (by omega) ?_
    refine j_top ((hF (nTo a l) (by omega)).trans (congrArg c1 hto)) ?_
    refine j_istore (L' := [some (.ref (gad g (23))), some (.ref (gad g (48 + 4 * i))), some (.int (nI (l))), some (.int (nI (t))), some (.int (nI (v)))]) C dX0_isShort_16 (by decide) rfl ?_
    refine j_aload_n C dX0_isShort_18 rfl rfl ?_
    refine j_get C flX0_69 dX0_isShort_19 (by omega) (cf_st (by omega) _) rfl ?_
    refine j_iload_n C dX0_isShort_22 rfl rfl ?_
    refine j_zald C dX0_isShort_23 (by omega) (cf_st2 (by omega)) (by decide) (by omega) ?_
    refine j_top ((hW l (by omega)).2.trans (by rw [hu])) ?_
    refine j_ifn_eq (tgt := 65) C dX0_isShort_24 rfl (by omega) (fun h => absurd h (by decide)) (fun _ => ?_)
    refine j_iload C dX0_isShort_27 rfl ?_
    refine j_iconst (v := -1) C dX0_isShort_29 rfl ?_
    refine j_icmp_eq (tgt := 65) C dX0_isShort_30 rfl (fun h => absurd h (nI_neg (by omega) (by decide))) (fun _ => ?_)
    refine j_aload_n C dX0_isShort_33 rfl rfl ?_
    refine j_get C flX0_11 dX0_isShort_34 (Nat.lt_of_lt_of_le (by decide) hN) rfl rfl ?_
    refine j_iload_n C dX0_isShort_37 rfl rfl ?_
    refine j_aald C dX0_isShort_38 (Nat.lt_of_lt_of_le (by decide) hN) (fun _ => rfl) (by decide) (by omega) ?_
    refine j_aload_n C dX0_isShort_39 rfl rfl ?_
    refine j_get C flX0_36 dX0_isShort_40 (Nat.lt_of_lt_of_le (by decide) hN) rfl rfl ?_
    refine j_get C flX0_80 dX0_isShort_43 (Nat.lt_of_lt_of_le (by decide) hN) rfl rfl ?_
    refine j_iload_n C dX0_isShort_46 rfl rfl ?_
    refine j_iald C dX0_isShort_47 (Nat.lt_of_lt_of_le (by decide) hN) (fun _ => rfl) (by decide) (by omega) ?_
    refine j_top (hI.fr (l := l) (by omega)) ?_
    refine j_iald C dX0_isShort_48 (by omega) (cf_far (by omega)) (by decide) (by omega) ?_
    refine j_top ((hF (nFr a l) (by omega)).trans (congrArg c1 hfr)) ?_
    refine j_aload_n C dX0_isShort_49 rfl rfl ?_
    refine j_get C flX0_77 dX0_isShort_50 (by omega) (cf_st (by omega) _) rfl ?_
    refine j_iload_n C dX0_isShort_53 rfl rfl ?_
    refine j_iald C dX0_isShort_54 (by omega) (cf_st1 (by omega)) (by decide) (by omega) ?_
    refine j_top ((hW (l) (by omega)).1) ?_
    refine j_iload C dX0_isShort_55 rfl ?_
    refine j_iadd C dX0_isShort_57 ?_
    refine j_top (nI_add _ _) ?_
    refine j_icmpn_ne (tgt := 65) C dX0_isShort_58 rfl (by omega) (by omega) (fun h58 => ?_) (fun h58 => ?_)
    · refine j_iconst (v := nI 0) C dX0_isShort_65 rfl ?_
      refine j_retz M dX0_isShort_66 rfl ?_
      refine ⟨rfl, ?_⟩
      unfold shb
      rw [hu, hto]
      try rw [hfr]
      first | rfl | (simp [bI]; done) | (simp [bI]; omega)
    · refine j_iconst (v := nI 1) C dX0_isShort_61 rfl ?_
      refine j_goto (tgt := 66) C dX0_isShort_62 rfl ?_
      refine j_retz M dX0_isShort_66 rfl ?_
      refine ⟨rfl, ?_⟩
      have e : z = w l + v := by omega
      subst e
      unfold shb
      rw [hu, hto, hfr]
      simp [bI]
theorem bI_0 {b : Bool} : bI b = 0 ↔ b = false := by cases b <;> decide
theorem rlx_none {a : ND} {w : Nat → Nat} {u : Nat → Bool} {f : Nat → Option Nat} {l : Nat} (h : rlq a w u f l = none) : rlx a w u f l = f := by simp only [rlx, h]
theorem rlx_some {a : ND} {w : Nat → Nat} {u : Nat → Bool} {f : Nat → Option Nat} {l v : Nat} (h : rlq a w u f l = some v) (x : Nat) : rlx a w u f l x = if x = nFr a l then some v else f x := by simp only [rlx, h]
set_option maxHeartbeats 4000000 in
set_option maxRecDepth 100000 in
theorem tX0_measure {g : jG} (hN : 84 ≤ gN g) {σ : Sg} {i : Nat} {a : ND} {w : Nat → Nat} {u : Nat → Bool} (hi : i < 9) (hI : NetI σ 3 a) (hO : NOk a) (hW : StW σ i (nM a) w u) (hw : WOk (nM a) w) {t : Nat} (ht : t < nN a) : MS g yX0_measure cX0_measure 9 none rmX0_measure [.ref (gad g (23)), .ref (gad g (48 + 4 * i)), .int (nI (t))] σ (fun r σ' => (∀ j n, ¬ (j = 25 + 1 * t) → σ' j n = σ j n) ∧ ∃ R : Nat, R ≤ nN a ∧ (R = nN a ∨ rnd a w u (itr a w u (far0 t) R) (nM a) = itr a w u (far0 t) R) ∧ ∀ x, x < nN a → σ' (25 + 1 * t) x = c1 (itr a w u (far0 t) R x)) := by
  refine MJ_of (by decide) (Nat.le_of_ble_eq_true rfl) (List.forall_mem_cons.mpr ⟨rfl, List.forall_mem_cons.mpr ⟨rfl, List.forall_mem_cons.mpr ⟨rfl, fun _ h => absurd h List.not_mem_nil⟩⟩⟩) ?_
  intro κ M
  have C := M.1
  show J g κ 9 0 [some (.ref (gad g (23))), some (.ref (gad g (48 + 4 * i))), some (.int (nI (t))), none, none, none, none, none, none] [] σ
  have hn7 := hO.2.1
  have hm12 := hO.2.2.1
  have hd6 := hO.2.2.2.1
  have lpC : ∀ (r : Nat), r < nN a → (∀ (ch : Bool) (σ1 : Sg), (∀ j n, ¬ (j = 25 + 1 * t) → σ1 j n = σ j n) → (∀ x, x < nN a → σ1 (25 + 1 * t) x = c1 (itr a w u (far0 t) (r + 1) x)) → (ch = false → rnd a w u (itr a w u (far0 t) r) (nM a) = (itr a w u (far0 t) r)) → J g κ 9 182 [some (.ref (gad g (23))), some (.ref (gad g (48 + 4 * i))), some (.int (nI (t))), some (.ref (gad g (25 + 1 * t))), some (.int (bI ch)), some (.int (nI (r))), none, none, none] [] σ1) → ∀ (k l : Nat) (ch : Bool) (σ1 : Sg), nM a - l = k → l ≤ nM a → (∀ j n, ¬ (j = 25 + 1 * t) → σ1 j n = σ j n) → (∀ x, x < nN a → σ1 (25 + 1 * t) x = c1 (rnd a w u (itr a w u (far0 t) r) l x)) → (ch = false → rnd a w u (itr a w u (far0 t) r) l = (itr a w u (far0 t) r)) → J g κ 9 72 [some (.ref (gad g (23))), some (.ref (gad g (48 + 4 * i))), some (.int (nI (t))), some (.ref (gad g (25 + 1 * t))), some (.int (bI ch)), some (.int (nI (r))), some (.int (nI (l))), none, none] [] σ1 := by
    intro r hr kB k
    induction k using Nat.strongRecOn with
    | _ k ih =>
      intro l ch σ1 hk hl hf hrow hflag
      refine j_iload C dX0_measure_72 rfl ?_
      refine j_aload_n C dX0_measure_74 rfl rfl ?_
      refine j_get C flX0_36 dX0_measure_75 (Nat.lt_of_lt_of_le (by decide) hN) rfl rfl ?_
      refine j_get C flX0_53 dX0_measure_78 (Nat.lt_of_lt_of_le (by decide) hN) rfl rfl ?_
      refine j_top ((hf _ _ (by omega)).trans (hI.m)) ?_
      refine j_icmpn_ge (tgt := 182) C dX0_measure_81 rfl (by omega) (by omega) (fun h81 => ?_) (fun h81 => ?_)
      · refine J_clr 6 (L' := [some (.ref (gad g (23))), some (.ref (gad g (48 + 4 * i))), some (.int (nI (t))), some (.ref (gad g (25 + 1 * t))), some (.int (bI ch)), some (.int (nI (r))), none, none, none]) rfl ?_
        exact kB ch σ1 hf (fun x hx => by rw [hrow x hx, show l = nM a by omega]; rfl) (fun hch => by have := hflag hch; rwa [show l = nM a by omega] at this)
      · obtain ⟨hb1, hb2, hb3, hb4⟩ := hO.2.2.2.2.1 l h81
        have hw1 := hw l h81
        have hbd : fBd (rnd a w u (itr a w u (far0 t) r) l) 2000 := by
          have := rnd_bd (u := u) (itr_bd (a := a) (u := u) (t := t) hm12 hw r) hw l hl
          exact fun x v hx => by have := this x v hx; omega
        rcases hu : u l with _ | _ <;> rcases hto : rnd a w u (itr a w u (far0 t) r) l (nTo a l) with _ | v <;> rcases hfr : rnd a w u (itr a w u (far0 t) r) l (nFr a l) with _ | z
        · refine j_aload_n C dX0_measure_84 rfl rfl ?_
          refine j_get C flX0_69 dX0_measure_85 (by omega) (cf_st (by omega) _) rfl ?_
          refine j_iload C dX0_measure_88 rfl ?_
          refine j_zald C dX0_measure_90 (by omega) (cf_st2 (by omega)) (by decide) (by omega) ?_
          refine j_top ((hf _ _ (by omega)).trans ((hW l (by omega)).2.trans (by rw [hu]))) ?_
          refine j_ifn_eq (tgt := 176) C dX0_measure_91 rfl (by omega) (fun _ => ?_) (fun h => absurd h (by decide))
          refine j_iinc (L' := [some (.ref (gad g (23))), some (.ref (gad g (48 + 4 * i))), some (.int (nI (t))), some (.ref (gad g (25 + 1 * t))), some (.int (bI ch)), some (.int (nI (r))), some (.int (nI (l + 1))), none, none]) C dX0_measure_176 rfl (nI_inc _) (by decide) rfl ?_
          refine j_goto (tgt := 72) C dX0_measure_179 rfl ?_
          have hq : rlq a w u (rnd a w u (itr a w u (far0 t) r) l) l = none := by
            unfold rlq
            rw [hu]
            simp only [hto, hfr]
            first | rfl | (simp; done) | (rw [if_pos trivial, if_neg (by omega)])
          refine ih (nM a - (l + 1)) (by omega) (l + 1) ch σ1 rfl (by omega) hf (fun x hx => ?_) (fun hch => ?_)
          · rw [rnd, rlx_none hq]; exact hrow x hx
          · rw [rnd, rlx_none hq]; exact hflag hch
        · have hz := hbd _ _ hfr
          refine j_aload_n C dX0_measure_84 rfl rfl ?_
          refine j_get C flX0_69 dX0_measure_85 (by omega) (cf_st (by omega) _) rfl ?_
          refine j_iload C dX0_measure_88 rfl ?_
          refine j_zald C dX0_measure_90 (by omega) (cf_st2 (by omega)) (by decide) (by omega) ?_
          refine j_top ((hf _ _ (by omega)).trans ((hW l (by omega)).2.trans (by rw [hu]))) ?_
          refine j_ifn_eq (tgt := 176) C dX0_measure_91 rfl (by omega) (fun _ => ?_) (fun h => absurd h (by decide))
          refine j_iinc (L' := [some (.ref (gad g (23))), some (.ref (gad g (48 + 4 * i))), some (.int (nI (t))), some (.ref (gad g (25 + 1 * t))), some (.int (bI ch)), some (.int (nI (r))), some (.int (nI (l + 1))), none, none]) C dX0_measure_176 rfl (nI_inc _) (by decide) rfl ?_
          refine j_goto (tgt := 72) C dX0_measure_179 rfl ?_
          have hq : rlq a w u (rnd a w u (itr a w u (far0 t) r) l) l = none := by
            unfold rlq
            rw [hu]
            simp only [hto, hfr]
            first | rfl | (simp; done) | (rw [if_pos trivial, if_neg (by omega)])
          refine ih (nM a - (l + 1)) (by omega) (l + 1) ch σ1 rfl (by omega) hf (fun x hx => ?_) (fun hch => ?_)
          · rw [rnd, rlx_none hq]; exact hrow x hx
          · rw [rnd, rlx_none hq]; exact hflag hch
        · have hv := hbd _ _ hto
          refine j_aload_n C dX0_measure_84 rfl rfl ?_
          refine j_get C flX0_69 dX0_measure_85 (by omega) (cf_st (by omega) _) rfl ?_
          refine j_iload C dX0_measure_88 rfl ?_
          refine j_zald C dX0_measure_90 (by omega) (cf_st2 (by omega)) (by decide) (by omega) ?_
          refine j_top ((hf _ _ (by omega)).trans ((hW l (by omega)).2.trans (by rw [hu]))) ?_
          refine j_ifn_eq (tgt := 176) C dX0_measure_91 rfl (by omega) (fun _ => ?_) (fun h => absurd h (by decide))
          refine j_iinc (L' := [some (.ref (gad g (23))), some (.ref (gad g (48 + 4 * i))), some (.int (nI (t))), some (.ref (gad g (25 + 1 * t))), some (.int (bI ch)), some (.int (nI (r))), some (.int (nI (l + 1))), none, none]) C dX0_measure_176 rfl (nI_inc _) (by decide) rfl ?_
          refine j_goto (tgt := 72) C dX0_measure_179 rfl ?_
          have hq : rlq a w u (rnd a w u (itr a w u (far0 t) r) l) l = none := by
            unfold rlq
            rw [hu]
            simp only [hto, hfr]
            first | rfl | (simp; done) | (rw [if_pos trivial, if_neg (by omega)])
          refine ih (nM a - (l + 1)) (by omega) (l + 1) ch σ1 rfl (by omega) hf (fun x hx => ?_) (fun hch => ?_)
          · rw [rnd, rlx_none hq]; exact hrow x hx
          · rw [rnd, rlx_none hq]; exact hflag hch
        · have hv := hbd _ _ hto
          have hz := hbd _ _ hfr
          refine j_aload_n C dX0_measure_84 rfl rfl ?_
          refine j_get C flX0_69 dX0_measure_85 (by omega) (cf_st (by omega) _) rfl ?_
          refine j_iload C dX0_measure_88 rfl ?_
          refine j_zald C dX0_measure_90 (by omega) (cf_st2 (by omega)) (by decide) (by omega) ?_
          refine j_top ((hf _ _ (by omega)).trans ((hW l (by omega)).2.trans (by rw [hu]))) ?_
          refine j_ifn_eq (tgt := 176) C dX0_measure_91 rfl (by omega) (fun _ => ?_) (fun h => absurd h (by decide))
          refine j_iinc (L' := [some (.ref (gad g (23))), some (.ref (gad g (48 + 4 * i))), some (.int (nI (t))), some (.ref (gad g (25 + 1 * t))), some (.int (bI ch)), some (.int (nI (r))), some (.int (nI (l + 1))), none, none]) C dX0_measure_176 rfl (nI_inc _) (by decide) rfl ?_
          refine j_goto (tgt := 72) C dX0_measure_179 rfl ?_
          have hq : rlq a w u (rnd a w u (itr a w u (far0 t) r) l) l = none := by
            unfold rlq
            rw [hu]
            simp only [hto, hfr]
            first | rfl | (simp; done) | (rw [if_pos trivial, if_neg (by omega)])
          refine ih (nM a - (l + 1)) (by omega) (l + 1) ch σ1 rfl (by omega) hf (fun x hx => ?_) (fun hch => ?_)
          · rw [rnd, rlx_none hq]; exact hrow x hx
          · rw [rnd, rlx_none hq]; exact hflag hch
        · refine j_aload_n C dX0_measure_84 rfl rfl ?_
          refine j_get C flX0_69 dX0_measure_85 (by omega) (cf_st (by omega) _) rfl ?_
          refine j_iload C dX0_measure_88 rfl ?_
          refine j_zald C dX0_measure_90 (by omega) (cf_st2 (by omega)) (by decide) (by omega) ?_
          refine j_top ((hf _ _ (by omega)).trans ((hW l (by omega)).2.trans (by rw [hu]))) ?_
          refine j_ifn_eq (tgt := 176) C dX0_measure_91 rfl (by omega) (fun h => absurd h (by decide)) (fun _ => ?_)
          refine j_aload_n C dX0_measure_94 rfl rfl ?_
          refine j_aload_n C dX0_measure_95 rfl rfl ?_
          refine j_get C flX0_36 dX0_measure_96 (Nat.lt_of_lt_of_le (by decide) hN) rfl rfl ?_
          refine j_get C flX0_74 dX0_measure_99 (Nat.lt_of_lt_of_le (by decide) hN) rfl rfl ?_
          refine j_iload C dX0_measure_102 rfl ?_
          refine j_iald C dX0_measure_104 (Nat.lt_of_lt_of_le (by decide) hN) (fun _ => rfl) (by decide) (by omega) ?_
          refine j_top ((hf _ _ (by omega)).trans (hI.to (l := l) (by omega))) ?_
          refine j_iald C dX0_measure_105 (by omega) (cf_far (by omega)) (by decide) (by omega) ?_
          refine j_top ((hrow (nTo a l) (by omega)).trans (congrArg c1 hto)) ?_
          refine j_iconst (v := -1) C dX0_measure_106 rfl ?_
          refine j_icmp_eq (tgt := 176) C dX0_measure_107 rfl (fun _ => ?_) (fun h => absurd h (by decide))
          refine j_iinc (L' := [some (.ref (gad g (23))), some (.ref (gad g (48 + 4 * i))), some (.int (nI (t))), some (.ref (gad g (25 + 1 * t))), some (.int (bI ch)), some (.int (nI (r))), some (.int (nI (l + 1))), none, none]) C dX0_measure_176 rfl (nI_inc _) (by decide) rfl ?_
          refine j_goto (tgt := 72) C dX0_measure_179 rfl ?_
          have hq : rlq a w u (rnd a w u (itr a w u (far0 t) r) l) l = none := by
            unfold rlq
            rw [hu]
            simp only [hto, hfr]
            first | rfl | (simp; done) | (rw [if_pos trivial, if_neg (by omega)])
          refine ih (nM a - (l + 1)) (by omega) (l + 1) ch σ1 rfl (by omega) hf (fun x hx => ?_) (fun hch => ?_)
          · rw [rnd, rlx_none hq]; exact hrow x hx
          · rw [rnd, rlx_none hq]; exact hflag hch
        · have hz := hbd _ _ hfr
          refine j_aload_n C dX0_measure_84 rfl rfl ?_
          refine j_get C flX0_69 dX0_measure_85 (by omega) (cf_st (by omega) _) rfl ?_
          refine j_iload C dX0_measure_88 rfl ?_
          refine j_zald C dX0_measure_90 (by omega) (cf_st2 (by omega)) (by decide) (by omega) ?_
          refine j_top ((hf _ _ (by omega)).trans ((hW l (by omega)).2.trans (by rw [hu]))) ?_
          refine j_ifn_eq (tgt := 176) C dX0_measure_91 rfl (by omega) (fun h => absurd h (by decide)) (fun _ => ?_)
          refine j_aload_n C dX0_measure_94 rfl rfl ?_
          refine j_aload_n C dX0_measure_95 rfl rfl ?_
          refine j_get C flX0_36 dX0_measure_96 (Nat.lt_of_lt_of_le (by decide) hN) rfl rfl ?_
          refine j_get C flX0_74 dX0_measure_99 (Nat.lt_of_lt_of_le (by decide) hN) rfl rfl ?_
          refine j_iload C dX0_measure_102 rfl ?_
          refine j_iald C dX0_measure_104 (Nat.lt_of_lt_of_le (by decide) hN) (fun _ => rfl) (by decide) (by omega) ?_
          refine j_top ((hf _ _ (by omega)).trans (hI.to (l := l) (by omega))) ?_
          refine j_iald C dX0_measure_105 (by omega) (cf_far (by omega)) (by decide) (by omega) ?_
          refine j_top ((hrow (nTo a l) (by omega)).trans (congrArg c1 hto)) ?_
          refine j_iconst (v := -1) C dX0_measure_106 rfl ?_
          refine j_icmp_eq (tgt := 176) C dX0_measure_107 rfl (fun _ => ?_) (fun h => absurd h (by decide))
          refine j_iinc (L' := [some (.ref (gad g (23))), some (.ref (gad g (48 + 4 * i))), some (.int (nI (t))), some (.ref (gad g (25 + 1 * t))), some (.int (bI ch)), some (.int (nI (r))), some (.int (nI (l + 1))), none, none]) C dX0_measure_176 rfl (nI_inc _) (by decide) rfl ?_
          refine j_goto (tgt := 72) C dX0_measure_179 rfl ?_
          have hq : rlq a w u (rnd a w u (itr a w u (far0 t) r) l) l = none := by
            unfold rlq
            rw [hu]
            simp only [hto, hfr]
            first | rfl | (simp; done) | (rw [if_pos trivial, if_neg (by omega)])
          refine ih (nM a - (l + 1)) (by omega) (l + 1) ch σ1 rfl (by omega) hf (fun x hx => ?_) (fun hch => ?_)
          · rw [rnd, rlx_none hq]; exact hrow x hx
          · rw [rnd, rlx_none hq]; exact hflag hch
        · have hv := hbd _ _ hto
          refine j_aload_n C dX0_measure_84 rfl rfl ?_
          refine j_get C flX0_69 dX0_measure_85 (by omega) (cf_st (by omega) _) rfl ?_
          refine j_iload C dX0_measure_88 rfl ?_
          refine j_zald C dX0_measure_90 (by omega) (cf_st2 (by omega)) (by decide) (by omega) ?_
          refine j_top ((hf _ _ (by omega)).trans ((hW l (by omega)).2.trans (by rw [hu]))) ?_
          refine j_ifn_eq (tgt := 176) C dX0_measure_91 rfl (by omega) (fun h => absurd h (by decide)) (fun _ => ?_)
          refine j_aload_n C dX0_measure_94 rfl rfl ?_
          refine j_aload_n C dX0_measure_95 rfl rfl ?_
          refine j_get C flX0_36 dX0_measure_96 (Nat.lt_of_lt_of_le (by decide) hN) rfl rfl ?_
          refine j_get C flX0_74 dX0_measure_99 (Nat.lt_of_lt_of_le (by decide) hN) rfl rfl ?_
          refine j_iload C dX0_measure_102 rfl ?_
          refine j_iald C dX0_measure_104 (Nat.lt_of_lt_of_le (by decide) hN) (fun _ => rfl) (by decide) (by omega) ?_
          refine j_top ((hf _ _ (by omega)).trans (hI.to (l := l) (by omega))) ?_
          refine j_iald C dX0_measure_105 (by omega) (cf_far (by omega)) (by decide) (by omega) ?_
          refine j_top ((hrow (nTo a l) (by omega)).trans (congrArg c1 hto)) ?_
          refine j_iconst (v := -1) C dX0_measure_106 rfl ?_
          refine j_icmp_eq (tgt := 176) C dX0_measure_107 rfl (fun h => absurd h (nI_neg (by omega) (by decide))) (fun _ => ?_)
          refine j_aload_n C dX0_measure_110 rfl rfl ?_
          refine j_get C flX0_77 dX0_measure_111 (by omega) (cf_st (by omega) _) rfl ?_
          refine j_iload C dX0_measure_114 rfl ?_
          refine j_iald C dX0_measure_116 (by omega) (cf_st1 (by omega)) (by decide) (by omega) ?_
          refine j_top ((hf _ _ (by omega)).trans ((hW (l) (by omega)).1)) ?_
          refine j_aload_n C dX0_measure_117 rfl rfl ?_
          refine j_aload_n C dX0_measure_118 rfl rfl ?_
          refine j_get C flX0_36 dX0_measure_119 (Nat.lt_of_lt_of_le (by decide) hN) rfl rfl ?_
          refine j_get C flX0_74 dX0_measure_122 (Nat.lt_of_lt_of_le (by decide) hN) rfl rfl ?_
          refine j_iload C dX0_measure_125 rfl ?_
          refine j_iald C dX0_measure_127 (Nat.lt_of_lt_of_le (by decide) hN) (fun _ => rfl) (by decide) (by omega) ?_
          refine j_top ((hf _ _ (by omega)).trans (hI.to (l := l) (by omega))) ?_
          refine j_iald C dX0_measure_128 (by omega) (cf_far (by omega)) (by decide) (by omega) ?_
          refine j_top ((hrow (nTo a l) (by omega)).trans (congrArg c1 hto)) ?_
          refine j_iadd C dX0_measure_129 ?_
          refine j_top (nI_add _ _) ?_
          refine j_istore (L' := [some (.ref (gad g (23))), some (.ref (gad g (48 + 4 * i))), some (.int (nI (t))), some (.ref (gad g (25 + 1 * t))), some (.int (bI ch)), some (.int (nI (r))), some (.int (nI (l))), some (.int (nI ((w (l) + v)))), none]) C dX0_measure_130 (by decide) rfl ?_
          refine j_aload_n C dX0_measure_132 rfl rfl ?_
          refine j_aload_n C dX0_measure_133 rfl rfl ?_
          refine j_get C flX0_36 dX0_measure_134 (Nat.lt_of_lt_of_le (by decide) hN) rfl rfl ?_
          refine j_get C flX0_80 dX0_measure_137 (Nat.lt_of_lt_of_le (by decide) hN) rfl rfl ?_
          refine j_iload C dX0_measure_140 rfl ?_
          refine j_iald C dX0_measure_142 (Nat.lt_of_lt_of_le (by decide) hN) (fun _ => rfl) (by decide) (by omega) ?_
          refine j_top ((hf _ _ (by omega)).trans (hI.fr (l := l) (by omega))) ?_
          refine j_iald C dX0_measure_143 (by omega) (cf_far (by omega)) (by decide) (by omega) ?_
          refine j_top ((hrow (nFr a l) (by omega)).trans (congrArg c1 hfr)) ?_
          refine j_istore (L' := [some (.ref (gad g (23))), some (.ref (gad g (48 + 4 * i))), some (.int (nI (t))), some (.ref (gad g (25 + 1 * t))), some (.int (bI ch)), some (.int (nI (r))), some (.int (nI (l))), some (.int (nI ((w (l) + v)))), some (.int (-1))]) C dX0_measure_144 (by decide) rfl ?_
          refine j_iload C dX0_measure_146 rfl ?_
          refine j_iconst (v := -1) C dX0_measure_148 rfl ?_
          refine j_icmp_eq (tgt := 159) C dX0_measure_149 rfl (fun _ => ?_) (fun h => absurd h (by decide))
          refine j_aload_n C dX0_measure_159 rfl rfl ?_
          refine j_aload_n C dX0_measure_160 rfl rfl ?_
          refine j_get C flX0_36 dX0_measure_161 (Nat.lt_of_lt_of_le (by decide) hN) rfl rfl ?_
          refine j_get C flX0_80 dX0_measure_164 (Nat.lt_of_lt_of_le (by decide) hN) rfl rfl ?_
          refine j_iload C dX0_measure_167 rfl ?_
          refine j_iald C dX0_measure_169 (Nat.lt_of_lt_of_le (by decide) hN) (fun _ => rfl) (by decide) (by omega) ?_
          refine j_top ((hf _ _ (by omega)).trans (hI.fr (l := l) (by omega))) ?_
          refine j_iload C dX0_measure_170 rfl ?_
          refine j_iast' C dX0_measure_172 (by omega) (cf_far (by omega)) (by decide) (by omega) (fun τ1 hf2 hv3 => ?_)
          refine j_iconst (v := nI 1) C dX0_measure_173 rfl ?_
          refine j_istore (L' := [some (.ref (gad g (23))), some (.ref (gad g (48 + 4 * i))), some (.int (nI (t))), some (.ref (gad g (25 + 1 * t))), some (.int (nI (1))), some (.int (nI (r))), some (.int (nI (l))), some (.int (nI ((w (l) + v)))), some (.int (-1))]) C dX0_measure_174 (by decide) rfl ?_
          refine j_iinc (L' := [some (.ref (gad g (23))), some (.ref (gad g (48 + 4 * i))), some (.int (nI (t))), some (.ref (gad g (25 + 1 * t))), some (.int (nI (1))), some (.int (nI (r))), some (.int (nI (l + 1))), some (.int (nI ((w (l) + v)))), some (.int (-1))]) C dX0_measure_176 rfl (nI_inc _) (by decide) rfl ?_
          refine j_goto (tgt := 72) C dX0_measure_179 rfl ?_
          refine J_clr 7 (L' := [some (.ref (gad g (23))), some (.ref (gad g (48 + 4 * i))), some (.int (nI (t))), some (.ref (gad g (25 + 1 * t))), some (.int (nI (1))), some (.int (nI (r))), some (.int (nI (l + 1))), none, some (.int (-1))]) rfl ?_
          refine J_clr 8 (L' := [some (.ref (gad g (23))), some (.ref (gad g (48 + 4 * i))), some (.int (nI (t))), some (.ref (gad g (25 + 1 * t))), some (.int (nI (1))), some (.int (nI (r))), some (.int (nI (l + 1))), none, none]) rfl ?_
          have hq : rlq a w u (rnd a w u (itr a w u (far0 t) r) l) l = some (w l + v) := by
            unfold rlq
            rw [hu]
            simp only [hto, hfr]
            first | rfl | (simp; done) | (rw [if_pos trivial, if_pos (by omega)])
          refine ih (nM a - (l + 1)) (by omega) (l + 1) true τ1 rfl (by omega) (fun j n h => by rw [hf2 _ _ (by omega)]; exact hf j n h) (fun x hx => ?_) (fun hch => by cases hch)
          rw [rnd, rlx_some hq]
          by_cases e : x = nFr a l
          · subst e
            rw [if_pos rfl]
            assumption
          · rw [if_neg e, hf2 _ _ (by omega)]
            exact hrow x hx
        · have hv := hbd _ _ hto
          have hz := hbd _ _ hfr
          refine j_aload_n C dX0_measure_84 rfl rfl ?_
          refine j_get C flX0_69 dX0_measure_85 (by omega) (cf_st (by omega) _) rfl ?_
          refine j_iload C dX0_measure_88 rfl ?_
          refine j_zald C dX0_measure_90 (by omega) (cf_st2 (by omega)) (by decide) (by omega) ?_
          refine j_top ((hf _ _ (by omega)).trans ((hW l (by omega)).2.trans (by rw [hu]))) ?_
          refine j_ifn_eq (tgt := 176) C dX0_measure_91 rfl (by omega) (fun h => absurd h (by decide)) (fun _ => ?_)
          refine j_aload_n C dX0_measure_94 rfl rfl ?_
          refine j_aload_n C dX0_measure_95 rfl rfl ?_
          refine j_get C flX0_36 dX0_measure_96 (Nat.lt_of_lt_of_le (by decide) hN) rfl rfl ?_
          refine j_get C flX0_74 dX0_measure_99 (Nat.lt_of_lt_of_le (by decide) hN) rfl rfl ?_
          refine j_iload C dX0_measure_102 rfl ?_
          refine j_iald C dX0_measure_104 (Nat.lt_of_lt_of_le (by decide) hN) (fun _ => rfl) (by decide) (by omega) ?_
          refine j_top ((hf _ _ (by omega)).trans (hI.to (l := l) (by omega))) ?_
          refine j_iald C dX0_measure_105 (by omega) (cf_far (by omega)) (by decide) (by omega) ?_
          refine j_top ((hrow (nTo a l) (by omega)).trans (congrArg c1 hto)) ?_
          refine j_iconst (v := -1) C dX0_measure_106 rfl ?_
          refine j_icmp_eq (tgt := 176) C dX0_measure_107 rfl (fun h => absurd h (nI_neg (by omega) (by decide))) (fun _ => ?_)
          refine j_aload_n C dX0_measure_110 rfl rfl ?_
          refine j_get C flX0_77 dX0_measure_111 (by omega) (cf_st (by omega) _) rfl ?_
          refine j_iload C dX0_measure_114 rfl ?_
          refine j_iald C dX0_measure_116 (by omega) (cf_st1 (by omega)) (by decide) (by omega) ?_
          refine j_top ((hf _ _ (by omega)).trans ((hW (l) (by omega)).1)) ?_
          refine j_aload_n C dX0_measure_117 rfl rfl ?_
          refine j_aload_n C dX0_measure_118 rfl rfl ?_
          refine j_get C flX0_36 dX0_measure_119 (Nat.lt_of_lt_of_le (by decide) hN) rfl rfl ?_
          refine j_get C flX0_74 dX0_measure_122 (Nat.lt_of_lt_of_le (by decide) hN) rfl rfl ?_
          refine j_iload C dX0_measure_125 rfl ?_
          refine j_iald C dX0_measure_127 (Nat.lt_of_lt_of_le (by decide) hN) (fun _ => rfl) (by decide) (by omega) ?_
          refine j_top ((hf _ _ (by omega)).trans (hI.to (l := l) (by omega))) ?_
          refine j_iald C dX0_measure_128 (by omega) (cf_far (by omega)) (by decide) (by omega) ?_
          refine j_top ((hrow (nTo a l) (by omega)).trans (congrArg c1 hto)) ?_
          refine j_iadd C dX0_measure_129 ?_
          refine j_top (nI_add _ _) ?_
          refine j_istore (L' := [some (.ref (gad g (23))), some (.ref (gad g (48 + 4 * i))), some (.int (nI (t))), some (.ref (gad g (25 + 1 * t))), some (.int (bI ch)), some (.int (nI (r))), some (.int (nI (l))), some (.int (nI ((w (l) + v)))), none]) C dX0_measure_130 (by decide) rfl ?_
          refine j_aload_n C dX0_measure_132 rfl rfl ?_
          refine j_aload_n C dX0_measure_133 rfl rfl ?_
          refine j_get C flX0_36 dX0_measure_134 (Nat.lt_of_lt_of_le (by decide) hN) rfl rfl ?_
          refine j_get C flX0_80 dX0_measure_137 (Nat.lt_of_lt_of_le (by decide) hN) rfl rfl ?_
          refine j_iload C dX0_measure_140 rfl ?_
          refine j_iald C dX0_measure_142 (Nat.lt_of_lt_of_le (by decide) hN) (fun _ => rfl) (by decide) (by omega) ?_
          refine j_top ((hf _ _ (by omega)).trans (hI.fr (l := l) (by omega))) ?_
          refine j_iald C dX0_measure_143 (by omega) (cf_far (by omega)) (by decide) (by omega) ?_
          refine j_top ((hrow (nFr a l) (by omega)).trans (congrArg c1 hfr)) ?_
          refine j_istore (L' := [some (.ref (gad g (23))), some (.ref (gad g (48 + 4 * i))), some (.int (nI (t))), some (.ref (gad g (25 + 1 * t))), some (.int (bI ch)), some (.int (nI (r))), some (.int (nI (l))), some (.int (nI ((w (l) + v)))), some (.int (nI (z)))]) C dX0_measure_144 (by decide) rfl ?_
          refine j_iload C dX0_measure_146 rfl ?_
          refine j_iconst (v := -1) C dX0_measure_148 rfl ?_
          refine j_icmp_eq (tgt := 159) C dX0_measure_149 rfl (fun h => absurd h (nI_neg (by omega) (by decide))) (fun _ => ?_)
          refine j_iload C dX0_measure_152 rfl ?_
          refine j_iload C dX0_measure_154 rfl ?_
          refine j_icmpn_ge (tgt := 176) C dX0_measure_156 rfl (by omega) (by omega) (fun h156 => ?_) (fun h156 => ?_)
          · refine j_iinc (L' := [some (.ref (gad g (23))), some (.ref (gad g (48 + 4 * i))), some (.int (nI (t))), some (.ref (gad g (25 + 1 * t))), some (.int (bI ch)), some (.int (nI (r))), some (.int (nI (l + 1))), some (.int (nI ((w (l) + v)))), some (.int (nI (z)))]) C dX0_measure_176 rfl (nI_inc _) (by decide) rfl ?_
            refine j_goto (tgt := 72) C dX0_measure_179 rfl ?_
            refine J_clr 7 (L' := [some (.ref (gad g (23))), some (.ref (gad g (48 + 4 * i))), some (.int (nI (t))), some (.ref (gad g (25 + 1 * t))), some (.int (bI ch)), some (.int (nI (r))), some (.int (nI (l + 1))), none, some (.int (nI (z)))]) rfl ?_
            refine J_clr 8 (L' := [some (.ref (gad g (23))), some (.ref (gad g (48 + 4 * i))), some (.int (nI (t))), some (.ref (gad g (25 + 1 * t))), some (.int (bI ch)), some (.int (nI (r))), some (.int (nI (l + 1))), none, none]) rfl ?_
            have hq : rlq a w u (rnd a w u (itr a w u (far0 t) r) l) l = none := by
              unfold rlq
              rw [hu]
              simp only [hto, hfr]
              first | rfl | (simp; done) | (rw [if_pos trivial, if_neg (by omega)])
            refine ih (nM a - (l + 1)) (by omega) (l + 1) ch σ1 rfl (by omega) hf (fun x hx => ?_) (fun hch => ?_)
            · rw [rnd, rlx_none hq]; exact hrow x hx
            · rw [rnd, rlx_none hq]; exact hflag hch
          · refine j_aload_n C dX0_measure_159 rfl rfl ?_
            refine j_aload_n C dX0_measure_160 rfl rfl ?_
            refine j_get C flX0_36 dX0_measure_161 (Nat.lt_of_lt_of_le (by decide) hN) rfl rfl ?_
            refine j_get C flX0_80 dX0_measure_164 (Nat.lt_of_lt_of_le (by decide) hN) rfl rfl ?_
            refine j_iload C dX0_measure_167 rfl ?_
            refine j_iald C dX0_measure_169 (Nat.lt_of_lt_of_le (by decide) hN) (fun _ => rfl) (by decide) (by omega) ?_
            refine j_top ((hf _ _ (by omega)).trans (hI.fr (l := l) (by omega))) ?_
            refine j_iload C dX0_measure_170 rfl ?_
            refine j_iast' C dX0_measure_172 (by omega) (cf_far (by omega)) (by decide) (by omega) (fun τ4 hf5 hv6 => ?_)
            refine j_iconst (v := nI 1) C dX0_measure_173 rfl ?_
            refine j_istore (L' := [some (.ref (gad g (23))), some (.ref (gad g (48 + 4 * i))), some (.int (nI (t))), some (.ref (gad g (25 + 1 * t))), some (.int (nI (1))), some (.int (nI (r))), some (.int (nI (l))), some (.int (nI ((w (l) + v)))), some (.int (nI (z)))]) C dX0_measure_174 (by decide) rfl ?_
            refine j_iinc (L' := [some (.ref (gad g (23))), some (.ref (gad g (48 + 4 * i))), some (.int (nI (t))), some (.ref (gad g (25 + 1 * t))), some (.int (nI (1))), some (.int (nI (r))), some (.int (nI (l + 1))), some (.int (nI ((w (l) + v)))), some (.int (nI (z)))]) C dX0_measure_176 rfl (nI_inc _) (by decide) rfl ?_
            refine j_goto (tgt := 72) C dX0_measure_179 rfl ?_
            refine J_clr 7 (L' := [some (.ref (gad g (23))), some (.ref (gad g (48 + 4 * i))), some (.int (nI (t))), some (.ref (gad g (25 + 1 * t))), some (.int (nI (1))), some (.int (nI (r))), some (.int (nI (l + 1))), none, some (.int (nI (z)))]) rfl ?_
            refine J_clr 8 (L' := [some (.ref (gad g (23))), some (.ref (gad g (48 + 4 * i))), some (.int (nI (t))), some (.ref (gad g (25 + 1 * t))), some (.int (nI (1))), some (.int (nI (r))), some (.int (nI (l + 1))), none, none]) rfl ?_
            have hq : rlq a w u (rnd a w u (itr a w u (far0 t) r) l) l = some (w l + v) := by
              unfold rlq
              rw [hu]
              simp only [hto, hfr]
              first | rfl | (simp; done) | (rw [if_pos trivial, if_pos (by omega)])
            refine ih (nM a - (l + 1)) (by omega) (l + 1) true τ4 rfl (by omega) (fun j n h => by rw [hf5 _ _ (by omega)]; exact hf j n h) (fun x hx => ?_) (fun hch => by cases hch)
            rw [rnd, rlx_some hq]
            by_cases e : x = nFr a l
            · subst e
              rw [if_pos rfl]
              assumption
            · rw [if_neg e, hf5 _ _ (by omega)]
              exact hrow x hx
  have lpB : ∀ (k : Nat) (r : Nat) (ch : Bool) (σ1 : Sg), nN a - r = k → r ≤ nN a → (∀ j n, ¬ (j = 25 + 1 * t) → σ1 j n = σ j n) → (∀ x, x < nN a → σ1 (25 + 1 * t) x = c1 (itr a w u (far0 t) r x)) → (ch = false → rnd a w u (itr a w u (far0 t) r) (nM a) = (itr a w u (far0 t) r)) → J g κ 9 49 [some (.ref (gad g (23))), some (.ref (gad g (48 + 4 * i))), some (.int (nI (t))), some (.ref (gad g (25 + 1 * t))), some (.int (bI ch)), some (.int (nI (r))), none, none, none] [] σ1 := by
    intro k
    induction k using Nat.strongRecOn with
    | _ k ih =>
      intro r ch σ1 hk hr hf hrow hfl
      refine j_iload C dX0_measure_49 rfl ?_
      refine j_aload_n C dX0_measure_51 rfl rfl ?_
      refine j_get C flX0_36 dX0_measure_52 (Nat.lt_of_lt_of_le (by decide) hN) rfl rfl ?_
      refine j_get C flX0_40 dX0_measure_55 (Nat.lt_of_lt_of_le (by decide) hN) rfl rfl ?_
      refine j_top ((hf _ _ (by omega)).trans (hI.n)) ?_
      refine j_icmpn_ge (tgt := 188) C dX0_measure_58 rfl (by omega) (by omega) (fun h58 => ?_) (fun h58 => ?_)
      · refine j_retv M dX0_measure_188 ?_
        first | exact ⟨hf, r, by omega, Or.inl (by omega), hrow⟩ | exact ⟨hf, r, by omega, Or.inr (hfl (bI_0.mp h63)), hrow⟩
      · refine j_iload C dX0_measure_61 rfl ?_
        refine j_if_eq (tgt := 188) C dX0_measure_63 rfl (fun h63 => ?_) (fun h63 => ?_)
        · refine j_retv M dX0_measure_188 ?_
          first | exact ⟨hf, r, by omega, Or.inl (by omega), hrow⟩ | exact ⟨hf, r, by omega, Or.inr (hfl (bI_0.mp h63)), hrow⟩
        · refine j_iconst (v := nI 0) C dX0_measure_66 rfl ?_
          refine j_istore (L' := [some (.ref (gad g (23))), some (.ref (gad g (48 + 4 * i))), some (.int (nI (t))), some (.ref (gad g (25 + 1 * t))), some (.int (nI (0))), some (.int (nI (r))), none, none, none]) C dX0_measure_67 (by decide) rfl ?_
          refine j_iconst (v := nI 0) C dX0_measure_69 rfl ?_
          refine j_istore (L' := [some (.ref (gad g (23))), some (.ref (gad g (48 + 4 * i))), some (.int (nI (t))), some (.ref (gad g (25 + 1 * t))), some (.int (nI (0))), some (.int (nI (r))), some (.int (nI (0))), none, none]) C dX0_measure_70 (by decide) rfl ?_
          refine lpC r (by omega) ?_ (nM a - 0) 0 false σ1 rfl (by omega) hf (fun x hx => hrow x hx) (fun _ => rfl)
          intro ch2 σ2 hf2 hrow2 hfl2
          refine j_iinc (L' := [some (.ref (gad g (23))), some (.ref (gad g (48 + 4 * i))), some (.int (nI (t))), some (.ref (gad g (25 + 1 * t))), some (.int (bI ch2)), some (.int (nI (r + 1))), none, none, none]) C dX0_measure_182 rfl (nI_inc _) (by decide) rfl ?_
          refine j_goto (tgt := 49) C dX0_measure_185 rfl ?_
          refine ih (nN a - (r + 1)) (by omega) (r + 1) ch2 σ2 rfl (by omega) hf2 hrow2 (fun hch => ?_)
          have e1 := hfl2 hch
          show rnd a w u (rnd a w u (itr a w u (far0 t) r) (nM a)) (nM a) = rnd a w u (itr a w u (far0 t) r) (nM a)
          rw [e1, e1]
  have lpA : ∀ (k : Nat) (x : Nat) (σ1 : Sg), nN a - x = k → x ≤ nN a → (∀ j n, ¬ (j = 25 + 1 * t) → σ1 j n = σ j n) → (∀ y, y < x → σ1 (25 + 1 * t) y = c1 (far0 t y)) → J g κ 9 10 [some (.ref (gad g (23))), some (.ref (gad g (48 + 4 * i))), some (.int (nI (t))), some (.ref (gad g (25 + 1 * t))), some (.int (nI (x))), none, none, none, none] [] σ1 := by
    intro k
    induction k using Nat.strongRecOn with
    | _ k ih =>
      intro x σ1 hk hx hf hrow
      refine j_iload C dX0_measure_10 rfl ?_
      refine j_aload_n C dX0_measure_12 rfl rfl ?_
      refine j_get C flX0_36 dX0_measure_13 (Nat.lt_of_lt_of_le (by decide) hN) rfl rfl ?_
      refine j_get C flX0_40 dX0_measure_16 (Nat.lt_of_lt_of_le (by decide) hN) rfl rfl ?_
      refine j_top ((hf _ _ (by omega)).trans (hI.n)) ?_
      refine j_icmpn_ge (tgt := 43) C dX0_measure_19 rfl (by omega) (by omega) (fun h19 => ?_) (fun h19 => ?_)
      · refine j_iconst (v := nI 1) C dX0_measure_43 rfl ?_
        refine j_istore (L' := [some (.ref (gad g (23))), some (.ref (gad g (48 + 4 * i))), some (.int (nI (t))), some (.ref (gad g (25 + 1 * t))), some (.int (nI (1))), none, none, none, none]) C dX0_measure_44 (by decide) rfl ?_
        refine j_iconst (v := nI 0) C dX0_measure_46 rfl ?_
        refine j_istore (L' := [some (.ref (gad g (23))), some (.ref (gad g (48 + 4 * i))), some (.int (nI (t))), some (.ref (gad g (25 + 1 * t))), some (.int (nI (1))), some (.int (nI (0))), none, none, none]) C dX0_measure_47 (by decide) rfl ?_
        exact lpB (nN a - 0) 0 true σ1 rfl (by omega) hf (fun y hy => hrow y (by omega)) (fun h => by cases h)
      · refine j_aload_n C dX0_measure_22 rfl rfl ?_
        refine j_iload C dX0_measure_23 rfl ?_
        refine j_iload C dX0_measure_25 rfl ?_
        refine j_iload_n C dX0_measure_27 rfl rfl ?_
        refine j_icmpn_ne (tgt := 35) C dX0_measure_28 rfl (by omega) (by omega) (fun h28 => ?_) (fun h28 => ?_)
        · refine j_iconst (v := -1) C dX0_measure_35 rfl ?_
          refine j_iast' C dX0_measure_36 (by omega) (cf_far (by omega)) (by decide) (by omega) (fun τ1 hf2 hv3 => ?_)
          refine j_iinc (L' := [some (.ref (gad g (23))), some (.ref (gad g (48 + 4 * i))), some (.int (nI (t))), some (.ref (gad g (25 + 1 * t))), some (.int (nI (x + 1))), none, none, none, none]) C dX0_measure_37 rfl (nI_inc _) (by decide) rfl ?_
          refine j_goto (tgt := 10) C dX0_measure_40 rfl ?_
          refine ih (nN a - (x + 1)) (by omega) (x + 1) τ1 rfl (by omega) (fun j n h => by rw [hf2 _ _ (by omega)]; exact hf j n h) (fun y hy => ?_)
          by_cases e : y = x
          · subst e
            unfold far0
            first | (rw [if_pos (by omega)]; assumption) | (rw [if_neg (by omega)]; assumption)
          · rw [hf2 _ _ (by omega)]; exact hrow y (by omega)
        · refine j_iconst (v := nI 0) C dX0_measure_31 rfl ?_
          refine j_goto (tgt := 36) C dX0_measure_32 rfl ?_
          refine j_iast' C dX0_measure_36 (by omega) (cf_far (by omega)) (by decide) (by omega) (fun τ4 hf5 hv6 => ?_)
          refine j_iinc (L' := [some (.ref (gad g (23))), some (.ref (gad g (48 + 4 * i))), some (.int (nI (t))), some (.ref (gad g (25 + 1 * t))), some (.int (nI (x + 1))), none, none, none, none]) C dX0_measure_37 rfl (nI_inc _) (by decide) rfl ?_
          refine j_goto (tgt := 10) C dX0_measure_40 rfl ?_
          refine ih (nN a - (x + 1)) (by omega) (x + 1) τ4 rfl (by omega) (fun j n h => by rw [hf5 _ _ (by omega)]; exact hf j n h) (fun y hy => ?_)
          by_cases e : y = x
          · subst e
            unfold far0
            first | (rw [if_pos (by omega)]; assumption) | (rw [if_neg (by omega)]; assumption)
          · rw [hf5 _ _ (by omega)]; exact hrow y (by omega)
  refine j_aload_n C dX0_measure_0 rfl rfl ?_
  refine j_get C flX0_11 dX0_measure_1 (Nat.lt_of_lt_of_le (by decide) hN) rfl rfl ?_
  refine j_iload_n C dX0_measure_4 rfl rfl ?_
  refine j_aald C dX0_measure_5 (Nat.lt_of_lt_of_le (by decide) hN) (fun _ => rfl) (by decide) (by omega) ?_
  refine j_astore_n (L' := [some (.ref (gad g (23))), some (.ref (gad g (48 + 4 * i))), some (.int (nI (t))), some (.ref (gad g (25 + 1 * t))), none, none, none, none, none]) C dX0_measure_6 rfl (by decide) rfl ?_
  refine j_iconst (v := nI 0) C dX0_measure_7 rfl ?_
  refine j_istore (L' := [some (.ref (gad g (23))), some (.ref (gad g (48 + 4 * i))), some (.int (nI (t))), some (.ref (gad g (25 + 1 * t))), some (.int (nI (0))), none, none, none, none]) C dX0_measure_8 (by decide) rfl ?_
  exact lpA (nN a - 0) 0 σ rfl (by omega) (fun _ _ _ => rfl) (fun y hy => by omega)
end
section
/-! FAR is the least sum: walks, and that as many rounds as nodes less one are enough -/
def WW (a : ND) (w : Nat → Nat) (u : Nat → Bool) (t : Nat) : Nat → Nat → Nat → Prop
  | 0, x, k => x = t ∧ k = 0
  | e + 1, x, k => ∃ l, l < nM a ∧ u l = true ∧ nFr a l = x ∧ ∃ k', k = w l + k' ∧ WW a w u t e (nTo a l) k'
def Dst (a : ND) (w : Nat → Nat) (u : Nat → Bool) (t x k : Nat) : Prop := (∃ e, WW a w u t e x k) ∧ ∀ j, (∃ e, WW a w u t e x j) → k ≤ j
theorem Dst.uniq {a : ND} {w : Nat → Nat} {u : Nat → Bool} {t x k j : Nat} (h : Dst a w u t x k) (h' : Dst a w u t x j) : k = j := Nat.le_antisymm (h.2 j h'.1) (h'.2 k h.1)
theorem Dst.ex {a : ND} {w : Nat → Nat} {u : Nat → Bool} {t x j : Nat} (h : ∃ e, WW a w u t e x j) : ∃ k, Dst a w u t x k := by
  obtain ⟨k, h1, h2⟩ := pk_least (fun k => ∃ e, WW a w u t e x k) ⟨j, h⟩
  exact ⟨k, h1, fun j hj => Nat.not_lt.mp fun q => h2 j q hj⟩
/-- the first LINK of a least way -/
theorem Dst.step {a : ND} {w : Nat → Nat} {u : Nat → Bool} {t x k : Nat} (h : Dst a w u t x k) : (x = t ∧ k = 0) ∨ ∃ l, l < nM a ∧ u l = true ∧ nFr a l = x ∧ ∃ k', k = w l + k' ∧ Dst a w u t (nTo a l) k' := by
  obtain ⟨⟨e, he⟩, hm⟩ := h
  cases e with
  | zero => exact Or.inl he
  | succ e =>
    obtain ⟨l, h1, h2, h3, k', h4, h5⟩ := he
    refine Or.inr ⟨l, h1, h2, h3, k', h4, ⟨e, h5⟩, fun j hj => ?_⟩
    obtain ⟨e', hj⟩ := hj
    have := hm (w l + j) ⟨e' + 1, l, h1, h2, h3, j, rfl, hj⟩
    omega
theorem Dst.edge {a : ND} {w : Nat → Nat} {u : Nat → Bool} {t l k k' : Nat} (hl : l < nM a) (hu : u l = true) (h : Dst a w u t (nFr a l) k) (h' : Dst a w u t (nTo a l) k') : k ≤ w l + k' := by
  obtain ⟨e, he⟩ := h'.1
  exact h.2 _ ⟨e + 1, l, hl, hu, rfl, k', rfl, he⟩
theorem Dst.pred {a : ND} {w : Nat → Nat} {u : Nat → Bool} {t l k' : Nat} (hl : l < nM a) (hu : u l = true) (h' : Dst a w u t (nTo a l) k') : ∃ k, Dst a w u t (nFr a l) k := by
  obtain ⟨e, he⟩ := h'.1
  exact Dst.ex ⟨e + 1, l, hl, hu, rfl, k', rfl, he⟩
theorem Dst.zero {a : ND} {w : Nat → Nat} {u : Nat → Bool} {t : Nat} : Dst a w u t t 0 := ⟨⟨0, rfl, rfl⟩, fun _ _ => Nat.zero_le _⟩
section CV
variable {a : ND} {w : Nat → Nat} {u : Nat → Bool} {t : Nat}
def snd_ (a : ND) (w : Nat → Nat) (u : Nat → Bool) (t : Nat) (f : Nat → Option Nat) : Prop := ∀ x v, f x = some v → ∃ e, WW a w u t e x v
theorem snd_0 : snd_ a w u t (far0 t) := by
  intro x v h
  unfold far0 at h
  split at h
  · next e => cases h; exact ⟨0, e, rfl⟩
  · cases h
theorem rlq_spec {f : Nat → Option Nat} {l z : Nat} (h : rlq a w u f l = some z) : u l = true ∧ ∃ v, f (nTo a l) = some v ∧ z = w l + v ∧ ∀ b, f (nFr a l) = some b → w l + v < b := by
  unfold rlq at h
  split at h
  · next hu =>
    split at h
    · cases h
    · next v hv =>
      split at h
      · next hn => cases h; exact ⟨hu, v, hv, rfl, fun b hb => by rw [hn] at hb; cases hb⟩
      · next b hb =>
        split at h
        · next hlt => cases h; exact ⟨hu, v, hv, rfl, fun b' hb' => by rw [hb] at hb'; cases hb'; exact hlt⟩
        · cases h
  · cases h
theorem rlq_no {f : Nat → Option Nat} {l : Nat} (h : rlq a w u f l = none) (hu : u l = true) {v : Nat} (hv : f (nTo a l) = some v) : ∃ b, f (nFr a l) = some b ∧ b ≤ w l + v := by
  unfold rlq at h
  rw [if_pos hu, hv] at h
  dsimp only at h
  split at h
  · cases h
  · next b hb =>
    split at h
    · cases h
    · next hlt => exact ⟨b, hb, by omega⟩
theorem snd_rlx {f : Nat → Option Nat} {l : Nat} (hl : l < nM a) (hf : snd_ a w u t f) : snd_ a w u t (rlx a w u f l) := by
  intro x v h
  cases hq : rlq a w u f l with
  | none => rw [rlx_none hq] at h; exact hf x v h
  | some z =>
    rw [rlx_some hq] at h
    split at h
    · next e =>
      cases h
      obtain ⟨h1, k', h2, h3, -⟩ := rlq_spec hq
      obtain ⟨e', he'⟩ := hf _ _ h2
      exact ⟨e' + 1, l, hl, h1, e.symm, k', h3, he'⟩
    · exact hf x v h
theorem snd_rnd {f : Nat → Option Nat} (hf : snd_ a w u t f) : ∀ l, l ≤ nM a → snd_ a w u t (rnd a w u f l)
  | 0, _ => hf
  | l + 1, h => snd_rlx (by omega) (snd_rnd hf l (by omega))
theorem snd_itr : ∀ r, snd_ a w u t (itr a w u (far0 t) r)
  | 0 => snd_0
  | r + 1 => snd_rnd (snd_itr r) (nM a) (Nat.le_refl _)
/-- p is no farther than q -/
def leO (p q : Option Nat) : Prop := ∀ v, q = some v → ∃ z, p = some z ∧ z ≤ v
theorem leO.rf (p : Option Nat) : leO p p := fun v h => ⟨v, h, Nat.le_refl _⟩
theorem leO.tr {p q r : Option Nat} (h : leO p q) (h' : leO q r) : leO p r := fun v hv => by
  obtain ⟨z, h1, h2⟩ := h' v hv
  obtain ⟨y, h3, h4⟩ := h z h1
  exact ⟨y, h3, by omega⟩
theorem leO_rlx {f : Nat → Option Nat} {l : Nat} (x : Nat) : leO (rlx a w u f l x) (f x) := by
  cases hq : rlq a w u f l with
  | none => rw [rlx_none hq]; exact leO.rf _
  | some z =>
    rw [rlx_some hq]
    split
    · next e =>
      intro v hv
      obtain ⟨-, k', h2, h3, h4⟩ := rlq_spec hq
      subst e
      have := h4 v hv
      exact ⟨z, rfl, by omega⟩
    · exact leO.rf _
theorem leO_rnd {f : Nat → Option Nat} (x : Nat) {l : Nat} : ∀ {k : Nat}, l ≤ k → leO (rnd a w u f k x) (rnd a w u f l x) := by
  intro k h
  induction k with
  | zero => rw [Nat.le_zero.mp h]; exact leO.rf _
  | succ k ih =>
    by_cases e : l = k + 1
    · rw [e]; exact leO.rf _
    · exact (leO_rlx x).tr (ih (by omega))
theorem rlx_edge {f : Nat → Option Nat} {l v : Nat} (hu : u l = true) (hv : f (nTo a l) = some v) : ∃ z, rlx a w u f l (nFr a l) = some z ∧ z ≤ w l + v := by
  cases hq : rlq a w u f l with
  | none =>
    rw [rlx_none hq]
    exact rlq_no hq hu hv
  | some z =>
    rw [rlx_some hq, if_pos rfl]
    obtain ⟨-, k', h2, h3, -⟩ := rlq_spec hq
    rw [hv] at h2
    cases h2
    exact ⟨z, rfl, by omega⟩
theorem rnd_edge {f : Nat → Option Nat} {l v : Nat} (hl : l < nM a) (hu : u l = true) (hv : f (nTo a l) = some v) : ∃ z, rnd a w u f (nM a) (nFr a l) = some z ∧ z ≤ w l + v := by
  obtain ⟨v', h1, h2⟩ := leO_rnd (a := a) (w := w) (u := u) (f := f) (nTo a l) (Nat.zero_le l) v hv
  obtain ⟨z, h3, h4⟩ := rlx_edge (w := w) hu h1
  obtain ⟨y, h5, h6⟩ := leO_rnd (a := a) (w := w) (u := u) (f := f) (nFr a l) (show l + 1 ≤ nM a from hl) z h3
  exact ⟨y, h5, by omega⟩
theorem itr_t : ∀ r, ∃ z, itr a w u (far0 t) r t = some z ∧ z ≤ 0
  | 0 => ⟨0, by show far0 t t = some 0; unfold far0; rw [if_pos rfl], Nat.le_refl _⟩
  | r + 1 => by
    obtain ⟨z, h1, h2⟩ := itr_t r
    obtain ⟨y, h3, h4⟩ := leO_rnd (a := a) (w := w) (u := u) (f := itr a w u (far0 t) r) t (Nat.zero_le (nM a)) z h1
    exact ⟨y, h3, by omega⟩
theorem cnt_lt {p : Nat → Bool} {x : Nat} (hp : p x = false) : ∀ {n : Nat}, x < n → cnt p n ≤ n - 1 := by
  intro n h
  induction n with
  | zero => omega
  | succ n ih =>
    by_cases e : x = n
    · subst e
      rw [cnt_miss hp]
      have := cnt_le p x
      omega
    · have := ih (by omega)
      simp only [cnt]
      split <;> omega
theorem cnt_sub {p q : Nat → Bool} (h : ∀ x, p x = true → q x = true) : ∀ n, cnt p n ≤ cnt q n
  | 0 => Nat.le_refl _
  | n + 1 => by
    have := cnt_sub h n
    simp only [cnt]
    cases e : p n with
    | false => simp; omega
    | true => rw [h n e]; simp; omega
theorem cnt_ssub {p q : Nat → Bool} (h : ∀ x, p x = true → q x = true) {y : Nat} (hp : p y = false) (hq : q y = true) : ∀ {n : Nat}, y < n → cnt p n < cnt q n := by
  intro n hn
  induction n with
  | zero => omega
  | succ n ih =>
    by_cases e : y = n
    · subst e
      rw [cnt_miss hp, cnt_hit hq]
      have := cnt_sub h y
      omega
    · have := ih (by omega)
      simp only [cnt]
      cases e2 : p n with
      | false => simp; omega
      | true => rw [h n e2]; simp; omega
noncomputable def nearer (a : ND) (w : Nat → Nat) (u : Nat → Bool) (t k : Nat) : Nat → Bool := fun y => @decide (∃ j, Dst a w u t y j ∧ j < k) (Classical.propDecidable _)
theorem nearer_iff {k y : Nat} : nearer a w u t k y = true ↔ ∃ j, Dst a w u t y j ∧ j < k := by
  unfold nearer
  exact @decide_eq_true_iff _ (Classical.propDecidable _)
theorem itr_reach (hO : NOk a) (hw : WOk (nM a) w) (ht : t < nN a) : ∀ (r x k : Nat), Dst a w u t x k → cnt (nearer a w u t k) (nN a) ≤ r → ∃ z, itr a w u (far0 t) r x = some z ∧ z ≤ k := by
  intro r
  induction r with
  | zero =>
    intro x k hD hr
    rcases hD.step with ⟨rfl, rfl⟩ | ⟨l, h1, h2, h3, k', h4, h5⟩
    · exact itr_t 0
    · exfalso
      have hwl := hw l h1
      have := cnt_ssub (p := fun _ => false) (q := nearer a w u t k) (fun x h => by cases h) (y := nTo a l) rfl (nearer_iff.mpr ⟨k', h5, by omega⟩) (n := nN a) (hO.2.2.2.2.1 l h1).2.1
      omega
  | succ r ih =>
    intro x k hD hr
    rcases hD.step with ⟨rfl, rfl⟩ | ⟨l, h1, h2, h3, k', h4, h5⟩
    · exact itr_t _
    · have hwl := hw l h1
      have hlt : cnt (nearer a w u t k') (nN a) < cnt (nearer a w u t k) (nN a) := by
        refine cnt_ssub (y := nTo a l) (fun x hx => ?_) ?_ (nearer_iff.mpr ⟨k', h5, by omega⟩) (hO.2.2.2.2.1 l h1).2.1
        · obtain ⟨j, q1, q2⟩ := nearer_iff.mp hx
          exact nearer_iff.mpr ⟨j, q1, by omega⟩
        · cases e : nearer a w u t k' (nTo a l) with
          | false => rfl
          | true =>
            obtain ⟨j, q1, q2⟩ := nearer_iff.mp e
            have := q1.uniq h5
            omega
      obtain ⟨z, h6, h7⟩ := ih (nTo a l) k' h5 (by omega)
      obtain ⟨y, h8, h9⟩ := rnd_edge (w := w) h1 h2 h6
      rw [h3] at h8
      exact ⟨y, h8, by omega⟩
theorem itr_out (hO : NOk a) (ht : t < nN a) {x : Nat} (hx : ¬ x < nN a) : ∀ r, itr a w u (far0 t) r x = none := by
  have key : ∀ (f : Nat → Option Nat), f x = none → ∀ l, l ≤ nM a → rnd a w u f l x = none := by
    intro f hf l
    induction l with
    | zero => exact fun _ => hf
    | succ l ih =>
      intro hl
      have := ih (by omega)
      rw [rnd]
      cases hq : rlq a w u (rnd a w u f l) l with
      | none => rw [rlx_none hq]; exact this
      | some z =>
        rw [rlx_some hq, if_neg]
        · exact this
        · intro e
          have := (hO.2.2.2.2.1 l (by omega)).1
          omega
  intro r
  induction r with
  | zero =>
    show far0 t x = none
    unfold far0
    rw [if_neg (by omega)]
  | succ r ih => exact key _ ih _ (Nat.le_refl _)
/-- after enough rounds: the least sum, or none -/
theorem itr_is (hO : NOk a) (hw : WOk (nM a) w) (ht : t < nN a) {r : Nat} (hr : nN a - 1 ≤ r) (x : Nat) : (∃ k, Dst a w u t x k ∧ itr a w u (far0 t) r x = some k) ∨ ((¬ ∃ k, Dst a w u t x k) ∧ itr a w u (far0 t) r x = none) := by
  cases hv : itr a w u (far0 t) r x with
  | none =>
    refine Or.inr ⟨fun q => ?_, rfl⟩
    obtain ⟨k, hk⟩ := q
    have hx : x < nN a := by
      rcases hk.step with ⟨rfl, -⟩ | ⟨l, h1, -, h3, -⟩
      · exact ht
      · have := (hO.2.2.2.2.1 l h1).1
        omega
    have hc : cnt (nearer a w u t k) (nN a) ≤ nN a - 1 := by
      refine cnt_lt (x := x) ?_ hx
      cases e : nearer a w u t k x with
      | false => rfl
      | true =>
        obtain ⟨j, q1, q2⟩ := nearer_iff.mp e
        have := q1.uniq hk
        omega
    obtain ⟨z, h1, -⟩ := itr_reach hO hw ht r x k hk (by omega)
    rw [hv] at h1
    cases h1
  | some v =>
    refine Or.inl ?_
    have hs := snd_itr (a := a) (w := w) (u := u) (t := t) r x v hv
    obtain ⟨k, hk⟩ := Dst.ex hs
    have hx : x < nN a := by
      rcases hk.step with ⟨rfl, -⟩ | ⟨l, h1, -, h3, -⟩
      · exact ht
      · have := (hO.2.2.2.2.1 l h1).1
        omega
    have hc : cnt (nearer a w u t k) (nN a) ≤ nN a - 1 := by
      refine cnt_lt (x := x) ?_ hx
      cases e : nearer a w u t k x with
      | false => rfl
      | true =>
        obtain ⟨j, q1, q2⟩ := nearer_iff.mp e
        have := q1.uniq hk
        omega
    obtain ⟨z, h1, h2⟩ := itr_reach hO hw ht r x k hk (by omega)
    rw [hv] at h1
    cases h1
    have := hk.2 v hs
    have e : v = k := by omega
    subst e
    exact ⟨v, hk, rfl⟩
theorem FAR_is (hO : NOk a) (hw : WOk (nM a) w) (ht : t < nN a) (x : Nat) : (∃ k, Dst a w u t x k ∧ FAR a w u t x = some k) ∨ ((¬ ∃ k, Dst a w u t x k) ∧ FAR a w u t x = none) := itr_is hO hw ht (Nat.le_refl _) x
theorem itr_far (hO : NOk a) (hw : WOk (nM a) w) (ht : t < nN a) {r : Nat} (hr : nN a - 1 ≤ r) : itr a w u (far0 t) r = FAR a w u t := by
  funext x
  rcases itr_is (u := u) hO hw ht hr x with ⟨k, h1, h2⟩ | ⟨h1, h2⟩ <;> rcases FAR_is (u := u) hO hw ht x with ⟨j, h3, h4⟩ | ⟨h3, h4⟩
  · rw [h2, h4, h1.uniq h3]
  · exact absurd ⟨k, h1⟩ h3
  · exact absurd ⟨j, h3⟩ h1
  · rw [h2, h4]
theorem far_conv (hO : NOk a) (hw : WOk (nM a) w) (ht : t < nN a) {r : Nat} (hr : r ≤ nN a) (h : r = nN a ∨ rnd a w u (itr a w u (far0 t) r) (nM a) = itr a w u (far0 t) r) : itr a w u (far0 t) r = FAR a w u t := by
  rcases h with h | h
  · exact itr_far hO hw ht (by omega)
  · have key : ∀ j, itr a w u (far0 t) (r + j) = itr a w u (far0 t) r := by
      intro j
      induction j with
      | zero => rfl
      | succ j ih =>
        show rnd a w u (itr a w u (far0 t) (r + j)) (nM a) = _
        rw [ih, h]
    rw [← key (nN a), itr_far hO hw ht (by omega)]
end CV
end
section
theorem tX0_measureF {g : jG} (hN : 84 ≤ gN g) {σ : Sg} {i : Nat} {a : ND} {w : Nat → Nat} {u : Nat → Bool} (hi : i < 9) (hI : NetI σ 3 a) (hO : NOk a) (hW : StW σ i (nM a) w u) (hw : WOk (nM a) w) {t : Nat} (ht : t < nN a) : MS g yX0_measure cX0_measure 9 none rmX0_measure [.ref (gad g (23)), .ref (gad g (48 + 4 * i)), .int (nI (t))] σ (fun _ σ' => (∀ j n, ¬ (j = 25 + 1 * t) → σ' j n = σ j n) ∧ ∀ x, x < nN a → σ' (25 + 1 * t) x = c1 (FAR a w u t x)) :=
  MS_post (tX0_measure hN hi hI hO hW hw ht) (fun x σ' h => by
    obtain ⟨h1, R, h2, h3, h4⟩ := h
    refine ⟨h1, fun x hx => ?_⟩
    rw [h4 x hx, far_conv hO hw ht h2 h3])
theorem StW.kept {σ σ' : Sg} {i m : Nat} {w : Nat → Nat} {u : Nat → Bool} (h : StW σ i m w u) (hk : ∀ j n, 48 ≤ j → σ' j n = σ j n) : StW σ' i m w u := fun l hl => ⟨(hk _ _ (by omega)).trans (h l hl).1, (hk _ _ (by omega)).trans (h l hl).2⟩
/-- COST of a LINK of ROOM R by its LOAD -/
def lcN (R L : Nat) : Nat :=
  let p0 := min L (4 * R)
  let r1 := L - p0
  let p1 := min r1 (4 * R)
  let r2 := r1 - p1
  let p2 := min r2 (3 * R)
  let r3 := r2 - p2
  let p3 := min r3 (1 * R)
  let r4 := r3 - p3
  0 + 1 * p0 + 3 * p1 + 10 * p2 + 70 * p3 + 500 * r4
set_option maxHeartbeats 4000000 in
set_option maxRecDepth 100000 in
theorem tX0_linkCost {g : jG} (hN : 84 ≤ gN g) {σ : Sg} {a : ND} (hI : NetI σ 3 a) (hO : NOk a) {l L : Nat} (hl : l < nM a) (hL : σ 39 l = nI L) (hb : L < 2 ^ 28) : MS g yX0_linkCost cX0_linkCost 6 (some .int) rmX0_linkCost [.ref (gad g (23)), .int (nI (l))] σ (fun r σ' => σ' = σ ∧ r = nI (lcN (nRm a l) L)) := by
  refine MJ_of (by decide) (Nat.le_of_ble_eq_true rfl) (List.forall_mem_cons.mpr ⟨rfl, List.forall_mem_cons.mpr ⟨rfl, fun _ h => absurd h List.not_mem_nil⟩⟩) ?_
  intro κ M
  have C := M.1
  show J g κ 6 0 [some (.ref (gad g (23))), some (.int (nI (l))), none, none, none, none] [] σ
  have hn7 := hO.2.1
  have hm12 := hO.2.2.1
  have hd6 := hO.2.2.2.1
  obtain ⟨hb1, hb2, hb3, hb4⟩ := hO.2.2.2.2.1 l hl
  refine j_aload_n C dX0_linkCost_0 rfl rfl ?_
  refine j_get C flX0_19 dX0_linkCost_1 (Nat.lt_of_lt_of_le (by decide) hN) rfl rfl ?_
  refine j_iload_n C dX0_linkCost_4 rfl rfl ?_
  refine j_iald C dX0_linkCost_5 (Nat.lt_of_lt_of_le (by decide) hN) (fun _ => rfl) (by decide) (by omega) ?_
  refine j_top (hL) ?_
  refine j_istore_n (L' := [some (.ref (gad g (23))), some (.int (nI (l))), some (.int (nI (L))), none, none, none]) C dX0_linkCost_6 rfl (by decide) rfl ?_
  refine j_iconst (v := nI 0) C dX0_linkCost_7 rfl ?_
  refine j_istore_n (L' := [some (.ref (gad g (23))), some (.int (nI (l))), some (.int (nI (L))), some (.int (nI (0))), none, none]) C dX0_linkCost_8 rfl (by decide) rfl ?_
  refine j_iconst (v := nI 0) C dX0_linkCost_9 rfl ?_
  refine j_istore (L' := [some (.ref (gad g (23))), some (.int (nI (l))), some (.int (nI (L))), some (.int (nI (0))), some (.int (nI (0))), none]) C dX0_linkCost_10 (by decide) rfl ?_
  refine j_iload C dX0_linkCost_12 rfl ?_
  refine j_rooms C dX0_linkCost_14 ?_
  refine j_roomsL C dX0_linkCost_17 ?_
  refine j_icmpn_ge (tgt := 66) C dX0_linkCost_18 rfl (by omega) (by omega) (fun h => absurd h (by decide)) (fun _ => ?_)
  refine j_iload_n C dX0_linkCost_21 rfl rfl ?_
  refine j_rooms C dX0_linkCost_22 ?_
  refine j_iload C dX0_linkCost_25 rfl ?_
  refine j_roomsI C dX0_linkCost_27 (by omega) ?_
  refine j_top (y := nI 4) rfl ?_
  refine j_aload_n C dX0_linkCost_28 rfl rfl ?_
  refine j_get C flX0_36 dX0_linkCost_29 (Nat.lt_of_lt_of_le (by decide) hN) rfl rfl ?_
  refine j_get C flX0_90 dX0_linkCost_32 (Nat.lt_of_lt_of_le (by decide) hN) rfl rfl ?_
  refine j_iload_n C dX0_linkCost_35 rfl rfl ?_
  refine j_iald C dX0_linkCost_36 (Nat.lt_of_lt_of_le (by decide) hN) (fun _ => rfl) (by decide) (by omega) ?_
  refine j_top (hI.rm (l := l) (by omega)) ?_
  refine j_imul C dX0_linkCost_37 ?_
  refine j_top (pk_mul _ _) ?_
  refine j_min C mmX0_96 dX0_linkCost_38 (by decide) (Nat.le_of_ble_eq_true rfl) ?_
  refine j_top (nI_min (by omega) (by omega)) ?_
  refine j_istore (L' := [some (.ref (gad g (23))), some (.int (nI (l))), some (.int (nI (L))), some (.int (nI (0))), some (.int (nI (0))), some (.int (nI (min (L) ((4 * nRm a (l))))))]) C dX0_linkCost_41 (by decide) rfl ?_
  refine j_iload_n C dX0_linkCost_43 rfl rfl ?_
  refine j_price C dX0_linkCost_44 ?_
  refine j_iload C dX0_linkCost_47 rfl ?_
  refine j_priceI C dX0_linkCost_49 (by omega) ?_
  refine j_top (y := nI 1) rfl ?_
  refine j_iload C dX0_linkCost_50 rfl ?_
  refine j_imul C dX0_linkCost_52 ?_
  refine j_top (pk_mul _ _) ?_
  refine j_iadd C dX0_linkCost_53 ?_
  refine j_top (nI_add _ _) ?_
  refine j_istore_n (L' := [some (.ref (gad g (23))), some (.int (nI (l))), some (.int (nI (L))), some (.int (nI ((0 + (1 * min (L) ((4 * nRm a (l)))))))), some (.int (nI (0))), some (.int (nI (min (L) ((4 * nRm a (l))))))]) C dX0_linkCost_54 rfl (by decide) rfl ?_
  refine j_iload_n C dX0_linkCost_55 rfl rfl ?_
  refine j_iload C dX0_linkCost_56 rfl ?_
  refine j_isub C dX0_linkCost_58 ?_
  refine j_top (pk_sub (Nat.min_le_left _ _)) ?_
  refine j_istore_n (L' := [some (.ref (gad g (23))), some (.int (nI (l))), some (.int (nI ((L) - (min (L) ((4 * nRm a (l))))))), some (.int (nI ((0 + (1 * min (L) ((4 * nRm a (l)))))))), some (.int (nI (0))), some (.int (nI (min (L) ((4 * nRm a (l))))))]) C dX0_linkCost_59 rfl (by decide) rfl ?_
  refine j_iinc (L' := [some (.ref (gad g (23))), some (.int (nI (l))), some (.int (nI ((L) - (min (L) ((4 * nRm a (l))))))), some (.int (nI ((0 + (1 * min (L) ((4 * nRm a (l)))))))), some (.int (nI (1))), some (.int (nI (min (L) ((4 * nRm a (l))))))]) C dX0_linkCost_60 rfl (nI_inc _) (by decide) rfl ?_
  refine j_goto (tgt := 12) C dX0_linkCost_63 rfl ?_
  refine j_iload C dX0_linkCost_12 rfl ?_
  refine j_rooms C dX0_linkCost_14 ?_
  refine j_roomsL C dX0_linkCost_17 ?_
  refine j_icmpn_ge (tgt := 66) C dX0_linkCost_18 rfl (by omega) (by omega) (fun h => absurd h (by decide)) (fun _ => ?_)
  refine j_iload_n C dX0_linkCost_21 rfl rfl ?_
  refine j_rooms C dX0_linkCost_22 ?_
  refine j_iload C dX0_linkCost_25 rfl ?_
  refine j_roomsI C dX0_linkCost_27 (by omega) ?_
  refine j_top (y := nI 4) rfl ?_
  refine j_aload_n C dX0_linkCost_28 rfl rfl ?_
  refine j_get C flX0_36 dX0_linkCost_29 (Nat.lt_of_lt_of_le (by decide) hN) rfl rfl ?_
  refine j_get C flX0_90 dX0_linkCost_32 (Nat.lt_of_lt_of_le (by decide) hN) rfl rfl ?_
  refine j_iload_n C dX0_linkCost_35 rfl rfl ?_
  refine j_iald C dX0_linkCost_36 (Nat.lt_of_lt_of_le (by decide) hN) (fun _ => rfl) (by decide) (by omega) ?_
  refine j_top (hI.rm (l := l) (by omega)) ?_
  refine j_imul C dX0_linkCost_37 ?_
  refine j_top (pk_mul _ _) ?_
  refine j_min C mmX0_96 dX0_linkCost_38 (by decide) (Nat.le_of_ble_eq_true rfl) ?_
  refine j_top (nI_min (by omega) (by omega)) ?_
  refine j_istore (L' := [some (.ref (gad g (23))), some (.int (nI (l))), some (.int (nI ((L) - (min (L) ((4 * nRm a (l))))))), some (.int (nI ((0 + (1 * min (L) ((4 * nRm a (l)))))))), some (.int (nI (1))), some (.int (nI (min ((L) - (min (L) ((4 * nRm a (l))))) ((4 * nRm a (l))))))]) C dX0_linkCost_41 (by decide) rfl ?_
  refine j_iload_n C dX0_linkCost_43 rfl rfl ?_
  refine j_price C dX0_linkCost_44 ?_
  refine j_iload C dX0_linkCost_47 rfl ?_
  refine j_priceI C dX0_linkCost_49 (by omega) ?_
  refine j_top (y := nI 3) rfl ?_
  refine j_iload C dX0_linkCost_50 rfl ?_
  refine j_imul C dX0_linkCost_52 ?_
  refine j_top (pk_mul _ _) ?_
  refine j_iadd C dX0_linkCost_53 ?_
  refine j_top (nI_add _ _) ?_
  refine j_istore_n (L' := [some (.ref (gad g (23))), some (.int (nI (l))), some (.int (nI ((L) - (min (L) ((4 * nRm a (l))))))), some (.int (nI (((0 + (1 * min (L) ((4 * nRm a (l))))) + (3 * min ((L) - (min (L) ((4 * nRm a (l))))) ((4 * nRm a (l)))))))), some (.int (nI (1))), some (.int (nI (min ((L) - (min (L) ((4 * nRm a (l))))) ((4 * nRm a (l))))))]) C dX0_linkCost_54 rfl (by decide) rfl ?_
  refine j_iload_n C dX0_linkCost_55 rfl rfl ?_
  refine j_iload C dX0_linkCost_56 rfl ?_
  refine j_isub C dX0_linkCost_58 ?_
  refine j_top (pk_sub (Nat.min_le_left _ _)) ?_
  refine j_istore_n (L' := [some (.ref (gad g (23))), some (.int (nI (l))), some (.int (nI (((L) - (min (L) ((4 * nRm a (l))))) - (min ((L) - (min (L) ((4 * nRm a (l))))) ((4 * nRm a (l))))))), some (.int (nI (((0 + (1 * min (L) ((4 * nRm a (l))))) + (3 * min ((L) - (min (L) ((4 * nRm a (l))))) ((4 * nRm a (l)))))))), some (.int (nI (1))), some (.int (nI (min ((L) - (min (L) ((4 * nRm a (l))))) ((4 * nRm a (l))))))]) C dX0_linkCost_59 rfl (by decide) rfl ?_
  refine j_iinc (L' := [some (.ref (gad g (23))), some (.int (nI (l))), some (.int (nI (((L) - (min (L) ((4 * nRm a (l))))) - (min ((L) - (min (L) ((4 * nRm a (l))))) ((4 * nRm a (l))))))), some (.int (nI (((0 + (1 * min (L) ((4 * nRm a (l))))) + (3 * min ((L) - (min (L) ((4 * nRm a (l))))) ((4 * nRm a (l)))))))), some (.int (nI (2))), some (.int (nI (min ((L) - (min (L) ((4 * nRm a (l))))) ((4 * nRm a (l))))))]) C dX0_linkCost_60 rfl (nI_inc _) (by decide) rfl ?_
  refine j_goto (tgt := 12) C dX0_linkCost_63 rfl ?_
  refine j_iload C dX0_linkCost_12 rfl ?_
  refine j_rooms C dX0_linkCost_14 ?_
  refine j_roomsL C dX0_linkCost_17 ?_
  refine j_icmpn_ge (tgt := 66) C dX0_linkCost_18 rfl (by omega) (by omega) (fun h => absurd h (by decide)) (fun _ => ?_)
  refine j_iload_n C dX0_linkCost_21 rfl rfl ?_
  refine j_rooms C dX0_linkCost_22 ?_
  refine j_iload C dX0_linkCost_25 rfl ?_
  refine j_roomsI C dX0_linkCost_27 (by omega) ?_
  refine j_top (y := nI 3) rfl ?_
  refine j_aload_n C dX0_linkCost_28 rfl rfl ?_
  refine j_get C flX0_36 dX0_linkCost_29 (Nat.lt_of_lt_of_le (by decide) hN) rfl rfl ?_
  refine j_get C flX0_90 dX0_linkCost_32 (Nat.lt_of_lt_of_le (by decide) hN) rfl rfl ?_
  refine j_iload_n C dX0_linkCost_35 rfl rfl ?_
  refine j_iald C dX0_linkCost_36 (Nat.lt_of_lt_of_le (by decide) hN) (fun _ => rfl) (by decide) (by omega) ?_
  refine j_top (hI.rm (l := l) (by omega)) ?_
  refine j_imul C dX0_linkCost_37 ?_
  refine j_top (pk_mul _ _) ?_
  refine j_min C mmX0_96 dX0_linkCost_38 (by decide) (Nat.le_of_ble_eq_true rfl) ?_
  refine j_top (nI_min (by omega) (by omega)) ?_
  refine j_istore (L' := [some (.ref (gad g (23))), some (.int (nI (l))), some (.int (nI (((L) - (min (L) ((4 * nRm a (l))))) - (min ((L) - (min (L) ((4 * nRm a (l))))) ((4 * nRm a (l))))))), some (.int (nI (((0 + (1 * min (L) ((4 * nRm a (l))))) + (3 * min ((L) - (min (L) ((4 * nRm a (l))))) ((4 * nRm a (l)))))))), some (.int (nI (2))), some (.int (nI (min (((L) - (min (L) ((4 * nRm a (l))))) - (min ((L) - (min (L) ((4 * nRm a (l))))) ((4 * nRm a (l))))) ((3 * nRm a (l))))))]) C dX0_linkCost_41 (by decide) rfl ?_
  refine j_iload_n C dX0_linkCost_43 rfl rfl ?_
  refine j_price C dX0_linkCost_44 ?_
  refine j_iload C dX0_linkCost_47 rfl ?_
  refine j_priceI C dX0_linkCost_49 (by omega) ?_
  refine j_top (y := nI 10) rfl ?_
  refine j_iload C dX0_linkCost_50 rfl ?_
  refine j_imul C dX0_linkCost_52 ?_
  refine j_top (pk_mul _ _) ?_
  refine j_iadd C dX0_linkCost_53 ?_
  refine j_top (nI_add _ _) ?_
  refine j_istore_n (L' := [some (.ref (gad g (23))), some (.int (nI (l))), some (.int (nI (((L) - (min (L) ((4 * nRm a (l))))) - (min ((L) - (min (L) ((4 * nRm a (l))))) ((4 * nRm a (l))))))), some (.int (nI ((((0 + (1 * min (L) ((4 * nRm a (l))))) + (3 * min ((L) - (min (L) ((4 * nRm a (l))))) ((4 * nRm a (l))))) + (10 * min (((L) - (min (L) ((4 * nRm a (l))))) - (min ((L) - (min (L) ((4 * nRm a (l))))) ((4 * nRm a (l))))) ((3 * nRm a (l)))))))), some (.int (nI (2))), some (.int (nI (min (((L) - (min (L) ((4 * nRm a (l))))) - (min ((L) - (min (L) ((4 * nRm a (l))))) ((4 * nRm a (l))))) ((3 * nRm a (l))))))]) C dX0_linkCost_54 rfl (by decide) rfl ?_
  refine j_iload_n C dX0_linkCost_55 rfl rfl ?_
  refine j_iload C dX0_linkCost_56 rfl ?_
  refine j_isub C dX0_linkCost_58 ?_
  refine j_top (pk_sub (Nat.min_le_left _ _)) ?_
  refine j_istore_n (L' := [some (.ref (gad g (23))), some (.int (nI (l))), some (.int (nI ((((L) - (min (L) ((4 * nRm a (l))))) - (min ((L) - (min (L) ((4 * nRm a (l))))) ((4 * nRm a (l))))) - (min (((L) - (min (L) ((4 * nRm a (l))))) - (min ((L) - (min (L) ((4 * nRm a (l))))) ((4 * nRm a (l))))) ((3 * nRm a (l))))))), some (.int (nI ((((0 + (1 * min (L) ((4 * nRm a (l))))) + (3 * min ((L) - (min (L) ((4 * nRm a (l))))) ((4 * nRm a (l))))) + (10 * min (((L) - (min (L) ((4 * nRm a (l))))) - (min ((L) - (min (L) ((4 * nRm a (l))))) ((4 * nRm a (l))))) ((3 * nRm a (l)))))))), some (.int (nI (2))), some (.int (nI (min (((L) - (min (L) ((4 * nRm a (l))))) - (min ((L) - (min (L) ((4 * nRm a (l))))) ((4 * nRm a (l))))) ((3 * nRm a (l))))))]) C dX0_linkCost_59 rfl (by decide) rfl ?_
  refine j_iinc (L' := [some (.ref (gad g (23))), some (.int (nI (l))), some (.int (nI ((((L) - (min (L) ((4 * nRm a (l))))) - (min ((L) - (min (L) ((4 * nRm a (l))))) ((4 * nRm a (l))))) - (min (((L) - (min (L) ((4 * nRm a (l))))) - (min ((L) - (min (L) ((4 * nRm a (l))))) ((4 * nRm a (l))))) ((3 * nRm a (l))))))), some (.int (nI ((((0 + (1 * min (L) ((4 * nRm a (l))))) + (3 * min ((L) - (min (L) ((4 * nRm a (l))))) ((4 * nRm a (l))))) + (10 * min (((L) - (min (L) ((4 * nRm a (l))))) - (min ((L) - (min (L) ((4 * nRm a (l))))) ((4 * nRm a (l))))) ((3 * nRm a (l)))))))), some (.int (nI (3))), some (.int (nI (min (((L) - (min (L) ((4 * nRm a (l))))) - (min ((L) - (min (L) ((4 * nRm a (l))))) ((4 * nRm a (l))))) ((3 * nRm a (l))))))]) C dX0_linkCost_60 rfl (nI_inc _) (by decide) rfl ?_
  refine j_goto (tgt := 12) C dX0_linkCost_63 rfl ?_
  refine j_iload C dX0_linkCost_12 rfl ?_
  refine j_rooms C dX0_linkCost_14 ?_
  refine j_roomsL C dX0_linkCost_17 ?_
  refine j_icmpn_ge (tgt := 66) C dX0_linkCost_18 rfl (by omega) (by omega) (fun h => absurd h (by decide)) (fun _ => ?_)
  refine j_iload_n C dX0_linkCost_21 rfl rfl ?_
  refine j_rooms C dX0_linkCost_22 ?_
  refine j_iload C dX0_linkCost_25 rfl ?_
  refine j_roomsI C dX0_linkCost_27 (by omega) ?_
  refine j_top (y := nI 1) rfl ?_
  refine j_aload_n C dX0_linkCost_28 rfl rfl ?_
  refine j_get C flX0_36 dX0_linkCost_29 (Nat.lt_of_lt_of_le (by decide) hN) rfl rfl ?_
  refine j_get C flX0_90 dX0_linkCost_32 (Nat.lt_of_lt_of_le (by decide) hN) rfl rfl ?_
  refine j_iload_n C dX0_linkCost_35 rfl rfl ?_
  refine j_iald C dX0_linkCost_36 (Nat.lt_of_lt_of_le (by decide) hN) (fun _ => rfl) (by decide) (by omega) ?_
  refine j_top (hI.rm (l := l) (by omega)) ?_
  refine j_imul C dX0_linkCost_37 ?_
  refine j_top (pk_mul _ _) ?_
  refine j_min C mmX0_96 dX0_linkCost_38 (by decide) (Nat.le_of_ble_eq_true rfl) ?_
  refine j_top (nI_min (by omega) (by omega)) ?_
  refine j_istore (L' := [some (.ref (gad g (23))), some (.int (nI (l))), some (.int (nI ((((L) - (min (L) ((4 * nRm a (l))))) - (min ((L) - (min (L) ((4 * nRm a (l))))) ((4 * nRm a (l))))) - (min (((L) - (min (L) ((4 * nRm a (l))))) - (min ((L) - (min (L) ((4 * nRm a (l))))) ((4 * nRm a (l))))) ((3 * nRm a (l))))))), some (.int (nI ((((0 + (1 * min (L) ((4 * nRm a (l))))) + (3 * min ((L) - (min (L) ((4 * nRm a (l))))) ((4 * nRm a (l))))) + (10 * min (((L) - (min (L) ((4 * nRm a (l))))) - (min ((L) - (min (L) ((4 * nRm a (l))))) ((4 * nRm a (l))))) ((3 * nRm a (l)))))))), some (.int (nI (3))), some (.int (nI (min ((((L) - (min (L) ((4 * nRm a (l))))) - (min ((L) - (min (L) ((4 * nRm a (l))))) ((4 * nRm a (l))))) - (min (((L) - (min (L) ((4 * nRm a (l))))) - (min ((L) - (min (L) ((4 * nRm a (l))))) ((4 * nRm a (l))))) ((3 * nRm a (l))))) ((1 * nRm a (l))))))]) C dX0_linkCost_41 (by decide) rfl ?_
  refine j_iload_n C dX0_linkCost_43 rfl rfl ?_
  refine j_price C dX0_linkCost_44 ?_
  refine j_iload C dX0_linkCost_47 rfl ?_
  refine j_priceI C dX0_linkCost_49 (by omega) ?_
  refine j_top (y := nI 70) rfl ?_
  refine j_iload C dX0_linkCost_50 rfl ?_
  refine j_imul C dX0_linkCost_52 ?_
  refine j_top (pk_mul _ _) ?_
  refine j_iadd C dX0_linkCost_53 ?_
  refine j_top (nI_add _ _) ?_
  refine j_istore_n (L' := [some (.ref (gad g (23))), some (.int (nI (l))), some (.int (nI ((((L) - (min (L) ((4 * nRm a (l))))) - (min ((L) - (min (L) ((4 * nRm a (l))))) ((4 * nRm a (l))))) - (min (((L) - (min (L) ((4 * nRm a (l))))) - (min ((L) - (min (L) ((4 * nRm a (l))))) ((4 * nRm a (l))))) ((3 * nRm a (l))))))), some (.int (nI (((((0 + (1 * min (L) ((4 * nRm a (l))))) + (3 * min ((L) - (min (L) ((4 * nRm a (l))))) ((4 * nRm a (l))))) + (10 * min (((L) - (min (L) ((4 * nRm a (l))))) - (min ((L) - (min (L) ((4 * nRm a (l))))) ((4 * nRm a (l))))) ((3 * nRm a (l))))) + (70 * min ((((L) - (min (L) ((4 * nRm a (l))))) - (min ((L) - (min (L) ((4 * nRm a (l))))) ((4 * nRm a (l))))) - (min (((L) - (min (L) ((4 * nRm a (l))))) - (min ((L) - (min (L) ((4 * nRm a (l))))) ((4 * nRm a (l))))) ((3 * nRm a (l))))) ((1 * nRm a (l)))))))), some (.int (nI (3))), some (.int (nI (min ((((L) - (min (L) ((4 * nRm a (l))))) - (min ((L) - (min (L) ((4 * nRm a (l))))) ((4 * nRm a (l))))) - (min (((L) - (min (L) ((4 * nRm a (l))))) - (min ((L) - (min (L) ((4 * nRm a (l))))) ((4 * nRm a (l))))) ((3 * nRm a (l))))) ((1 * nRm a (l))))))]) C dX0_linkCost_54 rfl (by decide) rfl ?_
  refine j_iload_n C dX0_linkCost_55 rfl rfl ?_
  refine j_iload C dX0_linkCost_56 rfl ?_
  refine j_isub C dX0_linkCost_58 ?_
  refine j_top (pk_sub (Nat.min_le_left _ _)) ?_
  refine j_istore_n (L' := [some (.ref (gad g (23))), some (.int (nI (l))), some (.int (nI (((((L) - (min (L) ((4 * nRm a (l))))) - (min ((L) - (min (L) ((4 * nRm a (l))))) ((4 * nRm a (l))))) - (min (((L) - (min (L) ((4 * nRm a (l))))) - (min ((L) - (min (L) ((4 * nRm a (l))))) ((4 * nRm a (l))))) ((3 * nRm a (l))))) - (min ((((L) - (min (L) ((4 * nRm a (l))))) - (min ((L) - (min (L) ((4 * nRm a (l))))) ((4 * nRm a (l))))) - (min (((L) - (min (L) ((4 * nRm a (l))))) - (min ((L) - (min (L) ((4 * nRm a (l))))) ((4 * nRm a (l))))) ((3 * nRm a (l))))) ((1 * nRm a (l))))))), some (.int (nI (((((0 + (1 * min (L) ((4 * nRm a (l))))) + (3 * min ((L) - (min (L) ((4 * nRm a (l))))) ((4 * nRm a (l))))) + (10 * min (((L) - (min (L) ((4 * nRm a (l))))) - (min ((L) - (min (L) ((4 * nRm a (l))))) ((4 * nRm a (l))))) ((3 * nRm a (l))))) + (70 * min ((((L) - (min (L) ((4 * nRm a (l))))) - (min ((L) - (min (L) ((4 * nRm a (l))))) ((4 * nRm a (l))))) - (min (((L) - (min (L) ((4 * nRm a (l))))) - (min ((L) - (min (L) ((4 * nRm a (l))))) ((4 * nRm a (l))))) ((3 * nRm a (l))))) ((1 * nRm a (l)))))))), some (.int (nI (3))), some (.int (nI (min ((((L) - (min (L) ((4 * nRm a (l))))) - (min ((L) - (min (L) ((4 * nRm a (l))))) ((4 * nRm a (l))))) - (min (((L) - (min (L) ((4 * nRm a (l))))) - (min ((L) - (min (L) ((4 * nRm a (l))))) ((4 * nRm a (l))))) ((3 * nRm a (l))))) ((1 * nRm a (l))))))]) C dX0_linkCost_59 rfl (by decide) rfl ?_
  refine j_iinc (L' := [some (.ref (gad g (23))), some (.int (nI (l))), some (.int (nI (((((L) - (min (L) ((4 * nRm a (l))))) - (min ((L) - (min (L) ((4 * nRm a (l))))) ((4 * nRm a (l))))) - (min (((L) - (min (L) ((4 * nRm a (l))))) - (min ((L) - (min (L) ((4 * nRm a (l))))) ((4 * nRm a (l))))) ((3 * nRm a (l))))) - (min ((((L) - (min (L) ((4 * nRm a (l))))) - (min ((L) - (min (L) ((4 * nRm a (l))))) ((4 * nRm a (l))))) - (min (((L) - (min (L) ((4 * nRm a (l))))) - (min ((L) - (min (L) ((4 * nRm a (l))))) ((4 * nRm a (l))))) ((3 * nRm a (l))))) ((1 * nRm a (l))))))), some (.int (nI (((((0 + (1 * min (L) ((4 * nRm a (l))))) + (3 * min ((L) - (min (L) ((4 * nRm a (l))))) ((4 * nRm a (l))))) + (10 * min (((L) - (min (L) ((4 * nRm a (l))))) - (min ((L) - (min (L) ((4 * nRm a (l))))) ((4 * nRm a (l))))) ((3 * nRm a (l))))) + (70 * min ((((L) - (min (L) ((4 * nRm a (l))))) - (min ((L) - (min (L) ((4 * nRm a (l))))) ((4 * nRm a (l))))) - (min (((L) - (min (L) ((4 * nRm a (l))))) - (min ((L) - (min (L) ((4 * nRm a (l))))) ((4 * nRm a (l))))) ((3 * nRm a (l))))) ((1 * nRm a (l)))))))), some (.int (nI (4))), some (.int (nI (min ((((L) - (min (L) ((4 * nRm a (l))))) - (min ((L) - (min (L) ((4 * nRm a (l))))) ((4 * nRm a (l))))) - (min (((L) - (min (L) ((4 * nRm a (l))))) - (min ((L) - (min (L) ((4 * nRm a (l))))) ((4 * nRm a (l))))) ((3 * nRm a (l))))) ((1 * nRm a (l))))))]) C dX0_linkCost_60 rfl (nI_inc _) (by decide) rfl ?_
  refine j_goto (tgt := 12) C dX0_linkCost_63 rfl ?_
  refine j_iload C dX0_linkCost_12 rfl ?_
  refine j_rooms C dX0_linkCost_14 ?_
  refine j_roomsL C dX0_linkCost_17 ?_
  refine j_icmpn_ge (tgt := 66) C dX0_linkCost_18 rfl (by omega) (by omega) (fun _ => ?_) (fun h => absurd h (by decide))
  refine j_iload_n C dX0_linkCost_66 rfl rfl ?_
  refine j_sipush (v := nI 500) C dX0_linkCost_67 rfl ?_
  refine j_iload_n C dX0_linkCost_70 rfl rfl ?_
  refine j_imul C dX0_linkCost_71 ?_
  refine j_top (pk_mul _ _) ?_
  refine j_iadd C dX0_linkCost_72 ?_
  refine j_top (nI_add _ _) ?_
  refine j_ret M dX0_linkCost_73 ?_
  exact ⟨rfl, rfl⟩
set_option maxHeartbeats 4000000 in
set_option maxRecDepth 100000 in
theorem tX0_lostDemands {g : jG} (hN : 84 ≤ gN g) {σ : Sg} {a : ND} (hI : NetI σ 3 a) (hO : NOk a) {lo : Nat → Bool} (hlo : ∀ d, d < nD a → σ 40 d = bI (lo d)) : MS g yX0_lostDemands cX0_lostDemands 3 (some .int) rmX0_lostDemands [.ref (gad g (23))] σ (fun r σ' => σ' = σ ∧ r = nI (cnt lo (nD a))) := by
  refine MJ_of (by decide) (Nat.le_of_ble_eq_true rfl) (List.forall_mem_cons.mpr ⟨rfl, fun _ h => absurd h List.not_mem_nil⟩) ?_
  intro κ M
  have C := M.1
  show J g κ 3 0 [some (.ref (gad g (23))), none, none] [] σ
  have hn7 := hO.2.1
  have hm12 := hO.2.2.1
  have hd6 := hO.2.2.2.1
  have lp : ∀ (k : Nat) (d : Nat), nD a - d = k → d ≤ nD a → J g κ 3 4 [some (.ref (gad g (23))), some (.int (nI (cnt lo d))), some (.int (nI (d)))] [] σ := by
    intro k
    induction k using Nat.strongRecOn with
    | _ k ih =>
      intro d hk hl
      refine j_iload_n C dX0_lostDemands_4 rfl rfl ?_
      refine j_aload_n C dX0_lostDemands_5 rfl rfl ?_
      refine j_get C flX0_36 dX0_lostDemands_6 (Nat.lt_of_lt_of_le (by decide) hN) rfl rfl ?_
      refine j_get C flX0_56 dX0_lostDemands_9 (Nat.lt_of_lt_of_le (by decide) hN) rfl rfl ?_
      refine j_top (hI.d) ?_
      refine j_icmpn_ge (tgt := 33) C dX0_lostDemands_12 rfl (by omega) (by omega) (fun h12 => ?_) (fun h12 => ?_)
      · refine j_iload_n C dX0_lostDemands_33 rfl rfl ?_
        refine j_ret M dX0_lostDemands_34 ?_
        obtain rfl : d = nD a := by omega
        exact ⟨rfl, rfl⟩
      · have hc := cnt_le lo d
        rcases hld : lo d with _ | _
        · refine j_aload_n C dX0_lostDemands_15 rfl rfl ?_
          refine j_get C flX0_23 dX0_lostDemands_16 (Nat.lt_of_lt_of_le (by decide) hN) rfl rfl ?_
          refine j_iload_n C dX0_lostDemands_19 rfl rfl ?_
          refine j_zald C dX0_lostDemands_20 (Nat.lt_of_lt_of_le (by decide) hN) (fun _ => rfl) (by decide) (by omega) ?_
          refine j_top ((hlo d (by omega)).trans (by rw [hld])) ?_
          refine j_ifn_eq (tgt := 27) C dX0_lostDemands_21 rfl (by omega) (fun _ => ?_) (fun h => absurd h (by decide))
          refine j_iinc (L' := [some (.ref (gad g (23))), some (.int (nI (cnt lo d))), some (.int (nI (d + 1)))]) C dX0_lostDemands_27 rfl (nI_inc _) (by decide) rfl ?_
          refine j_goto (tgt := 4) C dX0_lostDemands_30 rfl ?_
          refine J_loc (L' := [some (.ref (gad g (23))), some (.int (nI (cnt lo (d + 1)))), some (.int (nI (d + 1)))]) (by simp only [cnt, hld]; rfl) (ih (nD a - (d + 1)) (by omega) (d + 1) rfl (by omega))
        · refine j_aload_n C dX0_lostDemands_15 rfl rfl ?_
          refine j_get C flX0_23 dX0_lostDemands_16 (Nat.lt_of_lt_of_le (by decide) hN) rfl rfl ?_
          refine j_iload_n C dX0_lostDemands_19 rfl rfl ?_
          refine j_zald C dX0_lostDemands_20 (Nat.lt_of_lt_of_le (by decide) hN) (fun _ => rfl) (by decide) (by omega) ?_
          refine j_top ((hlo d (by omega)).trans (by rw [hld])) ?_
          refine j_ifn_eq (tgt := 27) C dX0_lostDemands_21 rfl (by omega) (fun h => absurd h (by decide)) (fun _ => ?_)
          refine j_iinc (L' := [some (.ref (gad g (23))), some (.int (nI (cnt lo d + 1))), some (.int (nI (d)))]) C dX0_lostDemands_24 rfl (nI_inc _) (by decide) rfl ?_
          refine j_iinc (L' := [some (.ref (gad g (23))), some (.int (nI (cnt lo d + 1))), some (.int (nI (d + 1)))]) C dX0_lostDemands_27 rfl (nI_inc _) (by decide) rfl ?_
          refine j_goto (tgt := 4) C dX0_lostDemands_30 rfl ?_
          refine J_loc (L' := [some (.ref (gad g (23))), some (.int (nI (cnt lo (d + 1)))), some (.int (nI (d + 1)))]) (by simp only [cnt, hld]; rfl) (ih (nD a - (d + 1)) (by omega) (d + 1) rfl (by omega))
  refine j_iconst (v := nI 0) C dX0_lostDemands_0 rfl ?_
  refine j_istore_n (L' := [some (.ref (gad g (23))), some (.int (nI (0))), none]) C dX0_lostDemands_1 rfl (by decide) rfl ?_
  refine j_iconst (v := nI 0) C dX0_lostDemands_2 rfl ?_
  refine j_istore_n (L' := [some (.ref (gad g (23))), some (.int (nI (0))), some (.int (nI (0)))]) C dX0_lostDemands_3 rfl (by decide) rfl ?_
  exact lp (nD a - 0) 0 rfl (by omega)
set_option maxHeartbeats 4000000 in
set_option maxRecDepth 100000 in
theorem tX0_overfullLinks {g : jG} (hN : 84 ≤ gN g) {σ : Sg} {a : ND} (hI : NetI σ 3 a) (hO : NOk a) {ld : Nat → Nat} (hld : ∀ l, l < nM a → σ 39 l = nI (ld l) ∧ ld l < 2 ^ 28) : MS g yX0_overfullLinks cX0_overfullLinks 3 (some .int) rmX0_overfullLinks [.ref (gad g (23))] σ (fun r σ' => σ' = σ ∧ r = nI (cnt (fun l => decide (12 * nRm a l < ld l)) (nM a))) := by
  refine MJ_of (by decide) (Nat.le_of_ble_eq_true rfl) (List.forall_mem_cons.mpr ⟨rfl, fun _ h => absurd h List.not_mem_nil⟩) ?_
  intro κ M
  have C := M.1
  show J g κ 3 0 [some (.ref (gad g (23))), none, none] [] σ
  have hn7 := hO.2.1
  have hm12 := hO.2.2.1
  have hd6 := hO.2.2.2.1
  have lp : ∀ (k : Nat) (l : Nat), nM a - l = k → l ≤ nM a → J g κ 3 4 [some (.ref (gad g (23))), some (.int (nI (cnt (fun l => decide (12 * nRm a l < ld l)) l))), some (.int (nI (l)))] [] σ := by
    intro k
    induction k using Nat.strongRecOn with
    | _ k ih =>
      intro l hk hl
      refine j_iload_n C dX0_overfullLinks_4 rfl rfl ?_
      refine j_aload_n C dX0_overfullLinks_5 rfl rfl ?_
      refine j_get C flX0_36 dX0_overfullLinks_6 (Nat.lt_of_lt_of_le (by decide) hN) rfl rfl ?_
      refine j_get C flX0_53 dX0_overfullLinks_9 (Nat.lt_of_lt_of_le (by decide) hN) rfl rfl ?_
      refine j_top (hI.m) ?_
      refine j_icmpn_ge (tgt := 45) C dX0_overfullLinks_12 rfl (by omega) (by omega) (fun h12 => ?_) (fun h12 => ?_)
      · refine j_iload_n C dX0_overfullLinks_45 rfl rfl ?_
        refine j_ret M dX0_overfullLinks_46 ?_
        obtain rfl : l = nM a := by omega
        exact ⟨rfl, rfl⟩
      · have hc := cnt_le (fun l => decide (12 * nRm a l < ld l)) l
        have hb1 := (hld l h12).2
        obtain ⟨hb2, hb3, hb4, hb5, hb6⟩ := hO.2.2.2.2.1 l h12
        refine j_aload_n C dX0_overfullLinks_15 rfl rfl ?_
        refine j_get C flX0_19 dX0_overfullLinks_16 (Nat.lt_of_lt_of_le (by decide) hN) rfl rfl ?_
        refine j_iload_n C dX0_overfullLinks_19 rfl rfl ?_
        refine j_iald C dX0_overfullLinks_20 (Nat.lt_of_lt_of_le (by decide) hN) (fun _ => rfl) (by decide) (by omega) ?_
        refine j_top ((hld (l) (by omega)).1) ?_
        refine j_bipush (v := nI 12) C dX0_overfullLinks_21 rfl ?_
        refine j_aload_n C dX0_overfullLinks_23 rfl rfl ?_
        refine j_get C flX0_36 dX0_overfullLinks_24 (Nat.lt_of_lt_of_le (by decide) hN) rfl rfl ?_
        refine j_get C flX0_90 dX0_overfullLinks_27 (Nat.lt_of_lt_of_le (by decide) hN) rfl rfl ?_
        refine j_iload_n C dX0_overfullLinks_30 rfl rfl ?_
        refine j_iald C dX0_overfullLinks_31 (Nat.lt_of_lt_of_le (by decide) hN) (fun _ => rfl) (by decide) (by omega) ?_
        refine j_top (hI.rm (l := l) (by omega)) ?_
        refine j_imul C dX0_overfullLinks_32 ?_
        refine j_top (pk_mul _ _) ?_
        refine j_icmpn_le (tgt := 39) C dX0_overfullLinks_33 rfl (by omega) (by omega) (fun h33 => ?_) (fun h33 => ?_)
        · refine j_iinc (L' := [some (.ref (gad g (23))), some (.int (nI (cnt (fun l => decide (12 * nRm a l < ld l)) l))), some (.int (nI (l + 1)))]) C dX0_overfullLinks_39 rfl (nI_inc _) (by decide) rfl ?_
          refine j_goto (tgt := 4) C dX0_overfullLinks_42 rfl ?_
          refine J_loc (L' := [some (.ref (gad g (23))), some (.int (nI (cnt (fun l => decide (12 * nRm a l < ld l)) (l + 1)))), some (.int (nI (l + 1)))]) ?_ (ih (nM a - (l + 1)) (by omega) (l + 1) rfl (by omega))
          first | (rw [cnt_hit (by rw [decide_eq_true_iff]; omega)]) | (rw [cnt_miss (by rw [decide_eq_false_iff_not]; omega)])
        · refine j_iinc (L' := [some (.ref (gad g (23))), some (.int (nI (cnt (fun l => decide (12 * nRm a l < ld l)) l + 1))), some (.int (nI (l)))]) C dX0_overfullLinks_36 rfl (nI_inc _) (by decide) rfl ?_
          refine j_iinc (L' := [some (.ref (gad g (23))), some (.int (nI (cnt (fun l => decide (12 * nRm a l < ld l)) l + 1))), some (.int (nI (l + 1)))]) C dX0_overfullLinks_39 rfl (nI_inc _) (by decide) rfl ?_
          refine j_goto (tgt := 4) C dX0_overfullLinks_42 rfl ?_
          refine J_loc (L' := [some (.ref (gad g (23))), some (.int (nI (cnt (fun l => decide (12 * nRm a l < ld l)) (l + 1)))), some (.int (nI (l + 1)))]) ?_ (ih (nM a - (l + 1)) (by omega) (l + 1) rfl (by omega))
          first | (rw [cnt_hit (by rw [decide_eq_true_iff]; omega)]) | (rw [cnt_miss (by rw [decide_eq_false_iff_not]; omega)])
  refine j_iconst (v := nI 0) C dX0_overfullLinks_0 rfl ?_
  refine j_istore_n (L' := [some (.ref (gad g (23))), some (.int (nI (0))), none]) C dX0_overfullLinks_1 rfl (by decide) rfl ?_
  refine j_iconst (v := nI 0) C dX0_overfullLinks_2 rfl ?_
  refine j_istore_n (L' := [some (.ref (gad g (23))), some (.int (nI (0))), some (.int (nI (0)))]) C dX0_overfullLinks_3 rfl (by decide) rfl ?_
  exact lp (nM a - 0) 0 rfl (by omega)
set_option maxHeartbeats 4000000 in
set_option maxRecDepth 100000 in
theorem tX0_sendOn {g : jG} (hN : 84 ≤ gN g) {σ : Sg} {i : Nat} {a : ND} {w : Nat → Nat} {u : Nat → Bool} (hi : i < 9) (hI : NetI σ 3 a) (hO : NOk a) (hW : StW σ i (nM a) w u) (hw : WOk (nM a) w) {d x : Nat} {f : Nat → Option Nat} {cm sh ld : Nat → Nat} (hd : d < nD a) (hx : x < nN a) (hF : ∀ y, y < nN a → σ (25 + 1 * (nGo a d)) y = c1 (f y)) (hB : fBd f 1680) (hcm : ∀ y, y < nN a → σ 42 y = nI (cm y)) (hsh : ∀ l, l < nM a → σ (33 + 1 * d) l = nI (sh l)) (hld : ∀ l, l < nM a → σ 39 l = nI (ld l)) (hc : cm x < 2 ^ 31) : MS g yX0_sendOn cX0_sendOn 10 none rmX0_sendOn [.ref (gad g (23)), .ref (gad g (48 + 4 * i)), .int (nI (d)), .int (nI (x))] σ (fun r σ' => (∀ j n, ¬ (j = 39 ∨ j = 42 ∨ j = 43 ∨ j = 33 + 1 * d) → σ' j n = σ j n) ∧ (∀ y, y < nN a → σ' 42 y = nI (cmB a (prd a w u f x) (cm x) (cnt (prd a w u f x) (nM a)) cm (nM a) y)) ∧ (∀ l, l < nM a → σ' (33 + 1 * d) l = nI (shB (prd a w u f x) (cm x) (cnt (prd a w u f x) (nM a)) sh (nM a) l)) ∧ (∀ l, l < nM a → σ' 39 l = nI (ldB (prd a w u f x) (cm x) (cnt (prd a w u f x) (nM a)) ld (nM a) l))) := by
  refine MJ_of (by decide) (Nat.le_of_ble_eq_true rfl) (List.forall_mem_cons.mpr ⟨rfl, List.forall_mem_cons.mpr ⟨rfl, List.forall_mem_cons.mpr ⟨rfl, List.forall_mem_cons.mpr ⟨rfl, fun _ h => absurd h List.not_mem_nil⟩⟩⟩⟩) ?_
  intro κ M
  have C := M.1
  show J g κ 10 0 [some (.ref (gad g (23))), some (.ref (gad g (48 + 4 * i))), some (.int (nI (d))), some (.int (nI (x))), none, none, none, none, none, none] [] σ
  have hn7 := hO.2.1
  have hm12 := hO.2.2.1
  have hd6 := hO.2.2.2.1
  obtain ⟨hg1, hg2, hg3, hg4, hg5⟩ := hO.2.2.2.2.2 d hd
  have hK12 := cnt_le (prd a w u f x) (nM a)
  have hmod : (cm x) % (cnt (prd a w u f x) (nM a)) ≤ (cm x) := Nat.mod_le _ _
  have hdiv : (cm x) / (cnt (prd a w u f x) (nM a)) ≤ (cm x) := Nat.div_le_self _ _
  have lp2 : ∀ (k : Nat) (q b : Nat) (σ1 : Sg), (cnt (prd a w u f x) (nM a)) - q = k → q ≤ (cnt (prd a w u f x) (nM a)) → b ≤ nM a → cnt (prd a w u f x) b = q → (∀ j n, ¬ (j = 39 ∨ j = 42 ∨ j = 43 ∨ j = 33 + 1 * d) → σ1 j n = σ j n) → (∀ q, q < cnt (prd a w u f x) (nM a) → ∃ y, y < (nM a) ∧ (prd a w u f x) y = true ∧ cnt (prd a w u f x) y = q ∧ σ1 43 q = nI y) → (∀ y, y < nN a → σ1 42 y = nI (cmB a (prd a w u f x) (cm x) (cnt (prd a w u f x) (nM a)) cm b y)) → (∀ l, l < nM a → σ1 (33 + 1 * d) l = nI (shB (prd a w u f x) (cm x) (cnt (prd a w u f x) (nM a)) sh b l)) → (∀ l, l < nM a → σ1 39 l = nI (ldB (prd a w u f x) (cm x) (cnt (prd a w u f x) (nM a)) ld b l)) → J g κ 10 100 [some (.ref (gad g (23))), some (.ref (gad g (48 + 4 * i))), some (.int (nI (d))), some (.int (nI (x))), some (.int (nI (cnt (prd a w u f x) (nM a)))), some (.int (nI ((cm x) / (cnt (prd a w u f x) (nM a))))), some (.int (nI ((cm x) % (cnt (prd a w u f x) (nM a))))), some (.int (nI (q))), none, none] [] σ1 := by
    intro k
    induction k using Nat.strongRecOn with
    | _ k ih =>
      intro q b σ1 hk hq hbn hbq hf hsl hcm1 hsh1 hld1
      refine j_iload C dX0_sendOn_100 rfl ?_
      refine j_iload C dX0_sendOn_102 rfl ?_
      refine j_icmpn_ge (tgt := 183) C dX0_sendOn_104 rfl (by omega) (by omega) (fun h104 => ?_) (fun h104 => ?_)
      · refine j_retv M dX0_sendOn_183 ?_
        have hbm : cnt (prd a w u f x) b = cnt (prd a w u f x) (nM a) := by omega
        rw [← cmB_gap hbn hbm] at hcm1
        rw [← shB_gap hbn hbm] at hsh1
        rw [← ldB_gap hbn hbm] at hld1
        exact ⟨hf, hcm1, hsh1, hld1⟩
      · obtain ⟨y, hy1, hy2, hy3, hy4⟩ := hsl q (by omega)
        obtain ⟨hb1, hb2, hb3, hb4⟩ := hO.2.2.2.2.1 y hy1
        have hby : b ≤ y := by
          refine Nat.not_lt.mp (fun z => ?_)
          have e1 := cnt_mono (prd a w u f x) (show y + 1 ≤ b from z)
          have e2 := cnt_hit hy2
          omega
        rw [← cmB_gap hby (hbq.trans hy3.symm)] at hcm1
        rw [← shB_gap hby (hbq.trans hy3.symm)] at hsh1
        rw [← ldB_gap hby (hbq.trans hy3.symm)] at hld1
        refine j_aload_n C dX0_sendOn_107 rfl rfl ?_
        refine j_get C flX0_33 dX0_sendOn_108 (Nat.lt_of_lt_of_le (by decide) hN) rfl rfl ?_
        refine j_iload C dX0_sendOn_111 rfl ?_
        refine j_iald C dX0_sendOn_113 (Nat.lt_of_lt_of_le (by decide) hN) (fun _ => rfl) (by decide) (by omega) ?_
        refine j_top (hy4) ?_
        refine j_istore (L' := [some (.ref (gad g (23))), some (.ref (gad g (48 + 4 * i))), some (.int (nI (d))), some (.int (nI (x))), some (.int (nI (cnt (prd a w u f x) (nM a)))), some (.int (nI ((cm x) / (cnt (prd a w u f x) (nM a))))), some (.int (nI ((cm x) % (cnt (prd a w u f x) (nM a))))), some (.int (nI (q))), some (.int (nI (y))), none]) C dX0_sendOn_114 (by decide) rfl ?_
        refine j_iload C dX0_sendOn_116 rfl ?_
        refine j_iload C dX0_sendOn_118 rfl ?_
        refine j_icmpn_ge (tgt := 130) C dX0_sendOn_120 rfl (by omega) (by omega) (fun h120 => ?_) (fun h120 => ?_)
        · refine j_iload C dX0_sendOn_130 rfl ?_
          refine j_istore (L' := [some (.ref (gad g (23))), some (.ref (gad g (48 + 4 * i))), some (.int (nI (d))), some (.int (nI (x))), some (.int (nI (cnt (prd a w u f x) (nM a)))), some (.int (nI ((cm x) / (cnt (prd a w u f x) (nM a))))), some (.int (nI ((cm x) % (cnt (prd a w u f x) (nM a))))), some (.int (nI (q))), some (.int (nI (y))), some (.int (nI ((cm x) / (cnt (prd a w u f x) (nM a)))))]) C dX0_sendOn_132 (by decide) rfl ?_
          refine j_aload_n C dX0_sendOn_134 rfl rfl ?_
          refine j_get C flX0_16 dX0_sendOn_135 (Nat.lt_of_lt_of_le (by decide) hN) rfl rfl ?_
          refine j_iload_n C dX0_sendOn_138 rfl rfl ?_
          refine j_aald C dX0_sendOn_139 (Nat.lt_of_lt_of_le (by decide) hN) (fun _ => rfl) (by decide) (by omega) ?_
          refine j_iload C dX0_sendOn_140 rfl ?_
          refine j_iload C dX0_sendOn_142 rfl ?_
          refine j_iast' C dX0_sendOn_144 (by omega) (cf_share (by omega)) (by decide) (by omega) (fun τ1 hf2 hv3 => ?_)
          refine j_aload_n C dX0_sendOn_145 rfl rfl ?_
          refine j_get C flX0_19 dX0_sendOn_146 (Nat.lt_of_lt_of_le (by decide) hN) rfl rfl ?_
          refine j_iload C dX0_sendOn_149 rfl ?_
          refine j_dup2 C dX0_sendOn_151 rfl rfl ?_
          refine j_iald C dX0_sendOn_152 (Nat.lt_of_lt_of_le (by decide) hN) (fun _ => rfl) (by decide) (by omega) ?_
          refine j_top ((hf2 _ _ (by omega)).trans (hld1 (y) (by omega))) ?_
          refine j_iload C dX0_sendOn_153 rfl ?_
          refine j_iadd C dX0_sendOn_155 ?_
          refine j_top (nI_add _ _) ?_
          refine j_iast' C dX0_sendOn_156 (Nat.lt_of_lt_of_le (by decide) hN) (fun _ => rfl) (by decide) (by omega) (fun τ4 hf5 hv6 => ?_)
          refine j_aload_n C dX0_sendOn_157 rfl rfl ?_
          refine j_get C flX0_30 dX0_sendOn_158 (Nat.lt_of_lt_of_le (by decide) hN) rfl rfl ?_
          refine j_aload_n C dX0_sendOn_161 rfl rfl ?_
          refine j_get C flX0_36 dX0_sendOn_162 (Nat.lt_of_lt_of_le (by decide) hN) rfl rfl ?_
          refine j_get C flX0_74 dX0_sendOn_165 (Nat.lt_of_lt_of_le (by decide) hN) rfl rfl ?_
          refine j_iload C dX0_sendOn_168 rfl ?_
          refine j_iald C dX0_sendOn_170 (Nat.lt_of_lt_of_le (by decide) hN) (fun _ => rfl) (by decide) (by omega) ?_
          refine j_top ((hf5 _ _ (by omega)).trans ((hf2 _ _ (by omega)).trans ((hf _ _ (by omega)).trans (hI.to (l := y) (by omega))))) ?_
          refine j_dup2 C dX0_sendOn_171 rfl rfl ?_
          refine j_iald C dX0_sendOn_172 (Nat.lt_of_lt_of_le (by decide) hN) (fun _ => rfl) (by decide) (by omega) ?_
          refine j_top ((hf5 _ _ (by omega)).trans ((hf2 _ _ (by omega)).trans (hcm1 (nTo a (y)) (by omega)))) ?_
          refine j_iload C dX0_sendOn_173 rfl ?_
          refine j_iadd C dX0_sendOn_175 ?_
          refine j_top (nI_add _ _) ?_
          refine j_iast' C dX0_sendOn_176 (Nat.lt_of_lt_of_le (by decide) hN) (fun _ => rfl) (by decide) (by omega) (fun τ7 hf8 hv9 => ?_)
          refine j_iinc (L' := [some (.ref (gad g (23))), some (.ref (gad g (48 + 4 * i))), some (.int (nI (d))), some (.int (nI (x))), some (.int (nI (cnt (prd a w u f x) (nM a)))), some (.int (nI ((cm x) / (cnt (prd a w u f x) (nM a))))), some (.int (nI ((cm x) % (cnt (prd a w u f x) (nM a))))), some (.int (nI (q + 1))), some (.int (nI (y))), some (.int (nI ((cm x) / (cnt (prd a w u f x) (nM a)))))]) C dX0_sendOn_177 rfl (nI_inc _) (by decide) rfl ?_
          refine j_goto (tgt := 100) C dX0_sendOn_180 rfl ?_
          refine J_clr 8 (L' := [some (.ref (gad g (23))), some (.ref (gad g (48 + 4 * i))), some (.int (nI (d))), some (.int (nI (x))), some (.int (nI (cnt (prd a w u f x) (nM a)))), some (.int (nI ((cm x) / (cnt (prd a w u f x) (nM a))))), some (.int (nI ((cm x) % (cnt (prd a w u f x) (nM a))))), some (.int (nI (q + 1))), none, some (.int (nI ((cm x) / (cnt (prd a w u f x) (nM a)))))]) rfl ?_
          refine J_clr 9 (L' := [some (.ref (gad g (23))), some (.ref (gad g (48 + 4 * i))), some (.int (nI (d))), some (.int (nI (x))), some (.int (nI (cnt (prd a w u f x) (nM a)))), some (.int (nI ((cm x) / (cnt (prd a w u f x) (nM a))))), some (.int (nI ((cm x) % (cnt (prd a w u f x) (nM a))))), some (.int (nI (q + 1))), none, none]) rfl ?_
          have hpt : ptN (prd a w u f x) (cm x) (cnt (prd a w u f x) (nM a)) y = (cm x) / (cnt (prd a w u f x) (nM a)) := by
            unfold ptN
            rw [hy3]
            first | rw [if_pos (by omega)] | (rw [if_neg (by omega)]; rfl)
          refine ih ((cnt (prd a w u f x) (nM a)) - (q + 1)) (by omega) (q + 1) (y + 1) τ7 rfl (by omega) (by omega) (by rw [cnt_hit hy2, hy3]) (fun j n h => by rw [hf8 _ _ (by omega), hf5 _ _ (by omega), hf2 _ _ (by omega)]; exact hf j n h) (fun z hz => ?_) (fun z hz => ?_) (fun z hz => ?_) (fun z hz => ?_)
          · obtain ⟨z1, e1, e2, e3, e4⟩ := hsl z hz
            exact ⟨z1, e1, e2, e3, by rw [hf8 _ _ (by omega), hf5 _ _ (by omega), hf2 _ _ (by omega)]; exact e4⟩
          · rw [cmB_hit hy2]
            by_cases e : z = nTo a y
            · subst e
              rw [if_pos rfl, hpt]; assumption
            · rw [if_neg e, hf8 _ _ (by omega), hf5 _ _ (by omega), hf2 _ _ (by omega)]; exact hcm1 z hz
          · rw [shB_hit hy2]
            by_cases e : z = y
            · subst e
              rw [if_pos rfl, hpt, hf8 _ _ (by omega), hf5 _ _ (by omega)]; assumption
            · rw [if_neg e, hf8 _ _ (by omega), hf5 _ _ (by omega), hf2 _ _ (by omega)]; exact hsh1 z hz
          · rw [ldB_hit hy2]
            by_cases e : z = y
            · subst e
              rw [if_pos rfl, hpt, hf8 _ _ (by omega), ← ldB_self (p := (prd a w u f x)) (c := (cm x)) (k := (cnt (prd a w u f x) (nM a))) (sh := ld) (l := z)]; assumption
            · rw [if_neg e, hf8 _ _ (by omega), hf5 _ _ (by omega), hf2 _ _ (by omega)]; exact hld1 z hz
        · refine j_iload C dX0_sendOn_123 rfl ?_
          refine j_iconst (v := nI 1) C dX0_sendOn_125 rfl ?_
          refine j_iadd C dX0_sendOn_126 ?_
          refine j_top (nI_add _ _) ?_
          refine j_goto (tgt := 132) C dX0_sendOn_127 rfl ?_
          refine j_istore (L' := [some (.ref (gad g (23))), some (.ref (gad g (48 + 4 * i))), some (.int (nI (d))), some (.int (nI (x))), some (.int (nI (cnt (prd a w u f x) (nM a)))), some (.int (nI ((cm x) / (cnt (prd a w u f x) (nM a))))), some (.int (nI ((cm x) % (cnt (prd a w u f x) (nM a))))), some (.int (nI (q))), some (.int (nI (y))), some (.int (nI (((cm x) / (cnt (prd a w u f x) (nM a)) + 1))))]) C dX0_sendOn_132 (by decide) rfl ?_
          refine j_aload_n C dX0_sendOn_134 rfl rfl ?_
          refine j_get C flX0_16 dX0_sendOn_135 (Nat.lt_of_lt_of_le (by decide) hN) rfl rfl ?_
          refine j_iload_n C dX0_sendOn_138 rfl rfl ?_
          refine j_aald C dX0_sendOn_139 (Nat.lt_of_lt_of_le (by decide) hN) (fun _ => rfl) (by decide) (by omega) ?_
          refine j_iload C dX0_sendOn_140 rfl ?_
          refine j_iload C dX0_sendOn_142 rfl ?_
          refine j_iast' C dX0_sendOn_144 (by omega) (cf_share (by omega)) (by decide) (by omega) (fun τ10 hf11 hv12 => ?_)
          refine j_aload_n C dX0_sendOn_145 rfl rfl ?_
          refine j_get C flX0_19 dX0_sendOn_146 (Nat.lt_of_lt_of_le (by decide) hN) rfl rfl ?_
          refine j_iload C dX0_sendOn_149 rfl ?_
          refine j_dup2 C dX0_sendOn_151 rfl rfl ?_
          refine j_iald C dX0_sendOn_152 (Nat.lt_of_lt_of_le (by decide) hN) (fun _ => rfl) (by decide) (by omega) ?_
          refine j_top ((hf11 _ _ (by omega)).trans (hld1 (y) (by omega))) ?_
          refine j_iload C dX0_sendOn_153 rfl ?_
          refine j_iadd C dX0_sendOn_155 ?_
          refine j_top (nI_add _ _) ?_
          refine j_iast' C dX0_sendOn_156 (Nat.lt_of_lt_of_le (by decide) hN) (fun _ => rfl) (by decide) (by omega) (fun τ13 hf14 hv15 => ?_)
          refine j_aload_n C dX0_sendOn_157 rfl rfl ?_
          refine j_get C flX0_30 dX0_sendOn_158 (Nat.lt_of_lt_of_le (by decide) hN) rfl rfl ?_
          refine j_aload_n C dX0_sendOn_161 rfl rfl ?_
          refine j_get C flX0_36 dX0_sendOn_162 (Nat.lt_of_lt_of_le (by decide) hN) rfl rfl ?_
          refine j_get C flX0_74 dX0_sendOn_165 (Nat.lt_of_lt_of_le (by decide) hN) rfl rfl ?_
          refine j_iload C dX0_sendOn_168 rfl ?_
          refine j_iald C dX0_sendOn_170 (Nat.lt_of_lt_of_le (by decide) hN) (fun _ => rfl) (by decide) (by omega) ?_
          refine j_top ((hf14 _ _ (by omega)).trans ((hf11 _ _ (by omega)).trans ((hf _ _ (by omega)).trans (hI.to (l := y) (by omega))))) ?_
          refine j_dup2 C dX0_sendOn_171 rfl rfl ?_
          refine j_iald C dX0_sendOn_172 (Nat.lt_of_lt_of_le (by decide) hN) (fun _ => rfl) (by decide) (by omega) ?_
          refine j_top ((hf14 _ _ (by omega)).trans ((hf11 _ _ (by omega)).trans (hcm1 (nTo a (y)) (by omega)))) ?_
          refine j_iload C dX0_sendOn_173 rfl ?_
          refine j_iadd C dX0_sendOn_175 ?_
          refine j_top (nI_add _ _) ?_
          refine j_iast' C dX0_sendOn_176 (Nat.lt_of_lt_of_le (by decide) hN) (fun _ => rfl) (by decide) (by omega) (fun τ16 hf17 hv18 => ?_)
          refine j_iinc (L' := [some (.ref (gad g (23))), some (.ref (gad g (48 + 4 * i))), some (.int (nI (d))), some (.int (nI (x))), some (.int (nI (cnt (prd a w u f x) (nM a)))), some (.int (nI ((cm x) / (cnt (prd a w u f x) (nM a))))), some (.int (nI ((cm x) % (cnt (prd a w u f x) (nM a))))), some (.int (nI (q + 1))), some (.int (nI (y))), some (.int (nI (((cm x) / (cnt (prd a w u f x) (nM a)) + 1))))]) C dX0_sendOn_177 rfl (nI_inc _) (by decide) rfl ?_
          refine j_goto (tgt := 100) C dX0_sendOn_180 rfl ?_
          refine J_clr 8 (L' := [some (.ref (gad g (23))), some (.ref (gad g (48 + 4 * i))), some (.int (nI (d))), some (.int (nI (x))), some (.int (nI (cnt (prd a w u f x) (nM a)))), some (.int (nI ((cm x) / (cnt (prd a w u f x) (nM a))))), some (.int (nI ((cm x) % (cnt (prd a w u f x) (nM a))))), some (.int (nI (q + 1))), none, some (.int (nI (((cm x) / (cnt (prd a w u f x) (nM a)) + 1))))]) rfl ?_
          refine J_clr 9 (L' := [some (.ref (gad g (23))), some (.ref (gad g (48 + 4 * i))), some (.int (nI (d))), some (.int (nI (x))), some (.int (nI (cnt (prd a w u f x) (nM a)))), some (.int (nI ((cm x) / (cnt (prd a w u f x) (nM a))))), some (.int (nI ((cm x) % (cnt (prd a w u f x) (nM a))))), some (.int (nI (q + 1))), none, none]) rfl ?_
          have hpt : ptN (prd a w u f x) (cm x) (cnt (prd a w u f x) (nM a)) y = ((cm x) / (cnt (prd a w u f x) (nM a)) + 1) := by
            unfold ptN
            rw [hy3]
            first | rw [if_pos (by omega)] | (rw [if_neg (by omega)]; rfl)
          refine ih ((cnt (prd a w u f x) (nM a)) - (q + 1)) (by omega) (q + 1) (y + 1) τ16 rfl (by omega) (by omega) (by rw [cnt_hit hy2, hy3]) (fun j n h => by rw [hf17 _ _ (by omega), hf14 _ _ (by omega), hf11 _ _ (by omega)]; exact hf j n h) (fun z hz => ?_) (fun z hz => ?_) (fun z hz => ?_) (fun z hz => ?_)
          · obtain ⟨z1, e1, e2, e3, e4⟩ := hsl z hz
            exact ⟨z1, e1, e2, e3, by rw [hf17 _ _ (by omega), hf14 _ _ (by omega), hf11 _ _ (by omega)]; exact e4⟩
          · rw [cmB_hit hy2]
            by_cases e : z = nTo a y
            · subst e
              rw [if_pos rfl, hpt]; assumption
            · rw [if_neg e, hf17 _ _ (by omega), hf14 _ _ (by omega), hf11 _ _ (by omega)]; exact hcm1 z hz
          · rw [shB_hit hy2]
            by_cases e : z = y
            · subst e
              rw [if_pos rfl, hpt, hf17 _ _ (by omega), hf14 _ _ (by omega)]; assumption
            · rw [if_neg e, hf17 _ _ (by omega), hf14 _ _ (by omega), hf11 _ _ (by omega)]; exact hsh1 z hz
          · rw [ldB_hit hy2]
            by_cases e : z = y
            · subst e
              rw [if_pos rfl, hpt, hf17 _ _ (by omega), ← ldB_self (p := (prd a w u f x)) (c := (cm x)) (k := (cnt (prd a w u f x) (nM a))) (sh := ld) (l := z)]; assumption
            · rw [if_neg e, hf17 _ _ (by omega), hf14 _ _ (by omega), hf11 _ _ (by omega)]; exact hld1 z hz
  have lp1 : ∀ (k : Nat) (l : Nat) (σ1 : Sg), nM a - l = k → l ≤ nM a → (∀ j n, ¬ (j = 43) → σ1 j n = σ j n) → (∀ q, q < cnt (prd a w u f x) l → ∃ y, y < l ∧ (prd a w u f x) y = true ∧ cnt (prd a w u f x) y = q ∧ σ1 43 q = nI y) → J g κ 10 6 [some (.ref (gad g (23))), some (.ref (gad g (48 + 4 * i))), some (.int (nI (d))), some (.int (nI (x))), some (.int (nI (cnt (prd a w u f x) l))), some (.int (nI (l))), none, none, none, none] [] σ1 := by
    intro k
    induction k using Nat.strongRecOn with
    | _ k ih =>
      intro l σ1 hk hl hf hsl
      refine j_iload C dX0_sendOn_6 rfl ?_
      refine j_aload_n C dX0_sendOn_8 rfl rfl ?_
      refine j_get C flX0_36 dX0_sendOn_9 (Nat.lt_of_lt_of_le (by decide) hN) rfl rfl ?_
      refine j_get C flX0_53 dX0_sendOn_12 (Nat.lt_of_lt_of_le (by decide) hN) rfl rfl ?_
      refine j_top ((hf _ _ (by omega)).trans (hI.m)) ?_
      refine j_icmpn_ge (tgt := 69) C dX0_sendOn_15 rfl (by omega) (by omega) (fun h15 => ?_) (fun h15 => ?_)
      · have el : l = nM a := by omega
        subst el
        have hcl := cnt_le (prd a w u f x) (nM a)
        refine j_iload C dX0_sendOn_69 rfl ?_
        refine j_ifn_ne (tgt := 75) C dX0_sendOn_71 rfl (by omega) (fun h71 => ?_) (fun h71 => ?_)
        · refine j_aload_n C dX0_sendOn_75 rfl rfl ?_
          refine j_get C flX0_30 dX0_sendOn_76 (Nat.lt_of_lt_of_le (by decide) hN) rfl rfl ?_
          refine j_iload_n C dX0_sendOn_79 rfl rfl ?_
          refine j_iald C dX0_sendOn_80 (Nat.lt_of_lt_of_le (by decide) hN) (fun _ => rfl) (by decide) (by omega) ?_
          refine j_top ((hf _ _ (by omega)).trans (hcm (x) (by omega))) ?_
          refine j_iload C dX0_sendOn_81 rfl ?_
          refine j_idiv C dX0_sendOn_83 (nI_ne0 (by omega) (by omega)) ?_
          refine j_top (pk_div hc (by omega) (by omega)) ?_
          refine j_istore (L' := [some (.ref (gad g (23))), some (.ref (gad g (48 + 4 * i))), some (.int (nI (d))), some (.int (nI (x))), some (.int (nI (cnt (prd a w u f x) (nM a)))), some (.int (nI ((cm x) / (cnt (prd a w u f x) (nM a))))), none, none, none, none]) C dX0_sendOn_84 (by decide) rfl ?_
          refine j_aload_n C dX0_sendOn_86 rfl rfl ?_
          refine j_get C flX0_30 dX0_sendOn_87 (Nat.lt_of_lt_of_le (by decide) hN) rfl rfl ?_
          refine j_iload_n C dX0_sendOn_90 rfl rfl ?_
          refine j_iald C dX0_sendOn_91 (Nat.lt_of_lt_of_le (by decide) hN) (fun _ => rfl) (by decide) (by omega) ?_
          refine j_top ((hf _ _ (by omega)).trans (hcm (x) (by omega))) ?_
          refine j_iload C dX0_sendOn_92 rfl ?_
          refine j_irem C dX0_sendOn_94 (nI_ne0 (by omega) (by omega)) ?_
          refine j_top (pk_rem hc (by omega) (by omega)) ?_
          refine j_istore (L' := [some (.ref (gad g (23))), some (.ref (gad g (48 + 4 * i))), some (.int (nI (d))), some (.int (nI (x))), some (.int (nI (cnt (prd a w u f x) (nM a)))), some (.int (nI ((cm x) / (cnt (prd a w u f x) (nM a))))), some (.int (nI ((cm x) % (cnt (prd a w u f x) (nM a))))), none, none, none]) C dX0_sendOn_95 (by decide) rfl ?_
          refine j_iconst (v := nI 0) C dX0_sendOn_97 rfl ?_
          refine j_istore (L' := [some (.ref (gad g (23))), some (.ref (gad g (48 + 4 * i))), some (.int (nI (d))), some (.int (nI (x))), some (.int (nI (cnt (prd a w u f x) (nM a)))), some (.int (nI ((cm x) / (cnt (prd a w u f x) (nM a))))), some (.int (nI ((cm x) % (cnt (prd a w u f x) (nM a))))), some (.int (nI (0))), none, none]) C dX0_sendOn_98 (by decide) rfl ?_
          exact lp2 ((cnt (prd a w u f x) (nM a)) - 0) 0 0 σ1 rfl (by omega) (by omega) rfl (fun j n h => hf j n (by omega)) hsl (fun y hy => (hf _ _ (by omega)).trans (hcm y hy)) (fun l hl => ((hf _ _ (by omega)).trans (hsh l hl))) (fun l hl => ((hf _ _ (by omega)).trans (hld l hl)))
        · refine j_retv M dX0_sendOn_74 ?_
          have hbm : cnt (prd a w u f x) 0 = cnt (prd a w u f x) (nM a) := by rw [h71]; rfl
          refine ⟨fun j n h => hf j n (by omega), fun y hy => ?_, fun z hz => ?_, fun z hz => ?_⟩
          · rw [cmB_gap (Nat.zero_le _) hbm]; exact (hf _ _ (by omega)).trans (hcm y hy)
          · rw [shB_gap (Nat.zero_le _) hbm]; exact (hf _ _ (by omega)).trans (hsh z hz)
          · rw [ldB_gap (Nat.zero_le _) hbm]; exact (hf _ _ (by omega)).trans (hld z hz)
      · have hcl := cnt_le (prd a w u f x) l
        obtain ⟨hb1, hb2, hb3, hb4⟩ := hO.2.2.2.2.1 l h15
        refine j_aload_n C dX0_sendOn_18 rfl rfl ?_
        refine j_get C flX0_36 dX0_sendOn_19 (Nat.lt_of_lt_of_le (by decide) hN) rfl rfl ?_
        refine j_get C flX0_80 dX0_sendOn_22 (Nat.lt_of_lt_of_le (by decide) hN) rfl rfl ?_
        refine j_iload C dX0_sendOn_25 rfl ?_
        refine j_iald C dX0_sendOn_27 (Nat.lt_of_lt_of_le (by decide) hN) (fun _ => rfl) (by decide) (by omega) ?_
        refine j_top ((hf _ _ (by omega)).trans (hI.fr (l := l) (by omega))) ?_
        refine j_iload_n C dX0_sendOn_28 rfl rfl ?_
        refine j_icmpn_ne (tgt := 63) C dX0_sendOn_29 rfl (by omega) (by omega) (fun h29 => ?_) (fun h29 => ?_)
        · refine j_iinc (L' := [some (.ref (gad g (23))), some (.ref (gad g (48 + 4 * i))), some (.int (nI (d))), some (.int (nI (x))), some (.int (nI (cnt (prd a w u f x) l))), some (.int (nI (l + 1))), none, none, none, none]) C dX0_sendOn_63 rfl (nI_inc _) (by decide) rfl ?_
          refine j_goto (tgt := 6) C dX0_sendOn_66 rfl ?_
          have hp0 : (prd a w u f x) l = false := by
            unfold prd
            first | (rw [hsb, Bool.and_false]) | (rw [show (nFr a l == x) = false from beq_false_of_ne (by omega), Bool.false_and])
          refine J_loc (L' := [some (.ref (gad g (23))), some (.ref (gad g (48 + 4 * i))), some (.int (nI (d))), some (.int (nI (x))), some (.int (nI (cnt (prd a w u f x) (l + 1)))), some (.int (nI (l + 1))), none, none, none, none]) (by rw [cnt_miss hp0]) (ih (nM a - (l + 1)) (by omega) (l + 1) σ1 rfl (by omega) hf (fun q hq => ?_))
          rw [cnt_miss hp0] at hq
          obtain ⟨y, e1, e2, e3, e4⟩ := hsl q hq
          exact ⟨y, by omega, e2, e3, e4⟩
        · refine j_aload_n C dX0_sendOn_32 rfl rfl ?_
          refine j_aload_n C dX0_sendOn_33 rfl rfl ?_
          refine j_iload C dX0_sendOn_34 rfl ?_
          refine j_aload_n C dX0_sendOn_36 rfl rfl ?_
          refine j_get C flX0_36 dX0_sendOn_37 (Nat.lt_of_lt_of_le (by decide) hN) rfl rfl ?_
          refine j_get C flX0_87 dX0_sendOn_40 (Nat.lt_of_lt_of_le (by decide) hN) rfl rfl ?_
          refine j_iload_n C dX0_sendOn_43 rfl rfl ?_
          refine j_iald C dX0_sendOn_44 (Nat.lt_of_lt_of_le (by decide) hN) (fun _ => rfl) (by decide) (by omega) ?_
          refine j_top ((hf _ _ (by omega)).trans (hI.go (l := d) (by omega))) ?_
          refine j_calli (As := [.ref (gad g (48 + 4 * i)), .int (nI (l)), .int (nI (nGo a (d)))]) (rest := []) C (tX0_isShort hN hi (hI.kept (fun j n h1 h2 => hf j n (by omega))) hO (hW.kept (fun j n h1 => hf j n (by omega))) hw (l := l) (t := nGo a d) (f := f) (by omega) (by omega) (fun y hy => (hf _ _ (by omega)).trans (hF y hy)) hB) cdX0_isShort mlX0_83 dX0_sendOn_45 (by decide) (by decide) (Nat.lt_of_lt_of_le (by decide) hN) rfl rfl rfl rfl rfl (Nat.le_of_ble_eq_true rfl) (fun r2 τ1 hp3 => ?_)
          obtain ⟨hs, hr⟩ := hp3
          replace hs := hs.symm
          subst hs
          rcases hsb : shb a w u f l with _ | _ <;> rw [hsb] at hr <;> subst hr
          · refine j_ifn_eq (tgt := 63) C dX0_sendOn_48 rfl (by omega) (fun _ => ?_) (fun h => absurd h (by decide))
            refine j_iinc (L' := [some (.ref (gad g (23))), some (.ref (gad g (48 + 4 * i))), some (.int (nI (d))), some (.int (nI (x))), some (.int (nI (cnt (prd a w u f x) l))), some (.int (nI (l + 1))), none, none, none, none]) C dX0_sendOn_63 rfl (nI_inc _) (by decide) rfl ?_
            refine j_goto (tgt := 6) C dX0_sendOn_66 rfl ?_
            have hp0 : (prd a w u f x) l = false := by
              unfold prd
              first | (rw [hsb, Bool.and_false]) | (rw [show (nFr a l == x) = false from beq_false_of_ne (by omega), Bool.false_and])
            refine J_loc (L' := [some (.ref (gad g (23))), some (.ref (gad g (48 + 4 * i))), some (.int (nI (d))), some (.int (nI (x))), some (.int (nI (cnt (prd a w u f x) (l + 1)))), some (.int (nI (l + 1))), none, none, none, none]) (by rw [cnt_miss hp0]) (ih (nM a - (l + 1)) (by omega) (l + 1) σ1 rfl (by omega) hf (fun q hq => ?_))
            rw [cnt_miss hp0] at hq
            obtain ⟨y, e1, e2, e3, e4⟩ := hsl q hq
            exact ⟨y, by omega, e2, e3, e4⟩
          · refine j_ifn_eq (tgt := 63) C dX0_sendOn_48 rfl (by omega) (fun h => absurd h (by decide)) (fun _ => ?_)
            refine j_aload_n C dX0_sendOn_51 rfl rfl ?_
            refine j_get C flX0_33 dX0_sendOn_52 (Nat.lt_of_lt_of_le (by decide) hN) rfl rfl ?_
            refine j_iload C dX0_sendOn_55 rfl ?_
            refine j_iload C dX0_sendOn_57 rfl ?_
            refine j_iast' C dX0_sendOn_59 (Nat.lt_of_lt_of_le (by decide) hN) (fun _ => rfl) (by decide) (by omega) (fun τ4 hf5 hv6 => ?_)
            refine j_iinc (L' := [some (.ref (gad g (23))), some (.ref (gad g (48 + 4 * i))), some (.int (nI (d))), some (.int (nI (x))), some (.int (nI (cnt (prd a w u f x) l + 1))), some (.int (nI (l))), none, none, none, none]) C dX0_sendOn_60 rfl (nI_inc _) (by decide) rfl ?_
            refine j_iinc (L' := [some (.ref (gad g (23))), some (.ref (gad g (48 + 4 * i))), some (.int (nI (d))), some (.int (nI (x))), some (.int (nI (cnt (prd a w u f x) l + 1))), some (.int (nI (l + 1))), none, none, none, none]) C dX0_sendOn_63 rfl (nI_inc _) (by decide) rfl ?_
            refine j_goto (tgt := 6) C dX0_sendOn_66 rfl ?_
            have hp1 : (prd a w u f x) l = true := by
              unfold prd
              rw [hsb, show (nFr a l == x) = true from beq_iff_eq.mpr (by omega)]
              rfl
            refine J_loc (L' := [some (.ref (gad g (23))), some (.ref (gad g (48 + 4 * i))), some (.int (nI (d))), some (.int (nI (x))), some (.int (nI (cnt (prd a w u f x) (l + 1)))), some (.int (nI (l + 1))), none, none, none, none]) (by rw [cnt_hit hp1]) (ih (nM a - (l + 1)) (by omega) (l + 1) τ4 rfl (by omega) (fun j n h => by rw [hf5 _ _ (by omega)]; exact hf j n h) (fun q hq => ?_))
            rw [cnt_hit hp1] at hq
            by_cases e : q = cnt (prd a w u f x) l
            · subst e
              exact ⟨l, by omega, hp1, rfl, by assumption⟩
            · obtain ⟨y, e1, e2, e3, e4⟩ := hsl q (by omega)
              exact ⟨y, by omega, e2, e3, by rw [hf5 _ _ (by omega)]; exact e4⟩
  refine j_iconst (v := nI 0) C dX0_sendOn_0 rfl ?_
  refine j_istore (L' := [some (.ref (gad g (23))), some (.ref (gad g (48 + 4 * i))), some (.int (nI (d))), some (.int (nI (x))), some (.int (nI (0))), none, none, none, none, none]) C dX0_sendOn_1 (by decide) rfl ?_
  refine j_iconst (v := nI 0) C dX0_sendOn_3 rfl ?_
  refine j_istore (L' := [some (.ref (gad g (23))), some (.ref (gad g (48 + 4 * i))), some (.int (nI (d))), some (.int (nI (x))), some (.int (nI (0))), some (.int (nI (0))), none, none, none, none]) C dX0_sendOn_4 (by decide) rfl ?_
  exact lp1 (nM a - 0) 0 σ rfl (by omega) (fun _ _ _ => rfl) (fun q hq => absurd hq (Nat.not_lt_zero _))
end
section
/-! pure words: the order of the nodes; a demand's run -/
def bfr (k : Nat → Nat) (x y : Nat) : Prop := k y < k x ∨ (k x = k y ∧ x < y)
def Ord (k : Nat → Nat) (n : Nat) (L : Nat → Nat) : Prop := (∀ i, i < n → L i < n) ∧ (∀ i j, i < j → j < n → bfr k (L i) (L j)) ∧ ∀ y, y < n → ∃ i, i < n ∧ L i = y
def insF (L : Nat → Nat) (p x : Nat) : Nat → Nat := fun i => if i < p then L i else if i = p then x else L (i - 1)
theorem ord_ins {k : Nat → Nat} {x p : Nat} {L : Nat → Nat} (h : Ord k x L) (hp : p ≤ x) (h1 : ∀ j, p ≤ j → j < x → k (L j) < k x) (h2 : p = 0 ∨ k x ≤ k (L (p - 1))) : Ord k (x + 1) (insF L p x) := by
  obtain ⟨o1, o2, o3⟩ := h
  have lo : ∀ i, i < p → k x ≤ k (L i) := by
    intro i hi
    rcases h2 with h2 | h2
    · omega
    · by_cases e : i = p - 1
      · rw [e]; exact h2
      · rcases o2 i (p - 1) (by omega) (by omega) with q | q <;> omega
  refine ⟨fun i hi => ?_, fun i j hij hj => ?_, fun y hy => ?_⟩
  · unfold insF
    split
    · have := o1 i (by omega); omega
    · split
      · omega
      · have := o1 (i - 1) (by omega); omega
  · unfold insF
    by_cases hi : i < p
    · rw [if_pos hi]
      by_cases hj1 : j < p
      · rw [if_pos hj1]; exact o2 i j hij (by omega)
      · rw [if_neg hj1]
        by_cases hj2 : j = p
        · rw [if_pos hj2]
          have e1 := lo i hi
          have e2 := o1 i (by omega)
          unfold bfr
          omega
        · rw [if_neg hj2]; exact o2 i (j - 1) (by omega) (by omega)
    · rw [if_neg hi, if_neg (show ¬ j < p by omega), if_neg (show ¬ j = p by omega)]
      by_cases hi2 : i = p
      · rw [if_pos hi2]
        exact Or.inl (h1 (j - 1) (by omega) (by omega))
      · rw [if_neg hi2]; exact o2 (i - 1) (j - 1) (by omega) (by omega)
  · by_cases e : y = x
    · refine ⟨p, by omega, ?_⟩
      unfold insF
      rw [if_neg (Nat.lt_irrefl _), if_pos rfl, e]
    · obtain ⟨i, i1, i2⟩ := o3 y (by omega)
      by_cases hi : i < p
      · refine ⟨i, by omega, ?_⟩
        unfold insF
        rw [if_pos hi, i2]
      · refine ⟨i + 1, by omega, ?_⟩
        unfold insF
        rw [if_neg (by omega), if_neg (by omega), Nat.add_sub_cancel, i2]
theorem ord_uniq {k : Nat → Nat} {n : Nat} {L L' : Nat → Nat} (h : Ord k n L) (h' : Ord k n L') : ∀ i, i < n → L i = L' i := by
  intro i
  induction i using Nat.strongRecOn with
  | _ i ih =>
    intro hi
    obtain ⟨o1, o2, o3⟩ := h
    obtain ⟨p1, p2, p3⟩ := h'
    obtain ⟨x, x1, x2⟩ := p3 (L i) (o1 i hi)
    obtain ⟨y, y1, y2⟩ := o3 (L' i) (p1 i hi)
    have irr : ∀ z, ¬ bfr k z z := fun z q => by unfold bfr at q; omega
    by_cases ex : x = i
    · rw [← x2, ex]
    · by_cases ey : y = i
      · rw [← y2, ey]
      · have hx : ¬ x < i := fun q => by
          have e1 := ih x q (by omega)
          rw [x2] at e1
          exact irr (L i) (by have := o2 x i q hi; rwa [e1] at this)
        have hy : ¬ y < i := fun q => by
          have e1 := ih y q (by omega)
          rw [y2] at e1
          exact irr (L' i) (by have := p2 y i q hi; rwa [← e1] at this)
        have b1 := p2 i x (by omega) x1
        have b2 := o2 i y (by omega) y1
        rw [x2] at b1
        rw [y2] at b2
        unfold bfr at b1 b2
        omega
theorem sum_pt {p : Nat → Bool} {c k : Nat} : ∀ b, sumN (fun l => if p l = true then ptN p c k l else 0) b = cnt p b * (c / k) + min (cnt p b) (c % k)
  | 0 => by simp [sumN, cnt]
  | b + 1 => by
    rw [sumN, sum_pt b]
    cases e : p b with
    | false =>
      rw [cnt_miss e]
      simp
    | true =>
      rw [cnt_hit e]
      simp only [if_true, ptN]
      rw [Nat.add_mul, Nat.one_mul]
      split <;> omega
theorem sum_le {f h : Nat → Nat} (e : ∀ l, f l ≤ h l) : ∀ b, sumN f b ≤ sumN h b
  | 0 => Nat.le_refl _
  | b + 1 => Nat.add_le_add (sum_le e b) (e b)
theorem sum_pt_le {p : Nat → Bool} {c m : Nat} : sumN (fun l => if p l = true then ptN p c (cnt p m) l else 0) m ≤ c := by
  rw [sum_pt]
  by_cases h : cnt p m = 0
  · rw [h]; simp
  · have h1 := Nat.mod_lt c (show cnt p m > 0 by omega)
    have h2 := Nat.div_add_mod c (cnt p m)
    have h3 : min (cnt p m) (c % cnt p m) ≤ c % cnt p m := Nat.min_le_right _ _
    omega
theorem cmB_bd {a : ND} {p : Nat → Bool} {c m : Nat} {cm : Nat → Nat} (y : Nat) : cmB a p c (cnt p m) cm m y ≤ cm y + c := by
  unfold cmB
  have h1 := sum_le (f := fun l => if p l = true ∧ nTo a l = y then ptN p c (cnt p m) l else 0) (h := fun l => if p l = true then ptN p c (cnt p m) l else 0) (fun l => by
    split
    · next q => rw [if_pos q.1]; exact Nat.le_refl _
    · exact Nat.zero_le _) m
  have h2 := sum_pt_le (p := p) (c := c) (m := m)
  omega
/-- a run's standing: what has come, shares, loads -/
abbrev RS : Type := (Nat → Nat) × (Nat → Nat) × (Nat → Nat)
def stp3 (a : ND) (w : Nat → Nat) (u : Nat → Bool) (f : Nat → Option Nat) (x : Nat) (s : RS) : RS :=
  (cmB a (prd a w u f x) (s.1 x) (cnt (prd a w u f x) (nM a)) s.1 (nM a), shB (prd a w u f x) (s.1 x) (cnt (prd a w u f x) (nM a)) s.2.1 (nM a), ldB (prd a w u f x) (s.1 x) (cnt (prd a w u f x) (nM a)) s.2.2 (nM a))
def runS (a : ND) (w : Nat → Nat) (u : Nat → Bool) (f : Nat → Option Nat) (L : Nat → Nat) (s : RS) : Nat → RS
  | 0 => s
  | i + 1 => if 0 < (runS a w u f L s i).1 (L i) then stp3 a w u f (L i) (runS a w u f L s i) else runS a w u f L s i
theorem stp3_bd {a : ND} {w : Nat → Nat} {u : Nat → Bool} {f : Nat → Option Nat} {x B : Nat} {s : RS} (h : ∀ y, s.1 y ≤ B) (y : Nat) : (stp3 a w u f x s).1 y ≤ 2 * B := by
  have h1 := cmB_bd (a := a) (p := prd a w u f x) (c := s.1 x) (m := nM a) (cm := s.1) y
  have h2 := h y
  have h3 := h x
  show cmB a (prd a w u f x) (s.1 x) (cnt (prd a w u f x) (nM a)) s.1 (nM a) y ≤ 2 * B
  omega
theorem runS_bd {a : ND} {w : Nat → Nat} {u : Nat → Bool} {f : Nat → Option Nat} {L : Nat → Nat} {B : Nat} {s : RS} (h : ∀ y, s.1 y ≤ B) : ∀ i y, (runS a w u f L s i).1 y ≤ B * 2 ^ i
  | 0, y => by rw [Nat.pow_zero, Nat.mul_one]; exact h y
  | i + 1, y => by
    rw [runS, Nat.pow_succ, ← Nat.mul_assoc]
    split
    · have := stp3_bd (a := a) (w := w) (u := u) (f := f) (x := L i) (runS_bd (a := a) (w := w) (u := u) (f := f) (L := L) h i) y
      omega
    · have := runS_bd (a := a) (w := w) (u := u) (f := f) (L := L) h i y
      omega
def cm0 (s z : Nat) : Nat → Nat := fun y => if y = s then 12 * z else 0
end
section
set_option maxHeartbeats 4000000 in
set_option maxRecDepth 100000 in
theorem tX0_orderFarthestFirst {g : jG} (hN : 84 ≤ gN g) {σ : Sg} {a : ND} (hI : NetI σ 3 a) (hO : NOk a) {t : Nat} {f : Nat → Option Nat} (ht : t < 7) (hF : ∀ y, y < nN a → σ (25 + 1 * t) y = c1 (f y)) (hB : fBd f 1680) : MS g yX0_orderFarthestFirst cX0_orderFarthestFirst 4 none rmX0_orderFarthestFirst [.ref (gad g (23)), .int (nI (t))] σ (fun r σ' => (∀ j n, ¬ (j = 41) → σ' j n = σ j n) ∧ ∃ L : Nat → Nat, Ord (fun y => key (f y)) (nN a) L ∧ ∀ i, i < nN a → σ' 41 i = nI (L i)) := by
  refine MJ_of (by decide) (Nat.le_of_ble_eq_true rfl) (List.forall_mem_cons.mpr ⟨rfl, List.forall_mem_cons.mpr ⟨rfl, fun _ h => absurd h List.not_mem_nil⟩⟩) ?_
  intro κ M
  have C := M.1
  show J g κ 4 0 [some (.ref (gad g (23))), some (.int (nI (t))), none, none] [] σ
  have hn7 := hO.2.1
  have hm12 := hO.2.2.1
  have hd6 := hO.2.2.2.1
  have lpI : ∀ (x : Nat) (L : Nat → Nat), x < nN a → Ord (fun y => key (f y)) x L → (∀ (σ1 : Sg) (L' : Nat → Nat), (∀ j n, ¬ (j = 41) → σ1 j n = σ j n) → Ord (fun y => key (f y)) (x + 1) L' → (∀ i, i < x + 1 → σ1 41 i = nI (L' i)) → J g κ 4 72 [some (.ref (gad g (23))), some (.int (nI (t))), some (.int (nI (x))), none] [] σ1) → ∀ (k p : Nat) (σ1 : Sg), p = k → p ≤ x → (∀ j n, ¬ (j = 41) → σ1 j n = σ j n) → (∀ i, i < p → σ1 41 i = nI (L i)) → (∀ i, p < i → i ≤ x → σ1 41 i = nI (L (i - 1))) → (∀ j, p ≤ j → j < x → key (f (L j)) < key (f x)) → J g κ 4 15 [some (.ref (gad g (23))), some (.int (nI (t))), some (.int (nI (x))), some (.int (nI (p)))] [] σ1 := by
    intro x L hx hord kk k
    induction k using Nat.strongRecOn with
    | _ k ih =>
      intro p σ1 hk hp hf hlo hhi hk2
      refine j_iload_n C dX0_orderFarthestFirst_15 rfl rfl ?_
      refine j_ifn_le (tgt := 65) C dX0_orderFarthestFirst_16 rfl (by omega) (fun h16 => ?_) (fun h16 => ?_)
      · refine j_aload_n C dX0_orderFarthestFirst_65 rfl rfl ?_
        refine j_get C flX0_27 dX0_orderFarthestFirst_66 (Nat.lt_of_lt_of_le (by decide) hN) rfl rfl ?_
        refine j_iload_n C dX0_orderFarthestFirst_69 rfl rfl ?_
        refine j_iload_n C dX0_orderFarthestFirst_70 rfl rfl ?_
        refine j_iast' C dX0_orderFarthestFirst_71 (Nat.lt_of_lt_of_le (by decide) hN) (fun _ => rfl) (by decide) (by omega) (fun τ71 hf72 hv73 => ?_)
        refine J_clr 3 (L' := [some (.ref (gad g (23))), some (.int (nI (t))), some (.int (nI (x))), none]) rfl ?_
        refine kk τ71 (insF L p x) (fun j n h => by rw [hf72 _ _ (by omega)]; exact hf j n h) (ord_ins hord hp hk2 ?_) (fun i hi => ?_)
        · first | exact Or.inl (by omega) | exact Or.inr (Nat.not_lt.mp fun q => absurd h42 (Int32.not_le.mpr ((c1_lt (b := 1680) (by decide) (hB _) (hB _)).mpr q)))
        · unfold insF
          by_cases e1 : i < p
          · rw [if_pos e1, hf72 _ _ (by omega)]; exact hlo i e1
          · rw [if_neg e1]
            by_cases e2 : i = p
            · subst e2; rw [if_pos rfl]; assumption
            · rw [if_neg e2, hf72 _ _ (by omega)]; exact hhi i (by omega) (by omega)
      · have hL1 := hord.1 (p - 1) (by omega)
        refine j_aload_n C dX0_orderFarthestFirst_19 rfl rfl ?_
        refine j_get C flX0_11 dX0_orderFarthestFirst_20 (Nat.lt_of_lt_of_le (by decide) hN) rfl rfl ?_
        refine j_iload_n C dX0_orderFarthestFirst_23 rfl rfl ?_
        refine j_aald C dX0_orderFarthestFirst_24 (Nat.lt_of_lt_of_le (by decide) hN) (fun _ => rfl) (by decide) (by omega) ?_
        refine j_aload_n C dX0_orderFarthestFirst_25 rfl rfl ?_
        refine j_get C flX0_27 dX0_orderFarthestFirst_26 (Nat.lt_of_lt_of_le (by decide) hN) rfl rfl ?_
        refine j_iload_n C dX0_orderFarthestFirst_29 rfl rfl ?_
        refine j_iconst (v := nI 1) C dX0_orderFarthestFirst_30 rfl ?_
        refine j_isub C dX0_orderFarthestFirst_31 ?_
        refine j_top (pk_sub (by omega)) ?_
        refine j_iald C dX0_orderFarthestFirst_32 (Nat.lt_of_lt_of_le (by decide) hN) (fun _ => rfl) (by decide) (by omega) ?_
        refine j_top (hlo (p - 1) (by omega)) ?_
        refine j_iald C dX0_orderFarthestFirst_33 (by omega) (cf_far (by omega)) (by decide) (by omega) ?_
        refine j_top ((hf _ _ (by omega)).trans (hF (L (p - 1)) (by omega))) ?_
        refine j_aload_n C dX0_orderFarthestFirst_34 rfl rfl ?_
        refine j_get C flX0_11 dX0_orderFarthestFirst_35 (Nat.lt_of_lt_of_le (by decide) hN) rfl rfl ?_
        refine j_iload_n C dX0_orderFarthestFirst_38 rfl rfl ?_
        refine j_aald C dX0_orderFarthestFirst_39 (Nat.lt_of_lt_of_le (by decide) hN) (fun _ => rfl) (by decide) (by omega) ?_
        refine j_iload_n C dX0_orderFarthestFirst_40 rfl rfl ?_
        refine j_iald C dX0_orderFarthestFirst_41 (by omega) (cf_far (by omega)) (by decide) (by omega) ?_
        refine j_top ((hf _ _ (by omega)).trans (hF (x) (by omega))) ?_
        refine j_icmp_ge (tgt := 65) C dX0_orderFarthestFirst_42 rfl (fun h42 => ?_) (fun h42 => ?_)
        · refine j_aload_n C dX0_orderFarthestFirst_65 rfl rfl ?_
          refine j_get C flX0_27 dX0_orderFarthestFirst_66 (Nat.lt_of_lt_of_le (by decide) hN) rfl rfl ?_
          refine j_iload_n C dX0_orderFarthestFirst_69 rfl rfl ?_
          refine j_iload_n C dX0_orderFarthestFirst_70 rfl rfl ?_
          refine j_iast' C dX0_orderFarthestFirst_71 (Nat.lt_of_lt_of_le (by decide) hN) (fun _ => rfl) (by decide) (by omega) (fun τ71 hf72 hv73 => ?_)
          refine J_clr 3 (L' := [some (.ref (gad g (23))), some (.int (nI (t))), some (.int (nI (x))), none]) rfl ?_
          refine kk τ71 (insF L p x) (fun j n h => by rw [hf72 _ _ (by omega)]; exact hf j n h) (ord_ins hord hp hk2 ?_) (fun i hi => ?_)
          · first | exact Or.inl (by omega) | exact Or.inr (Nat.not_lt.mp fun q => absurd h42 (Int32.not_le.mpr ((c1_lt (b := 1680) (by decide) (hB _) (hB _)).mpr q)))
          · unfold insF
            by_cases e1 : i < p
            · rw [if_pos e1, hf72 _ _ (by omega)]; exact hlo i e1
            · rw [if_neg e1]
              by_cases e2 : i = p
              · subst e2; rw [if_pos rfl]; assumption
              · rw [if_neg e2, hf72 _ _ (by omega)]; exact hhi i (by omega) (by omega)
        · refine j_aload_n C dX0_orderFarthestFirst_45 rfl rfl ?_
          refine j_get C flX0_27 dX0_orderFarthestFirst_46 (Nat.lt_of_lt_of_le (by decide) hN) rfl rfl ?_
          refine j_iload_n C dX0_orderFarthestFirst_49 rfl rfl ?_
          refine j_aload_n C dX0_orderFarthestFirst_50 rfl rfl ?_
          refine j_get C flX0_27 dX0_orderFarthestFirst_51 (Nat.lt_of_lt_of_le (by decide) hN) rfl rfl ?_
          refine j_iload_n C dX0_orderFarthestFirst_54 rfl rfl ?_
          refine j_iconst (v := nI 1) C dX0_orderFarthestFirst_55 rfl ?_
          refine j_isub C dX0_orderFarthestFirst_56 ?_
          refine j_top (pk_sub (by omega)) ?_
          refine j_iald C dX0_orderFarthestFirst_57 (Nat.lt_of_lt_of_le (by decide) hN) (fun _ => rfl) (by decide) (by omega) ?_
          refine j_top (hlo (p - 1) (by omega)) ?_
          refine j_iast' C dX0_orderFarthestFirst_58 (Nat.lt_of_lt_of_le (by decide) hN) (fun _ => rfl) (by decide) (by omega) (fun τ1 hf2 hv3 => ?_)
          refine j_iinc (L' := [some (.ref (gad g (23))), some (.int (nI (t))), some (.int (nI (x))), some (.int (nI (p - 1)))]) C dX0_orderFarthestFirst_59 rfl (sb_m1 (by omega)) (by decide) rfl ?_
          refine j_goto (tgt := 15) C dX0_orderFarthestFirst_62 rfl ?_
          have hlt : key (f (L (p - 1))) < key (f x) := (c1_lt (b := 1680) (by decide) (hB _) (hB _)).mp (Int32.not_le.mp h42)
          refine ih (p - 1) (by omega) (p - 1) τ1 rfl (by omega) (fun j n h => by rw [hf2 _ _ (by omega)]; exact hf j n h) (fun i hi => by rw [hf2 _ _ (by omega)]; exact hlo i (by omega)) (fun i h1 h2 => ?_) (fun j h1 h2 => ?_)
          · by_cases e : i = p
            · subst e; assumption
            · rw [hf2 _ _ (by omega)]; exact hhi i (by omega) h2
          · by_cases e : j = p - 1
            · subst e; exact hlt
            · exact hk2 j (by omega) h2
  have lpO : ∀ (k : Nat) (x : Nat) (L : Nat → Nat) (σ1 : Sg), nN a - x = k → x ≤ nN a → (∀ j n, ¬ (j = 41) → σ1 j n = σ j n) → Ord (fun y => key (f y)) x L → (∀ i, i < x → σ1 41 i = nI (L i)) → J g κ 4 2 [some (.ref (gad g (23))), some (.int (nI (t))), some (.int (nI (x))), none] [] σ1 := by
    intro k
    induction k using Nat.strongRecOn with
    | _ k ih =>
      intro x L σ1 hk hx hf hord hlo
      refine j_iload_n C dX0_orderFarthestFirst_2 rfl rfl ?_
      refine j_aload_n C dX0_orderFarthestFirst_3 rfl rfl ?_
      refine j_get C flX0_36 dX0_orderFarthestFirst_4 (Nat.lt_of_lt_of_le (by decide) hN) rfl rfl ?_
      refine j_get C flX0_40 dX0_orderFarthestFirst_7 (Nat.lt_of_lt_of_le (by decide) hN) rfl rfl ?_
      refine j_top ((hf _ _ (by omega)).trans (hI.n)) ?_
      refine j_icmpn_ge (tgt := 78) C dX0_orderFarthestFirst_10 rfl (by omega) (by omega) (fun h10 => ?_) (fun h10 => ?_)
      · refine j_retv M dX0_orderFarthestFirst_78 ?_
        obtain rfl : x = nN a := by omega
        exact ⟨hf, L, hord, hlo⟩
      · refine j_iload_n C dX0_orderFarthestFirst_13 rfl rfl ?_
        refine j_istore_n (L' := [some (.ref (gad g (23))), some (.int (nI (t))), some (.int (nI (x))), some (.int (nI (x)))]) C dX0_orderFarthestFirst_14 rfl (by decide) rfl ?_
        refine lpI x L (by omega) hord ?_ x x σ1 rfl (Nat.le_refl _) hf hlo (fun i h1 h2 => by omega) (fun j h1 h2 => by omega)
        intro σ2 L' hf2 ho2 hl2
        refine j_iinc (L' := [some (.ref (gad g (23))), some (.int (nI (t))), some (.int (nI (x + 1))), none]) C dX0_orderFarthestFirst_72 rfl (nI_inc _) (by decide) rfl ?_
        refine j_goto (tgt := 2) C dX0_orderFarthestFirst_75 rfl ?_
        exact ih (nN a - (x + 1)) (by omega) (x + 1) L' σ2 rfl (by omega) hf2 ho2 hl2
  refine j_iconst (v := nI 0) C dX0_orderFarthestFirst_0 rfl ?_
  refine j_istore_n (L' := [some (.ref (gad g (23))), some (.int (nI (t))), some (.int (nI (0))), none]) C dX0_orderFarthestFirst_1 rfl (by decide) rfl ?_
  exact lpO (nN a - 0) 0 (fun _ => 0) σ rfl (by omega) (fun _ _ _ => rfl) ⟨fun i hi => by omega, fun i j h1 h2 => by omega, fun y hy => by omega⟩ (fun i hi => by omega)
set_option maxHeartbeats 4000000 in
set_option maxRecDepth 100000 in
theorem tX0_send {g : jG} (hN : 84 ≤ gN g) {σ : Sg} {i : Nat} {a : ND} {w : Nat → Nat} {u : Nat → Bool} (hi : i < 9) (hI : NetI σ 3 a) (hO : NOk a) (hW : StW σ i (nM a) w u) (hw : WOk (nM a) w) {d : Nat} {f : Nat → Option Nat} {ld : Nat → Nat} (hd : d < nD a) (hF : ∀ y, y < nN a → σ (25 + 1 * (nGo a d)) y = c1 (f y)) (hB : fBd f 1680) (hld : ∀ l, l < nM a → σ 39 l = nI (ld l)) : MS g yX0_send cX0_send 5 none rmX0_send [.ref (gad g (23)), .ref (gad g (48 + 4 * i)), .int (nI (d))] σ (fun r σ' => (∀ j n, ¬ (j = 39 ∨ j = 40 ∧ n = d ∨ j = 41 ∨ j = 42 ∨ j = 43 ∨ j = 33 + 1 * d) → σ' j n = σ j n) ∧ ((f (nSt a d) = none ∧ σ' 40 d = bI true ∧ (∀ l, l < nM a → σ' (33 + 1 * d) l = nI 0 ∧ σ' 39 l = nI (ld l))) ∨ ((∃ v, f (nSt a d) = some v) ∧ σ' 40 d = bI false ∧ ∃ L : Nat → Nat, Ord (fun y => key (f y)) (nN a) L ∧ ∀ l, l < nM a → σ' (33 + 1 * d) l = nI ((runS a w u f L (cm0 (nSt a d) (nSz a d), (fun _ => 0), ld) (nN a)).2.1 l) ∧ σ' 39 l = nI ((runS a w u f L (cm0 (nSt a d) (nSz a d), (fun _ => 0), ld) (nN a)).2.2 l)))) := by
  refine MJ_of (by decide) (Nat.le_of_ble_eq_true rfl) (List.forall_mem_cons.mpr ⟨rfl, List.forall_mem_cons.mpr ⟨rfl, List.forall_mem_cons.mpr ⟨rfl, fun _ h => absurd h List.not_mem_nil⟩⟩⟩) ?_
  intro κ M
  have C := M.1
  show J g κ 5 0 [some (.ref (gad g (23))), some (.ref (gad g (48 + 4 * i))), some (.int (nI (d))), none, none] [] σ
  have hn7 := hO.2.1
  have hm12 := hO.2.2.1
  have hd6 := hO.2.2.2.1
  obtain ⟨hg1, hg2, hg3, hg4, hg5⟩ := hO.2.2.2.2.2 d hd
  have lp3 : ∀ (L : Nat → Nat), Ord (fun y => key (f y)) (nN a) L → (∃ v, f (nSt a d) = some v) → ∀ (k q : Nat) (σ1 : Sg), nN a - q = k → q ≤ nN a → (∀ j n, ¬ (j = 39 ∨ j = 40 ∧ n = d ∨ j = 41 ∨ j = 42 ∨ j = 43 ∨ j = 33 + 1 * d) → σ1 j n = σ j n) → σ1 40 d = bI false → (∀ i, i < nN a → σ1 41 i = nI (L i)) → (∀ y, y < nN a → σ1 42 y = nI ((runS a w u f L (cm0 (nSt a d) (nSz a d), (fun _ => 0), ld) q).1 y)) → (∀ l, l < nM a → σ1 (33 + 1 * d) l = nI ((runS a w u f L (cm0 (nSt a d) (nSz a d), (fun _ => 0), ld) q).2.1 l)) → (∀ l, l < nM a → σ1 39 l = nI ((runS a w u f L (cm0 (nSt a d) (nSz a d), (fun _ => 0), ld) q).2.2 l)) → J g κ 5 142 [some (.ref (gad g (23))), some (.ref (gad g (48 + 4 * i))), some (.int (nI (d))), some (.int (nI (nGo a d))), some (.int (nI (q)))] [] σ1 := by
    intro L hord hnl k
    induction k using Nat.strongRecOn with
    | _ k ih =>
      intro q σ1 hk hq hf hlo hord1 hcm hsh hld1
      refine j_iload C dX0_send_142 rfl ?_
      refine j_aload_n C dX0_send_144 rfl rfl ?_
      refine j_get C flX0_36 dX0_send_145 (Nat.lt_of_lt_of_le (by decide) hN) rfl rfl ?_
      refine j_get C flX0_40 dX0_send_148 (Nat.lt_of_lt_of_le (by decide) hN) rfl rfl ?_
      refine j_top ((hf _ _ (by omega)).trans (hI.n)) ?_
      refine j_icmpn_ge (tgt := 188) C dX0_send_151 rfl (by omega) (by omega) (fun h151 => ?_) (fun h151 => ?_)
      · refine j_retv M dX0_send_188 ?_
        obtain rfl : q = nN a := by omega
        exact ⟨hf, Or.inr ⟨hnl, hlo, L, hord, fun l hl => ⟨hsh l hl, hld1 l hl⟩⟩⟩
      · have hL1 := hord.1 q h151
        have hbd : ∀ y, (runS a w u f L (cm0 (nSt a d) (nSz a d), (fun _ => 0), ld) q).1 y ≤ 1188 * 128 := fun y => by
          have h1 := runS_bd (a := a) (w := w) (u := u) (f := f) (L := L) (B := 1188) (s := (cm0 (nSt a d) (nSz a d), (fun _ => 0), ld)) (fun y => by show cm0 _ _ y ≤ 1188; unfold cm0; split <;> omega) q y
          have h2 : 2 ^ q ≤ 2 ^ 7 := Nat.pow_le_pow_right (by decide) (by omega)
          have h3 : 1188 * 2 ^ q ≤ 1188 * 2 ^ 7 := Nat.mul_le_mul_left _ h2
          omega
        have hb1 := hbd (L q)
        refine j_aload_n C dX0_send_154 rfl rfl ?_
        refine j_get C flX0_30 dX0_send_155 (Nat.lt_of_lt_of_le (by decide) hN) rfl rfl ?_
        refine j_aload_n C dX0_send_158 rfl rfl ?_
        refine j_get C flX0_27 dX0_send_159 (Nat.lt_of_lt_of_le (by decide) hN) rfl rfl ?_
        refine j_iload C dX0_send_162 rfl ?_
        refine j_iald C dX0_send_164 (Nat.lt_of_lt_of_le (by decide) hN) (fun _ => rfl) (by decide) (by omega) ?_
        refine j_top (hord1 (q) (by omega)) ?_
        refine j_iald C dX0_send_165 (Nat.lt_of_lt_of_le (by decide) hN) (fun _ => rfl) (by decide) (by omega) ?_
        refine j_top (hcm (L (q)) (by omega)) ?_
        refine j_ifn_le (tgt := 182) C dX0_send_166 rfl (by omega) (fun h166 => ?_) (fun h166 => ?_)
        · refine j_iinc (L' := [some (.ref (gad g (23))), some (.ref (gad g (48 + 4 * i))), some (.int (nI (d))), some (.int (nI (nGo a d))), some (.int (nI (q + 1)))]) C dX0_send_182 rfl (nI_inc _) (by decide) rfl ?_
          refine j_goto (tgt := 142) C dX0_send_185 rfl ?_
          have e : (runS a w u f L (cm0 (nSt a d) (nSz a d), (fun _ => 0), ld) (q + 1)) = (runS a w u f L (cm0 (nSt a d) (nSz a d), (fun _ => 0), ld) q) := by
            rw [runS, if_neg (by omega)]
          exact ih (nN a - (q + 1)) (by omega) (q + 1) σ1 rfl (by omega) hf hlo hord1 (by rw [e]; exact hcm) (by rw [e]; exact hsh) (by rw [e]; exact hld1)
        · refine j_aload_n C dX0_send_169 rfl rfl ?_
          refine j_aload_n C dX0_send_170 rfl rfl ?_
          refine j_iload_n C dX0_send_171 rfl rfl ?_
          refine j_aload_n C dX0_send_172 rfl rfl ?_
          refine j_get C flX0_27 dX0_send_173 (Nat.lt_of_lt_of_le (by decide) hN) rfl rfl ?_
          refine j_iload C dX0_send_176 rfl ?_
          refine j_iald C dX0_send_178 (Nat.lt_of_lt_of_le (by decide) hN) (fun _ => rfl) (by decide) (by omega) ?_
          refine j_top (hord1 (q) (by omega)) ?_
          refine j_callv (As := [.ref (gad g (48 + 4 * i)), .int (nI (d)), .int (nI (L (q)))]) (rest := []) C (tX0_sendOn hN hi (hI.kept (fun j n h1 h2 => hf j n (by omega))) hO (hW.kept (fun j n h1 => hf j n (by omega))) hw (d := d) (x := L q) (f := f) (cm := (runS a w u f L (cm0 (nSt a d) (nSz a d), (fun _ => 0), ld) q).1) (sh := (runS a w u f L (cm0 (nSt a d) (nSz a d), (fun _ => 0), ld) q).2.1) (ld := (runS a w u f L (cm0 (nSt a d) (nSz a d), (fun _ => 0), ld) q).2.2) hd hL1 (fun y hy => (hf _ _ (by omega)).trans (hF y hy)) hB hcm hsh hld1 (by omega)) cdX0_sendOn mlX0_112 dX0_send_179 (by decide) (by decide) (Nat.lt_of_lt_of_le (by decide) hN) rfl rfl rfl rfl rfl (Nat.le_of_ble_eq_true rfl) (fun τ1 hp3 => ?_)
          obtain ⟨hf9, hcm9, hsh9, hld9⟩ := hp3
          refine j_iinc (L' := [some (.ref (gad g (23))), some (.ref (gad g (48 + 4 * i))), some (.int (nI (d))), some (.int (nI (nGo a d))), some (.int (nI (q + 1)))]) C dX0_send_182 rfl (nI_inc _) (by decide) rfl ?_
          refine j_goto (tgt := 142) C dX0_send_185 rfl ?_
          have e : (runS a w u f L (cm0 (nSt a d) (nSz a d), (fun _ => 0), ld) (q + 1)) = stp3 a w u f (L q) (runS a w u f L (cm0 (nSt a d) (nSz a d), (fun _ => 0), ld) q) := by
            rw [runS, if_pos (by omega)]
          exact ih (nN a - (q + 1)) (by omega) (q + 1) τ1 rfl (by omega) (fun j n h => by rw [hf9 _ _ (by omega)]; exact hf j n h) (by rw [hf9 _ _ (by omega)]; exact hlo) (fun i hi => by rw [hf9 _ _ (by omega)]; exact hord1 i hi) (by rw [e]; exact hcm9) (by rw [e]; exact hsh9) (by rw [e]; exact hld9)
  have lp2 : ∀ (k : Nat) (x : Nat) (σ1 : Sg), nN a - x = k → x ≤ nN a → (∀ j n, ¬ (j = 39 ∨ j = 40 ∧ n = d ∨ j = 41 ∨ j = 42 ∨ j = 43 ∨ j = 33 + 1 * d) → σ1 j n = σ j n) → σ1 40 d = bI false → (∃ v, f (nSt a d) = some v) → (∀ y, y < x → σ1 42 y = nI 0) → (∀ l, l < nM a → σ1 (33 + 1 * d) l = nI 0) → (∀ l, l < nM a → σ1 39 l = nI (ld l)) → J g κ 5 82 [some (.ref (gad g (23))), some (.ref (gad g (48 + 4 * i))), some (.int (nI (d))), some (.int (nI (nGo a d))), some (.int (nI (x)))] [] σ1 := by
    intro k
    induction k using Nat.strongRecOn with
    | _ k ih =>
      intro x σ1 hk hx hf hlo hnl hcm hsh hld1
      refine j_iload C dX0_send_82 rfl ?_
      refine j_aload_n C dX0_send_84 rfl rfl ?_
      refine j_get C flX0_36 dX0_send_85 (Nat.lt_of_lt_of_le (by decide) hN) rfl rfl ?_
      refine j_get C flX0_40 dX0_send_88 (Nat.lt_of_lt_of_le (by decide) hN) rfl rfl ?_
      refine j_top ((hf _ _ (by omega)).trans (hI.n)) ?_
      refine j_icmpn_ge (tgt := 108) C dX0_send_91 rfl (by omega) (by omega) (fun h91 => ?_) (fun h91 => ?_)
      · refine j_aload_n C dX0_send_108 rfl rfl ?_
        refine j_get C flX0_30 dX0_send_109 (Nat.lt_of_lt_of_le (by decide) hN) rfl rfl ?_
        refine j_aload_n C dX0_send_112 rfl rfl ?_
        refine j_get C flX0_36 dX0_send_113 (Nat.lt_of_lt_of_le (by decide) hN) rfl rfl ?_
        refine j_get C flX0_105 dX0_send_116 (Nat.lt_of_lt_of_le (by decide) hN) rfl rfl ?_
        refine j_iload_n C dX0_send_119 rfl rfl ?_
        refine j_iald C dX0_send_120 (Nat.lt_of_lt_of_le (by decide) hN) (fun _ => rfl) (by decide) (by omega) ?_
        refine j_top ((hf _ _ (by omega)).trans (hI.st (l := d) (by omega))) ?_
        refine j_bipush (v := nI 12) C dX0_send_121 rfl ?_
        refine j_aload_n C dX0_send_123 rfl rfl ?_
        refine j_get C flX0_36 dX0_send_124 (Nat.lt_of_lt_of_le (by decide) hN) rfl rfl ?_
        refine j_get C flX0_62 dX0_send_127 (Nat.lt_of_lt_of_le (by decide) hN) rfl rfl ?_
        refine j_iload_n C dX0_send_130 rfl rfl ?_
        refine j_iald C dX0_send_131 (Nat.lt_of_lt_of_le (by decide) hN) (fun _ => rfl) (by decide) (by omega) ?_
        refine j_top ((hf _ _ (by omega)).trans (hI.sz (l := d) (by omega))) ?_
        refine j_imul C dX0_send_132 ?_
        refine j_top (pk_mul _ _) ?_
        refine j_iast' C dX0_send_133 (Nat.lt_of_lt_of_le (by decide) hN) (fun _ => rfl) (by decide) (by omega) (fun τ1 hf2 hv3 => ?_)
        refine j_aload_n C dX0_send_134 rfl rfl ?_
        refine j_iload_n C dX0_send_135 rfl rfl ?_
        refine j_callv (As := [.int (nI (nGo a d))]) (rest := []) C (tX0_orderFarthestFirst hN (σ := τ1) (hI.kept (fun j n h1 h2 => by rw [hf2 _ _ (by omega)]; exact hf j n (by omega))) hO (t := nGo a d) (f := f) (by omega) (fun y hy => by rw [hf2 _ _ (by omega)]; exact (hf _ _ (by omega)).trans (hF y hy)) hB) cdX0_orderFarthestFirst mlX0_108 dX0_send_136 (by decide) (by decide) (Nat.lt_of_lt_of_le (by decide) hN) rfl rfl rfl rfl rfl (Nat.le_of_ble_eq_true rfl) (fun τ4 hp6 => ?_)
        obtain ⟨hf8, L, hord, hord1⟩ := hp6
        refine j_iconst (v := nI 0) C dX0_send_139 rfl ?_
        refine j_istore (L' := [some (.ref (gad g (23))), some (.ref (gad g (48 + 4 * i))), some (.int (nI (d))), some (.int (nI (nGo a d))), some (.int (nI (0)))]) C dX0_send_140 (by decide) rfl ?_
        refine lp3 L hord hnl (nN a - 0) 0 τ4 rfl (by omega) (fun j n h => by rw [hf8 _ _ (by omega), hf2 _ _ (by omega)]; exact hf j n h) (by rw [hf8 _ _ (by omega), hf2 _ _ (by omega)]; exact hlo) hord1 (fun y hy => ?_) (fun l hl => by rw [hf8 _ _ (by omega), hf2 _ _ (by omega)]; exact hsh l hl) (fun l hl => by rw [hf8 _ _ (by omega), hf2 _ _ (by omega)]; exact hld1 l hl)
        show _ = nI (cm0 (nSt a d) (nSz a d) y)
        unfold cm0
        by_cases e : y = nSt a d
        · subst e
          rw [if_pos rfl, hf8 _ _ (by omega)]; assumption
        · rw [if_neg e, hf8 _ _ (by omega), hf2 _ _ (by omega)]; exact hcm y (by omega)
      · refine j_aload_n C dX0_send_94 rfl rfl ?_
        refine j_get C flX0_30 dX0_send_95 (Nat.lt_of_lt_of_le (by decide) hN) rfl rfl ?_
        refine j_iload C dX0_send_98 rfl ?_
        refine j_iconst (v := nI 0) C dX0_send_100 rfl ?_
        refine j_iast' C dX0_send_101 (Nat.lt_of_lt_of_le (by decide) hN) (fun _ => rfl) (by decide) (by omega) (fun τ7 hf8 hv9 => ?_)
        refine j_iinc (L' := [some (.ref (gad g (23))), some (.ref (gad g (48 + 4 * i))), some (.int (nI (d))), some (.int (nI (nGo a d))), some (.int (nI (x + 1)))]) C dX0_send_102 rfl (nI_inc _) (by decide) rfl ?_
        refine j_goto (tgt := 82) C dX0_send_105 rfl ?_
        refine ih (nN a - (x + 1)) (by omega) (x + 1) τ7 rfl (by omega) (fun j n h => by rw [hf8 _ _ (by omega)]; exact hf j n h) (by rw [hf8 _ _ (by omega)]; exact hlo) hnl (fun y hy => ?_) (fun l hl => by rw [hf8 _ _ (by omega)]; exact hsh l hl) (fun l hl => by rw [hf8 _ _ (by omega)]; exact hld1 l hl)
        by_cases e : y = x
        · subst e; assumption
        · rw [hf8 _ _ (by omega)]; exact hcm y (by omega)
  have lp1 : ∀ (k : Nat) (l : Nat) (σ1 : Sg), nM a - l = k → l ≤ nM a → (∀ j n, ¬ (j = 33 + 1 * d) → σ1 j n = σ j n) → (∀ z, z < l → σ1 (33 + 1 * d) z = nI 0) → J g κ 5 2 [some (.ref (gad g (23))), some (.ref (gad g (48 + 4 * i))), some (.int (nI (d))), some (.int (nI (l))), none] [] σ1 := by
    intro k
    induction k using Nat.strongRecOn with
    | _ k ih =>
      intro l σ1 hk hl hf hz0
      refine j_iload_n C dX0_send_2 rfl rfl ?_
      refine j_aload_n C dX0_send_3 rfl rfl ?_
      refine j_get C flX0_36 dX0_send_4 (Nat.lt_of_lt_of_le (by decide) hN) rfl rfl ?_
      refine j_get C flX0_53 dX0_send_7 (Nat.lt_of_lt_of_le (by decide) hN) rfl rfl ?_
      refine j_top ((hf _ _ (by omega)).trans (hI.m)) ?_
      refine j_icmpn_ge (tgt := 28) C dX0_send_10 rfl (by omega) (by omega) (fun h10 => ?_) (fun h10 => ?_)
      · rcases hst : f (nSt a d) with _ | v
        · refine j_aload_n C dX0_send_28 rfl rfl ?_
          refine j_get C flX0_36 dX0_send_29 (Nat.lt_of_lt_of_le (by decide) hN) rfl rfl ?_
          refine j_get C flX0_87 dX0_send_32 (Nat.lt_of_lt_of_le (by decide) hN) rfl rfl ?_
          refine j_iload_n C dX0_send_35 rfl rfl ?_
          refine j_iald C dX0_send_36 (Nat.lt_of_lt_of_le (by decide) hN) (fun _ => rfl) (by decide) (by omega) ?_
          refine j_top ((hf _ _ (by omega)).trans (hI.go (l := d) (by omega))) ?_
          refine j_istore_n (L' := [some (.ref (gad g (23))), some (.ref (gad g (48 + 4 * i))), some (.int (nI (d))), some (.int (nI (nGo a (d)))), none]) C dX0_send_37 rfl (by decide) rfl ?_
          skip
          refine j_aload_n C dX0_send_38 rfl rfl ?_
          refine j_get C flX0_23 dX0_send_39 (Nat.lt_of_lt_of_le (by decide) hN) rfl rfl ?_
          refine j_iload_n C dX0_send_42 rfl rfl ?_
          refine j_aload_n C dX0_send_43 rfl rfl ?_
          refine j_get C flX0_11 dX0_send_44 (Nat.lt_of_lt_of_le (by decide) hN) rfl rfl ?_
          refine j_iload_n C dX0_send_47 rfl rfl ?_
          refine j_aald C dX0_send_48 (Nat.lt_of_lt_of_le (by decide) hN) (fun _ => rfl) (by decide) (by omega) ?_
          refine j_aload_n C dX0_send_49 rfl rfl ?_
          refine j_get C flX0_36 dX0_send_50 (Nat.lt_of_lt_of_le (by decide) hN) rfl rfl ?_
          refine j_get C flX0_105 dX0_send_53 (Nat.lt_of_lt_of_le (by decide) hN) rfl rfl ?_
          refine j_iload_n C dX0_send_56 rfl rfl ?_
          refine j_iald C dX0_send_57 (Nat.lt_of_lt_of_le (by decide) hN) (fun _ => rfl) (by decide) (by omega) ?_
          refine j_top ((hf _ _ (by omega)).trans (hI.st (l := d) (by omega))) ?_
          refine j_iald C dX0_send_58 (by omega) (cf_far (by omega)) (by decide) (by omega) ?_
          refine j_top ((hf _ _ (by omega)).trans ((hF (nSt a d) (by omega)).trans (congrArg c1 hst))) ?_
          refine j_iconst (v := -1) C dX0_send_59 rfl ?_
          refine j_icmp_ne (tgt := 67) C dX0_send_60 rfl (fun h => absurd h (by decide)) (fun _ => ?_)
          refine j_iconst (v := nI 1) C dX0_send_63 rfl ?_
          refine j_goto (tgt := 68) C dX0_send_64 rfl ?_
          refine j_zast' C dX0_send_68 (Nat.lt_of_lt_of_le (by decide) hN) (fun _ => rfl) (by decide) (by omega) rfl (fun τ1 hf2 hv3 => ?_)
          refine j_aload_n C dX0_send_69 rfl rfl ?_
          refine j_get C flX0_23 dX0_send_70 (Nat.lt_of_lt_of_le (by decide) hN) rfl rfl ?_
          refine j_iload_n C dX0_send_73 rfl rfl ?_
          refine j_zald C dX0_send_74 (Nat.lt_of_lt_of_le (by decide) hN) (fun _ => rfl) (by decide) (by omega) ?_
          refine j_top (hv3) ?_
          refine j_ifn_eq (tgt := 79) C dX0_send_75 rfl (by omega) (fun h => absurd h (by decide)) (fun _ => ?_)
          refine j_retv M dX0_send_78 ?_
          refine ⟨fun j n h => by rw [hf2 _ _ (by omega)]; exact hf j n (by omega), Or.inl ⟨hst, by assumption, fun z hz => ⟨by rw [hf2 _ _ (by omega)]; exact hz0 z (by omega), by rw [hf2 _ _ (by omega)]; exact (hf _ _ (by omega)).trans (hld z hz)⟩⟩⟩
        · have hv := hB _ _ hst
          refine j_aload_n C dX0_send_28 rfl rfl ?_
          refine j_get C flX0_36 dX0_send_29 (Nat.lt_of_lt_of_le (by decide) hN) rfl rfl ?_
          refine j_get C flX0_87 dX0_send_32 (Nat.lt_of_lt_of_le (by decide) hN) rfl rfl ?_
          refine j_iload_n C dX0_send_35 rfl rfl ?_
          refine j_iald C dX0_send_36 (Nat.lt_of_lt_of_le (by decide) hN) (fun _ => rfl) (by decide) (by omega) ?_
          refine j_top ((hf _ _ (by omega)).trans (hI.go (l := d) (by omega))) ?_
          refine j_istore_n (L' := [some (.ref (gad g (23))), some (.ref (gad g (48 + 4 * i))), some (.int (nI (d))), some (.int (nI (nGo a (d)))), none]) C dX0_send_37 rfl (by decide) rfl ?_
          skip
          refine j_aload_n C dX0_send_38 rfl rfl ?_
          refine j_get C flX0_23 dX0_send_39 (Nat.lt_of_lt_of_le (by decide) hN) rfl rfl ?_
          refine j_iload_n C dX0_send_42 rfl rfl ?_
          refine j_aload_n C dX0_send_43 rfl rfl ?_
          refine j_get C flX0_11 dX0_send_44 (Nat.lt_of_lt_of_le (by decide) hN) rfl rfl ?_
          refine j_iload_n C dX0_send_47 rfl rfl ?_
          refine j_aald C dX0_send_48 (Nat.lt_of_lt_of_le (by decide) hN) (fun _ => rfl) (by decide) (by omega) ?_
          refine j_aload_n C dX0_send_49 rfl rfl ?_
          refine j_get C flX0_36 dX0_send_50 (Nat.lt_of_lt_of_le (by decide) hN) rfl rfl ?_
          refine j_get C flX0_105 dX0_send_53 (Nat.lt_of_lt_of_le (by decide) hN) rfl rfl ?_
          refine j_iload_n C dX0_send_56 rfl rfl ?_
          refine j_iald C dX0_send_57 (Nat.lt_of_lt_of_le (by decide) hN) (fun _ => rfl) (by decide) (by omega) ?_
          refine j_top ((hf _ _ (by omega)).trans (hI.st (l := d) (by omega))) ?_
          refine j_iald C dX0_send_58 (by omega) (cf_far (by omega)) (by decide) (by omega) ?_
          refine j_top ((hf _ _ (by omega)).trans ((hF (nSt a d) (by omega)).trans (congrArg c1 hst))) ?_
          refine j_iconst (v := -1) C dX0_send_59 rfl ?_
          refine j_icmp_ne (tgt := 67) C dX0_send_60 rfl (fun _ => ?_) (fun h => absurd h (nI_neg (by omega) (by decide)))
          refine j_iconst (v := nI 0) C dX0_send_67 rfl ?_
          refine j_zast' C dX0_send_68 (Nat.lt_of_lt_of_le (by decide) hN) (fun _ => rfl) (by decide) (by omega) rfl (fun τ4 hf5 hv6 => ?_)
          refine j_aload_n C dX0_send_69 rfl rfl ?_
          refine j_get C flX0_23 dX0_send_70 (Nat.lt_of_lt_of_le (by decide) hN) rfl rfl ?_
          refine j_iload_n C dX0_send_73 rfl rfl ?_
          refine j_zald C dX0_send_74 (Nat.lt_of_lt_of_le (by decide) hN) (fun _ => rfl) (by decide) (by omega) ?_
          refine j_top (hv6) ?_
          refine j_ifn_eq (tgt := 79) C dX0_send_75 rfl (by omega) (fun _ => ?_) (fun h => absurd h (by decide))
          refine j_iconst (v := nI 0) C dX0_send_79 rfl ?_
          refine j_istore (L' := [some (.ref (gad g (23))), some (.ref (gad g (48 + 4 * i))), some (.int (nI (d))), some (.int (nI (nGo a d))), some (.int (nI (0)))]) C dX0_send_80 (by decide) rfl ?_
          exact lp2 (nN a - 0) 0 τ4 rfl (by omega) (fun j n h => by rw [hf5 _ _ (by omega)]; exact hf j n (by omega)) (by assumption) ⟨v, hst⟩ (fun y hy => by omega) (fun z hz => by rw [hf5 _ _ (by omega)]; exact hz0 z (by omega)) (fun z hz => by rw [hf5 _ _ (by omega)]; exact (hf _ _ (by omega)).trans (hld z hz))
      · refine j_aload_n C dX0_send_13 rfl rfl ?_
        refine j_get C flX0_16 dX0_send_14 (Nat.lt_of_lt_of_le (by decide) hN) rfl rfl ?_
        refine j_iload_n C dX0_send_17 rfl rfl ?_
        refine j_aald C dX0_send_18 (Nat.lt_of_lt_of_le (by decide) hN) (fun _ => rfl) (by decide) (by omega) ?_
        refine j_iload_n C dX0_send_19 rfl rfl ?_
        refine j_iconst (v := nI 0) C dX0_send_20 rfl ?_
        refine j_iast' C dX0_send_21 (by omega) (cf_share (by omega)) (by decide) (by omega) (fun τ7 hf8 hv9 => ?_)
        refine j_iinc (L' := [some (.ref (gad g (23))), some (.ref (gad g (48 + 4 * i))), some (.int (nI (d))), some (.int (nI (l + 1))), none]) C dX0_send_22 rfl (nI_inc _) (by decide) rfl ?_
        refine j_goto (tgt := 2) C dX0_send_25 rfl ?_
        refine ih (nM a - (l + 1)) (by omega) (l + 1) τ7 rfl (by omega) (fun j n h => by rw [hf8 _ _ (by omega)]; exact hf j n h) (fun z hz => ?_)
        by_cases e : z = l
        · subst e; assumption
        · rw [hf8 _ _ (by omega)]; exact hz0 z (by omega)
  refine j_iconst (v := nI 0) C dX0_send_0 rfl ?_
  refine j_istore_n (L' := [some (.ref (gad g (23))), some (.ref (gad g (48 + 4 * i))), some (.int (nI (d))), some (.int (nI (0))), none]) C dX0_send_1 rfl (by decide) rfl ?_
  exact lp1 (nM a - 0) 0 σ rfl (by omega) (fun _ _ _ => rfl) (fun z hz => by omega)
end
section
/-! pure words: shares, loads, cost -/
theorem ord_ex (k : Nat → Nat) : ∀ n, ∃ L, Ord k n L
  | 0 => ⟨fun _ => 0, fun i hi => by omega, fun i j h1 h2 => by omega, fun y hy => by omega⟩
  | x + 1 => by
    obtain ⟨L, hL⟩ := ord_ex k x
    obtain ⟨p, h1, h2⟩ := pk_least (fun p => p ≤ x ∧ ∀ j, p ≤ j → j < x → k (L j) < k x) ⟨x, Nat.le_refl _, fun j h1 h2 => by omega⟩
    refine ⟨_, ord_ins hL h1.1 h1.2 ?_⟩
    by_cases e : p = 0
    · exact Or.inl e
    · refine Or.inr (Nat.not_lt.mp fun q => h2 (p - 1) (by omega) ⟨by omega, fun j h3 h4 => ?_⟩)
      by_cases e2 : j = p - 1
      · rw [e2]; exact q
      · exact h1.2 j (by omega) h4
noncomputable def Lc (k : Nat → Nat) (n : Nat) : Nat → Nat := Classical.choose (ord_ex k n)
theorem Lc_ord (k : Nat → Nat) (n : Nat) : Ord k n (Lc k n) := Classical.choose_spec (ord_ex k n)
theorem runS_congr {a : ND} {w : Nat → Nat} {u : Nat → Bool} {f : Nat → Option Nat} {L L' : Nat → Nat} {s : RS} : ∀ {i : Nat}, (∀ j, j < i → L j = L' j) → runS a w u f L s i = runS a w u f L' s i
  | 0, _ => rfl
  | i + 1, h => by rw [runS, runS, runS_congr (i := i) (fun j hj => h j (by omega)), h i (by omega)]
theorem run_ld {a : ND} {w : Nat → Nat} {u : Nat → Bool} {f : Nat → Option Nat} {k : Nat → Nat} {n : Nat} {L : Nat → Nat} {cm ld : Nat → Nat} (hL : Ord k n L) : ∀ i, i ≤ n → (∀ l, (∀ j, j < i → L j ≠ nFr a l) → (runS a w u f L (cm, (fun _ => 0), ld) i).2.1 l = 0) ∧ ∀ l, (runS a w u f L (cm, (fun _ => 0), ld) i).2.2 l = ld l + (runS a w u f L (cm, (fun _ => 0), ld) i).2.1 l
  | 0, _ => ⟨fun _ _ => rfl, fun _ => rfl⟩
  | i + 1, hi => by
    obtain ⟨h1, h2⟩ := run_ld (a := a) (w := w) (u := u) (f := f) (cm := cm) (ld := ld) hL i (by omega)
    rw [runS]
    split
    · constructor
      · intro l hl
        show shB _ _ _ _ _ l = 0
        unfold shB
        rw [if_neg]
        · exact h1 l (fun j hj => hl j (by omega))
        · intro q
          have := q.2
          unfold prd at this
          rw [Bool.and_eq_true] at this
          exact hl i (by omega) (beq_iff_eq.mp this.1).symm
      · intro l
        show ldB _ _ _ _ _ l = ld l + shB _ _ _ _ _ l
        unfold ldB shB
        split
        · next q =>
          have h3 := q.2
          unfold prd at h3
          rw [Bool.and_eq_true] at h3
          have h4 := beq_iff_eq.mp h3.1
          have h5 := h1 l (fun j hj e => by
            have h6 := hL.2.1 j i hj (by omega)
            rw [e, h4] at h6
            unfold bfr at h6
            omega)
          have h7 := h2 l
          rw [h5] at h7
          omega
        · exact h2 l
    · exact ⟨fun l hl => h1 l (fun j hj => hl j (by omega)), h2⟩
/-- cm and shares do not hang on the loads -/
theorem run_sh {a : ND} {w : Nat → Nat} {u : Nat → Bool} {f : Nat → Option Nat} {L : Nat → Nat} {cm sh ld ld' : Nat → Nat} : ∀ i, (runS a w u f L (cm, sh, ld) i).1 = (runS a w u f L (cm, sh, ld') i).1 ∧ (runS a w u f L (cm, sh, ld) i).2.1 = (runS a w u f L (cm, sh, ld') i).2.1
  | 0 => ⟨rfl, rfl⟩
  | i + 1 => by
    obtain ⟨h1, h2⟩ := run_sh (a := a) (w := w) (u := u) (f := f) (L := L) (cm := cm) (sh := sh) (ld := ld) (ld' := ld') i
    rw [runS, runS, h1]
    split
    · refine ⟨?_, ?_⟩
      · show cmB _ _ _ _ _ _ = cmB _ _ _ _ _ _
        rw [h1]
      · show shB _ _ _ _ _ = shB _ _ _ _ _
        rw [h1, h2]
    · exact ⟨h1, h2⟩
theorem sum_term {f : Nat → Nat} {l : Nat} : ∀ {b : Nat}, l < b → f l ≤ sumN f b
  | 0, h => by omega
  | b + 1, h => by
    rw [sumN]
    by_cases e : l = b
    · subst e; omega
    · have := sum_term (f := f) (l := l) (b := b) (by omega)
      omega
theorem sum_add {f h : Nat → Nat} : ∀ b, sumN (fun l => f l + h l) b = sumN f b + sumN h b
  | 0 => rfl
  | b + 1 => by simp only [sumN, sum_add b]; omega
theorem sum_congr {f h : Nat → Nat} : ∀ {b : Nat}, (∀ l, l < b → f l = h l) → sumN f b = sumN h b
  | 0, _ => rfl
  | b + 1, e => by rw [sumN, sumN, sum_congr (b := b) (fun l hl => e l (by omega)), e b (by omega)]
theorem sum_leB {f h : Nat → Nat} : ∀ {b : Nat}, (∀ l, l < b → f l ≤ h l) → sumN f b ≤ sumN h b
  | 0, _ => Nat.le_refl _
  | b + 1, e => Nat.add_le_add (sum_leB (fun l hl => e l (by omega))) (e b (by omega))
theorem sum_mul {f : Nat → Nat} {c : Nat} : ∀ b, sumN (fun l => c * f l) b = c * sumN f b
  | 0 => rfl
  | b + 1 => by simp only [sumN, sum_mul b, Nat.mul_add]
theorem run_tot {a : ND} {w : Nat → Nat} {u : Nat → Bool} {f : Nat → Option Nat} {L : Nat → Nat} {cm ld : Nat → Nat} {B : Nat} (hB : ∀ y, cm y ≤ B) : ∀ i, sumN (runS a w u f L (cm, (fun _ => 0), ld) i).2.1 (nM a) + B ≤ B * 2 ^ i
  | 0 => by
    show sumN (fun _ => 0) (nM a) + B ≤ B * 2 ^ 0
    rw [show sumN (fun _ => 0) (nM a) = 0 from by
      have : ∀ b, sumN (fun _ => 0) b = 0 := fun b => by induction b with | zero => rfl | succ b ih => rw [sumN, ih]
      exact this _]
    omega
  | i + 1 => by
    have ih := run_tot (a := a) (w := w) (u := u) (f := f) (L := L) (ld := ld) hB i
    have hb := runS_bd (a := a) (w := w) (u := u) (f := f) (L := L) (s := (cm, (fun _ => 0), ld)) hB i (L i)
    rw [runS, Nat.pow_succ, ← Nat.mul_assoc]
    split
    · have h1 : sumN (stp3 a w u f (L i) (runS a w u f L (cm, (fun _ => 0), ld) i)).2.1 (nM a) ≤ sumN (fun l => (runS a w u f L (cm, (fun _ => 0), ld) i).2.1 l + (if prd a w u f (L i) l = true then ptN (prd a w u f (L i)) ((runS a w u f L (cm, (fun _ => 0), ld) i).1 (L i)) (cnt (prd a w u f (L i)) (nM a)) l else 0)) (nM a) := by
        refine sum_leB (fun l hl => ?_)
        show shB _ _ _ _ _ l ≤ _
        unfold shB
        split
        · next q => rw [if_pos q.2]; omega
        · omega
      rw [sum_add] at h1
      have h2 := sum_pt_le (p := prd a w u f (L i)) (c := (runS a w u f L (cm, (fun _ => 0), ld) i).1 (L i)) (m := nM a)
      omega
    · omega
/-- TWELFTHS of a DEMAND that go by a LINK -/
noncomputable def SHR (a : ND) (w : Nat → Nat) (u : Nat → Bool) (d l : Nat) : Nat :=
  if FAR a w u (nGo a d) (nSt a d) = none then 0 else (runS a w u (FAR a w u (nGo a d)) (Lc (fun y => key (FAR a w u (nGo a d) y)) (nN a)) (cm0 (nSt a d) (nSz a d), (fun _ => 0), (fun _ => 0)) (nN a)).2.1 l
def lostB (a : ND) (w : Nat → Nat) (u : Nat → Bool) (d : Nat) : Bool := (FAR a w u (nGo a d) (nSt a d)).isNone
noncomputable def LDD (a : ND) (w : Nat → Nat) (u : Nat → Bool) (b l : Nat) : Nat := sumN (fun d => SHR a w u d l) b
def lstN (a : ND) (w : Nat → Nat) (u : Nat → Bool) (b : Nat) : Nat := sumN (fun d => if lostB a w u d = true then 12000 * nSz a d else 0) b
noncomputable def costN (a : ND) (w : Nat → Nat) (u : Nat → Bool) : Nat := lstN a w u (nD a) + sumN (fun l => lcN (nRm a l) (LDD a w u (nD a) l)) (nM a)
theorem cm0_bd {s z : Nat} (hz : z ≤ 99) (y : Nat) : cm0 s z y ≤ 1188 := by unfold cm0; split <;> omega
theorem SHR_tot {a : ND} {w : Nat → Nat} {u : Nat → Bool} {d : Nat} (hO : NOk a) (hd : d < nD a) : sumN (SHR a w u d) (nM a) ≤ 150876 := by
  by_cases h : FAR a w u (nGo a d) (nSt a d) = none
  · have : sumN (SHR a w u d) (nM a) = sumN (fun _ => 0) (nM a) := sum_congr (fun l _ => by unfold SHR; rw [if_pos h])
    have h0 : ∀ b, sumN (fun _ => 0) b = 0 := fun b => by induction b with | zero => rfl | succ b ih => rw [sumN, ih]
    rw [this, h0]
    omega
  · have : sumN (SHR a w u d) (nM a) = sumN _ (nM a) := sum_congr (fun l _ => by unfold SHR; rw [if_neg h])
    rw [this]
    have h1 := run_tot (a := a) (w := w) (u := u) (f := FAR a w u (nGo a d)) (L := Lc (fun y => key (FAR a w u (nGo a d) y)) (nN a)) (ld := fun _ => 0) (cm0_bd (s := nSt a d) (hO.2.2.2.2.2 d hd).2.2.2.2) (nN a)
    have h2 : 2 ^ nN a ≤ 2 ^ 7 := Nat.pow_le_pow_right (by decide) hO.2.1
    have h3 : 1188 * 2 ^ nN a ≤ 1188 * 2 ^ 7 := Nat.mul_le_mul_left _ h2
    omega
theorem LDD_tot {a : ND} {w : Nat → Nat} {u : Nat → Bool} (hO : NOk a) : ∀ b, b ≤ nD a → sumN (LDD a w u b) (nM a) ≤ 150876 * b
  | 0, _ => by
    have h0 : ∀ b, sumN (LDD a w u 0) b = 0 := fun b => by induction b with | zero => rfl | succ b ih => rw [sumN, ih]; rfl
    rw [h0]
    omega
  | b + 1, hb => by
    have h1 := LDD_tot (w := w) (u := u) hO b (by omega)
    have h2 := SHR_tot (w := w) (u := u) hO (show b < nD a by omega)
    have h3 : sumN (LDD a w u (b + 1)) (nM a) = sumN (LDD a w u b) (nM a) + sumN (SHR a w u b) (nM a) := sum_add (nM a)
    omega
theorem LDD_bd {a : ND} {w : Nat → Nat} {u : Nat → Bool} (hO : NOk a) {b l : Nat} (hb : b ≤ nD a) (hl : l < nM a) : LDD a w u b l ≤ 905256 := by
  have h1 := LDD_tot (w := w) (u := u) hO b hb
  have h2 := sum_term (f := LDD a w u b) hl
  have h3 := hO.2.2.2.1
  omega
theorem lcN_bd (R L : Nat) : lcN R L ≤ 500 * L := by unfold lcN; dsimp only; omega
theorem lstN_bd {a : ND} {w : Nat → Nat} {u : Nat → Bool} (hO : NOk a) : ∀ b, b ≤ nD a → lstN a w u b ≤ 1188000 * b
  | 0, _ => Nat.le_refl _
  | b + 1, hb => by
    have h1 := lstN_bd (w := w) (u := u) hO b (by omega)
    have h2 := (hO.2.2.2.2.2 b (by omega)).2.2.2.2
    show lstN a w u b + (if lostB a w u b = true then 12000 * nSz a b else 0) ≤ _
    split <;> omega
theorem lcs_bd {a : ND} {w : Nat → Nat} {u : Nat → Bool} (hO : NOk a) {b : Nat} (hb : b ≤ nM a) : sumN (fun l => lcN (nRm a l) (LDD a w u (nD a) l)) b ≤ 452628000 := by
  have h1 : sumN (fun l => lcN (nRm a l) (LDD a w u (nD a) l)) b ≤ sumN (fun l => 500 * LDD a w u (nD a) l) b := sum_le (fun l => lcN_bd _ _) b
  rw [sum_mul] at h1
  have h2 := LDD_tot (w := w) (u := u) hO (nD a) (Nat.le_refl _)
  have h3 := hO.2.2.2.1
  have h4 : ∀ c, b ≤ c → sumN (LDD a w u (nD a)) b ≤ sumN (LDD a w u (nD a)) c := by
    intro c hc
    induction c with
    | zero => rw [Nat.le_zero.mp hc]; exact Nat.le_refl _
    | succ c ih =>
      by_cases e : b = c + 1
      · rw [e]; exact Nat.le_refl _
      · have := ih (by omega); rw [sumN]; omega
  have h5 := h4 (nM a) hb
  omega
theorem costN_bd {a : ND} {w : Nat → Nat} {u : Nat → Bool} (hO : NOk a) : costN a w u ≤ 459756000 := by
  have h1 := lcs_bd (w := w) (u := u) hO (Nat.le_refl (nM a))
  have h2 := lstN_bd (w := w) (u := u) hO (nD a) (Nat.le_refl _)
  have h3 := hO.2.2.2.1
  unfold costN
  omega
/-- what send tells, by SHR -/
theorem run_SHR {a : ND} {w : Nat → Nat} {u : Nat → Bool} {d : Nat} {L ld : Nat → Nat} (hn : ¬ FAR a w u (nGo a d) (nSt a d) = none) (hL : Ord (fun y => key (FAR a w u (nGo a d) y)) (nN a) L) (l : Nat) :
    (runS a w u (FAR a w u (nGo a d)) L (cm0 (nSt a d) (nSz a d), (fun _ => 0), ld) (nN a)).2.1 l = SHR a w u d l ∧ (runS a w u (FAR a w u (nGo a d)) L (cm0 (nSt a d) (nSz a d), (fun _ => 0), ld) (nN a)).2.2 l = ld l + SHR a w u d l := by
  have e1 : (runS a w u (FAR a w u (nGo a d)) L (cm0 (nSt a d) (nSz a d), (fun _ => 0), ld) (nN a)).2.1 l = SHR a w u d l := by
    unfold SHR
    rw [if_neg hn, runS_congr (ord_uniq hL (Lc_ord _ _)), (run_sh (ld := ld) (ld' := fun _ => 0) _).2]
  exact ⟨e1, by rw [(run_ld hL (nN a) (Nat.le_refl _)).2 l, e1]⟩
end
section
theorem zz_last : True := trivial
end
