-- ===== PART A: goes FIRST, ahead of the names: the tables' words, and 'selects' of the private methods out of them =====
/-- a private method of a class that the tables say can be made, by its rows of tables_1 -/
def lw_okq (q : MethodName × Nat) : Prop := (q.1.cls ≠ "java/lang/invoke/MethodHandle" ∧ q.1.cls ≠ "java/lang/invoke/VarHandle") ∧ Cond.instantiable q.1.cls q.2 ∈ tables_1 ∧ Cond.privateMethod q.1 ∈ tables_1 ∧ Cond.instanceMethod q.1 ∈ tables_1
theorem lw_p0 : lw_okq (⟨"BullStreet$Street", "tally", "(II)V"⟩, 19) := ⟨⟨by decide +kernel, by decide +kernel⟩, List.mem_of_getElem? (i := 140) (by decide +kernel), List.mem_of_getElem? (i := 162) (by decide +kernel), List.mem_of_getElem? (i := 163) (by decide +kernel)⟩
theorem lw_p1 : lw_okq (⟨"BullStreet$Reader", "part", "([BI)V"⟩, 11) := ⟨⟨by decide +kernel, by decide +kernel⟩, List.mem_of_getElem? (i := 26) (by decide +kernel), List.mem_of_getElem? (i := 392) (by decide +kernel), List.mem_of_getElem? (i := 393) (by decide +kernel)⟩
theorem lw_p2 : lw_okq (⟨"BullStreet$Reader", "token", "()I"⟩, 11) := ⟨⟨by decide +kernel, by decide +kernel⟩, List.mem_of_getElem? (i := 26) (by decide +kernel), List.mem_of_getElem? (i := 454) (by decide +kernel), List.mem_of_getElem? (i := 455) (by decide +kernel)⟩
theorem lw_p3 : lw_okq (⟨"BullStreet$Reader", "clause", "()Z"⟩, 11) := ⟨⟨by decide +kernel, by decide +kernel⟩, List.mem_of_getElem? (i := 26) (by decide +kernel), List.mem_of_getElem? (i := 458) (by decide +kernel), List.mem_of_getElem? (i := 459) (by decide +kernel)⟩
theorem lw_p4 : lw_okq (⟨"BullStreet$Reader", "pass", "()V"⟩, 11) := ⟨⟨by decide +kernel, by decide +kernel⟩, List.mem_of_getElem? (i := 26) (by decide +kernel), List.mem_of_getElem? (i := 462) (by decide +kernel), List.mem_of_getElem? (i := 463) (by decide +kernel)⟩
theorem lw_p5 : lw_okq (⟨"BullStreet$Reader", "passes", "(I)Z"⟩, 11) := ⟨⟨by decide +kernel, by decide +kernel⟩, List.mem_of_getElem? (i := 26) (by decide +kernel), List.mem_of_getElem? (i := 466) (by decide +kernel), List.mem_of_getElem? (i := 467) (by decide +kernel)⟩
theorem lw_p6 : lw_okq (⟨"BullStreet$Reader", "condition", "(I)Z"⟩, 11) := ⟨⟨by decide +kernel, by decide +kernel⟩, List.mem_of_getElem? (i := 26) (by decide +kernel), List.mem_of_getElem? (i := 470) (by decide +kernel), List.mem_of_getElem? (i := 471) (by decide +kernel)⟩
theorem lw_p7 : lw_okq (⟨"BullStreet$Reader", "allOf", "(I)Z"⟩, 11) := ⟨⟨by decide +kernel, by decide +kernel⟩, List.mem_of_getElem? (i := 26) (by decide +kernel), List.mem_of_getElem? (i := 474) (by decide +kernel), List.mem_of_getElem? (i := 475) (by decide +kernel)⟩
theorem lw_p8 : lw_okq (⟨"BullStreet$Reader", "oneOf", "(I)Z"⟩, 11) := ⟨⟨by decide +kernel, by decide +kernel⟩, List.mem_of_getElem? (i := 26) (by decide +kernel), List.mem_of_getElem? (i := 478) (by decide +kernel), List.mem_of_getElem? (i := 479) (by decide +kernel)⟩
theorem lw_p9 : lw_okq (⟨"BullStreet$Reader", "comparison", "()Z"⟩, 11) := ⟨⟨by decide +kernel, by decide +kernel⟩, List.mem_of_getElem? (i := 26) (by decide +kernel), List.mem_of_getElem? (i := 482) (by decide +kernel), List.mem_of_getElem? (i := 483) (by decide +kernel)⟩
theorem lw_p10 : lw_okq (⟨"BullStreet$Reader", "addStep", "(III)V"⟩, 11) := ⟨⟨by decide +kernel, by decide +kernel⟩, List.mem_of_getElem? (i := 26) (by decide +kernel), List.mem_of_getElem? (i := 489) (by decide +kernel), List.mem_of_getElem? (i := 490) (by decide +kernel)⟩
theorem lw_p11 : lw_okq (⟨"BullStreet$Street", "hunt", "(I)V"⟩, 19) := ⟨⟨by decide +kernel, by decide +kernel⟩, List.mem_of_getElem? (i := 140) (by decide +kernel), List.mem_of_getElem? (i := 574) (by decide +kernel), List.mem_of_getElem? (i := 575) (by decide +kernel)⟩
theorem lw_p12 : lw_okq (⟨"BullStreet$Street", "gallop", "(I)V"⟩, 19) := ⟨⟨by decide +kernel, by decide +kernel⟩, List.mem_of_getElem? (i := 140) (by decide +kernel), List.mem_of_getElem? (i := 578) (by decide +kernel), List.mem_of_getElem? (i := 579) (by decide +kernel)⟩
theorem lw_p13 : lw_okq (⟨"BullStreet$Street", "slips", "(I)Z"⟩, 19) := ⟨⟨by decide +kernel, by decide +kernel⟩, List.mem_of_getElem? (i := 140) (by decide +kernel), List.mem_of_getElem? (i := 582) (by decide +kernel), List.mem_of_getElem? (i := 583) (by decide +kernel)⟩
theorem lw_p14 : lw_okq (⟨"BullStreet$Street", "takeTurn", "(II)V"⟩, 19) := ⟨⟨by decide +kernel, by decide +kernel⟩, List.mem_of_getElem? (i := 140) (by decide +kernel), List.mem_of_getElem? (i := 589) (by decide +kernel), List.mem_of_getElem? (i := 590) (by decide +kernel)⟩
theorem lw_p15 : lw_okq (⟨"BullStreet$Street", "rise", "(I)V"⟩, 19) := ⟨⟨by decide +kernel, by decide +kernel⟩, List.mem_of_getElem? (i := 140) (by decide +kernel), List.mem_of_getElem? (i := 593) (by decide +kernel), List.mem_of_getElem? (i := 594) (by decide +kernel)⟩
def lw_privs_1 : List (MethodName × Nat) := [(⟨"BullStreet$Street", "tally", "(II)V"⟩, 19), (⟨"BullStreet$Reader", "part", "([BI)V"⟩, 11), (⟨"BullStreet$Reader", "token", "()I"⟩, 11), (⟨"BullStreet$Reader", "clause", "()Z"⟩, 11), (⟨"BullStreet$Reader", "pass", "()V"⟩, 11), (⟨"BullStreet$Reader", "passes", "(I)Z"⟩, 11), (⟨"BullStreet$Reader", "condition", "(I)Z"⟩, 11), (⟨"BullStreet$Reader", "allOf", "(I)Z"⟩, 11), (⟨"BullStreet$Reader", "oneOf", "(I)Z"⟩, 11), (⟨"BullStreet$Reader", "comparison", "()Z"⟩, 11), (⟨"BullStreet$Reader", "addStep", "(III)V"⟩, 11), (⟨"BullStreet$Street", "hunt", "(I)V"⟩, 19), (⟨"BullStreet$Street", "gallop", "(I)V"⟩, 19), (⟨"BullStreet$Street", "slips", "(I)Z"⟩, 19), (⟨"BullStreet$Street", "takeTurn", "(II)V"⟩, 19), (⟨"BullStreet$Street", "rise", "(I)V"⟩, 19)]
theorem lw_r1 : ∀ q ∈ lw_privs_1, lw_okq q := List.forall_mem_cons.mpr ⟨lw_p0, List.forall_mem_cons.mpr ⟨lw_p1, List.forall_mem_cons.mpr ⟨lw_p2, List.forall_mem_cons.mpr ⟨lw_p3, List.forall_mem_cons.mpr ⟨lw_p4, List.forall_mem_cons.mpr ⟨lw_p5, List.forall_mem_cons.mpr ⟨lw_p6, List.forall_mem_cons.mpr ⟨lw_p7, List.forall_mem_cons.mpr ⟨lw_p8, List.forall_mem_cons.mpr ⟨lw_p9, List.forall_mem_cons.mpr ⟨lw_p10, List.forall_mem_cons.mpr ⟨lw_p11, List.forall_mem_cons.mpr ⟨lw_p12, List.forall_mem_cons.mpr ⟨lw_p13, List.forall_mem_cons.mpr ⟨lw_p14, List.forall_mem_cons.mpr ⟨lw_p15, fun _ h => absurd h List.not_mem_nil⟩⟩⟩⟩⟩⟩⟩⟩⟩⟩⟩⟩⟩⟩⟩⟩
theorem lw_p16 : lw_okq (⟨"BullStreet$Street", "goAhead", "(I)V"⟩, 19) := ⟨⟨by decide +kernel, by decide +kernel⟩, List.mem_of_getElem? (i := 140) (by decide +kernel), List.mem_of_getElem? (i := 598) (by decide +kernel), List.mem_of_getElem? (i := 599) (by decide +kernel)⟩
theorem lw_p17 : lw_okq (⟨"BullStreet$Street", "sufferedBy", "(I)I"⟩, 19) := ⟨⟨by decide +kernel, by decide +kernel⟩, List.mem_of_getElem? (i := 140) (by decide +kernel), List.mem_of_getElem? (i := 605) (by decide +kernel), List.mem_of_getElem? (i := 606) (by decide +kernel)⟩
theorem lw_p18 : lw_okq (⟨"BullStreet$Street", "heapUp", "()V"⟩, 19) := ⟨⟨by decide +kernel, by decide +kernel⟩, List.mem_of_getElem? (i := 140) (by decide +kernel), List.mem_of_getElem? (i := 615) (by decide +kernel), List.mem_of_getElem? (i := 616) (by decide +kernel)⟩
theorem lw_p19 : lw_okq (⟨"BullStreet", "isThing", "(II)Z"⟩, 14) := ⟨⟨by decide +kernel, by decide +kernel⟩, List.mem_of_getElem? (i := 18) (by decide +kernel), List.mem_of_getElem? (i := 749) (by decide +kernel), List.mem_of_getElem? (i := 750) (by decide +kernel)⟩
theorem lw_p20 : lw_okq (⟨"BullStreet", "kindOnShelf", "(I)I"⟩, 14) := ⟨⟨by decide +kernel, by decide +kernel⟩, List.mem_of_getElem? (i := 18) (by decide +kernel), List.mem_of_getElem? (i := 757) (by decide +kernel), List.mem_of_getElem? (i := 758) (by decide +kernel)⟩
theorem lw_p21 : lw_okq (⟨"BullStreet$Bodies", "runs", "(II)I"⟩, 6) := ⟨⟨by decide +kernel, by decide +kernel⟩, List.mem_of_getElem? (i := 87) (by decide +kernel), List.mem_of_getElem? (i := 770) (by decide +kernel), List.mem_of_getElem? (i := 771) (by decide +kernel)⟩
theorem lw_p22 : lw_okq (⟨"BullStreet$Bodies", "began", "(I)V"⟩, 6) := ⟨⟨by decide +kernel, by decide +kernel⟩, List.mem_of_getElem? (i := 87) (by decide +kernel), List.mem_of_getElem? (i := 774) (by decide +kernel), List.mem_of_getElem? (i := 775) (by decide +kernel)⟩
theorem lw_p23 : lw_okq (⟨"BullStreet$Bodies", "sees", "(II)I"⟩, 6) := ⟨⟨by decide +kernel, by decide +kernel⟩, List.mem_of_getElem? (i := 87) (by decide +kernel), List.mem_of_getElem? (i := 778) (by decide +kernel), List.mem_of_getElem? (i := 779) (by decide +kernel)⟩
theorem lw_p24 : lw_okq (⟨"BullStreet$Bodies", "falls", "(II)I"⟩, 6) := ⟨⟨by decide +kernel, by decide +kernel⟩, List.mem_of_getElem? (i := 87) (by decide +kernel), List.mem_of_getElem? (i := 782) (by decide +kernel), List.mem_of_getElem? (i := 783) (by decide +kernel)⟩
theorem lw_p25 : lw_okq (⟨"BullStreet$Bodies", "partedBy", "(II)I"⟩, 6) := ⟨⟨by decide +kernel, by decide +kernel⟩, List.mem_of_getElem? (i := 87) (by decide +kernel), List.mem_of_getElem? (i := 786) (by decide +kernel), List.mem_of_getElem? (i := 787) (by decide +kernel)⟩
theorem lw_p26 : lw_okq (⟨"BullStreet$Bodies", "harms", "(II)I"⟩, 6) := ⟨⟨by decide +kernel, by decide +kernel⟩, List.mem_of_getElem? (i := 87) (by decide +kernel), List.mem_of_getElem? (i := 790) (by decide +kernel), List.mem_of_getElem? (i := 791) (by decide +kernel)⟩
theorem lw_p27 : lw_okq (⟨"BullStreetModel", "paves", "(I)V"⟩, 36) := ⟨⟨by decide +kernel, by decide +kernel⟩, List.mem_of_getElem? (i := 810) (by decide +kernel), List.mem_of_getElem? (i := 816) (by decide +kernel), List.mem_of_getElem? (i := 817) (by decide +kernel)⟩
theorem lw_p28 : lw_okq (⟨"BullStreetModel", "whereIs", "(I)I"⟩, 36) := ⟨⟨by decide +kernel, by decide +kernel⟩, List.mem_of_getElem? (i := 810) (by decide +kernel), List.mem_of_getElem? (i := 938) (by decide +kernel), List.mem_of_getElem? (i := 939) (by decide +kernel)⟩
theorem lw_p29 : lw_okq (⟨"BullStreetModel", "whereBeast", "(I)I"⟩, 36) := ⟨⟨by decide +kernel, by decide +kernel⟩, List.mem_of_getElem? (i := 810) (by decide +kernel), List.mem_of_getElem? (i := 942) (by decide +kernel), List.mem_of_getElem? (i := 943) (by decide +kernel)⟩
theorem lw_p30 : lw_okq (⟨"BullStreetModel", "isCell", "(I)Z"⟩, 36) := ⟨⟨by decide +kernel, by decide +kernel⟩, List.mem_of_getElem? (i := 810) (by decide +kernel), List.mem_of_getElem? (i := 950) (by decide +kernel), List.mem_of_getElem? (i := 951) (by decide +kernel)⟩
theorem lw_p31 : lw_okq (⟨"BullStreetModel", "crowd", "(I)I"⟩, 36) := ⟨⟨by decide +kernel, by decide +kernel⟩, List.mem_of_getElem? (i := 810) (by decide +kernel), List.mem_of_getElem? (i := 961) (by decide +kernel), List.mem_of_getElem? (i := 962) (by decide +kernel)⟩
def lw_privs_2 : List (MethodName × Nat) := [(⟨"BullStreet$Street", "goAhead", "(I)V"⟩, 19), (⟨"BullStreet$Street", "sufferedBy", "(I)I"⟩, 19), (⟨"BullStreet$Street", "heapUp", "()V"⟩, 19), (⟨"BullStreet", "isThing", "(II)Z"⟩, 14), (⟨"BullStreet", "kindOnShelf", "(I)I"⟩, 14), (⟨"BullStreet$Bodies", "runs", "(II)I"⟩, 6), (⟨"BullStreet$Bodies", "began", "(I)V"⟩, 6), (⟨"BullStreet$Bodies", "sees", "(II)I"⟩, 6), (⟨"BullStreet$Bodies", "falls", "(II)I"⟩, 6), (⟨"BullStreet$Bodies", "partedBy", "(II)I"⟩, 6), (⟨"BullStreet$Bodies", "harms", "(II)I"⟩, 6), (⟨"BullStreetModel", "paves", "(I)V"⟩, 36), (⟨"BullStreetModel", "whereIs", "(I)I"⟩, 36), (⟨"BullStreetModel", "whereBeast", "(I)I"⟩, 36), (⟨"BullStreetModel", "isCell", "(I)Z"⟩, 36), (⟨"BullStreetModel", "crowd", "(I)I"⟩, 36)]
theorem lw_r2 : ∀ q ∈ lw_privs_2, lw_okq q := List.forall_mem_cons.mpr ⟨lw_p16, List.forall_mem_cons.mpr ⟨lw_p17, List.forall_mem_cons.mpr ⟨lw_p18, List.forall_mem_cons.mpr ⟨lw_p19, List.forall_mem_cons.mpr ⟨lw_p20, List.forall_mem_cons.mpr ⟨lw_p21, List.forall_mem_cons.mpr ⟨lw_p22, List.forall_mem_cons.mpr ⟨lw_p23, List.forall_mem_cons.mpr ⟨lw_p24, List.forall_mem_cons.mpr ⟨lw_p25, List.forall_mem_cons.mpr ⟨lw_p26, List.forall_mem_cons.mpr ⟨lw_p27, List.forall_mem_cons.mpr ⟨lw_p28, List.forall_mem_cons.mpr ⟨lw_p29, List.forall_mem_cons.mpr ⟨lw_p30, List.forall_mem_cons.mpr ⟨lw_p31, fun _ h => absurd h List.not_mem_nil⟩⟩⟩⟩⟩⟩⟩⟩⟩⟩⟩⟩⟩⟩⟩⟩
theorem lw_p32 : lw_okq (⟨"BullStreetModel", "fallenIn", "(I)I"⟩, 36) := ⟨⟨by decide +kernel, by decide +kernel⟩, List.mem_of_getElem? (i := 810) (by decide +kernel), List.mem_of_getElem? (i := 965) (by decide +kernel), List.mem_of_getElem? (i := 966) (by decide +kernel)⟩
theorem lw_p33 : lw_okq (⟨"BullStreetModel", "kindOf", "(I)I"⟩, 36) := ⟨⟨by decide +kernel, by decide +kernel⟩, List.mem_of_getElem? (i := 810) (by decide +kernel), List.mem_of_getElem? (i := 969) (by decide +kernel), List.mem_of_getElem? (i := 970) (by decide +kernel)⟩
theorem lw_p34 : lw_okq (⟨"BullStreetModel", "beastsIn", "(I)I"⟩, 36) := ⟨⟨by decide +kernel, by decide +kernel⟩, List.mem_of_getElem? (i := 810) (by decide +kernel), List.mem_of_getElem? (i := 976) (by decide +kernel), List.mem_of_getElem? (i := 977) (by decide +kernel)⟩
theorem lw_p35 : lw_okq (⟨"BullStreetModel", "isPerson", "(I)Z"⟩, 36) := ⟨⟨by decide +kernel, by decide +kernel⟩, List.mem_of_getElem? (i := 810) (by decide +kernel), List.mem_of_getElem? (i := 998) (by decide +kernel), List.mem_of_getElem? (i := 999) (by decide +kernel)⟩
theorem lw_p36 : lw_okq (⟨"BullStreetModel", "nearTo", "(I)I"⟩, 36) := ⟨⟨by decide +kernel, by decide +kernel⟩, List.mem_of_getElem? (i := 810) (by decide +kernel), List.mem_of_getElem? (i := 1002) (by decide +kernel), List.mem_of_getElem? (i := 1003) (by decide +kernel)⟩
theorem lw_p37 : lw_okq (⟨"BullStreetModel", "isBeast", "(I)Z"⟩, 36) := ⟨⟨by decide +kernel, by decide +kernel⟩, List.mem_of_getElem? (i := 810) (by decide +kernel), List.mem_of_getElem? (i := 1014) (by decide +kernel), List.mem_of_getElem? (i := 1015) (by decide +kernel)⟩
theorem lw_p38 : lw_okq (⟨"BullStreetModel", "next", "()V"⟩, 36) := ⟨⟨by decide +kernel, by decide +kernel⟩, List.mem_of_getElem? (i := 810) (by decide +kernel), List.mem_of_getElem? (i := 1032) (by decide +kernel), List.mem_of_getElem? (i := 1033) (by decide +kernel)⟩
theorem lw_p39 : lw_okq (⟨"BullStreetModel", "byteAt", "(I)I"⟩, 36) := ⟨⟨by decide +kernel, by decide +kernel⟩, List.mem_of_getElem? (i := 810) (by decide +kernel), List.mem_of_getElem? (i := 1036) (by decide +kernel), List.mem_of_getElem? (i := 1037) (by decide +kernel)⟩
theorem lw_p40 : lw_okq (⟨"BullStreetModel", "oneClause", "()V"⟩, 36) := ⟨⟨by decide +kernel, by decide +kernel⟩, List.mem_of_getElem? (i := 810) (by decide +kernel), List.mem_of_getElem? (i := 1050) (by decide +kernel), List.mem_of_getElem? (i := 1051) (by decide +kernel)⟩
theorem lw_p41 : lw_okq (⟨"BullStreetModel", "whoHere", "()I"⟩, 36) := ⟨⟨by decide +kernel, by decide +kernel⟩, List.mem_of_getElem? (i := 810) (by decide +kernel), List.mem_of_getElem? (i := 1054) (by decide +kernel), List.mem_of_getElem? (i := 1055) (by decide +kernel)⟩
theorem lw_p42 : lw_okq (⟨"BullStreetModel", "isName", "(IIIIIIII)Z"⟩, 36) := ⟨⟨by decide +kernel, by decide +kernel⟩, List.mem_of_getElem? (i := 810) (by decide +kernel), List.mem_of_getElem? (i := 1058) (by decide +kernel), List.mem_of_getElem? (i := 1059) (by decide +kernel)⟩
theorem lw_p43 : lw_okq (⟨"BullStreetModel", "isAt", "(II)Z"⟩, 36) := ⟨⟨by decide +kernel, by decide +kernel⟩, List.mem_of_getElem? (i := 810) (by decide +kernel), List.mem_of_getElem? (i := 1062) (by decide +kernel), List.mem_of_getElem? (i := 1063) (by decide +kernel)⟩
theorem lw_p44 : lw_okq (⟨"BullStreetModel", "needs", "(Z)V"⟩, 36) := ⟨⟨by decide +kernel, by decide +kernel⟩, List.mem_of_getElem? (i := 810) (by decide +kernel), List.mem_of_getElem? (i := 1066) (by decide +kernel), List.mem_of_getElem? (i := 1067) (by decide +kernel)⟩
theorem lw_p45 : lw_okq (⟨"BullStreetModel", "actHere", "()I"⟩, 36) := ⟨⟨by decide +kernel, by decide +kernel⟩, List.mem_of_getElem? (i := 810) (by decide +kernel), List.mem_of_getElem? (i := 1070) (by decide +kernel), List.mem_of_getElem? (i := 1071) (by decide +kernel)⟩
theorem lw_p46 : lw_okq (⟨"BullStreetModel", "condition", "()V"⟩, 36) := ⟨⟨by decide +kernel, by decide +kernel⟩, List.mem_of_getElem? (i := 810) (by decide +kernel), List.mem_of_getElem? (i := 1074) (by decide +kernel), List.mem_of_getElem? (i := 1075) (by decide +kernel)⟩
theorem lw_p47 : lw_okq (⟨"BullStreetModel", "every", "()V"⟩, 36) := ⟨⟨by decide +kernel, by decide +kernel⟩, List.mem_of_getElem? (i := 810) (by decide +kernel), List.mem_of_getElem? (i := 1078) (by decide +kernel), List.mem_of_getElem? (i := 1079) (by decide +kernel)⟩
def lw_privs_3 : List (MethodName × Nat) := [(⟨"BullStreetModel", "fallenIn", "(I)I"⟩, 36), (⟨"BullStreetModel", "kindOf", "(I)I"⟩, 36), (⟨"BullStreetModel", "beastsIn", "(I)I"⟩, 36), (⟨"BullStreetModel", "isPerson", "(I)Z"⟩, 36), (⟨"BullStreetModel", "nearTo", "(I)I"⟩, 36), (⟨"BullStreetModel", "isBeast", "(I)Z"⟩, 36), (⟨"BullStreetModel", "next", "()V"⟩, 36), (⟨"BullStreetModel", "byteAt", "(I)I"⟩, 36), (⟨"BullStreetModel", "oneClause", "()V"⟩, 36), (⟨"BullStreetModel", "whoHere", "()I"⟩, 36), (⟨"BullStreetModel", "isName", "(IIIIIIII)Z"⟩, 36), (⟨"BullStreetModel", "isAt", "(II)Z"⟩, 36), (⟨"BullStreetModel", "needs", "(Z)V"⟩, 36), (⟨"BullStreetModel", "actHere", "()I"⟩, 36), (⟨"BullStreetModel", "condition", "()V"⟩, 36), (⟨"BullStreetModel", "every", "()V"⟩, 36)]
theorem lw_r3 : ∀ q ∈ lw_privs_3, lw_okq q := List.forall_mem_cons.mpr ⟨lw_p32, List.forall_mem_cons.mpr ⟨lw_p33, List.forall_mem_cons.mpr ⟨lw_p34, List.forall_mem_cons.mpr ⟨lw_p35, List.forall_mem_cons.mpr ⟨lw_p36, List.forall_mem_cons.mpr ⟨lw_p37, List.forall_mem_cons.mpr ⟨lw_p38, List.forall_mem_cons.mpr ⟨lw_p39, List.forall_mem_cons.mpr ⟨lw_p40, List.forall_mem_cons.mpr ⟨lw_p41, List.forall_mem_cons.mpr ⟨lw_p42, List.forall_mem_cons.mpr ⟨lw_p43, List.forall_mem_cons.mpr ⟨lw_p44, List.forall_mem_cons.mpr ⟨lw_p45, List.forall_mem_cons.mpr ⟨lw_p46, List.forall_mem_cons.mpr ⟨lw_p47, fun _ h => absurd h List.not_mem_nil⟩⟩⟩⟩⟩⟩⟩⟩⟩⟩⟩⟩⟩⟩⟩⟩
theorem lw_p48 : lw_okq (⟨"BullStreetModel", "single", "()V"⟩, 36) := ⟨⟨by decide +kernel, by decide +kernel⟩, List.mem_of_getElem? (i := 810) (by decide +kernel), List.mem_of_getElem? (i := 1082) (by decide +kernel), List.mem_of_getElem? (i := 1083) (by decide +kernel)⟩
theorem lw_p49 : lw_okq (⟨"BullStreetModel", "value", "()V"⟩, 36) := ⟨⟨by decide +kernel, by decide +kernel⟩, List.mem_of_getElem? (i := 810) (by decide +kernel), List.mem_of_getElem? (i := 1086) (by decide +kernel), List.mem_of_getElem? (i := 1087) (by decide +kernel)⟩
theorem lw_p50 : lw_okq (⟨"BullStreetModel", "emits", "(I)V"⟩, 36) := ⟨⟨by decide +kernel, by decide +kernel⟩, List.mem_of_getElem? (i := 810) (by decide +kernel), List.mem_of_getElem? (i := 1090) (by decide +kernel), List.mem_of_getElem? (i := 1091) (by decide +kernel)⟩
theorem lw_p51 : lw_okq (⟨"BullStreetModel", "factHere", "()I"⟩, 36) := ⟨⟨by decide +kernel, by decide +kernel⟩, List.mem_of_getElem? (i := 810) (by decide +kernel), List.mem_of_getElem? (i := 1094) (by decide +kernel), List.mem_of_getElem? (i := 1095) (by decide +kernel)⟩
theorem lw_p52 : lw_okq (⟨"BullStreetModel", "clauseOf", "(I)I"⟩, 36) := ⟨⟨by decide +kernel, by decide +kernel⟩, List.mem_of_getElem? (i := 810) (by decide +kernel), List.mem_of_getElem? (i := 1102) (by decide +kernel), List.mem_of_getElem? (i := 1103) (by decide +kernel)⟩
theorem lw_p53 : lw_okq (⟨"BullStreetModel", "holds", "(II)Z"⟩, 36) := ⟨⟨by decide +kernel, by decide +kernel⟩, List.mem_of_getElem? (i := 810) (by decide +kernel), List.mem_of_getElem? (i := 1106) (by decide +kernel), List.mem_of_getElem? (i := 1107) (by decide +kernel)⟩
theorem lw_p54 : lw_okq (⟨"BullStreetModel", "factOf", "(II)I"⟩, 36) := ⟨⟨by decide +kernel, by decide +kernel⟩, List.mem_of_getElem? (i := 810) (by decide +kernel), List.mem_of_getElem? (i := 1110) (by decide +kernel), List.mem_of_getElem? (i := 1111) (by decide +kernel)⟩
theorem lw_p55 : lw_okq (⟨"BullStreetModel", "aheadOf", "(I)I"⟩, 36) := ⟨⟨by decide +kernel, by decide +kernel⟩, List.mem_of_getElem? (i := 810) (by decide +kernel), List.mem_of_getElem? (i := 1114) (by decide +kernel), List.mem_of_getElem? (i := 1115) (by decide +kernel)⟩
theorem lw_p56 : lw_okq (⟨"BullStreetModel", "lone", "()I"⟩, 36) := ⟨⟨by decide +kernel, by decide +kernel⟩, List.mem_of_getElem? (i := 810) (by decide +kernel), List.mem_of_getElem? (i := 1118) (by decide +kernel), List.mem_of_getElem? (i := 1119) (by decide +kernel)⟩
theorem lw_p57 : lw_okq (⟨"BullStreetModel", "isAlone", "(I)Z"⟩, 36) := ⟨⟨by decide +kernel, by decide +kernel⟩, List.mem_of_getElem? (i := 810) (by decide +kernel), List.mem_of_getElem? (i := 1122) (by decide +kernel), List.mem_of_getElem? (i := 1123) (by decide +kernel)⟩
theorem lw_p58 : lw_okq (⟨"BullStreetModel", "trial", "(I)I"⟩, 36) := ⟨⟨by decide +kernel, by decide +kernel⟩, List.mem_of_getElem? (i := 810) (by decide +kernel), List.mem_of_getElem? (i := 1141) (by decide +kernel), List.mem_of_getElem? (i := 1142) (by decide +kernel)⟩
theorem lw_p59 : lw_okq (⟨"BullStreetModel", "goes", "()I"⟩, 36) := ⟨⟨by decide +kernel, by decide +kernel⟩, List.mem_of_getElem? (i := 810) (by decide +kernel), List.mem_of_getElem? (i := 1145) (by decide +kernel), List.mem_of_getElem? (i := 1146) (by decide +kernel)⟩
theorem lw_p60 : lw_okq (⟨"BullStreetModel", "stalks", "(I)V"⟩, 36) := ⟨⟨by decide +kernel, by decide +kernel⟩, List.mem_of_getElem? (i := 810) (by decide +kernel), List.mem_of_getElem? (i := 1149) (by decide +kernel), List.mem_of_getElem? (i := 1150) (by decide +kernel)⟩
theorem lw_p61 : lw_okq (⟨"BullStreetModel", "herds", "(I)V"⟩, 36) := ⟨⟨by decide +kernel, by decide +kernel⟩, List.mem_of_getElem? (i := 810) (by decide +kernel), List.mem_of_getElem? (i := 1153) (by decide +kernel), List.mem_of_getElem? (i := 1154) (by decide +kernel)⟩
theorem lw_p62 : lw_okq (⟨"BullStreetModel", "does", "(I)V"⟩, 36) := ⟨⟨by decide +kernel, by decide +kernel⟩, List.mem_of_getElem? (i := 810) (by decide +kernel), List.mem_of_getElem? (i := 1158) (by decide +kernel), List.mem_of_getElem? (i := 1159) (by decide +kernel)⟩
theorem lw_p63 : lw_okq (⟨"BullStreetModel", "runs", "(I)V"⟩, 36) := ⟨⟨by decide +kernel, by decide +kernel⟩, List.mem_of_getElem? (i := 810) (by decide +kernel), List.mem_of_getElem? (i := 1162) (by decide +kernel), List.mem_of_getElem? (i := 1163) (by decide +kernel)⟩
def lw_privs_4 : List (MethodName × Nat) := [(⟨"BullStreetModel", "single", "()V"⟩, 36), (⟨"BullStreetModel", "value", "()V"⟩, 36), (⟨"BullStreetModel", "emits", "(I)V"⟩, 36), (⟨"BullStreetModel", "factHere", "()I"⟩, 36), (⟨"BullStreetModel", "clauseOf", "(I)I"⟩, 36), (⟨"BullStreetModel", "holds", "(II)Z"⟩, 36), (⟨"BullStreetModel", "factOf", "(II)I"⟩, 36), (⟨"BullStreetModel", "aheadOf", "(I)I"⟩, 36), (⟨"BullStreetModel", "lone", "()I"⟩, 36), (⟨"BullStreetModel", "isAlone", "(I)Z"⟩, 36), (⟨"BullStreetModel", "trial", "(I)I"⟩, 36), (⟨"BullStreetModel", "goes", "()I"⟩, 36), (⟨"BullStreetModel", "stalks", "(I)V"⟩, 36), (⟨"BullStreetModel", "herds", "(I)V"⟩, 36), (⟨"BullStreetModel", "does", "(I)V"⟩, 36), (⟨"BullStreetModel", "runs", "(I)V"⟩, 36)]
theorem lw_r4 : ∀ q ∈ lw_privs_4, lw_okq q := List.forall_mem_cons.mpr ⟨lw_p48, List.forall_mem_cons.mpr ⟨lw_p49, List.forall_mem_cons.mpr ⟨lw_p50, List.forall_mem_cons.mpr ⟨lw_p51, List.forall_mem_cons.mpr ⟨lw_p52, List.forall_mem_cons.mpr ⟨lw_p53, List.forall_mem_cons.mpr ⟨lw_p54, List.forall_mem_cons.mpr ⟨lw_p55, List.forall_mem_cons.mpr ⟨lw_p56, List.forall_mem_cons.mpr ⟨lw_p57, List.forall_mem_cons.mpr ⟨lw_p58, List.forall_mem_cons.mpr ⟨lw_p59, List.forall_mem_cons.mpr ⟨lw_p60, List.forall_mem_cons.mpr ⟨lw_p61, List.forall_mem_cons.mpr ⟨lw_p62, List.forall_mem_cons.mpr ⟨lw_p63, fun _ h => absurd h List.not_mem_nil⟩⟩⟩⟩⟩⟩⟩⟩⟩⟩⟩⟩⟩⟩⟩⟩
theorem lw_p64 : lw_okq (⟨"BullStreetModel", "isFree", "(I)Z"⟩, 36) := ⟨⟨by decide +kernel, by decide +kernel⟩, List.mem_of_getElem? (i := 810) (by decide +kernel), List.mem_of_getElem? (i := 1166) (by decide +kernel), List.mem_of_getElem? (i := 1167) (by decide +kernel)⟩
theorem lw_p65 : lw_okq (⟨"BullStreetModel", "harms", "()I"⟩, 36) := ⟨⟨by decide +kernel, by decide +kernel⟩, List.mem_of_getElem? (i := 810) (by decide +kernel), List.mem_of_getElem? (i := 1170) (by decide +kernel), List.mem_of_getElem? (i := 1171) (by decide +kernel)⟩
theorem lw_p66 : lw_okq (⟨"BullStreetModel", "harmTo", "(I)I"⟩, 36) := ⟨⟨by decide +kernel, by decide +kernel⟩, List.mem_of_getElem? (i := 810) (by decide +kernel), List.mem_of_getElem? (i := 1174) (by decide +kernel), List.mem_of_getElem? (i := 1175) (by decide +kernel)⟩
theorem lw_p67 : lw_okq (⟨"BullStreetModel", "sees", "(I)V"⟩, 36) := ⟨⟨by decide +kernel, by decide +kernel⟩, List.mem_of_getElem? (i := 810) (by decide +kernel), List.mem_of_getElem? (i := 1178) (by decide +kernel), List.mem_of_getElem? (i := 1179) (by decide +kernel)⟩
theorem lw_p68 : lw_okq (⟨"BullStreetModel", "heaps", "()V"⟩, 36) := ⟨⟨by decide +kernel, by decide +kernel⟩, List.mem_of_getElem? (i := 810) (by decide +kernel), List.mem_of_getElem? (i := 1182) (by decide +kernel), List.mem_of_getElem? (i := 1183) (by decide +kernel)⟩
theorem lw_p69 : lw_okq (⟨"BullStreetModel", "hurtsIn", "(IIII)I"⟩, 36) := ⟨⟨by decide +kernel, by decide +kernel⟩, List.mem_of_getElem? (i := 810) (by decide +kernel), List.mem_of_getElem? (i := 1194) (by decide +kernel), List.mem_of_getElem? (i := 1195) (by decide +kernel)⟩
theorem lw_p70 : lw_okq (⟨"BullStreetModel", "puts", "()V"⟩, 36) := ⟨⟨by decide +kernel, by decide +kernel⟩, List.mem_of_getElem? (i := 810) (by decide +kernel), List.mem_of_getElem? (i := 1198) (by decide +kernel), List.mem_of_getElem? (i := 1199) (by decide +kernel)⟩
theorem lw_p71 : lw_okq (⟨"BullStreetModel", "putsBack", "()V"⟩, 36) := ⟨⟨by decide +kernel, by decide +kernel⟩, List.mem_of_getElem? (i := 810) (by decide +kernel), List.mem_of_getElem? (i := 1202) (by decide +kernel), List.mem_of_getElem? (i := 1203) (by decide +kernel)⟩
theorem lw_p72 : lw_okq (⟨"BullStreetModel", "harmIn", "(I)I"⟩, 36) := ⟨⟨by decide +kernel, by decide +kernel⟩, List.mem_of_getElem? (i := 810) (by decide +kernel), List.mem_of_getElem? (i := 1214) (by decide +kernel), List.mem_of_getElem? (i := 1215) (by decide +kernel)⟩
theorem lw_p73 : lw_okq (⟨"BullStreetModel", "isHeapedBy", "(II)Z"⟩, 36) := ⟨⟨by decide +kernel, by decide +kernel⟩, List.mem_of_getElem? (i := 810) (by decide +kernel), List.mem_of_getElem? (i := 1222) (by decide +kernel), List.mem_of_getElem? (i := 1223) (by decide +kernel)⟩
theorem lw_p74 : lw_okq (⟨"BullStreetModel", "taking", "(II)I"⟩, 36) := ⟨⟨by decide +kernel, by decide +kernel⟩, List.mem_of_getElem? (i := 810) (by decide +kernel), List.mem_of_getElem? (i := 1273) (by decide +kernel), List.mem_of_getElem? (i := 1274) (by decide +kernel)⟩
theorem lw_p75 : lw_okq (⟨"BullStreetModel", "takes", "(I)V"⟩, 36) := ⟨⟨by decide +kernel, by decide +kernel⟩, List.mem_of_getElem? (i := 810) (by decide +kernel), List.mem_of_getElem? (i := 1291) (by decide +kernel), List.mem_of_getElem? (i := 1292) (by decide +kernel)⟩
theorem lw_p76 : lw_okq (⟨"BullStreetModel", "runsOf", "(I)I"⟩, 36) := ⟨⟨by decide +kernel, by decide +kernel⟩, List.mem_of_getElem? (i := 810) (by decide +kernel), List.mem_of_getElem? (i := 1299) (by decide +kernel), List.mem_of_getElem? (i := 1300) (by decide +kernel)⟩
theorem lw_p77 : lw_okq (⟨"BullStreetModel", "runningRuns", "(I)I"⟩, 36) := ⟨⟨by decide +kernel, by decide +kernel⟩, List.mem_of_getElem? (i := 810) (by decide +kernel), List.mem_of_getElem? (i := 1303) (by decide +kernel), List.mem_of_getElem? (i := 1304) (by decide +kernel)⟩
theorem lw_p78 : lw_okq (⟨"BullStreetModel", "ran", "(I)V"⟩, 36) := ⟨⟨by decide +kernel, by decide +kernel⟩, List.mem_of_getElem? (i := 810) (by decide +kernel), List.mem_of_getElem? (i := 1307) (by decide +kernel), List.mem_of_getElem? (i := 1308) (by decide +kernel)⟩
theorem lw_p79 : lw_okq (⟨"BullStreetModel", "anyRuns", "(I)I"⟩, 36) := ⟨⟨by decide +kernel, by decide +kernel⟩, List.mem_of_getElem? (i := 810) (by decide +kernel), List.mem_of_getElem? (i := 1311) (by decide +kernel), List.mem_of_getElem? (i := 1312) (by decide +kernel)⟩
def lw_privs_5 : List (MethodName × Nat) := [(⟨"BullStreetModel", "isFree", "(I)Z"⟩, 36), (⟨"BullStreetModel", "harms", "()I"⟩, 36), (⟨"BullStreetModel", "harmTo", "(I)I"⟩, 36), (⟨"BullStreetModel", "sees", "(I)V"⟩, 36), (⟨"BullStreetModel", "heaps", "()V"⟩, 36), (⟨"BullStreetModel", "hurtsIn", "(IIII)I"⟩, 36), (⟨"BullStreetModel", "puts", "()V"⟩, 36), (⟨"BullStreetModel", "putsBack", "()V"⟩, 36), (⟨"BullStreetModel", "harmIn", "(I)I"⟩, 36), (⟨"BullStreetModel", "isHeapedBy", "(II)Z"⟩, 36), (⟨"BullStreetModel", "taking", "(II)I"⟩, 36), (⟨"BullStreetModel", "takes", "(I)V"⟩, 36), (⟨"BullStreetModel", "runsOf", "(I)I"⟩, 36), (⟨"BullStreetModel", "runningRuns", "(I)I"⟩, 36), (⟨"BullStreetModel", "ran", "(I)V"⟩, 36), (⟨"BullStreetModel", "anyRuns", "(I)I"⟩, 36)]
theorem lw_r5 : ∀ q ∈ lw_privs_5, lw_okq q := List.forall_mem_cons.mpr ⟨lw_p64, List.forall_mem_cons.mpr ⟨lw_p65, List.forall_mem_cons.mpr ⟨lw_p66, List.forall_mem_cons.mpr ⟨lw_p67, List.forall_mem_cons.mpr ⟨lw_p68, List.forall_mem_cons.mpr ⟨lw_p69, List.forall_mem_cons.mpr ⟨lw_p70, List.forall_mem_cons.mpr ⟨lw_p71, List.forall_mem_cons.mpr ⟨lw_p72, List.forall_mem_cons.mpr ⟨lw_p73, List.forall_mem_cons.mpr ⟨lw_p74, List.forall_mem_cons.mpr ⟨lw_p75, List.forall_mem_cons.mpr ⟨lw_p76, List.forall_mem_cons.mpr ⟨lw_p77, List.forall_mem_cons.mpr ⟨lw_p78, List.forall_mem_cons.mpr ⟨lw_p79, fun _ h => absurd h List.not_mem_nil⟩⟩⟩⟩⟩⟩⟩⟩⟩⟩⟩⟩⟩⟩⟩⟩
theorem lw_p80 : lw_okq (⟨"BullStreetModel", "seesOf", "(I)I"⟩, 36) := ⟨⟨by decide +kernel, by decide +kernel⟩, List.mem_of_getElem? (i := 810) (by decide +kernel), List.mem_of_getElem? (i := 1315) (by decide +kernel), List.mem_of_getElem? (i := 1316) (by decide +kernel)⟩
theorem lw_p81 : lw_okq (⟨"BullStreetModel", "standingSees", "(I)I"⟩, 36) := ⟨⟨by decide +kernel, by decide +kernel⟩, List.mem_of_getElem? (i := 810) (by decide +kernel), List.mem_of_getElem? (i := 1319) (by decide +kernel), List.mem_of_getElem? (i := 1320) (by decide +kernel)⟩
theorem lw_p82 : lw_okq (⟨"BullStreetModel", "anySees", "(I)I"⟩, 36) := ⟨⟨by decide +kernel, by decide +kernel⟩, List.mem_of_getElem? (i := 810) (by decide +kernel), List.mem_of_getElem? (i := 1323) (by decide +kernel), List.mem_of_getElem? (i := 1324) (by decide +kernel)⟩
theorem lw_p83 : lw_okq (⟨"BullStreetModel", "fallsOf", "(I)I"⟩, 36) := ⟨⟨by decide +kernel, by decide +kernel⟩, List.mem_of_getElem? (i := 810) (by decide +kernel), List.mem_of_getElem? (i := 1327) (by decide +kernel), List.mem_of_getElem? (i := 1328) (by decide +kernel)⟩
theorem lw_p84 : lw_okq (⟨"BullStreetModel", "fallenFalls", "(I)I"⟩, 36) := ⟨⟨by decide +kernel, by decide +kernel⟩, List.mem_of_getElem? (i := 810) (by decide +kernel), List.mem_of_getElem? (i := 1331) (by decide +kernel), List.mem_of_getElem? (i := 1332) (by decide +kernel)⟩
theorem lw_p85 : lw_okq (⟨"BullStreetModel", "anyFalls", "(I)I"⟩, 36) := ⟨⟨by decide +kernel, by decide +kernel⟩, List.mem_of_getElem? (i := 810) (by decide +kernel), List.mem_of_getElem? (i := 1335) (by decide +kernel), List.mem_of_getElem? (i := 1336) (by decide +kernel)⟩
theorem lw_p86 : lw_okq (⟨"BullStreetModel", "harmsOf", "(I)I"⟩, 36) := ⟨⟨by decide +kernel, by decide +kernel⟩, List.mem_of_getElem? (i := 810) (by decide +kernel), List.mem_of_getElem? (i := 1339) (by decide +kernel), List.mem_of_getElem? (i := 1340) (by decide +kernel)⟩
theorem lw_p87 : lw_okq (⟨"BullStreetModel", "anyHarms", "(I)I"⟩, 36) := ⟨⟨by decide +kernel, by decide +kernel⟩, List.mem_of_getElem? (i := 810) (by decide +kernel), List.mem_of_getElem? (i := 1343) (by decide +kernel), List.mem_of_getElem? (i := 1344) (by decide +kernel)⟩
def lw_privs_6 : List (MethodName × Nat) := [(⟨"BullStreetModel", "seesOf", "(I)I"⟩, 36), (⟨"BullStreetModel", "standingSees", "(I)I"⟩, 36), (⟨"BullStreetModel", "anySees", "(I)I"⟩, 36), (⟨"BullStreetModel", "fallsOf", "(I)I"⟩, 36), (⟨"BullStreetModel", "fallenFalls", "(I)I"⟩, 36), (⟨"BullStreetModel", "anyFalls", "(I)I"⟩, 36), (⟨"BullStreetModel", "harmsOf", "(I)I"⟩, 36), (⟨"BullStreetModel", "anyHarms", "(I)I"⟩, 36)]
theorem lw_r6 : ∀ q ∈ lw_privs_6, lw_okq q := List.forall_mem_cons.mpr ⟨lw_p80, List.forall_mem_cons.mpr ⟨lw_p81, List.forall_mem_cons.mpr ⟨lw_p82, List.forall_mem_cons.mpr ⟨lw_p83, List.forall_mem_cons.mpr ⟨lw_p84, List.forall_mem_cons.mpr ⟨lw_p85, List.forall_mem_cons.mpr ⟨lw_p86, List.forall_mem_cons.mpr ⟨lw_p87, fun _ h => absurd h List.not_mem_nil⟩⟩⟩⟩⟩⟩⟩⟩
def lw_privs : List (MethodName × Nat) := lw_privs_1 ++ (lw_privs_2 ++ (lw_privs_3 ++ (lw_privs_4 ++ (lw_privs_5 ++ (lw_privs_6)))))
def lw_tbl : List Cond := k2_sels lw_privs ++ tables_1
theorem lw_privs_ok : ∀ q ∈ lw_privs, lw_okq q := by
  show ∀ q ∈ lw_privs_1 ++ (lw_privs_2 ++ (lw_privs_3 ++ (lw_privs_4 ++ (lw_privs_5 ++ (lw_privs_6))))), lw_okq q
  exact List.forall_mem_append.mpr ⟨lw_r1, List.forall_mem_append.mpr ⟨lw_r2, List.forall_mem_append.mpr ⟨lw_r3, List.forall_mem_append.mpr ⟨lw_r4, List.forall_mem_append.mpr ⟨lw_r5, lw_r6⟩⟩⟩⟩⟩

def RX0 : String := "BullStreet$Bodies"
def TX0 : u_T := fun k => match k with
  | 0 => ("BullStreet$Bodies", "count", "I", false)
  | 1 => ("BullStreet$Bodies", "ran", "[I", true)
  | 2 => ("BullStreet$Bodies", "kind", "I", false)
  | 3 => ("BullStreet$Bodies", "n", "I", false)
  | 4 => ("BullStreet$Bodies", "a", "I", false)
  | _ => ("BullStreet$Bodies", "parted", "Z", false)
def tyX0 : Nat → FieldType := fun k => match k with
  | 0 => .int
  | 1 => .array .int
  | 2 => .int
  | 3 => .int
  | 4 => .int
  | _ => .boolean
abbrev wsX00 : List Cond := u_ws RX0 TX0 6
theorem nmX0 : ∀ a, a < 6 → ∀ b, b < 6 → a ≠ b → (TX0 a).2.1 ≠ (TX0 b).2.1 := by decide +kernel
theorem tyX0_ok : ∀ k, k < 6 → parseFieldDescriptor (TX0 k).2.2.1 = some (tyX0 k) := by decide +kernel
def RX1 : String := "BullStreet$Laws"
def TX1 : u_T := fun k => match k with
  | 0 => ("BullStreet$Laws", "count", "I", true)
  | 1 => ("BullStreet$Laws", "who", "[I", true)
  | 2 => ("BullStreet$Laws", "acts", "[I", true)
  | 3 => ("BullStreet$Laws", "ends", "[I", true)
  | _ => ("BullStreet$Laws", "steps", "[I", true)
def tyX1 : Nat → FieldType := fun k => match k with
  | 0 => .int
  | 1 => .array .int
  | 2 => .array .int
  | 3 => .array .int
  | _ => .array .int
abbrev wsX10 : List Cond := u_ws RX1 TX1 5
theorem nmX1 : ∀ a, a < 5 → ∀ b, b < 5 → a ≠ b → (TX1 a).2.1 ≠ (TX1 b).2.1 := by decide +kernel
theorem tyX1_ok : ∀ k, k < 5 → parseFieldDescriptor (TX1 k).2.2.1 = some (tyX1 k) := by decide +kernel
def RX2 : String := "BullStreet$Reader"
def TX2 : u_T := fun k => match k with
  | 0 => ("BullStreet$Reader", "tokens", "[I", true)
  | 1 => ("BullStreet$Reader", "places", "[I", true)
  | 2 => ("BullStreet$Reader", "lengths", "[I", true)
  | 3 => ("BullStreet$Reader", "count", "I", false)
  | 4 => ("BullStreet$Reader", "at", "I", false)
  | 5 => ("BullStreet$Reader", "who", "[I", true)
  | 6 => ("BullStreet$Reader", "acts", "[I", true)
  | 7 => ("BullStreet$Reader", "ends", "[I", true)
  | 8 => ("BullStreet$Reader", "steps", "[I", true)
  | 9 => ("BullStreet$Reader", "clauses", "I", false)
  | _ => ("BullStreet$Reader", "used", "I", false)
def tyX2 : Nat → FieldType := fun k => match k with
  | 0 => .array .int
  | 1 => .array .int
  | 2 => .array .int
  | 3 => .int
  | 4 => .int
  | 5 => .array .int
  | 6 => .array .int
  | 7 => .array .int
  | 8 => .array .int
  | 9 => .int
  | _ => .int
abbrev wsX20 : List Cond := u_ws RX2 TX2 11
theorem nmX2 : ∀ a, a < 11 → ∀ b, b < 11 → a ≠ b → (TX2 a).2.1 ≠ (TX2 b).2.1 := by decide +kernel
theorem tyX2_ok : ∀ k, k < 11 → parseFieldDescriptor (TX2 k).2.2.1 = some (tyX2 k) := by decide +kernel
def RX3 : String := "BullStreet$Rows"
def TX3 : u_T := fun k => match k with
  | 0 => ("BullStreet$Rows", "count", "I", false)
  | _ => ("BullStreet$Rows", "parts", "[[I", true)
def tyX3 : Nat → FieldType := fun k => match k with
  | 0 => .int
  | _ => .array (.array .int)
abbrev wsX30 : List Cond := u_ws RX3 TX3 2
theorem nmX3 : ∀ a, a < 2 → ∀ b, b < 2 → a ≠ b → (TX3 a).2.1 ≠ (TX3 b).2.1 := by decide +kernel
theorem tyX3_ok : ∀ k, k < 2 → parseFieldDescriptor (TX3 k).2.2.1 = some (tyX3 k) := by decide +kernel
def RX4 : String := "BullStreet$Sheet"
def TX4 : u_T := fun k => match k with
  | 0 => ("BullStreet$Sheet", "sort", "I", true)
  | _ => ("BullStreet$Sheet", "items", "[I", true)
def tyX4 : Nat → FieldType := fun k => match k with
  | 0 => .int
  | _ => .array .int
abbrev wsX40 : List Cond := u_ws RX4 TX4 2
theorem nmX4 : ∀ a, a < 2 → ∀ b, b < 2 → a ≠ b → (TX4 a).2.1 ≠ (TX4 b).2.1 := by decide +kernel
theorem tyX4_ok : ∀ k, k < 2 → parseFieldDescriptor (TX4 k).2.2.1 = some (tyX4 k) := by decide +kernel
def RX5 : String := "BullStreet$Street"
def TX5 : u_T := fun k => match k with
  | 0 => ("BullStreet$Street", "cells", "I", false)
  | 1 => ("BullStreet$Street", "traits", "[[I", true)
  | 2 => ("BullStreet$Street", "crowd", "[I", true)
  | 3 => ("BullStreet$Street", "down", "[I", true)
  | 4 => ("BullStreet$Street", "people", "I", false)
  | 5 => ("BullStreet$Street", "kind", "[I", true)
  | 6 => ("BullStreet$Street", "place", "[I", true)
  | 7 => ("BullStreet$Street", "pace", "[I", true)
  | 8 => ("BullStreet$Street", "hurts", "[I", true)
  | 9 => ("BullStreet$Street", "beasts", "I", false)
  | 10 => ("BullStreet$Street", "beastPlace", "[I", true)
  | 11 => ("BullStreet$Street", "beastPace", "[I", true)
  | 12 => ("BullStreet$Street", "alone", "[I", true)
  | 13 => ("BullStreet$Street", "rules", "[I", true)
  | 14 => ("BullStreet$Street", "tick", "I", false)
  | 15 => ("BullStreet$Street", "z", "I", false)
  | 16 => ("BullStreet$Street", "laws", "LBullStreet$Laws;", false)
  | 17 => ("BullStreet$Street", "without", "I", false)
  | _ => ("BullStreet$Street", "facts", "[I", true)
def tyX5 : Nat → FieldType := fun k => match k with
  | 0 => .int
  | 1 => .array (.array .int)
  | 2 => .array .int
  | 3 => .array .int
  | 4 => .int
  | 5 => .array .int
  | 6 => .array .int
  | 7 => .array .int
  | 8 => .array .int
  | 9 => .int
  | 10 => .array .int
  | 11 => .array .int
  | 12 => .array .int
  | 13 => .array .int
  | 14 => .int
  | 15 => .int
  | 16 => .object "BullStreet$Laws"
  | 17 => .int
  | _ => .array .int
abbrev wsX50 : List Cond := u_ws RX5 TX5 19
theorem nmX5 : ∀ a, a < 19 → ∀ b, b < 19 → a ≠ b → (TX5 a).2.1 ≠ (TX5 b).2.1 := by decide +kernel
theorem tyX5_ok : ∀ k, k < 19 → parseFieldDescriptor (TX5 k).2.2.1 = some (tyX5 k) := by decide +kernel
def RX6 : String := "BullStreet"
def TX6 : u_T := fun k => match k with
  | 0 => ("BullStreet", "now", "LBullStreet$Street;", true)
  | 1 => ("BullStreet", "trial", "LBullStreet$Street;", true)
  | 2 => ("BullStreet", "kept", "LBullStreet$Street;", true)
  | 3 => ("BullStreet", "isKept", "Z", false)
  | 4 => ("BullStreet", "tape", "[B", true)
  | 5 => ("BullStreet", "tapeLength", "I", false)
  | 6 => ("BullStreet", "reader", "LBullStreet$Reader;", true)
  | 7 => ("BullStreet", "rows", "LBullStreet$Rows;", true)
  | 8 => ("BullStreet", "proof", "LBullStreet$Rows;", true)
  | 9 => ("BullStreet", "sheets", "[LBullStreet$Sheet;", true)
  | 10 => ("BullStreet", "shelfRows", "[LBullStreet$Sheet;", true)
  | 11 => ("BullStreet", "shelfWhat", "[I", true)
  | 12 => ("BullStreet", "shelfNumber", "[I", true)
  | _ => ("BullStreet", "bodies", "LBullStreet$Bodies;", true)
def tyX6 : Nat → FieldType := fun k => match k with
  | 0 => .object "BullStreet$Street"
  | 1 => .object "BullStreet$Street"
  | 2 => .object "BullStreet$Street"
  | 3 => .boolean
  | 4 => .array .byte
  | 5 => .int
  | 6 => .object "BullStreet$Reader"
  | 7 => .object "BullStreet$Rows"
  | 8 => .object "BullStreet$Rows"
  | 9 => .array (.object "BullStreet$Sheet")
  | 10 => .array (.object "BullStreet$Sheet")
  | 11 => .array .int
  | 12 => .array .int
  | _ => .object "BullStreet$Bodies"
abbrev wsX60 : List Cond := u_ws RX6 TX6 14
theorem nmX6 : ∀ a, a < 14 → ∀ b, b < 14 → a ≠ b → (TX6 a).2.1 ≠ (TX6 b).2.1 := by decide +kernel
theorem tyX6_ok : ∀ k, k < 14 → parseFieldDescriptor (TX6 k).2.2.1 = some (tyX6 k) := by decide +kernel
def RX7 : String := "BullStreetModel"
def TX7 : u_T := fun k => match k with
  | 0 => ("BullStreetModel", "s", "[I", true)
  | 1 => ("BullStreetModel", "keptS", "[I", true)
  | 2 => ("BullStreetModel", "other", "[I", true)
  | 3 => ("BullStreetModel", "isKept", "Z", false)
  | 4 => ("BullStreetModel", "tape", "[I", true)
  | 5 => ("BullStreetModel", "code", "[I", true)
  | 6 => ("BullStreetModel", "clause", "[I", true)
  | 7 => ("BullStreetModel", "taped", "I", false)
  | 8 => ("BullStreetModel", "from", "I", false)
  | 9 => ("BullStreetModel", "to", "I", false)
  | 10 => ("BullStreetModel", "open", "I", false)
  | 11 => ("BullStreetModel", "steps", "I", false)
  | 12 => ("BullStreetModel", "clauseMany", "I", false)
  | 13 => ("BullStreetModel", "isWrong", "Z", false)
  | 14 => ("BullStreetModel", "pile", "[I", true)
  | 15 => ("BullStreetModel", "without", "I", false)
  | 16 => ("BullStreetModel", "seen", "[I", true)
  | 17 => ("BullStreetModel", "wanted", "I", false)
  | 18 => ("BullStreetModel", "seenMany", "I", false)
  | 19 => ("BullStreetModel", "tenth", "I", false)
  | 20 => ("BullStreetModel", "isJudged", "Z", false)
  | 21 => ("BullStreetModel", "wrongRow", "I", false)
  | 22 => ("BullStreetModel", "rows", "[I", true)
  | 23 => ("BullStreetModel", "rowMany", "I", false)
  | 24 => ("BullStreetModel", "sortOf", "[I", true)
  | 25 => ("BullStreetModel", "sizeOf", "[I", true)
  | 26 => ("BullStreetModel", "item", "[I", true)
  | 27 => ("BullStreetModel", "shelfWhat", "[I", true)
  | 28 => ("BullStreetModel", "shelfThing", "[I", true)
  | 29 => ("BullStreetModel", "shelfSize", "[I", true)
  | 30 => ("BullStreetModel", "kind", "I", false)
  | 31 => ("BullStreetModel", "number", "I", false)
  | 32 => ("BullStreetModel", "about", "I", false)
  | 33 => ("BullStreetModel", "traced", "[I", true)
  | 34 => ("BullStreetModel", "bodies", "I", false)
  | _ => ("BullStreetModel", "isParted", "Z", false)
def tyX7 : Nat → FieldType := fun k => match k with
  | 0 => .array .int
  | 1 => .array .int
  | 2 => .array .int
  | 3 => .boolean
  | 4 => .array .int
  | 5 => .array .int
  | 6 => .array .int
  | 7 => .int
  | 8 => .int
  | 9 => .int
  | 10 => .int
  | 11 => .int
  | 12 => .int
  | 13 => .boolean
  | 14 => .array .int
  | 15 => .int
  | 16 => .array .int
  | 17 => .int
  | 18 => .int
  | 19 => .int
  | 20 => .boolean
  | 21 => .int
  | 22 => .array .int
  | 23 => .int
  | 24 => .array .int
  | 25 => .array .int
  | 26 => .array .int
  | 27 => .array .int
  | 28 => .array .int
  | 29 => .array .int
  | 30 => .int
  | 31 => .int
  | 32 => .int
  | 33 => .array .int
  | 34 => .int
  | _ => .boolean
abbrev wsX70 : List Cond := u_ws RX7 TX7 36
theorem nmX7 : ∀ a, a < 36 → ∀ b, b < 36 → a ≠ b → (TX7 a).2.1 ≠ (TX7 b).2.1 := by decide +kernel
theorem tyX7_ok : ∀ k, k < 36 → parseFieldDescriptor (TX7 k).2.2.1 = some (tyX7 k) := by decide +kernel
abbrev vwCl : List vw_C := [(RX0, TX0, 6), (RX1, TX1, 5), (RX2, TX2, 11), (RX3, TX3, 2), (RX4, TX4, 2), (RX5, TX5, 19), (RX6, TX6, 14), (RX7, TX7, 36)]
