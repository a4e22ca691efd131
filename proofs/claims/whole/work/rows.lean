section
-- ===== PART A: goes FIRST, ahead of the names: the tables' words, and 'selects' of the private methods out of them =====
/-- a private method of a class that the tables say can be made, by its rows of tables_1 -/
def lw_okq (q : MethodName × Nat) : Prop := (q.1.cls ≠ "java/lang/invoke/MethodHandle" ∧ q.1.cls ≠ "java/lang/invoke/VarHandle") ∧ Cond.instantiable q.1.cls q.2 ∈ tables_1 ∧ Cond.privateMethod q.1 ∈ tables_1 ∧ Cond.instanceMethod q.1 ∈ tables_1
theorem lw_p0 : lw_okq (⟨"OneBench", "found", "(I)I"⟩, 14) := ⟨⟨by decide +kernel, by decide +kernel⟩, List.mem_of_getElem? (i := 16) (by decide +kernel), List.mem_of_getElem? (i := 242) (by decide +kernel), List.mem_of_getElem? (i := 243) (by decide +kernel)⟩
theorem lw_p1 : lw_okq (⟨"OneBench$Row", "begin", "(II)V"⟩, 4) := ⟨⟨by decide +kernel, by decide +kernel⟩, List.mem_of_getElem? (i := 168) (by decide +kernel), List.mem_of_getElem? (i := 247) (by decide +kernel), List.mem_of_getElem? (i := 248) (by decide +kernel)⟩
theorem lw_p2 : lw_okq (⟨"OneBench", "unfound", "(I)I"⟩, 14) := ⟨⟨by decide +kernel, by decide +kernel⟩, List.mem_of_getElem? (i := 16) (by decide +kernel), List.mem_of_getElem? (i := 254) (by decide +kernel), List.mem_of_getElem? (i := 255) (by decide +kernel)⟩
theorem lw_p3 : lw_okq (⟨"OneBench$Row", "cutToLane", "(I)I"⟩, 4) := ⟨⟨by decide +kernel, by decide +kernel⟩, List.mem_of_getElem? (i := 168) (by decide +kernel), List.mem_of_getElem? (i := 262) (by decide +kernel), List.mem_of_getElem? (i := 263) (by decide +kernel)⟩
theorem lw_p4 : lw_okq (⟨"OneBench$Row", "has", "(II)Z"⟩, 4) := ⟨⟨by decide +kernel, by decide +kernel⟩, List.mem_of_getElem? (i := 168) (by decide +kernel), List.mem_of_getElem? (i := 270) (by decide +kernel), List.mem_of_getElem? (i := 271) (by decide +kernel)⟩
theorem lw_p5 : lw_okq (⟨"OneBench$Reader", "take", "(B)V"⟩, 8) := ⟨⟨by decide +kernel, by decide +kernel⟩, List.mem_of_getElem? (i := 26) (by decide +kernel), List.mem_of_getElem? (i := 286) (by decide +kernel), List.mem_of_getElem? (i := 287) (by decide +kernel)⟩
theorem lw_p6 : lw_okq (⟨"OneBench$Reader", "readInto", "(LOneBench$Garden;)Z"⟩, 8) := ⟨⟨by decide +kernel, by decide +kernel⟩, List.mem_of_getElem? (i := 26) (by decide +kernel), List.mem_of_getElem? (i := 294) (by decide +kernel), List.mem_of_getElem? (i := 295) (by decide +kernel)⟩
theorem lw_p7 : lw_okq (⟨"OneBench$Garden", "clear", "()V"⟩, 15) := ⟨⟨by decide +kernel, by decide +kernel⟩, List.mem_of_getElem? (i := 88) (by decide +kernel), List.mem_of_getElem? (i := 298) (by decide +kernel), List.mem_of_getElem? (i := 299) (by decide +kernel)⟩
theorem lw_p8 : lw_okq (⟨"OneBench$Reader", "advance", "()V"⟩, 8) := ⟨⟨by decide +kernel, by decide +kernel⟩, List.mem_of_getElem? (i := 26) (by decide +kernel), List.mem_of_getElem? (i := 303) (by decide +kernel), List.mem_of_getElem? (i := 304) (by decide +kernel)⟩
theorem lw_p9 : lw_okq (⟨"OneBench$Reader", "passLetters", "()V"⟩, 8) := ⟨⟨by decide +kernel, by decide +kernel⟩, List.mem_of_getElem? (i := 26) (by decide +kernel), List.mem_of_getElem? (i := 313) (by decide +kernel), List.mem_of_getElem? (i := 314) (by decide +kernel)⟩
theorem lw_p10 : lw_okq (⟨"OneBench$Reader", "passFigures", "()V"⟩, 8) := ⟨⟨by decide +kernel, by decide +kernel⟩, List.mem_of_getElem? (i := 26) (by decide +kernel), List.mem_of_getElem? (i := 320) (by decide +kernel), List.mem_of_getElem? (i := 321) (by decide +kernel)⟩
theorem lw_p11 : lw_okq (⟨"OneBench$Reader", "readGround", "(LOneBench$Garden;)Z"⟩, 8) := ⟨⟨by decide +kernel, by decide +kernel⟩, List.mem_of_getElem? (i := 26) (by decide +kernel), List.mem_of_getElem? (i := 324) (by decide +kernel), List.mem_of_getElem? (i := 325) (by decide +kernel)⟩
theorem lw_p12 : lw_okq (⟨"OneBench$Reader", "passWord", "(Ljava/lang/String;)Z"⟩, 8) := ⟨⟨by decide +kernel, by decide +kernel⟩, List.mem_of_getElem? (i := 26) (by decide +kernel), List.mem_of_getElem? (i := 329) (by decide +kernel), List.mem_of_getElem? (i := 330) (by decide +kernel)⟩
theorem lw_p13 : lw_okq (⟨"OneBench$Reader", "isWord", "(Ljava/lang/String;)Z"⟩, 8) := ⟨⟨by decide +kernel, by decide +kernel⟩, List.mem_of_getElem? (i := 26) (by decide +kernel), List.mem_of_getElem? (i := 333) (by decide +kernel), List.mem_of_getElem? (i := 334) (by decide +kernel)⟩
theorem lw_p14 : lw_okq (⟨"OneBench$Reader", "refuse", "(I)Z"⟩, 8) := ⟨⟨by decide +kernel, by decide +kernel⟩, List.mem_of_getElem? (i := 26) (by decide +kernel), List.mem_of_getElem? (i := 385) (by decide +kernel), List.mem_of_getElem? (i := 386) (by decide +kernel)⟩
theorem lw_p15 : lw_okq (⟨"OneBench$Reader", "isNumber", "(II)Z"⟩, 8) := ⟨⟨by decide +kernel, by decide +kernel⟩, List.mem_of_getElem? (i := 26) (by decide +kernel), List.mem_of_getElem? (i := 389) (by decide +kernel), List.mem_of_getElem? (i := 390) (by decide +kernel)⟩
def lw_privs_1 : List (MethodName × Nat) := [(⟨"OneBench", "found", "(I)I"⟩, 14), (⟨"OneBench$Row", "begin", "(II)V"⟩, 4), (⟨"OneBench", "unfound", "(I)I"⟩, 14), (⟨"OneBench$Row", "cutToLane", "(I)I"⟩, 4), (⟨"OneBench$Row", "has", "(II)Z"⟩, 4), (⟨"OneBench$Reader", "take", "(B)V"⟩, 8), (⟨"OneBench$Reader", "readInto", "(LOneBench$Garden;)Z"⟩, 8), (⟨"OneBench$Garden", "clear", "()V"⟩, 15), (⟨"OneBench$Reader", "advance", "()V"⟩, 8), (⟨"OneBench$Reader", "passLetters", "()V"⟩, 8), (⟨"OneBench$Reader", "passFigures", "()V"⟩, 8), (⟨"OneBench$Reader", "readGround", "(LOneBench$Garden;)Z"⟩, 8), (⟨"OneBench$Reader", "passWord", "(Ljava/lang/String;)Z"⟩, 8), (⟨"OneBench$Reader", "isWord", "(Ljava/lang/String;)Z"⟩, 8), (⟨"OneBench$Reader", "refuse", "(I)Z"⟩, 8), (⟨"OneBench$Reader", "isNumber", "(II)Z"⟩, 8)]
theorem lw_r1 : ∀ q ∈ lw_privs_1, lw_okq q := List.forall_mem_cons.mpr ⟨lw_p0, List.forall_mem_cons.mpr ⟨lw_p1, List.forall_mem_cons.mpr ⟨lw_p2, List.forall_mem_cons.mpr ⟨lw_p3, List.forall_mem_cons.mpr ⟨lw_p4, List.forall_mem_cons.mpr ⟨lw_p5, List.forall_mem_cons.mpr ⟨lw_p6, List.forall_mem_cons.mpr ⟨lw_p7, List.forall_mem_cons.mpr ⟨lw_p8, List.forall_mem_cons.mpr ⟨lw_p9, List.forall_mem_cons.mpr ⟨lw_p10, List.forall_mem_cons.mpr ⟨lw_p11, List.forall_mem_cons.mpr ⟨lw_p12, List.forall_mem_cons.mpr ⟨lw_p13, List.forall_mem_cons.mpr ⟨lw_p14, List.forall_mem_cons.mpr ⟨lw_p15, fun _ h => absurd h List.not_mem_nil⟩⟩⟩⟩⟩⟩⟩⟩⟩⟩⟩⟩⟩⟩⟩⟩
theorem lw_p16 : lw_okq (⟨"OneBench$Reader", "pass", "()I"⟩, 8) := ⟨⟨by decide +kernel, by decide +kernel⟩, List.mem_of_getElem? (i := 26) (by decide +kernel), List.mem_of_getElem? (i := 393) (by decide +kernel), List.mem_of_getElem? (i := 394) (by decide +kernel)⟩
theorem lw_p17 : lw_okq (⟨"OneBench$Reader", "passSign", "()Z"⟩, 8) := ⟨⟨by decide +kernel, by decide +kernel⟩, List.mem_of_getElem? (i := 26) (by decide +kernel), List.mem_of_getElem? (i := 397) (by decide +kernel), List.mem_of_getElem? (i := 398) (by decide +kernel)⟩
theorem lw_p18 : lw_okq (⟨"OneBench$Reader", "readLake", "(LOneBench$Garden;)Z"⟩, 8) := ⟨⟨by decide +kernel, by decide +kernel⟩, List.mem_of_getElem? (i := 26) (by decide +kernel), List.mem_of_getElem? (i := 402) (by decide +kernel), List.mem_of_getElem? (i := 403) (by decide +kernel)⟩
theorem lw_p19 : lw_okq (⟨"OneBench$Reader", "readTree", "(LOneBench$Garden;)Z"⟩, 8) := ⟨⟨by decide +kernel, by decide +kernel⟩, List.mem_of_getElem? (i := 26) (by decide +kernel), List.mem_of_getElem? (i := 407) (by decide +kernel), List.mem_of_getElem? (i := 408) (by decide +kernel)⟩
theorem lw_p20 : lw_okq (⟨"OneBench$Reader", "sortTold", "()I"⟩, 8) := ⟨⟨by decide +kernel, by decide +kernel⟩, List.mem_of_getElem? (i := 26) (by decide +kernel), List.mem_of_getElem? (i := 411) (by decide +kernel), List.mem_of_getElem? (i := 412) (by decide +kernel)⟩
theorem lw_p21 : lw_okq (⟨"OneBench$Garden", "treeAt", "(I)I"⟩, 15) := ⟨⟨by decide +kernel, by decide +kernel⟩, List.mem_of_getElem? (i := 88) (by decide +kernel), List.mem_of_getElem? (i := 421) (by decide +kernel), List.mem_of_getElem? (i := 422) (by decide +kernel)⟩
theorem lw_p22 : lw_okq (⟨"OneBench$Garden", "addTree", "(IIII)V"⟩, 15) := ⟨⟨by decide +kernel, by decide +kernel⟩, List.mem_of_getElem? (i := 88) (by decide +kernel), List.mem_of_getElem? (i := 425) (by decide +kernel), List.mem_of_getElem? (i := 426) (by decide +kernel)⟩
theorem lw_p23 : lw_okq (⟨"OneBench$Reader", "readThing", "(LOneBench$Garden;)Z"⟩, 8) := ⟨⟨by decide +kernel, by decide +kernel⟩, List.mem_of_getElem? (i := 26) (by decide +kernel), List.mem_of_getElem? (i := 430) (by decide +kernel), List.mem_of_getElem? (i := 431) (by decide +kernel)⟩
theorem lw_p24 : lw_okq (⟨"OneBench$Garden", "addThing", "(IIZ)V"⟩, 15) := ⟨⟨by decide +kernel, by decide +kernel⟩, List.mem_of_getElem? (i := 88) (by decide +kernel), List.mem_of_getElem? (i := 436) (by decide +kernel), List.mem_of_getElem? (i := 437) (by decide +kernel)⟩
theorem lw_p25 : lw_okq (⟨"OneBench", "keepDay", "()V"⟩, 14) := ⟨⟨by decide +kernel, by decide +kernel⟩, List.mem_of_getElem? (i := 16) (by decide +kernel), List.mem_of_getElem? (i := 450) (by decide +kernel), List.mem_of_getElem? (i := 451) (by decide +kernel)⟩
theorem lw_p26 : lw_okq (⟨"OneBench$Garden", "becomes", "(LOneBench$Garden;)V"⟩, 15) := ⟨⟨by decide +kernel, by decide +kernel⟩, List.mem_of_getElem? (i := 88) (by decide +kernel), List.mem_of_getElem? (i := 454) (by decide +kernel), List.mem_of_getElem? (i := 455) (by decide +kernel)⟩
theorem lw_p27 : lw_okq (⟨"OneBench$Garden", "hasTree", "(I)Z"⟩, 15) := ⟨⟨by decide +kernel, by decide +kernel⟩, List.mem_of_getElem? (i := 88) (by decide +kernel), List.mem_of_getElem? (i := 470) (by decide +kernel), List.mem_of_getElem? (i := 471) (by decide +kernel)⟩
theorem lw_p28 : lw_okq (⟨"OneBench$Garden", "mayBeCut", "(I)Z"⟩, 15) := ⟨⟨by decide +kernel, by decide +kernel⟩, List.mem_of_getElem? (i := 88) (by decide +kernel), List.mem_of_getElem? (i := 474) (by decide +kernel), List.mem_of_getElem? (i := 475) (by decide +kernel)⟩
theorem lw_p29 : lw_okq (⟨"OneBench$Garden", "heightNow", "(I)I"⟩, 15) := ⟨⟨by decide +kernel, by decide +kernel⟩, List.mem_of_getElem? (i := 88) (by decide +kernel), List.mem_of_getElem? (i := 479) (by decide +kernel), List.mem_of_getElem? (i := 480) (by decide +kernel)⟩
theorem lw_p30 : lw_okq (⟨"OneBench$Garden", "heightIn", "(IIZ)I"⟩, 15) := ⟨⟨by decide +kernel, by decide +kernel⟩, List.mem_of_getElem? (i := 88) (by decide +kernel), List.mem_of_getElem? (i := 483) (by decide +kernel), List.mem_of_getElem? (i := 484) (by decide +kernel)⟩
theorem lw_p31 : lw_okq (⟨"OneBench$Sight", "lookNow", "(LOneBench$Garden;)V"⟩, 1) := ⟨⟨by decide +kernel, by decide +kernel⟩, List.mem_of_getElem? (i := 61) (by decide +kernel), List.mem_of_getElem? (i := 516) (by decide +kernel), List.mem_of_getElem? (i := 517) (by decide +kernel)⟩
def lw_privs_2 : List (MethodName × Nat) := [(⟨"OneBench$Reader", "pass", "()I"⟩, 8), (⟨"OneBench$Reader", "passSign", "()Z"⟩, 8), (⟨"OneBench$Reader", "readLake", "(LOneBench$Garden;)Z"⟩, 8), (⟨"OneBench$Reader", "readTree", "(LOneBench$Garden;)Z"⟩, 8), (⟨"OneBench$Reader", "sortTold", "()I"⟩, 8), (⟨"OneBench$Garden", "treeAt", "(I)I"⟩, 15), (⟨"OneBench$Garden", "addTree", "(IIII)V"⟩, 15), (⟨"OneBench$Reader", "readThing", "(LOneBench$Garden;)Z"⟩, 8), (⟨"OneBench$Garden", "addThing", "(IIZ)V"⟩, 15), (⟨"OneBench", "keepDay", "()V"⟩, 14), (⟨"OneBench$Garden", "becomes", "(LOneBench$Garden;)V"⟩, 15), (⟨"OneBench$Garden", "hasTree", "(I)Z"⟩, 15), (⟨"OneBench$Garden", "mayBeCut", "(I)Z"⟩, 15), (⟨"OneBench$Garden", "heightNow", "(I)I"⟩, 15), (⟨"OneBench$Garden", "heightIn", "(IIZ)I"⟩, 15), (⟨"OneBench$Sight", "lookNow", "(LOneBench$Garden;)V"⟩, 1)]
theorem lw_r2 : ∀ q ∈ lw_privs_2, lw_okq q := List.forall_mem_cons.mpr ⟨lw_p16, List.forall_mem_cons.mpr ⟨lw_p17, List.forall_mem_cons.mpr ⟨lw_p18, List.forall_mem_cons.mpr ⟨lw_p19, List.forall_mem_cons.mpr ⟨lw_p20, List.forall_mem_cons.mpr ⟨lw_p21, List.forall_mem_cons.mpr ⟨lw_p22, List.forall_mem_cons.mpr ⟨lw_p23, List.forall_mem_cons.mpr ⟨lw_p24, List.forall_mem_cons.mpr ⟨lw_p25, List.forall_mem_cons.mpr ⟨lw_p26, List.forall_mem_cons.mpr ⟨lw_p27, List.forall_mem_cons.mpr ⟨lw_p28, List.forall_mem_cons.mpr ⟨lw_p29, List.forall_mem_cons.mpr ⟨lw_p30, List.forall_mem_cons.mpr ⟨lw_p31, fun _ h => absurd h List.not_mem_nil⟩⟩⟩⟩⟩⟩⟩⟩⟩⟩⟩⟩⟩⟩⟩⟩
theorem lw_p32 : lw_okq (⟨"OneBench$Sight", "look", "(LOneBench$Garden;IZ)V"⟩, 1) := ⟨⟨by decide +kernel, by decide +kernel⟩, List.mem_of_getElem? (i := 61) (by decide +kernel), List.mem_of_getElem? (i := 520) (by decide +kernel), List.mem_of_getElem? (i := 521) (by decide +kernel)⟩
theorem lw_p33 : lw_okq (⟨"OneBench$Sight", "raise", "(II)V"⟩, 1) := ⟨⟨by decide +kernel, by decide +kernel⟩, List.mem_of_getElem? (i := 61) (by decide +kernel), List.mem_of_getElem? (i := 526) (by decide +kernel), List.mem_of_getElem? (i := 527) (by decide +kernel)⟩
theorem lw_p34 : lw_okq (⟨"OneBench$Sight", "thingsFrom", "(LOneBench$Garden;II)I"⟩, 1) := ⟨⟨by decide +kernel, by decide +kernel⟩, List.mem_of_getElem? (i := 61) (by decide +kernel), List.mem_of_getElem? (i := 537) (by decide +kernel), List.mem_of_getElem? (i := 538) (by decide +kernel)⟩
theorem lw_p35 : lw_okq (⟨"OneBench$Sight", "isSeen", "(LOneBench$Garden;III)Z"⟩, 1) := ⟨⟨by decide +kernel, by decide +kernel⟩, List.mem_of_getElem? (i := 61) (by decide +kernel), List.mem_of_getElem? (i := 541) (by decide +kernel), List.mem_of_getElem? (i := 542) (by decide +kernel)⟩
theorem lw_p36 : lw_okq (⟨"OneBench$Garden", "topOf", "(I)I"⟩, 15) := ⟨⟨by decide +kernel, by decide +kernel⟩, List.mem_of_getElem? (i := 88) (by decide +kernel), List.mem_of_getElem? (i := 545) (by decide +kernel), List.mem_of_getElem? (i := 546) (by decide +kernel)⟩
theorem lw_p37 : lw_okq (⟨"OneBench$Sight", "isFree", "(IIII)Z"⟩, 1) := ⟨⟨by decide +kernel, by decide +kernel⟩, List.mem_of_getElem? (i := 61) (by decide +kernel), List.mem_of_getElem? (i := 549) (by decide +kernel), List.mem_of_getElem? (i := 550) (by decide +kernel)⟩
theorem lw_p38 : lw_okq (⟨"OneBench$Sight", "isDoubled", "(LOneBench$Garden;II)Z"⟩, 1) := ⟨⟨by decide +kernel, by decide +kernel⟩, List.mem_of_getElem? (i := 61) (by decide +kernel), List.mem_of_getElem? (i := 558) (by decide +kernel), List.mem_of_getElem? (i := 559) (by decide +kernel)⟩
theorem lw_p39 : lw_okq (⟨"OneBench$Sight", "wantsAreMet", "(LOneBench$Garden;I)Z"⟩, 1) := ⟨⟨by decide +kernel, by decide +kernel⟩, List.mem_of_getElem? (i := 61) (by decide +kernel), List.mem_of_getElem? (i := 569) (by decide +kernel), List.mem_of_getElem? (i := 570) (by decide +kernel)⟩
theorem lw_p40 : lw_okq (⟨"OneBench", "leastCut", "(II)I"⟩, 14) := ⟨⟨by decide +kernel, by decide +kernel⟩, List.mem_of_getElem? (i := 16) (by decide +kernel), List.mem_of_getElem? (i := 577) (by decide +kernel), List.mem_of_getElem? (i := 578) (by decide +kernel)⟩
theorem lw_p41 : lw_okq (⟨"OneBench$Sight", "wantsAreMetForAll", "(LOneBench$Garden;I)Z"⟩, 1) := ⟨⟨by decide +kernel, by decide +kernel⟩, List.mem_of_getElem? (i := 61) (by decide +kernel), List.mem_of_getElem? (i := 587) (by decide +kernel), List.mem_of_getElem? (i := 588) (by decide +kernel)⟩
theorem lw_p42 : lw_okq (⟨"OneBench$Garden", "hasThings", "(I)Z"⟩, 15) := ⟨⟨by decide +kernel, by decide +kernel⟩, List.mem_of_getElem? (i := 88) (by decide +kernel), List.mem_of_getElem? (i := 607) (by decide +kernel), List.mem_of_getElem? (i := 608) (by decide +kernel)⟩
theorem lw_p43 : lw_okq (⟨"OneBench", "placesSeeing", "(III)I"⟩, 14) := ⟨⟨by decide +kernel, by decide +kernel⟩, List.mem_of_getElem? (i := 16) (by decide +kernel), List.mem_of_getElem? (i := 611) (by decide +kernel), List.mem_of_getElem? (i := 612) (by decide +kernel)⟩
theorem lw_p44 : lw_okq (⟨"OneBench", "leastHider", "(II)I"⟩, 14) := ⟨⟨by decide +kernel, by decide +kernel⟩, List.mem_of_getElem? (i := 16) (by decide +kernel), List.mem_of_getElem? (i := 623) (by decide +kernel), List.mem_of_getElem? (i := 624) (by decide +kernel)⟩
theorem lw_p45 : lw_okq (⟨"OneBench", "hidingBy", "(III)I"⟩, 14) := ⟨⟨by decide +kernel, by decide +kernel⟩, List.mem_of_getElem? (i := 16) (by decide +kernel), List.mem_of_getElem? (i := 627) (by decide +kernel), List.mem_of_getElem? (i := 628) (by decide +kernel)⟩
theorem lw_p46 : lw_okq (⟨"OneBench$Trace", "note", "(I)V"⟩, 2) := ⟨⟨by decide +kernel, by decide +kernel⟩, List.mem_of_getElem? (i := 73) (by decide +kernel), List.mem_of_getElem? (i := 663) (by decide +kernel), List.mem_of_getElem? (i := 664) (by decide +kernel)⟩
theorem lw_p47 : lw_okq (⟨"OneBench", "rowsThere", "()I"⟩, 14) := ⟨⟨by decide +kernel, by decide +kernel⟩, List.mem_of_getElem? (i := 16) (by decide +kernel), List.mem_of_getElem? (i := 675) (by decide +kernel), List.mem_of_getElem? (i := 676) (by decide +kernel)⟩
def lw_privs_3 : List (MethodName × Nat) := [(⟨"OneBench$Sight", "look", "(LOneBench$Garden;IZ)V"⟩, 1), (⟨"OneBench$Sight", "raise", "(II)V"⟩, 1), (⟨"OneBench$Sight", "thingsFrom", "(LOneBench$Garden;II)I"⟩, 1), (⟨"OneBench$Sight", "isSeen", "(LOneBench$Garden;III)Z"⟩, 1), (⟨"OneBench$Garden", "topOf", "(I)I"⟩, 15), (⟨"OneBench$Sight", "isFree", "(IIII)Z"⟩, 1), (⟨"OneBench$Sight", "isDoubled", "(LOneBench$Garden;II)Z"⟩, 1), (⟨"OneBench$Sight", "wantsAreMet", "(LOneBench$Garden;I)Z"⟩, 1), (⟨"OneBench", "leastCut", "(II)I"⟩, 14), (⟨"OneBench$Sight", "wantsAreMetForAll", "(LOneBench$Garden;I)Z"⟩, 1), (⟨"OneBench$Garden", "hasThings", "(I)Z"⟩, 15), (⟨"OneBench", "placesSeeing", "(III)I"⟩, 14), (⟨"OneBench", "leastHider", "(II)I"⟩, 14), (⟨"OneBench", "hidingBy", "(III)I"⟩, 14), (⟨"OneBench$Trace", "note", "(I)V"⟩, 2), (⟨"OneBench", "rowsThere", "()I"⟩, 14)]
theorem lw_r3 : ∀ q ∈ lw_privs_3, lw_okq q := List.forall_mem_cons.mpr ⟨lw_p32, List.forall_mem_cons.mpr ⟨lw_p33, List.forall_mem_cons.mpr ⟨lw_p34, List.forall_mem_cons.mpr ⟨lw_p35, List.forall_mem_cons.mpr ⟨lw_p36, List.forall_mem_cons.mpr ⟨lw_p37, List.forall_mem_cons.mpr ⟨lw_p38, List.forall_mem_cons.mpr ⟨lw_p39, List.forall_mem_cons.mpr ⟨lw_p40, List.forall_mem_cons.mpr ⟨lw_p41, List.forall_mem_cons.mpr ⟨lw_p42, List.forall_mem_cons.mpr ⟨lw_p43, List.forall_mem_cons.mpr ⟨lw_p44, List.forall_mem_cons.mpr ⟨lw_p45, List.forall_mem_cons.mpr ⟨lw_p46, List.forall_mem_cons.mpr ⟨lw_p47, fun _ h => absurd h List.not_mem_nil⟩⟩⟩⟩⟩⟩⟩⟩⟩⟩⟩⟩⟩⟩⟩⟩
theorem lw_p48 : lw_okq (⟨"OneBenchModel", "finding", "(I)I"⟩, 25) := ⟨⟨by decide +kernel, by decide +kernel⟩, List.mem_of_getElem? (i := 683) (by decide +kernel), List.mem_of_getElem? (i := 778) (by decide +kernel), List.mem_of_getElem? (i := 779) (by decide +kernel)⟩
theorem lw_p49 : lw_okq (⟨"OneBenchModel", "begin", "()V"⟩, 25) := ⟨⟨by decide +kernel, by decide +kernel⟩, List.mem_of_getElem? (i := 683) (by decide +kernel), List.mem_of_getElem? (i := 806) (by decide +kernel), List.mem_of_getElem? (i := 807) (by decide +kernel)⟩
theorem lw_p50 : lw_okq (⟨"OneBenchModel", "next", "()V"⟩, 25) := ⟨⟨by decide +kernel, by decide +kernel⟩, List.mem_of_getElem? (i := 683) (by decide +kernel), List.mem_of_getElem? (i := 810) (by decide +kernel), List.mem_of_getElem? (i := 811) (by decide +kernel)⟩
theorem lw_p51 : lw_okq (⟨"OneBenchModel", "byteAt", "(I)I"⟩, 25) := ⟨⟨by decide +kernel, by decide +kernel⟩, List.mem_of_getElem? (i := 683) (by decide +kernel), List.mem_of_getElem? (i := 814) (by decide +kernel), List.mem_of_getElem? (i := 815) (by decide +kernel)⟩
theorem lw_p52 : lw_okq (⟨"OneBenchModel", "readGround", "()V"⟩, 25) := ⟨⟨by decide +kernel, by decide +kernel⟩, List.mem_of_getElem? (i := 683) (by decide +kernel), List.mem_of_getElem? (i := 825) (by decide +kernel), List.mem_of_getElem? (i := 826) (by decide +kernel)⟩
theorem lw_p53 : lw_okq (⟨"OneBenchModel", "name", "()J"⟩, 25) := ⟨⟨by decide +kernel, by decide +kernel⟩, List.mem_of_getElem? (i := 683) (by decide +kernel), List.mem_of_getElem? (i := 829) (by decide +kernel), List.mem_of_getElem? (i := 830) (by decide +kernel)⟩
theorem lw_p54 : lw_okq (⟨"OneBenchModel", "must", "(Z)V"⟩, 25) := ⟨⟨by decide +kernel, by decide +kernel⟩, List.mem_of_getElem? (i := 683) (by decide +kernel), List.mem_of_getElem? (i := 834) (by decide +kernel), List.mem_of_getElem? (i := 835) (by decide +kernel)⟩
theorem lw_p55 : lw_okq (⟨"OneBenchModel", "bad", "(I)V"⟩, 25) := ⟨⟨by decide +kernel, by decide +kernel⟩, List.mem_of_getElem? (i := 683) (by decide +kernel), List.mem_of_getElem? (i := 838) (by decide +kernel), List.mem_of_getElem? (i := 839) (by decide +kernel)⟩
theorem lw_p56 : lw_okq (⟨"OneBenchModel", "number", "(II)I"⟩, 25) := ⟨⟨by decide +kernel, by decide +kernel⟩, List.mem_of_getElem? (i := 683) (by decide +kernel), List.mem_of_getElem? (i := 842) (by decide +kernel), List.mem_of_getElem? (i := 843) (by decide +kernel)⟩
theorem lw_p57 : lw_okq (⟨"OneBenchModel", "figures", "()I"⟩, 25) := ⟨⟨by decide +kernel, by decide +kernel⟩, List.mem_of_getElem? (i := 683) (by decide +kernel), List.mem_of_getElem? (i := 846) (by decide +kernel), List.mem_of_getElem? (i := 847) (by decide +kernel)⟩
theorem lw_p58 : lw_okq (⟨"OneBenchModel", "mustEnd", "()V"⟩, 25) := ⟨⟨by decide +kernel, by decide +kernel⟩, List.mem_of_getElem? (i := 683) (by decide +kernel), List.mem_of_getElem? (i := 850) (by decide +kernel), List.mem_of_getElem? (i := 851) (by decide +kernel)⟩
theorem lw_p59 : lw_okq (⟨"OneBenchModel", "readLake", "()V"⟩, 25) := ⟨⟨by decide +kernel, by decide +kernel⟩, List.mem_of_getElem? (i := 683) (by decide +kernel), List.mem_of_getElem? (i := 855) (by decide +kernel), List.mem_of_getElem? (i := 856) (by decide +kernel)⟩
theorem lw_p60 : lw_okq (⟨"OneBenchModel", "readTree", "()V"⟩, 25) := ⟨⟨by decide +kernel, by decide +kernel⟩, List.mem_of_getElem? (i := 683) (by decide +kernel), List.mem_of_getElem? (i := 860) (by decide +kernel), List.mem_of_getElem? (i := 861) (by decide +kernel)⟩
theorem lw_p61 : lw_okq (⟨"OneBenchModel", "begins", "(II)V"⟩, 25) := ⟨⟨by decide +kernel, by decide +kernel⟩, List.mem_of_getElem? (i := 683) (by decide +kernel), List.mem_of_getElem? (i := 864) (by decide +kernel), List.mem_of_getElem? (i := 865) (by decide +kernel)⟩
theorem lw_p62 : lw_okq (⟨"OneBenchModel", "isTold", "(I)Z"⟩, 25) := ⟨⟨by decide +kernel, by decide +kernel⟩, List.mem_of_getElem? (i := 683) (by decide +kernel), List.mem_of_getElem? (i := 876) (by decide +kernel), List.mem_of_getElem? (i := 877) (by decide +kernel)⟩
theorem lw_p63 : lw_okq (⟨"OneBenchModel", "readThing", "()V"⟩, 25) := ⟨⟨by decide +kernel, by decide +kernel⟩, List.mem_of_getElem? (i := 683) (by decide +kernel), List.mem_of_getElem? (i := 881) (by decide +kernel), List.mem_of_getElem? (i := 882) (by decide +kernel)⟩
def lw_privs_4 : List (MethodName × Nat) := [(⟨"OneBenchModel", "finding", "(I)I"⟩, 25), (⟨"OneBenchModel", "begin", "()V"⟩, 25), (⟨"OneBenchModel", "next", "()V"⟩, 25), (⟨"OneBenchModel", "byteAt", "(I)I"⟩, 25), (⟨"OneBenchModel", "readGround", "()V"⟩, 25), (⟨"OneBenchModel", "name", "()J"⟩, 25), (⟨"OneBenchModel", "must", "(Z)V"⟩, 25), (⟨"OneBenchModel", "bad", "(I)V"⟩, 25), (⟨"OneBenchModel", "number", "(II)I"⟩, 25), (⟨"OneBenchModel", "figures", "()I"⟩, 25), (⟨"OneBenchModel", "mustEnd", "()V"⟩, 25), (⟨"OneBenchModel", "readLake", "()V"⟩, 25), (⟨"OneBenchModel", "readTree", "()V"⟩, 25), (⟨"OneBenchModel", "begins", "(II)V"⟩, 25), (⟨"OneBenchModel", "isTold", "(I)Z"⟩, 25), (⟨"OneBenchModel", "readThing", "()V"⟩, 25)]
theorem lw_r4 : ∀ q ∈ lw_privs_4, lw_okq q := List.forall_mem_cons.mpr ⟨lw_p48, List.forall_mem_cons.mpr ⟨lw_p49, List.forall_mem_cons.mpr ⟨lw_p50, List.forall_mem_cons.mpr ⟨lw_p51, List.forall_mem_cons.mpr ⟨lw_p52, List.forall_mem_cons.mpr ⟨lw_p53, List.forall_mem_cons.mpr ⟨lw_p54, List.forall_mem_cons.mpr ⟨lw_p55, List.forall_mem_cons.mpr ⟨lw_p56, List.forall_mem_cons.mpr ⟨lw_p57, List.forall_mem_cons.mpr ⟨lw_p58, List.forall_mem_cons.mpr ⟨lw_p59, List.forall_mem_cons.mpr ⟨lw_p60, List.forall_mem_cons.mpr ⟨lw_p61, List.forall_mem_cons.mpr ⟨lw_p62, List.forall_mem_cons.mpr ⟨lw_p63, fun _ h => absurd h List.not_mem_nil⟩⟩⟩⟩⟩⟩⟩⟩⟩⟩⟩⟩⟩⟩⟩⟩
theorem lw_p64 : lw_okq (⟨"OneBenchModel", "keep", "()V"⟩, 25) := ⟨⟨by decide +kernel, by decide +kernel⟩, List.mem_of_getElem? (i := 683) (by decide +kernel), List.mem_of_getElem? (i := 898) (by decide +kernel), List.mem_of_getElem? (i := 899) (by decide +kernel)⟩
theorem lw_p65 : lw_okq (⟨"OneBenchModel", "isTree", "(I)Z"⟩, 25) := ⟨⟨by decide +kernel, by decide +kernel⟩, List.mem_of_getElem? (i := 683) (by decide +kernel), List.mem_of_getElem? (i := 910) (by decide +kernel), List.mem_of_getElem? (i := 911) (by decide +kernel)⟩
theorem lw_p66 : lw_okq (⟨"OneBenchModel", "mayBeCut", "(I)Z"⟩, 25) := ⟨⟨by decide +kernel, by decide +kernel⟩, List.mem_of_getElem? (i := 683) (by decide +kernel), List.mem_of_getElem? (i := 914) (by decide +kernel), List.mem_of_getElem? (i := 915) (by decide +kernel)⟩
theorem lw_p67 : lw_okq (⟨"OneBenchModel", "of", "(II)I"⟩, 25) := ⟨⟨by decide +kernel, by decide +kernel⟩, List.mem_of_getElem? (i := 683) (by decide +kernel), List.mem_of_getElem? (i := 918) (by decide +kernel), List.mem_of_getElem? (i := 919) (by decide +kernel)⟩
theorem lw_p68 : lw_okq (⟨"OneBenchModel", "height", "(I)I"⟩, 25) := ⟨⟨by decide +kernel, by decide +kernel⟩, List.mem_of_getElem? (i := 683) (by decide +kernel), List.mem_of_getElem? (i := 922) (by decide +kernel), List.mem_of_getElem? (i := 923) (by decide +kernel)⟩
theorem lw_p69 : lw_okq (⟨"OneBenchModel", "treeAt", "(I)I"⟩, 25) := ⟨⟨by decide +kernel, by decide +kernel⟩, List.mem_of_getElem? (i := 683) (by decide +kernel), List.mem_of_getElem? (i := 931) (by decide +kernel), List.mem_of_getElem? (i := 932) (by decide +kernel)⟩
theorem lw_p70 : lw_okq (⟨"OneBenchModel", "ground", "(I)I"⟩, 25) := ⟨⟨by decide +kernel, by decide +kernel⟩, List.mem_of_getElem? (i := 683) (by decide +kernel), List.mem_of_getElem? (i := 955) (by decide +kernel), List.mem_of_getElem? (i := 956) (by decide +kernel)⟩
theorem lw_p71 : lw_okq (⟨"OneBenchModel", "bar", "(I)I"⟩, 25) := ⟨⟨by decide +kernel, by decide +kernel⟩, List.mem_of_getElem? (i := 683) (by decide +kernel), List.mem_of_getElem? (i := 959) (by decide +kernel), List.mem_of_getElem? (i := 960) (by decide +kernel)⟩
theorem lw_p72 : lw_okq (⟨"OneBenchModel", "seenFrom", "(II)I"⟩, 25) := ⟨⟨by decide +kernel, by decide +kernel⟩, List.mem_of_getElem? (i := 683) (by decide +kernel), List.mem_of_getElem? (i := 971) (by decide +kernel), List.mem_of_getElem? (i := 972) (by decide +kernel)⟩
theorem lw_p73 : lw_okq (⟨"OneBenchModel", "isSeen", "(III)Z"⟩, 25) := ⟨⟨by decide +kernel, by decide +kernel⟩, List.mem_of_getElem? (i := 683) (by decide +kernel), List.mem_of_getElem? (i := 975) (by decide +kernel), List.mem_of_getElem? (i := 976) (by decide +kernel)⟩
theorem lw_p74 : lw_okq (⟨"OneBenchModel", "top", "(I)I"⟩, 25) := ⟨⟨by decide +kernel, by decide +kernel⟩, List.mem_of_getElem? (i := 683) (by decide +kernel), List.mem_of_getElem? (i := 979) (by decide +kernel), List.mem_of_getElem? (i := 980) (by decide +kernel)⟩
theorem lw_p75 : lw_okq (⟨"OneBenchModel", "isFree", "(IIII)Z"⟩, 25) := ⟨⟨by decide +kernel, by decide +kernel⟩, List.mem_of_getElem? (i := 683) (by decide +kernel), List.mem_of_getElem? (i := 983) (by decide +kernel), List.mem_of_getElem? (i := 984) (by decide +kernel)⟩
theorem lw_p76 : lw_okq (⟨"OneBenchModel", "isDoubled", "(II)Z"⟩, 25) := ⟨⟨by decide +kernel, by decide +kernel⟩, List.mem_of_getElem? (i := 683) (by decide +kernel), List.mem_of_getElem? (i := 991) (by decide +kernel), List.mem_of_getElem? (i := 992) (by decide +kernel)⟩
theorem lw_p77 : lw_okq (⟨"OneBenchModel", "metBy", "(I)I"⟩, 25) := ⟨⟨by decide +kernel, by decide +kernel⟩, List.mem_of_getElem? (i := 683) (by decide +kernel), List.mem_of_getElem? (i := 999) (by decide +kernel), List.mem_of_getElem? (i := 1000) (by decide +kernel)⟩
theorem lw_p78 : lw_okq (⟨"OneBenchModel", "areMet", "(I)Z"⟩, 25) := ⟨⟨by decide +kernel, by decide +kernel⟩, List.mem_of_getElem? (i := 683) (by decide +kernel), List.mem_of_getElem? (i := 1003) (by decide +kernel), List.mem_of_getElem? (i := 1004) (by decide +kernel)⟩
theorem lw_p79 : lw_okq (⟨"OneBenchModel", "areThings", "(I)Z"⟩, 25) := ⟨⟨by decide +kernel, by decide +kernel⟩, List.mem_of_getElem? (i := 683) (by decide +kernel), List.mem_of_getElem? (i := 1028) (by decide +kernel), List.mem_of_getElem? (i := 1029) (by decide +kernel)⟩
def lw_privs_5 : List (MethodName × Nat) := [(⟨"OneBenchModel", "keep", "()V"⟩, 25), (⟨"OneBenchModel", "isTree", "(I)Z"⟩, 25), (⟨"OneBenchModel", "mayBeCut", "(I)Z"⟩, 25), (⟨"OneBenchModel", "of", "(II)I"⟩, 25), (⟨"OneBenchModel", "height", "(I)I"⟩, 25), (⟨"OneBenchModel", "treeAt", "(I)I"⟩, 25), (⟨"OneBenchModel", "ground", "(I)I"⟩, 25), (⟨"OneBenchModel", "bar", "(I)I"⟩, 25), (⟨"OneBenchModel", "seenFrom", "(II)I"⟩, 25), (⟨"OneBenchModel", "isSeen", "(III)Z"⟩, 25), (⟨"OneBenchModel", "top", "(I)I"⟩, 25), (⟨"OneBenchModel", "isFree", "(IIII)Z"⟩, 25), (⟨"OneBenchModel", "isDoubled", "(II)Z"⟩, 25), (⟨"OneBenchModel", "metBy", "(I)I"⟩, 25), (⟨"OneBenchModel", "areMet", "(I)Z"⟩, 25), (⟨"OneBenchModel", "areThings", "(I)Z"⟩, 25)]
theorem lw_r5 : ∀ q ∈ lw_privs_5, lw_okq q := List.forall_mem_cons.mpr ⟨lw_p64, List.forall_mem_cons.mpr ⟨lw_p65, List.forall_mem_cons.mpr ⟨lw_p66, List.forall_mem_cons.mpr ⟨lw_p67, List.forall_mem_cons.mpr ⟨lw_p68, List.forall_mem_cons.mpr ⟨lw_p69, List.forall_mem_cons.mpr ⟨lw_p70, List.forall_mem_cons.mpr ⟨lw_p71, List.forall_mem_cons.mpr ⟨lw_p72, List.forall_mem_cons.mpr ⟨lw_p73, List.forall_mem_cons.mpr ⟨lw_p74, List.forall_mem_cons.mpr ⟨lw_p75, List.forall_mem_cons.mpr ⟨lw_p76, List.forall_mem_cons.mpr ⟨lw_p77, List.forall_mem_cons.mpr ⟨lw_p78, List.forall_mem_cons.mpr ⟨lw_p79, fun _ h => absurd h List.not_mem_nil⟩⟩⟩⟩⟩⟩⟩⟩⟩⟩⟩⟩⟩⟩⟩⟩
theorem lw_p80 : lw_okq (⟨"OneBenchModel", "moreOf", "(III)I"⟩, 25) := ⟨⟨by decide +kernel, by decide +kernel⟩, List.mem_of_getElem? (i := 683) (by decide +kernel), List.mem_of_getElem? (i := 1040) (by decide +kernel), List.mem_of_getElem? (i := 1041) (by decide +kernel)⟩
theorem lw_p81 : lw_okq (⟨"OneBenchModel", "sizeOf", "(I)I"⟩, 25) := ⟨⟨by decide +kernel, by decide +kernel⟩, List.mem_of_getElem? (i := 683) (by decide +kernel), List.mem_of_getElem? (i := 1069) (by decide +kernel), List.mem_of_getElem? (i := 1070) (by decide +kernel)⟩
theorem lw_p82 : lw_okq (⟨"OneBenchModel", "plainSize", "(I)I"⟩, 25) := ⟨⟨by decide +kernel, by decide +kernel⟩, List.mem_of_getElem? (i := 683) (by decide +kernel), List.mem_of_getElem? (i := 1073) (by decide +kernel), List.mem_of_getElem? (i := 1074) (by decide +kernel)⟩
theorem lw_p83 : lw_okq (⟨"OneBenchModel", "began", "(I)V"⟩, 25) := ⟨⟨by decide +kernel, by decide +kernel⟩, List.mem_of_getElem? (i := 683) (by decide +kernel), List.mem_of_getElem? (i := 1077) (by decide +kernel), List.mem_of_getElem? (i := 1078) (by decide +kernel)⟩
theorem lw_p84 : lw_okq (⟨"OneBenchModel", "markOf", "(I)I"⟩, 25) := ⟨⟨by decide +kernel, by decide +kernel⟩, List.mem_of_getElem? (i := 683) (by decide +kernel), List.mem_of_getElem? (i := 1081) (by decide +kernel), List.mem_of_getElem? (i := 1082) (by decide +kernel)⟩
def lw_privs_6 : List (MethodName × Nat) := [(⟨"OneBenchModel", "moreOf", "(III)I"⟩, 25), (⟨"OneBenchModel", "sizeOf", "(I)I"⟩, 25), (⟨"OneBenchModel", "plainSize", "(I)I"⟩, 25), (⟨"OneBenchModel", "began", "(I)V"⟩, 25), (⟨"OneBenchModel", "markOf", "(I)I"⟩, 25)]
theorem lw_r6 : ∀ q ∈ lw_privs_6, lw_okq q := List.forall_mem_cons.mpr ⟨lw_p80, List.forall_mem_cons.mpr ⟨lw_p81, List.forall_mem_cons.mpr ⟨lw_p82, List.forall_mem_cons.mpr ⟨lw_p83, List.forall_mem_cons.mpr ⟨lw_p84, fun _ h => absurd h List.not_mem_nil⟩⟩⟩⟩⟩
def lw_privs : List (MethodName × Nat) := lw_privs_1 ++ (lw_privs_2 ++ (lw_privs_3 ++ (lw_privs_4 ++ (lw_privs_5 ++ (lw_privs_6)))))
def lw_tbl : List Cond := k2_sels lw_privs ++ tables_1
theorem lw_privs_ok : ∀ q ∈ lw_privs, lw_okq q := by
  show ∀ q ∈ lw_privs_1 ++ (lw_privs_2 ++ (lw_privs_3 ++ (lw_privs_4 ++ (lw_privs_5 ++ (lw_privs_6))))), lw_okq q
  exact List.forall_mem_append.mpr ⟨lw_r1, List.forall_mem_append.mpr ⟨lw_r2, List.forall_mem_append.mpr ⟨lw_r3, List.forall_mem_append.mpr ⟨lw_r4, List.forall_mem_append.mpr ⟨lw_r5, lw_r6⟩⟩⟩⟩⟩
end
section
def RX0 : String := "OneBench$Garden"
def TX0 : u_T := fun k => match k with
  | 0 => ("OneBench$Garden", "ground", "[I", true)
  | 1 => ("OneBench$Garden", "lakeFrom", "I", false)
  | 2 => ("OneBench$Garden", "lakeTo", "I", false)
  | 3 => ("OneBench$Garden", "trees", "I", false)
  | 4 => ("OneBench$Garden", "kinds", "[I", true)
  | 5 => ("OneBench$Garden", "sites", "[I", true)
  | 6 => ("OneBench$Garden", "highs", "[I", true)
  | 7 => ("OneBench$Garden", "grows", "[I", true)
  | 8 => ("OneBench$Garden", "cuts", "[I", true)
  | 9 => ("OneBench$Garden", "things", "I", false)
  | 10 => ("OneBench$Garden", "thingSites", "[I", true)
  | 11 => ("OneBench$Garden", "thingHighs", "[I", true)
  | 12 => ("OneBench$Garden", "toShow", "[Z", true)
  | 13 => ("OneBench$Garden", "year", "I", false)
  | _ => ("OneBench$Garden", "winter", "Z", false)
def tyX0 : Nat → FieldType := fun k => match k with
  | 0 => .array .int
  | 1 => .int
  | 2 => .int
  | 3 => .int
  | 4 => .array .int
  | 5 => .array .int
  | 6 => .array .int
  | 7 => .array .int
  | 8 => .array .int
  | 9 => .int
  | 10 => .array .int
  | 11 => .array .int
  | 12 => .array .boolean
  | 13 => .int
  | _ => .boolean
abbrev wsX00 : List Cond := u_ws RX0 TX0 15
theorem nmX0 : ∀ a, a < 15 → ∀ b, b < 15 → a ≠ b → (TX0 a).2.1 ≠ (TX0 b).2.1 := by decide +kernel
theorem tyX0_ok : ∀ k, k < 15 → parseFieldDescriptor (TX0 k).2.2.1 = some (tyX0 k) := by decide +kernel
abbrev cX0_init : ByteArray := prog_2_method_1_code
def yX0_init : MethodName := ⟨RX0, "<init>", "()V"⟩
abbrev cX0_becomes : ByteArray := prog_2_method_2_code
def yX0_becomes : MethodName := ⟨RX0, "becomes", "(LOneBench$Garden;)V"⟩
abbrev cX0_clear : ByteArray := prog_2_method_3_code
def yX0_clear : MethodName := ⟨RX0, "clear", "()V"⟩
abbrev cX0_addTree : ByteArray := prog_2_method_4_code
def yX0_addTree : MethodName := ⟨RX0, "addTree", "(IIII)V"⟩
abbrev cX0_addThing : ByteArray := prog_2_method_5_code
def yX0_addThing : MethodName := ⟨RX0, "addThing", "(IIZ)V"⟩
abbrev cX0_hasTree : ByteArray := prog_2_method_6_code
def yX0_hasTree : MethodName := ⟨RX0, "hasTree", "(I)Z"⟩
abbrev cX0_hasThings : ByteArray := prog_2_method_7_code
def yX0_hasThings : MethodName := ⟨RX0, "hasThings", "(I)Z"⟩
abbrev cX0_mayBeCut : ByteArray := prog_2_method_8_code
def yX0_mayBeCut : MethodName := ⟨RX0, "mayBeCut", "(I)Z"⟩
abbrev cX0_treeAt : ByteArray := prog_2_method_9_code
def yX0_treeAt : MethodName := ⟨RX0, "treeAt", "(I)I"⟩
abbrev cX0_topOf : ByteArray := prog_2_method_10_code
def yX0_topOf : MethodName := ⟨RX0, "topOf", "(I)I"⟩
abbrev cX0_heightNow : ByteArray := prog_2_method_11_code
def yX0_heightNow : MethodName := ⟨RX0, "heightNow", "(I)I"⟩
abbrev cX0_heightIn : ByteArray := prog_2_method_12_code
def yX0_heightIn : MethodName := ⟨RX0, "heightIn", "(IIZ)I"⟩
def RX1 : String := "OneBench$Reader"
def TX1 : u_T := fun k => match k with
  | 0 => ("OneBench$Reader", "tape", "[B", true)
  | 1 => ("OneBench$Reader", "bytes", "I", false)
  | 2 => ("OneBench$Reader", "start", "I", false)
  | 3 => ("OneBench$Reader", "behind", "I", false)
  | 4 => ("OneBench$Reader", "token", "I", false)
  | 5 => ("OneBench$Reader", "value", "I", false)
  | 6 => ("OneBench$Reader", "fault", "I", false)
  | _ => ("OneBench$Reader", "place", "I", false)
def tyX1 : Nat → FieldType := fun k => match k with
  | 0 => .array .byte
  | 1 => .int
  | 2 => .int
  | 3 => .int
  | 4 => .int
  | 5 => .int
  | 6 => .int
  | _ => .int
abbrev wsX10 : List Cond := u_ws RX1 TX1 8
theorem nmX1 : ∀ a, a < 8 → ∀ b, b < 8 → a ≠ b → (TX1 a).2.1 ≠ (TX1 b).2.1 := by decide +kernel
theorem tyX1_ok : ∀ k, k < 8 → parseFieldDescriptor (TX1 k).2.2.1 = some (tyX1 k) := by decide +kernel
abbrev cX1_init : ByteArray := prog_3_method_1_code
def yX1_init : MethodName := ⟨RX1, "<init>", "()V"⟩
abbrev cX1_take : ByteArray := prog_3_method_2_code
def yX1_take : MethodName := ⟨RX1, "take", "(B)V"⟩
abbrev cX1_readInto : ByteArray := prog_3_method_3_code
def yX1_readInto : MethodName := ⟨RX1, "readInto", "(LOneBench$Garden;)Z"⟩
abbrev cX1_readGround : ByteArray := prog_3_method_4_code
def yX1_readGround : MethodName := ⟨RX1, "readGround", "(LOneBench$Garden;)Z"⟩
abbrev cX1_readLake : ByteArray := prog_3_method_5_code
def yX1_readLake : MethodName := ⟨RX1, "readLake", "(LOneBench$Garden;)Z"⟩
abbrev cX1_readTree : ByteArray := prog_3_method_6_code
def yX1_readTree : MethodName := ⟨RX1, "readTree", "(LOneBench$Garden;)Z"⟩
abbrev cX1_readThing : ByteArray := prog_3_method_7_code
def yX1_readThing : MethodName := ⟨RX1, "readThing", "(LOneBench$Garden;)Z"⟩
abbrev cX1_sortTold : ByteArray := prog_3_method_8_code
def yX1_sortTold : MethodName := ⟨RX1, "sortTold", "()I"⟩
abbrev cX1_refuse : ByteArray := prog_3_method_9_code
def yX1_refuse : MethodName := ⟨RX1, "refuse", "(I)Z"⟩
abbrev cX1_isNumber : ByteArray := prog_3_method_10_code
def yX1_isNumber : MethodName := ⟨RX1, "isNumber", "(II)Z"⟩
abbrev cX1_passSign : ByteArray := prog_3_method_11_code
def yX1_passSign : MethodName := ⟨RX1, "passSign", "()Z"⟩
abbrev cX1_passWord : ByteArray := prog_3_method_12_code
def yX1_passWord : MethodName := ⟨RX1, "passWord", "(Ljava/lang/String;)Z"⟩
abbrev cX1_pass : ByteArray := prog_3_method_13_code
def yX1_pass : MethodName := ⟨RX1, "pass", "()I"⟩
abbrev cX1_isWord : ByteArray := prog_3_method_14_code
def yX1_isWord : MethodName := ⟨RX1, "isWord", "(Ljava/lang/String;)Z"⟩
abbrev cX1_advance : ByteArray := prog_3_method_15_code
def yX1_advance : MethodName := ⟨RX1, "advance", "()V"⟩
abbrev cX1_passLetters : ByteArray := prog_3_method_16_code
def yX1_passLetters : MethodName := ⟨RX1, "passLetters", "()V"⟩
abbrev cX1_passFigures : ByteArray := prog_3_method_17_code
def yX1_passFigures : MethodName := ⟨RX1, "passFigures", "()V"⟩
abbrev cX1_isBlank : ByteArray := prog_3_method_18_code
def yX1_isBlank : MethodName := ⟨RX1, "isBlank", "(B)Z"⟩
abbrev cX1_isLetter : ByteArray := prog_3_method_19_code
def yX1_isLetter : MethodName := ⟨RX1, "isLetter", "(B)Z"⟩
abbrev cX1_isFigure : ByteArray := prog_3_method_20_code
def yX1_isFigure : MethodName := ⟨RX1, "isFigure", "(B)Z"⟩
def RX2 : String := "OneBench$Row"
def TX2 : u_T := fun k => match k with
  | 0 => ("OneBench$Row", "there", "Z", false)
  | 1 => ("OneBench$Row", "lane", "I", false)
  | 2 => ("OneBench$Row", "items", "I", false)
  | _ => ("OneBench$Row", "item", "[I", true)
def tyX2 : Nat → FieldType := fun k => match k with
  | 0 => .boolean
  | 1 => .int
  | 2 => .int
  | _ => .array .int
abbrev wsX20 : List Cond := u_ws RX2 TX2 4
theorem nmX2 : ∀ a, a < 4 → ∀ b, b < 4 → a ≠ b → (TX2 a).2.1 ≠ (TX2 b).2.1 := by decide +kernel
theorem tyX2_ok : ∀ k, k < 4 → parseFieldDescriptor (TX2 k).2.2.1 = some (tyX2 k) := by decide +kernel
abbrev cX2_init : ByteArray := prog_4_method_1_code
def yX2_init : MethodName := ⟨RX2, "<init>", "()V"⟩
abbrev cX2_begin : ByteArray := prog_4_method_2_code
def yX2_begin : MethodName := ⟨RX2, "begin", "(II)V"⟩
abbrev cX2_cutToLane : ByteArray := prog_4_method_3_code
def yX2_cutToLane : MethodName := ⟨RX2, "cutToLane", "(I)I"⟩
abbrev cX2_has : ByteArray := prog_4_method_4_code
def yX2_has : MethodName := ⟨RX2, "has", "(II)Z"⟩
def RX3 : String := "OneBench$Sight"
def TX3 : u_T := fun k => match k with
  | _ => ("OneBench$Sight", "bar", "[I", true)
def tyX3 : Nat → FieldType := fun k => match k with
  | _ => .array .int
abbrev wsX30 : List Cond := u_ws RX3 TX3 1
theorem nmX3 : ∀ a, a < 1 → ∀ b, b < 1 → a ≠ b → (TX3 a).2.1 ≠ (TX3 b).2.1 := by decide +kernel
theorem tyX3_ok : ∀ k, k < 1 → parseFieldDescriptor (TX3 k).2.2.1 = some (tyX3 k) := by decide +kernel
abbrev cX3_init : ByteArray := prog_5_method_1_code
def yX3_init : MethodName := ⟨RX3, "<init>", "()V"⟩
abbrev cX3_lookNow : ByteArray := prog_5_method_2_code
def yX3_lookNow : MethodName := ⟨RX3, "lookNow", "(LOneBench$Garden;)V"⟩
abbrev cX3_look : ByteArray := prog_5_method_3_code
def yX3_look : MethodName := ⟨RX3, "look", "(LOneBench$Garden;IZ)V"⟩
abbrev cX3_raise : ByteArray := prog_5_method_4_code
def yX3_raise : MethodName := ⟨RX3, "raise", "(II)V"⟩
abbrev cX3_isFree : ByteArray := prog_5_method_5_code
def yX3_isFree : MethodName := ⟨RX3, "isFree", "(IIII)Z"⟩
abbrev cX3_leastStop : ByteArray := prog_5_method_6_code
def yX3_leastStop : MethodName := ⟨RX3, "leastStop", "(IIII)I"⟩
abbrev cX3_isSeen : ByteArray := prog_5_method_7_code
def yX3_isSeen : MethodName := ⟨RX3, "isSeen", "(LOneBench$Garden;III)Z"⟩
abbrev cX3_thingsFrom : ByteArray := prog_5_method_8_code
def yX3_thingsFrom : MethodName := ⟨RX3, "thingsFrom", "(LOneBench$Garden;II)I"⟩
abbrev cX3_isDoubled : ByteArray := prog_5_method_9_code
def yX3_isDoubled : MethodName := ⟨RX3, "isDoubled", "(LOneBench$Garden;II)Z"⟩
abbrev cX3_wantsAreMet : ByteArray := prog_5_method_10_code
def yX3_wantsAreMet : MethodName := ⟨RX3, "wantsAreMet", "(LOneBench$Garden;I)Z"⟩
abbrev cX3_wantsAreMetForAll : ByteArray := prog_5_method_11_code
def yX3_wantsAreMetForAll : MethodName := ⟨RX3, "wantsAreMetForAll", "(LOneBench$Garden;I)Z"⟩
def RX4 : String := "OneBench$Trace"
def TX4 : u_T := fun k => match k with
  | 0 => ("OneBench$Trace", "bodies", "[I", true)
  | _ => ("OneBench$Trace", "length", "I", false)
def tyX4 : Nat → FieldType := fun k => match k with
  | 0 => .array .int
  | _ => .int
abbrev wsX40 : List Cond := u_ws RX4 TX4 2
theorem nmX4 : ∀ a, a < 2 → ∀ b, b < 2 → a ≠ b → (TX4 a).2.1 ≠ (TX4 b).2.1 := by decide +kernel
theorem tyX4_ok : ∀ k, k < 2 → parseFieldDescriptor (TX4 k).2.2.1 = some (tyX4 k) := by decide +kernel
abbrev cX4_init : ByteArray := prog_6_method_1_code
def yX4_init : MethodName := ⟨RX4, "<init>", "()V"⟩
abbrev cX4_note : ByteArray := prog_6_method_2_code
def yX4_note : MethodName := ⟨RX4, "note", "(I)V"⟩
def RX5 : String := "OneBench"
def TX5 : u_T := fun k => match k with
  | 0 => ("OneBench", "rows", "[LOneBench$Row;", true)
  | 1 => ("OneBench", "reader", "LOneBench$Reader;", true)
  | 2 => ("OneBench", "sight", "LOneBench$Sight;", true)
  | 3 => ("OneBench", "asked", "LOneBench$Trace;", true)
  | 4 => ("OneBench", "now", "LOneBench$Garden;", false)
  | 5 => ("OneBench", "spare", "LOneBench$Garden;", false)
  | 6 => ("OneBench", "stands", "Z", false)
  | 7 => ("OneBench", "days", "[LOneBench$Garden;", true)
  | 8 => ("OneBench", "nextDay", "I", false)
  | 9 => ("OneBench", "daysKept", "I", false)
  | 10 => ("OneBench", "images", "[LOneBench$Garden;", true)
  | 11 => ("OneBench", "imageKept", "[Z", true)
  | 12 => ("OneBench", "latestFault", "I", false)
  | _ => ("OneBench", "latestFinding", "I", false)
def tyX5 : Nat → FieldType := fun k => match k with
  | 0 => .array (.object "OneBench$Row")
  | 1 => .object "OneBench$Reader"
  | 2 => .object "OneBench$Sight"
  | 3 => .object "OneBench$Trace"
  | 4 => .object "OneBench$Garden"
  | 5 => .object "OneBench$Garden"
  | 6 => .boolean
  | 7 => .array (.object "OneBench$Garden")
  | 8 => .int
  | 9 => .int
  | 10 => .array (.object "OneBench$Garden")
  | 11 => .array .boolean
  | 12 => .int
  | _ => .int
abbrev wsX50 : List Cond := u_ws RX5 TX5 14
theorem nmX5 : ∀ a, a < 14 → ∀ b, b < 14 → a ≠ b → (TX5 a).2.1 ≠ (TX5 b).2.1 := by decide +kernel
theorem tyX5_ok : ∀ k, k < 14 → parseFieldDescriptor (TX5 k).2.2.1 = some (tyX5 k) := by decide +kernel
abbrev cX5_init : ByteArray := prog_1_method_1_code
def yX5_init : MethodName := ⟨RX5, "<init>", "()V"⟩
abbrev cX5_row : ByteArray := prog_1_method_2_code
def yX5_row : MethodName := ⟨RX5, "row", "(III)I"⟩
abbrev cX5_set : ByteArray := prog_1_method_3_code
def yX5_set : MethodName := ⟨RX5, "set", "(III)I"⟩
abbrev cX5_copy : ByteArray := prog_1_method_4_code
def yX5_copy : MethodName := ⟨RX5, "copy", "(IIIII)I"⟩
abbrev cX5_drop : ByteArray := prog_1_method_5_code
def yX5_drop : MethodName := ⟨RX5, "drop", "(I)I"⟩
abbrev cX5_feed : ByteArray := prog_1_method_6_code
def yX5_feed : MethodName := ⟨RX5, "feed", "(JI)I"⟩
abbrev cX5_garden : ByteArray := prog_1_method_7_code
def yX5_garden : MethodName := ⟨RX5, "garden", "()I"⟩
abbrev cX5_fault : ByteArray := prog_1_method_8_code
def yX5_fault : MethodName := ⟨RX5, "fault", "()I"⟩
abbrev cX5_years : ByteArray := prog_1_method_9_code
def yX5_years : MethodName := ⟨RX5, "years", "(I)I"⟩
abbrev cX5_winter : ByteArray := prog_1_method_10_code
def yX5_winter : MethodName := ⟨RX5, "winter", "(I)I"⟩
abbrev cX5_clip : ByteArray := prog_1_method_11_code
def yX5_clip : MethodName := ⟨RX5, "clip", "(II)I"⟩
abbrev cX5_move : ByteArray := prog_1_method_12_code
def yX5_move : MethodName := ⟨RX5, "move", "(II)I"⟩
abbrev cX5_level : ByteArray := prog_1_method_13_code
def yX5_level : MethodName := ⟨RX5, "level", "(II)I"⟩
abbrev cX5_undo : ByteArray := prog_1_method_14_code
def yX5_undo : MethodName := ⟨RX5, "undo", "()I"⟩
abbrev cX5_tree : ByteArray := prog_1_method_15_code
def yX5_tree : MethodName := ⟨RX5, "tree", "(II)I"⟩
abbrev cX5_site : ByteArray := prog_1_method_16_code
def yX5_site : MethodName := ⟨RX5, "site", "(II)I"⟩
abbrev cX5_seen : ByteArray := prog_1_method_17_code
def yX5_seen : MethodName := ⟨RX5, "seen", "(II)I"⟩
abbrev cX5_doubled : ByteArray := prog_1_method_18_code
def yX5_doubled : MethodName := ⟨RX5, "doubled", "(I)I"⟩
abbrev cX5_met : ByteArray := prog_1_method_19_code
def yX5_met : MethodName := ⟨RX5, "met", "(I)I"⟩
abbrev cX5_cut : ByteArray := prog_1_method_20_code
def yX5_cut : MethodName := ⟨RX5, "cut", "(IIII)I"⟩
abbrev cX5_plant : ByteArray := prog_1_method_21_code
def yX5_plant : MethodName := ⟨RX5, "plant", "(IIII)I"⟩
abbrev cX5_moon : ByteArray := prog_1_method_22_code
def yX5_moon : MethodName := ⟨RX5, "moon", "(I)I"⟩
abbrev cX5_path : ByteArray := prog_1_method_23_code
def yX5_path : MethodName := ⟨RX5, "path", "(II)I"⟩
abbrev cX5_picture : ByteArray := prog_1_method_24_code
def yX5_picture : MethodName := ⟨RX5, "picture", "(II)I"⟩
abbrev cX5_rival : ByteArray := prog_1_method_25_code
def yX5_rival : MethodName := ⟨RX5, "rival", "(II)I"⟩
abbrev cX5_image : ByteArray := prog_1_method_26_code
def yX5_image : MethodName := ⟨RX5, "image", "(I)I"⟩
abbrev cX5_restore : ByteArray := prog_1_method_27_code
def yX5_restore : MethodName := ⟨RX5, "restore", "(I)I"⟩
abbrev cX5_kind : ByteArray := prog_1_method_28_code
def yX5_kind : MethodName := ⟨RX5, "kind", "(I)I"⟩
abbrev cX5_as : ByteArray := prog_1_method_29_code
def yX5_as : MethodName := ⟨RX5, "as", "(II)I"⟩
abbrev cX5_ask : ByteArray := prog_1_method_30_code
def yX5_ask : MethodName := ⟨RX5, "ask", "(II)I"⟩
abbrev cX5_trace : ByteArray := prog_1_method_31_code
def yX5_trace : MethodName := ⟨RX5, "trace", "(I)I"⟩
abbrev cX5_count : ByteArray := prog_1_method_32_code
def yX5_count : MethodName := ⟨RX5, "count", "(I)I"⟩
abbrev cX5_status : ByteArray := prog_1_method_33_code
def yX5_status : MethodName := ⟨RX5, "status", "()I"⟩
abbrev cX5_found : ByteArray := prog_1_method_34_code
def yX5_found : MethodName := ⟨RX5, "found", "(I)I"⟩
abbrev cX5_unfound : ByteArray := prog_1_method_35_code
def yX5_unfound : MethodName := ⟨RX5, "unfound", "(I)I"⟩
abbrev cX5_isRow : ByteArray := prog_1_method_36_code
def yX5_isRow : MethodName := ⟨RX5, "isRow", "(I)Z"⟩
abbrev cX5_isEye : ByteArray := prog_1_method_37_code
def yX5_isEye : MethodName := ⟨RX5, "isEye", "(I)Z"⟩
abbrev cX5_isInnerSite : ByteArray := prog_1_method_38_code
def yX5_isInnerSite : MethodName := ⟨RX5, "isInnerSite", "(I)Z"⟩
abbrev cX5_isIn : ByteArray := prog_1_method_39_code
def yX5_isIn : MethodName := ⟨RX5, "isIn", "(II)Z"⟩
abbrev cX5_rowsThere : ByteArray := prog_1_method_40_code
def yX5_rowsThere : MethodName := ⟨RX5, "rowsThere", "()I"⟩
abbrev cX5_keepDay : ByteArray := prog_1_method_41_code
def yX5_keepDay : MethodName := ⟨RX5, "keepDay", "()V"⟩
abbrev cX5_placesSeeing : ByteArray := prog_1_method_42_code
def yX5_placesSeeing : MethodName := ⟨RX5, "placesSeeing", "(III)I"⟩
abbrev cX5_leastCut : ByteArray := prog_1_method_43_code
def yX5_leastCut : MethodName := ⟨RX5, "leastCut", "(II)I"⟩
abbrev cX5_leastHider : ByteArray := prog_1_method_44_code
def yX5_leastHider : MethodName := ⟨RX5, "leastHider", "(II)I"⟩
abbrev cX5_hidingBy : ByteArray := prog_1_method_45_code
def yX5_hidingBy : MethodName := ⟨RX5, "hidingBy", "(III)I"⟩
abbrev cX5_isOfKind : ByteArray := prog_1_method_46_code
def yX5_isOfKind : MethodName := ⟨RX5, "isOfKind", "(II)Z"⟩
abbrev cX5_bodyOfSize : ByteArray := prog_1_method_47_code
def yX5_bodyOfSize : MethodName := ⟨RX5, "bodyOfSize", "(I)I"⟩
abbrev cX5_bodyOfMark : ByteArray := prog_1_method_48_code
def yX5_bodyOfMark : MethodName := ⟨RX5, "bodyOfMark", "(I)I"⟩
abbrev cX5_bodyGives : ByteArray := prog_1_method_49_code
def yX5_bodyGives : MethodName := ⟨RX5, "bodyGives", "(LOneBench$Garden;LOneBench$Trace;III)I"⟩
def RX6 : String := "OneBenchModel"
def TX6 : u_T := fun k => match k with
  | 0 => ("OneBenchModel", "thrown", "I", false)
  | 1 => ("OneBenchModel", "status", "I", false)
  | 2 => ("OneBenchModel", "lane", "[I", true)
  | 3 => ("OneBenchModel", "many", "[I", true)
  | 4 => ("OneBenchModel", "item", "[I", true)
  | 5 => ("OneBenchModel", "garden", "[I", true)
  | 6 => ("OneBenchModel", "fresh", "[I", true)
  | 7 => ("OneBenchModel", "isThere", "Z", false)
  | 8 => ("OneBenchModel", "was", "[I", true)
  | 9 => ("OneBenchModel", "days", "I", false)
  | 10 => ("OneBenchModel", "tape", "[I", true)
  | 11 => ("OneBenchModel", "taped", "I", false)
  | 12 => ("OneBenchModel", "latest", "I", false)
  | 13 => ("OneBenchModel", "length", "I", false)
  | 14 => ("OneBenchModel", "cursor", "I", false)
  | 15 => ("OneBenchModel", "token", "I", false)
  | 16 => ("OneBenchModel", "start", "I", false)
  | 17 => ("OneBenchModel", "till", "I", false)
  | 18 => ("OneBenchModel", "fault", "I", false)
  | 19 => ("OneBenchModel", "faultAt", "I", false)
  | 20 => ("OneBenchModel", "added", "[I", true)
  | 21 => ("OneBenchModel", "isKept", "[Z", true)
  | 22 => ("OneBenchModel", "kept", "[I", true)
  | 23 => ("OneBenchModel", "trace", "[I", true)
  | _ => ("OneBenchModel", "traced", "I", false)
def tyX6 : Nat → FieldType := fun k => match k with
  | 0 => .int
  | 1 => .int
  | 2 => .array .int
  | 3 => .array .int
  | 4 => .array .int
  | 5 => .array .int
  | 6 => .array .int
  | 7 => .boolean
  | 8 => .array .int
  | 9 => .int
  | 10 => .array .int
  | 11 => .int
  | 12 => .int
  | 13 => .int
  | 14 => .int
  | 15 => .int
  | 16 => .int
  | 17 => .int
  | 18 => .int
  | 19 => .int
  | 20 => .array .int
  | 21 => .array .boolean
  | 22 => .array .int
  | 23 => .array .int
  | _ => .int
abbrev wsX60 : List Cond := u_ws RX6 TX6 25
theorem nmX6 : ∀ a, a < 25 → ∀ b, b < 25 → a ≠ b → (TX6 a).2.1 ≠ (TX6 b).2.1 := by decide +kernel
theorem tyX6_ok : ∀ k, k < 25 → parseFieldDescriptor (TX6 k).2.2.1 = some (tyX6 k) := by decide +kernel
abbrev cX6_init : ByteArray := prog_8_method_1_code
def yX6_init : MethodName := ⟨RX6, "<init>", "()V"⟩
abbrev cX6_in : ByteArray := prog_8_method_3_code
def yX6_in : MethodName := ⟨RX6, "in", "(JJJ)Z"⟩
abbrev cX6_finding : ByteArray := prog_8_method_4_code
def yX6_finding : MethodName := ⟨RX6, "finding", "(I)I"⟩
abbrev cX6_isRow : ByteArray := prog_8_method_5_code
def yX6_isRow : MethodName := ⟨RX6, "isRow", "(I)Z"⟩
abbrev cX6_row : ByteArray := prog_8_method_6_code
def yX6_row : MethodName := ⟨RX6, "row", "(III)I"⟩
abbrev cX6_set : ByteArray := prog_8_method_7_code
def yX6_set : MethodName := ⟨RX6, "set", "(III)I"⟩
abbrev cX6_copy : ByteArray := prog_8_method_8_code
def yX6_copy : MethodName := ⟨RX6, "copy", "(IIIII)I"⟩
abbrev cX6_drop : ByteArray := prog_8_method_9_code
def yX6_drop : MethodName := ⟨RX6, "drop", "(I)I"⟩
abbrev cX6_feed : ByteArray := prog_8_method_10_code
def yX6_feed : MethodName := ⟨RX6, "feed", "(JI)I"⟩
abbrev cX6_byteAt : ByteArray := prog_8_method_11_code
def yX6_byteAt : MethodName := ⟨RX6, "byteAt", "(I)I"⟩
abbrev cX6_isLetter : ByteArray := prog_8_method_12_code
def yX6_isLetter : MethodName := ⟨RX6, "isLetter", "(I)Z"⟩
abbrev cX6_isFigure : ByteArray := prog_8_method_13_code
def yX6_isFigure : MethodName := ⟨RX6, "isFigure", "(I)Z"⟩
abbrev cX6_next : ByteArray := prog_8_method_14_code
def yX6_next : MethodName := ⟨RX6, "next", "()V"⟩
abbrev cX6_begin : ByteArray := prog_8_method_15_code
def yX6_begin : MethodName := ⟨RX6, "begin", "()V"⟩
abbrev cX6_bad : ByteArray := prog_8_method_16_code
def yX6_bad : MethodName := ⟨RX6, "bad", "(I)V"⟩
abbrev cX6_must : ByteArray := prog_8_method_17_code
def yX6_must : MethodName := ⟨RX6, "must", "(Z)V"⟩
abbrev cX6_name : ByteArray := prog_8_method_18_code
def yX6_name : MethodName := ⟨RX6, "name", "()J"⟩
abbrev cX6_figures : ByteArray := prog_8_method_19_code
def yX6_figures : MethodName := ⟨RX6, "figures", "()I"⟩
abbrev cX6_number : ByteArray := prog_8_method_20_code
def yX6_number : MethodName := ⟨RX6, "number", "(II)I"⟩
abbrev cX6_kindBy : ByteArray := prog_8_method_21_code
def yX6_kindBy : MethodName := ⟨RX6, "kindBy", "(J)I"⟩
abbrev cX6_mustEnd : ByteArray := prog_8_method_22_code
def yX6_mustEnd : MethodName := ⟨RX6, "mustEnd", "()V"⟩
abbrev cX6_begins : ByteArray := prog_8_method_23_code
def yX6_begins : MethodName := ⟨RX6, "begins", "(II)V"⟩
abbrev cX6_readGround : ByteArray := prog_8_method_24_code
def yX6_readGround : MethodName := ⟨RX6, "readGround", "()V"⟩
abbrev cX6_readLake : ByteArray := prog_8_method_25_code
def yX6_readLake : MethodName := ⟨RX6, "readLake", "()V"⟩
abbrev cX6_isTold : ByteArray := prog_8_method_26_code
def yX6_isTold : MethodName := ⟨RX6, "isTold", "(I)Z"⟩
abbrev cX6_readTree : ByteArray := prog_8_method_27_code
def yX6_readTree : MethodName := ⟨RX6, "readTree", "()V"⟩
abbrev cX6_readThing : ByteArray := prog_8_method_28_code
def yX6_readThing : MethodName := ⟨RX6, "readThing", "()V"⟩
abbrev cX6_garden : ByteArray := prog_8_method_29_code
def yX6_garden : MethodName := ⟨RX6, "garden", "()I"⟩
abbrev cX6_fault : ByteArray := prog_8_method_30_code
def yX6_fault : MethodName := ⟨RX6, "fault", "()I"⟩
abbrev cX6_isTree : ByteArray := prog_8_method_31_code
def yX6_isTree : MethodName := ⟨RX6, "isTree", "(I)Z"⟩
abbrev cX6_of : ByteArray := prog_8_method_32_code
def yX6_of : MethodName := ⟨RX6, "of", "(II)I"⟩
abbrev cX6_mayBeCut : ByteArray := prog_8_method_33_code
def yX6_mayBeCut : MethodName := ⟨RX6, "mayBeCut", "(I)Z"⟩
abbrev cX6_treeAt : ByteArray := prog_8_method_34_code
def yX6_treeAt : MethodName := ⟨RX6, "treeAt", "(I)I"⟩
abbrev cX6_height : ByteArray := prog_8_method_35_code
def yX6_height : MethodName := ⟨RX6, "height", "(I)I"⟩
abbrev cX6_ground : ByteArray := prog_8_method_36_code
def yX6_ground : MethodName := ⟨RX6, "ground", "(I)I"⟩
abbrev cX6_bar : ByteArray := prog_8_method_37_code
def yX6_bar : MethodName := ⟨RX6, "bar", "(I)I"⟩
abbrev cX6_keep : ByteArray := prog_8_method_38_code
def yX6_keep : MethodName := ⟨RX6, "keep", "()V"⟩
abbrev cX6_years : ByteArray := prog_8_method_39_code
def yX6_years : MethodName := ⟨RX6, "years", "(I)I"⟩
abbrev cX6_winter : ByteArray := prog_8_method_40_code
def yX6_winter : MethodName := ⟨RX6, "winter", "(I)I"⟩
abbrev cX6_clip : ByteArray := prog_8_method_41_code
def yX6_clip : MethodName := ⟨RX6, "clip", "(II)I"⟩
abbrev cX6_move : ByteArray := prog_8_method_42_code
def yX6_move : MethodName := ⟨RX6, "move", "(II)I"⟩
abbrev cX6_level : ByteArray := prog_8_method_43_code
def yX6_level : MethodName := ⟨RX6, "level", "(II)I"⟩
abbrev cX6_undo : ByteArray := prog_8_method_44_code
def yX6_undo : MethodName := ⟨RX6, "undo", "()I"⟩
abbrev cX6_tree : ByteArray := prog_8_method_45_code
def yX6_tree : MethodName := ⟨RX6, "tree", "(II)I"⟩
abbrev cX6_site : ByteArray := prog_8_method_46_code
def yX6_site : MethodName := ⟨RX6, "site", "(II)I"⟩
abbrev cX6_isFree : ByteArray := prog_8_method_47_code
def yX6_isFree : MethodName := ⟨RX6, "isFree", "(IIII)Z"⟩
abbrev cX6_top : ByteArray := prog_8_method_48_code
def yX6_top : MethodName := ⟨RX6, "top", "(I)I"⟩
abbrev cX6_isSeen : ByteArray := prog_8_method_49_code
def yX6_isSeen : MethodName := ⟨RX6, "isSeen", "(III)Z"⟩
abbrev cX6_seenFrom : ByteArray := prog_8_method_50_code
def yX6_seenFrom : MethodName := ⟨RX6, "seenFrom", "(II)I"⟩
abbrev cX6_isEye : ByteArray := prog_8_method_51_code
def yX6_isEye : MethodName := ⟨RX6, "isEye", "(I)Z"⟩
abbrev cX6_seen : ByteArray := prog_8_method_52_code
def yX6_seen : MethodName := ⟨RX6, "seen", "(II)I"⟩
abbrev cX6_isDoubled : ByteArray := prog_8_method_53_code
def yX6_isDoubled : MethodName := ⟨RX6, "isDoubled", "(II)Z"⟩
abbrev cX6_doubled : ByteArray := prog_8_method_54_code
def yX6_doubled : MethodName := ⟨RX6, "doubled", "(I)I"⟩
abbrev cX6_areMet : ByteArray := prog_8_method_55_code
def yX6_areMet : MethodName := ⟨RX6, "areMet", "(I)Z"⟩
abbrev cX6_metBy : ByteArray := prog_8_method_56_code
def yX6_metBy : MethodName := ⟨RX6, "metBy", "(I)I"⟩
abbrev cX6_met : ByteArray := prog_8_method_57_code
def yX6_met : MethodName := ⟨RX6, "met", "(I)I"⟩
abbrev cX6_cut : ByteArray := prog_8_method_58_code
def yX6_cut : MethodName := ⟨RX6, "cut", "(IIII)I"⟩
abbrev cX6_kindOfSort : ByteArray := prog_8_method_59_code
def yX6_kindOfSort : MethodName := ⟨RX6, "kindOfSort", "(I)I"⟩
abbrev cX6_plant : ByteArray := prog_8_method_60_code
def yX6_plant : MethodName := ⟨RX6, "plant", "(IIII)I"⟩
abbrev cX6_moon : ByteArray := prog_8_method_61_code
def yX6_moon : MethodName := ⟨RX6, "moon", "(I)I"⟩
abbrev cX6_areThings : ByteArray := prog_8_method_62_code
def yX6_areThings : MethodName := ⟨RX6, "areThings", "(I)Z"⟩
abbrev cX6_path : ByteArray := prog_8_method_63_code
def yX6_path : MethodName := ⟨RX6, "path", "(II)I"⟩
abbrev cX6_picture : ByteArray := prog_8_method_64_code
def yX6_picture : MethodName := ⟨RX6, "picture", "(II)I"⟩
abbrev cX6_moreOf : ByteArray := prog_8_method_65_code
def yX6_moreOf : MethodName := ⟨RX6, "moreOf", "(III)I"⟩
abbrev cX6_rival : ByteArray := prog_8_method_66_code
def yX6_rival : MethodName := ⟨RX6, "rival", "(II)I"⟩
abbrev cX6_image : ByteArray := prog_8_method_67_code
def yX6_image : MethodName := ⟨RX6, "image", "(I)I"⟩
abbrev cX6_restore : ByteArray := prog_8_method_68_code
def yX6_restore : MethodName := ⟨RX6, "restore", "(I)I"⟩
abbrev cX6_isOf : ByteArray := prog_8_method_69_code
def yX6_isOf : MethodName := ⟨RX6, "isOf", "(II)Z"⟩
abbrev cX6_kind : ByteArray := prog_8_method_70_code
def yX6_kind : MethodName := ⟨RX6, "kind", "(I)I"⟩
abbrev cX6_as : ByteArray := prog_8_method_71_code
def yX6_as : MethodName := ⟨RX6, "as", "(II)I"⟩
abbrev cX6_began : ByteArray := prog_8_method_72_code
def yX6_began : MethodName := ⟨RX6, "began", "(I)V"⟩
abbrev cX6_plainSize : ByteArray := prog_8_method_73_code
def yX6_plainSize : MethodName := ⟨RX6, "plainSize", "(I)I"⟩
abbrev cX6_markOf : ByteArray := prog_8_method_74_code
def yX6_markOf : MethodName := ⟨RX6, "markOf", "(I)I"⟩
abbrev cX6_sizeOf : ByteArray := prog_8_method_75_code
def yX6_sizeOf : MethodName := ⟨RX6, "sizeOf", "(I)I"⟩
abbrev cX6_ask : ByteArray := prog_8_method_76_code
def yX6_ask : MethodName := ⟨RX6, "ask", "(II)I"⟩
abbrev cX6_trace : ByteArray := prog_8_method_77_code
def yX6_trace : MethodName := ⟨RX6, "trace", "(I)I"⟩
abbrev cX6_count : ByteArray := prog_8_method_78_code
def yX6_count : MethodName := ⟨RX6, "count", "(I)I"⟩
abbrev cX6_status : ByteArray := prog_8_method_79_code
def yX6_status : MethodName := ⟨RX6, "status", "()I"⟩
def RJ9 : String := "java/lang/Math"
abbrev cJ9_max_7cf53 : ByteArray := prog_9_method_65_code
def yJ9_max_7cf53 : MethodName := ⟨RJ9, "max", "(II)I"⟩
abbrev cJ9_min_7cf53 : ByteArray := prog_9_method_69_code
def yJ9_min_7cf53 : MethodName := ⟨RJ9, "min", "(II)I"⟩
def RJ0 : String := "java/lang/String"
abbrev cJ0_length_8abf5 : ByteArray := prog_10_method_54_code
def yJ0_length_8abf5 : MethodName := ⟨RJ0, "length", "()I"⟩
abbrev cJ0_charAt_5068e : ByteArray := prog_10_method_56_code
def yJ0_charAt_5068e : MethodName := ⟨RJ0, "charAt", "(I)C"⟩
abbrev cJ0_coder_7d493 : ByteArray := prog_10_method_152_code
def yJ0_coder_7d493 : MethodName := ⟨RJ0, "coder", "()B"⟩
abbrev cJ0_isLatin1_aae02 : ByteArray := prog_10_method_154_code
def yJ0_isLatin1_aae02 : MethodName := ⟨RJ0, "isLatin1", "()Z"⟩
abbrev cJ0_checkIndex_df160 : ByteArray := prog_10_method_155_code
def yJ0_checkIndex_df160 : MethodName := ⟨RJ0, "checkIndex", "(II)V"⟩
def RJ1 : String := "java/lang/StringLatin1"
abbrev cJ1_charAt_3b067 : ByteArray := prog_11_method_2_code
def yJ1_charAt_3b067 : MethodName := ⟨RJ1, "charAt", "([BI)C"⟩
def RJ10 : String := "java/lang/System"
def RJ7 : String := "java/util/Arrays"
abbrev cJ7_fill_53178 : ByteArray := prog_14_method_103_code
def yJ7_fill_53178 : MethodName := ⟨RJ7, "fill", "([II)V"⟩
def RJ3 : String := "jdk/internal/util/Preconditions"
abbrev cJ3_checkIndex_8e157 : ByteArray := prog_15_method_11_code
def yJ3_checkIndex_8e157 : MethodName := ⟨RJ3, "checkIndex", "(IILjava/util/function/BiFunction;)I"⟩
def RL : String := "OneBenchLaw"
abbrev cL_law : ByteArray := code
abbrev vwCl : List vw_C := [(RX0, TX0, 15), (RX1, TX1, 8), (RX2, TX2, 4), (RX3, TX3, 1), (RX4, TX4, 2), (RX5, TX5, 14), (RX6, TX6, 25)]
end
section
/-! THE MEMORY: every object has a number, given in the order of making; what it holds is told by its number and place -/
abbrev xM : Type := Nat → Nat → Int32
abbrev xR : Type := Nat → Nat → Option Nat
def xput (I : xM) (i k : Nat) (v : Int32) : xM := va_up I i (upd (I i) k v)
def xrow (I : xM) (i : Nat) (f : Nat → Int32) : xM := va_up I i f
def xputR (R : xR) (i k : Nat) (v : Option Nat) : xR := va_up R i (va_up (R i) k v)
/-- kinds: 0 .. 6 the own classes, 7 bytes, 8 ints, 9 booleans, 10 Garden[], 11 Row[] -/
def xK1 : List Nat := [5, 11, 1, 7, 3, 8, 4, 8, 0, 8, 8, 8, 8, 8, 8, 8, 8, 9, 0, 8, 8, 8, 8, 8, 8, 8, 8, 9, 10, 10, 9, 2, 8, 2, 8, 2, 8, 2, 8, 2, 8, 2, 8, 2, 8, 2, 8]
def xK2 : List Nat := [0, 8, 8, 8, 8, 8, 8, 8, 8, 9]
def xK3 : List Nat := [6, 8, 8, 8, 8, 8, 8, 8, 8, 9, 8, 8]
def xK (i : Nat) : Nat := if i < 47 then xK1.getD i 99 else if i < 307 then xK2.getD ((i - 47) % 10) 99 else xK3.getD (i - 307) 99
def xN1 : List Nat := [0, 8, 0, 400, 0, 20, 0, 16, 0, 20, 6, 6, 6, 6, 6, 6, 6, 6, 0, 20, 6, 6, 6, 6, 6, 6, 6, 6, 24, 2, 2, 0, 40, 0, 40, 0, 40, 0, 40, 0, 40, 0, 40, 0, 40, 0, 40]
def xN2 : List Nat := [0, 20, 6, 6, 6, 6, 6, 6, 6, 6]
def xN3 : List Nat := [0, 8, 8, 320, 74, 74, 1776, 400, 7, 2, 148, 16]
def xN (i : Nat) : Nat := if i < 47 then xN1.getD i 0 else if i < 307 then xN2.getD ((i - 47) % 10) 0 else xN3.getD (i - 307) 0
def xnf (c : Nat) : Nat := ([15, 8, 4, 1, 2, 14, 25] : List Nat).getD c 0
def xIR : List (List Nat) := [[0, 4, 5, 6, 7, 8, 10, 11, 12], [0], [3], [0], [0], [0, 1, 2, 3, 4, 5, 7, 10, 11], [2, 3, 4, 5, 6, 8, 10, 20, 21, 22, 23]]
def xir (c k : Nat) : Bool := (xIR.getD c []).contains k
def xrf (ad : Nat → Nat) (r : Option Nat) : Value := va_rf (r.map ad)
def xval (ad : Nat → Nat) (f : Nat → Int32) (r : Nat → Option Nat) (c k : Nat) : Value := if xir c k then xrf ad (r k) else .int (f k)
def xfs (ad : Nat → Nat) (f : Nat → Int32) (r : Nat → Option Nat) (c : Nat) : List Value := (List.range (xnf c)).map (xval ad f r c)
def xek (cy : Nat → ClassId) (ad : Nat → Nat) (f : Nat → Int32) (r : Nat → Option Nat) (c N : Nat) : va_E :=
  if c < 7 then .inr (c, xfs ad f r c) else if c < 10 then .inl (cy c, N, .inl f) else .inl (cy c, N, .inr (.inr (.inr (.inr (fun k => (r k).map ad)))))
def xe (cy : Nat → ClassId) (ad : Nat → Nat) (I : xM) (R : xR) (i : Nat) : va_E := xek cy ad (I i) (R i) (xK i) (xN i)
/-- the world of the first n objects -/
def xws (cy : Nat → ClassId) (ad : Nat → Nat) (I : xM) (R : xR) (n : Nat) : va_W := (List.range n).map (fun i => (ad i, xe cy ad I R i))
def xty (cy : Nat → ClassId) : List (ClassId × FieldType) := [(cy 7, .byte), (cy 8, .int), (cy 9, .boolean), (cy 10, .object RX0), (cy 11, .object RX2)]
theorem xws_get {cy : Nat → ClassId} {ad : Nat → Nat} {I : xM} {R : xR} {n i : Nat} (h : i < n) : (xws cy ad I R n)[i]? = some (ad i, xe cy ad I R i) := by
  simp [xws, h]
theorem xws_len {cy : Nat → ClassId} {ad : Nat → Nat} {I : xM} {R : xR} {n : Nat} : (xws cy ad I R n).length = n := by simp [xws]
theorem xws_lt {cy : Nat → ClassId} {ad : Nat → Nat} {I : xM} {R : xR} {n k : Nat} {q : Nat × va_E} (h : (xws cy ad I R n)[k]? = some q) : k < n ∧ q = (ad k, xe cy ad I R k) := by
  have hk := (List.getElem?_eq_some_iff.mp h).1
  rw [xws_len] at hk
  rw [xws_get hk] at h
  exact ⟨hk, (Option.some.inj h).symm⟩
theorem xws_set {cy : Nat → ClassId} {ad : Nat → Nat} {I I' : xM} {R R' : xR} {n i : Nat} {e : va_E} (h : i < n) (hI : ∀ j, j ≠ i → I' j = I j) (hR : ∀ j, j ≠ i → R' j = R j) (he : e = xe cy ad I' R' i) : (xws cy ad I R n).set i (ad i, e) = xws cy ad I' R' n := by
  apply List.ext_getElem?
  intro j
  by_cases hj : j = i
  · subst hj
    rw [List.getElem?_set_self (by rw [xws_len]; exact h), xws_get h, he]
  · rw [List.getElem?_set_ne (fun q => hj q.symm)]
    by_cases hn : j < n
    · rw [xws_get hn, xws_get hn]
      unfold xe
      rw [hI j hj, hR j hj]
    · rw [List.getElem?_eq_none (by rw [xws_len]; omega), List.getElem?_eq_none (by rw [xws_len]; omega)]
theorem xws_congr {cy : Nat → ClassId} {ad : Nat → Nat} {I I' : xM} {R R' : xR} {n : Nat} (h : ∀ i, i < n → xe cy ad I' R' i = xe cy ad I R i) : xws cy ad I' R' n = xws cy ad I R n := by
  unfold xws
  apply List.map_congr_left
  intro i hi
  rw [h i (List.mem_range.mp hi)]
theorem xD_same {A : Nat → Prop} {cy cy' : Nat → ClassId} {ad : Nat → Nat} {I I' : xM} {R R' : xR} {n : Nat} (h : va_D A (xws cy ad I R n)) : va_D A (xws cy' ad I' R' n) := by
  refine ⟨fun i j p q hp hq e => ?_, fun k q hk => ?_⟩
  · obtain ⟨h1, rfl⟩ := xws_lt hp
    obtain ⟨h2, rfl⟩ := xws_lt hq
    exact h.1 i j _ _ (xws_get h1) (xws_get h2) e
  · obtain ⟨h1, rfl⟩ := xws_lt hk
    exact h.2 k (ad k, xe cy ad I R k) (xws_get h1)
theorem xfs_get {ad : Nat → Nat} {f : Nat → Int32} {r : Nat → Option Nat} {c k : Nat} (h : k < xnf c) : (xfs ad f r c)[k]? = some (xval ad f r c k) := by
  simp [xfs, h]
theorem xfs_len {ad : Nat → Nat} {f : Nat → Int32} {r : Nat → Option Nat} {c : Nat} : (xfs ad f r c).length = xnf c := by simp [xfs]
theorem xfs_set {ad : Nat → Nat} {f f' : Nat → Int32} {r r' : Nat → Option Nat} {c k : Nat} {v : Value} (h : k < xnf c) (hf : ∀ j, j ≠ k → f' j = f j) (hr : ∀ j, j ≠ k → r' j = r j) (hv : v = xval ad f' r' c k) : (xfs ad f r c).set k v = xfs ad f' r' c := by
  apply List.ext_getElem?
  intro j
  by_cases hj : j = k
  · subst hj
    rw [List.getElem?_set_self (by rw [xfs_len]; exact h), xfs_get h, hv]
  · rw [List.getElem?_set_ne (fun q => hj q.symm)]
    by_cases hn : j < xnf c
    · rw [xfs_get hn, xfs_get hn]
      unfold xval
      rw [hf j hj, hr j hj]
    · rw [List.getElem?_eq_none (by rw [xfs_len]; omega), List.getElem?_eq_none (by rw [xfs_len]; omega)]
theorem xe_obj {cy : Nat → ClassId} {ad : Nat → Nat} {I : xM} {R : xR} {i c : Nat} (hc : xK i = c) (h : c < 7) : xe cy ad I R i = .inr (c, xfs ad (I i) (R i) c) := by
  subst hc; simp [xe, xek, h]
theorem xe_arr {cy : Nat → ClassId} {ad : Nat → Nat} {I : xM} {R : xR} {i c : Nat} (hc : xK i = c) (h : ¬ c < 7) (h2 : c < 10) : xe cy ad I R i = .inl (cy c, xN i, .inl (I i)) := by
  subst hc; simp [xe, xek, h, h2]
theorem xe_arq {cy : Nat → ClassId} {ad : Nat → Nat} {I : xM} {R : xR} {i c : Nat} (hc : xK i = c) (h2 : ¬ c < 10) : xe cy ad I R i = .inl (cy c, xN i, .inr (.inr (.inr (.inr (fun k => (R i k).map ad))))) := by
  subst hc; simp [xe, xek, h2, show ¬ xK i < 7 by omega]
/-! THE FRAME: values with numbers for references -/
def xcv (ad : Nat → Nat) (v : Value) : Value := match v with
  | .ref i => .ref (ad i)
  | v => v
def xcl (ad : Nat → Nat) (q : Nat × Value) : Nat × Value := (q.1, xcv ad q.2)
theorem xcv_cat (ad : Nat → Nat) (v : Value) : (xcv ad v).category = v.category := by cases v <;> rfl
theorem xcv_sl (ad : Nat → Nat) (vs : List Value) : (lg_sl (vs.map (xcv ad))).length = (lg_sl vs).length := by
  induction vs with
  | nil => rfl
  | cons v t ih =>
    simp only [lg_sl, List.map_cons, List.flatMap_cons, List.length_append] at ih ⊢
    rw [ih, xcv_cat]
    by_cases h : v.category = 2 <;> simp [h]
theorem xcl_args (ad : Nat → Nat) (vs : List Value) : ∀ k, lv_args k (vs.map (xcv ad)) = (lv_args k vs).map (xcl ad) := by
  induction vs with
  | nil => intro k; rfl
  | cons v t ih =>
    intro k
    simp only [List.map_cons, lv_args, xcv_cat]
    rw [ih]
    rfl
/-- the words that a contract asks for: all that can be asked, of the tables -/
def xgw : List Cond := lw_tbl.filter goodWord
theorem xgw_in {w : Cond} (h : w ∈ lw_tbl) (hg : goodWord w = true) : w ∈ xgw := List.mem_filter.mpr ⟨h, hg⟩
theorem xgw_tbl {w : Cond} (h : w ∈ xgw) : w ∈ lw_tbl := (List.mem_filter.mp h).1
theorem xgw_good {w : Cond} (h : w ∈ xgw) : (w.onTables && w.keeps) = true ∨ ∃ ty, w = .arrayClass ty := good_of_word (List.mem_filter.mp h).2
/-- links between nest mates -/
def xisN (w : Cond) : Bool := match w with
  | .methodLinkNest _ _ _ _ => true
  | .fieldLinkNest _ _ _ _ _ _ => true
  | _ => false
def xnw : List Cond := lw_tbl.filter xisN
theorem xnw_in {w : Cond} (h : w ∈ lw_tbl) (hg : xisN w = true) : w ∈ xnw := List.mem_filter.mpr ⟨h, hg⟩
theorem xnw_warm {w : Cond} (h : w ∈ xnw) {s U : State} (hW : s.WarmedH U.vm) (hZ : va_Nw w s) : va_Nw w U := by
  have h2 := (List.mem_filter.mp h).2
  cases w <;> simp [xisN] at h2
  · first | exact va_Nw.warmM hW hZ | exact va_Nw.warmF hW hZ
  · first | exact va_Nw.warmM hW hZ | exact va_Nw.warmF hW hZ
theorem xnw_same {w : Cond} (h : w ∈ xnw) {u U : State} (hv : u.vm = U.vm) (hZ : va_Nw w u) : va_Nw w U := by
  have h2 := (List.mem_filter.mp h).2
  cases w <;> simp [xisN] at h2
  · exact va_Nw.same rfl hv hZ
  · exact va_Nw.same rfl hv hZ
/-- the texts in the class files: entry, text, length, bytes -/
def xsi (i : Nat) : Nat := ([72, 49, 58, 124, 126, 128, 130, 132, 63, 116, 118] : List Nat).getD i 0
def xst (i : Nat) : String := (["ground", "lake", "tree", "ash", "yew", "oak", "hedge", "false", "thing", "show", "hide"] : List String).getD i ""
def xsl : List Nat := [6, 4, 4, 3, 3, 3, 5, 5, 5, 4, 4]
def xsb : List (List Int32) := [[103, 114, 111, 117, 110, 100], [108, 97, 107, 101], [116, 114, 101, 101], [97, 115, 104], [121, 101, 119], [111, 97, 107], [104, 101, 100, 103, 101], [102, 97, 108, 115, 101], [116, 104, 105, 110, 103], [115, 104, 111, 119], [104, 105, 100, 101]]
/-- what a walk finds beside its own world: links, texts, two statics -/
def xE (B : Nat → Nat) (A : Nat → Prop) (U : State) (H : Heap) : Prop :=
  (∀ w ∈ xnw, va_Nw w U) ∧ (∀ i, i < 11 → vk_R RX1 (xsi i) (xst i) (B (2000000 + i)) U) ∧ vk_S 11 xsl xsb (fun i => B (2000000 + i)) (fun i => B (3000000 + i)) A U H ∧
  va_Z "java/lang/String" "COMPACT_STRINGS" "Z" (.int 1) A U H ∧
  (va_Z "jdk/internal/util/Preconditions" "SIOOBE_FORMATTER" "Ljava/util/function/BiFunction;" .null A U H ∨ va_Z "jdk/internal/util/Preconditions" "SIOOBE_FORMATTER" "Ljava/util/function/BiFunction;" (.ref (B 4000000)) A U H)
theorem xE.warm {B : Nat → Nat} {A : Nat → Prop} {s U : State} {H : Heap} (hW : s.WarmedH U.vm) (h : xE B A s H) : xE B A U H :=
  ⟨fun w hw => xnw_warm hw hW (h.1 w hw), fun i hi => (h.2.1 i hi).warm hW, h.2.2.1.moved hW.alike, va_Z.moved hW.alike h.2.2.2.1, h.2.2.2.2.elim (fun z => Or.inl (va_Z.moved hW.alike z)) (fun z => Or.inr (va_Z.moved hW.alike z))⟩
theorem xE.same {B : Nat → Nat} {A : Nat → Prop} {s U : State} {H : Heap} (hv : s.vm = U.vm) (h : xE B A s H) : xE B A U H :=
  ⟨fun w hw => xnw_same hw hv (h.1 w hw), fun i hi => (h.2.1 i hi).same hv.symm, h.2.2.1.moved (by rw [hv]; exact Vm.Alike.refl _), va_Z.moved (by rw [hv]; exact Vm.Alike.refl _) h.2.2.2.1, h.2.2.2.2.elim (fun z => Or.inl (va_Z.moved (by rw [hv]; exact Vm.Alike.refl _) z)) (fun z => Or.inr (va_Z.moved (by rw [hv]; exact Vm.Alike.refl _) z))⟩
theorem xE.kept {B : Nat → Nat} {A : Nat → Prop} {U : State} {H H1 : Heap} (h : xE B A U H) (hq : ∀ a : Nat, a < H.size → ¬ A a → H1[a]? = H[a]?) : xE B A U H1 :=
  ⟨h.1, h.2.1, h.2.2.1.kept hq, h.2.2.2.1.kept hq, h.2.2.2.2.elim (fun z => Or.inl (z.kept hq)) (fun z => Or.inr (z.kept hq))⟩
theorem xE.narrow {B : Nat → Nat} {A A1 : Nat → Prop} {U : State} {H : Heap} (h : xE B A U H) (hA : ∀ q, A1 q → A q) : xE B A1 U H :=
  ⟨h.1, h.2.1, h.2.2.1.narrow hA, h.2.2.2.1.narrow hA, h.2.2.2.2.elim (fun z => Or.inl (z.narrow hA)) (fun z => Or.inr (z.narrow hA))⟩
theorem xE.base {B B' : Nat → Nat} {A : Nat → Prop} {U : State} {H : Heap} (h : xE B A U H) (hB : ∀ i, 1000000 ≤ i → B' i = B i) : xE B' A U H := by
  unfold xE
  rw [hB 4000000 (by omega), show (fun i => B' (2000000 + i)) = (fun i => B (2000000 + i)) from funext fun i => hB _ (by omega), show (fun i => B' (3000000 + i)) = (fun i => B (3000000 + i)) from funext fun i => hB _ (by omega)]
  refine ⟨h.1, fun i hi => ?_, h.2.2.1, h.2.2.2.1, h.2.2.2.2⟩
  rw [hB _ (by omega)]
  exact h.2.1 i hi
/-! THE JUDGEMENT -/
/-- the addresses as they were at the entry, but for what has been made since -/
def xAg (B : Nat → Nat) (n0 n : Nat) (ad : Nat → Nat) : Prop := n0 ≤ n ∧ (∀ i, (i < n0 ∨ 1000000 ≤ i) → ad i = B i) ∧ (n = n0 → ad = B)
theorem xAg.trans {B ad ad' : Nat → Nat} {n0 n n' : Nat} (h1 : xAg B n0 n ad) (h2 : xAg ad n n' ad') : xAg B n0 n' ad' :=
  ⟨Nat.le_trans h1.1 h2.1, fun i hi => (h2.2.1 i (hi.elim (fun z => Or.inl (Nat.lt_of_lt_of_le z h1.1)) Or.inr)).trans (h1.2.1 i hi), fun e => by
    have e1 : n = n0 := by have := h1.1; have := h2.1; omega
    rw [h2.2.2 (by omega), h1.2.2 e1]⟩
def xSt (D : va_G) (cy : Nat → ClassId) (A : Nat → Prop) (B : Nat → Nat) (n0 : Nat) (H0 : Heap) (n : Nat) (ad : Nat → Nat) (I : xM) (R : xR) (H : Heap) (locs : List Loc) : Prop :=
  va_P D vwCl (xws cy ad I R n) H ∧ va_D A (xws cy ad I R n) ∧ va_S A H0 H locs ∧ xAg B n0 n ad
abbrev xX : Type := (Program × Launch × Env × Room × State × MethodId × Array Value × List Frame × Method × Code) × ((State → Prop) × va_G × (Nat → ClassId) × (Nat → Prop) × (Nat → Nat) × Nat × Nat)
/-- the machine, at this place of this body, with this memory, comes to its end as it should -/
def G (X : xX) (n cs sl : Nat) (I : xM) (R : xR) (pc : Nat) (L : List (Nat × Value)) (st : List Value) : Prop :=
  match X with
  | ((p, l, e, Rm, s, m, args, below, meth, c), (Q, D, cy, A, B, n0, nL)) =>
    ∀ (ad : Nat → Nat) (H : Heap) (locs : List Loc) (ls : Array Slot), xSt D cy A B n0 s.heap n ad I R H locs → lv_has ls nL (L.map (xcl ad)) →
      W p l e Rm s m args below meth c H locs cs sl Q (F0 m pc ls (st.map (xcv ad)))
def xOK (X : xX) (own : String) (cc : ByteArray) (nL lv kc ks : Nat) : Prop :=
  match X with
  | ((p, _, _, Rm, s, m, args, _, _, c), (_, D, cy, A, B, _, nL')) =>
    p.tables.exec = Jvm.exec ∧ c.code = cc ∧ c.maxLocals = nL ∧ nL' = nL ∧ s.vm.findClass own = some m.cls ∧ (∀ w ∈ xgw, w.before args s = true) ∧ va_K D vwCl (xty cy) s ∧ (∀ q, s.heap.size ≤ q → A q) ∧ xE B A s s.heap ∧ lv ≤ Rm.frames ∧ 64 * lv ≤ Rm.locals ∧ kc ≤ Rm.cells ∧ ks ≤ Rm.slots
end
section
section
variable {X : xX} {own : String} {cc : ByteArray} {nL lv kc ks n cs sl pc : Nat} {I : xM} {R : xR} {L : List (Nat × Value)} {st : List Value}
theorem G_pure (hX : xOK X own cc nL lv kc ks) {pc' : Nat} {st' : List Value}
    (h : ∀ {p : Program} {l : Launch} {e : Env} {Rm : Room} {s : State} {m : MethodId} {args : Array Value} {below : List Frame} {meth : Method} {c : Code} {H : Heap} {locs : List Loc} {ls : Array Slot} {Q : State → Prop} (ad : Nat → Nat),
      p.tables.exec = Jvm.exec → c.code = cc → s.vm.findClass own = some m.cls → (∀ w ∈ xgw, w.before args s = true) → W p l e Rm s m args below meth c H locs cs sl Q (F0 m pc' ls (st'.map (xcv ad))) → W p l e Rm s m args below meth c H locs cs sl Q (F0 m pc ls (st.map (xcv ad))))
    (k : G X n cs sl I R pc' L st') : G X n cs sl I R pc L st := by
  obtain ⟨⟨p, l, e, Rm, s, m, args, below, meth, c⟩, Q, D, cy, A, B, n0, nL'⟩ := X
  obtain ⟨hx, hb, hml, hnl, hown, hts, hK, hA, hE, -⟩ := hX
  intro ad H locs ls hS hl
  exact h ad hx hb hown hts (k ad H locs ls hS hl)
theorem G_br (hX : xOK X own cc nL lv kc ks) {tgt : Nat} {st' : List Value} {P : Prop}
    (h : ∀ {p : Program} {l : Launch} {e : Env} {Rm : Room} {s : State} {m : MethodId} {args : Array Value} {below : List Frame} {meth : Method} {c : Code} {H : Heap} {locs : List Loc} {ls : Array Slot} {Q : State → Prop} (ad : Nat → Nat),
      p.tables.exec = Jvm.exec → c.code = cc → (P → W p l e Rm s m args below meth c H locs cs sl Q (F0 m tgt ls (st'.map (xcv ad)))) → (¬ P → W p l e Rm s m args below meth c H locs cs sl Q (F0 m (pc + 3) ls (st'.map (xcv ad)))) → W p l e Rm s m args below meth c H locs cs sl Q (F0 m pc ls (st.map (xcv ad))))
    (kt : P → G X n cs sl I R tgt L st') (kf : ¬ P → G X n cs sl I R (pc + 3) L st') : G X n cs sl I R pc L st := by
  obtain ⟨⟨p, l, e, Rm, s, m, args, below, meth, c⟩, Q, D, cy, A, B, n0, nL'⟩ := X
  obtain ⟨hx, hb, hml, hnl, hown, hts, hK, hA, hE, -⟩ := hX
  intro ad H locs ls hS hl
  exact h ad hx hb (fun c => kt c ad H locs ls hS hl) (fun c => kf c ad H locs ls hS hl)
theorem G_ld (hX : xOK X own cc nL lv kc ks) {pc' i j : Nat} {st' : List Value} {v : Value} (hj : L[j]? = some (i, v))
    (h : ∀ {p : Program} {l : Launch} {e : Env} {Rm : Room} {s : State} {m : MethodId} {args : Array Value} {below : List Frame} {meth : Method} {c : Code} {H : Heap} {locs : List Loc} {ls : Array Slot} {Q : State → Prop} (ad : Nat → Nat),
      p.tables.exec = Jvm.exec → c.code = cc → ls[i]? = some (.val (xcv ad v)) → W p l e Rm s m args below meth c H locs cs sl Q (F0 m pc' ls (st'.map (xcv ad))) → W p l e Rm s m args below meth c H locs cs sl Q (F0 m pc ls (st.map (xcv ad))))
    (k : G X n cs sl I R pc' L st') : G X n cs sl I R pc L st := by
  obtain ⟨⟨p, l, e, Rm, s, m, args, below, meth, c⟩, Q, D, cy, A, B, n0, nL'⟩ := X
  obtain ⟨hx, hb, hml, hnl, hown, hts, hK, hA, hE, -⟩ := hX
  intro ad H locs ls hS hl
  refine h ad hx hb (lv_at hl j ?_) (k ad H locs ls hS hl)
  rw [List.getElem?_map, hj]
  rfl
def xlset (L : List (Nat × Value)) (i : Nat) (v : Value) : List (Nat × Value) := L.filter (fun q => decide (q.1 < i) && !(q.1 + 1 == i && q.2.category == 2)) ++ (i, v) :: L.filter (fun q => decide (i < q.1) && !(v.category == 2 && q.1 == i + 1))
theorem xlset_ok {ls : Array Slot} {nL : Nat} {ad : Nat → Nat} {L L' : List (Nat × Value)} {i : Nat} {v : Value} {lv' : List (Nat × Value)} (hv : v.category = 1) (hL : xlset L i v = L') (hl' : (i, xcv ad v) :: (L.map (xcl ad)).filter (fun q => !(q.1 == i) && !(q.1 + 1 == i && q.2.category == 2)) = lv') (h : lv_has ls nL lv') : lv_has ls nL (L'.map (xcl ad)) := by
  subst hL; subst hl'
  refine ⟨h.1, h.2.1, fun q hq => h.2.2 q ?_⟩
  obtain ⟨q0, h0, rfl⟩ := List.mem_map.mp hq
  rcases List.mem_append.mp h0 with h1 | h1
  · obtain ⟨h2, h3⟩ := List.mem_filter.mp h1
    refine List.mem_cons_of_mem _ (List.mem_filter.mpr ⟨List.mem_map.mpr ⟨q0, h2, rfl⟩, ?_⟩)
    simp only [xcl, xcv_cat]
    simp only [Bool.and_eq_true, decide_eq_true_eq] at h3
    simp [h3.2, show ¬ q0.1 = i by omega]
  · rcases List.mem_cons.mp h1 with rfl | h1
    · exact List.mem_cons_self
    · obtain ⟨h2, h3⟩ := List.mem_filter.mp h1
      refine List.mem_cons_of_mem _ (List.mem_filter.mpr ⟨List.mem_map.mpr ⟨q0, h2, rfl⟩, ?_⟩)
      simp only [xcl, xcv_cat]
      simp only [Bool.and_eq_true, decide_eq_true_eq] at h3
      simp [show ¬ q0.1 = i by omega, show ¬ q0.1 + 1 = i by omega]
theorem xlset_ok2 {ls : Array Slot} {nL : Nat} {ad : Nat → Nat} {L L' : List (Nat × Value)} {i : Nat} {v : Value} {lv' : List (Nat × Value)} (hv : v.category = 2) (hL : xlset L i v = L') (hl' : (i, xcv ad v) :: (L.map (xcl ad)).filter (fun q => !(q.1 == i) && (!(q.1 == i + 1) && !(q.1 + 1 == i && q.2.category == 2))) = lv') (h : lv_has ls nL lv') : lv_has ls nL (L'.map (xcl ad)) := by
  subst hL; subst hl'
  refine ⟨h.1, h.2.1, fun q hq => h.2.2 q ?_⟩
  obtain ⟨q0, h0, rfl⟩ := List.mem_map.mp hq
  rcases List.mem_append.mp h0 with h1 | h1
  · obtain ⟨h2, h3⟩ := List.mem_filter.mp h1
    refine List.mem_cons_of_mem _ (List.mem_filter.mpr ⟨List.mem_map.mpr ⟨q0, h2, rfl⟩, ?_⟩)
    simp only [xcl, xcv_cat]
    simp only [Bool.and_eq_true, decide_eq_true_eq] at h3
    simp [show ¬ q0.1 = i by omega, show ¬ q0.1 = i + 1 by omega]
    simpa using h3.2
  · rcases List.mem_cons.mp h1 with rfl | h1
    · exact List.mem_cons_self
    · obtain ⟨h2, h3⟩ := List.mem_filter.mp h1
      refine List.mem_cons_of_mem _ (List.mem_filter.mpr ⟨List.mem_map.mpr ⟨q0, h2, rfl⟩, ?_⟩)
      simp only [xcl, xcv_cat]
      simp only [Bool.and_eq_true, decide_eq_true_eq, hv] at h3
      simp [show ¬ q0.1 = i by omega, show ¬ q0.1 + 1 = i by omega]
      simpa using h3.2
/-- the locals that aren't wanted any more -/
theorem g_loc {L' : List (Nat × Value)} (is : List Nat) (h : is.filterMap (fun i => L[i]?) = L') (k : G X n cs sl I R pc L' st) : G X n cs sl I R pc L st := by
  obtain ⟨⟨p, l, e, Rm, s, m, args, below, meth, c⟩, Q, D, cy, A, B, n0, nL'⟩ := X
  intro ad H locs ls hS hl
  refine k ad H locs ls hS (lv_sub hl is ?_)
  subst h
  simp [lv_pick, List.map_filterMap]
theorem g_widen {cs' sl' : Nat} (h1 : cs ≤ cs') (h2 : sl ≤ sl') (k : G X n cs' sl' I R pc L st) : G X n cs sl I R pc L st := by
  obtain ⟨⟨p, l, e, Rm, s, m, args, below, meth, c⟩, Q, D, cy, A, B, n0, nL'⟩ := X
  intro ad H locs ls hS hl
  exact W.widen h1 h2 (k ad H locs ls hS hl)
/-- the same, told otherwise -/
theorem g_st {st' : List Value} (h : st = st') (k : G X n cs sl I R pc L st') : G X n cs sl I R pc L st := by subst h; exact k
theorem g_top {x y : Int32} (h : x = y) (k : G X n cs sl I R pc L (.int y :: st)) : G X n cs sl I R pc L (.int x :: st) := by subst h; exact k
theorem g_L {L' : List (Nat × Value)} (h : L = L') (k : G X n cs sl I R pc L' st) : G X n cs sl I R pc L st := by subst h; exact k
theorem g_mem {I' : xM} (h : I = I') (k : G X n cs sl I' R pc L st) : G X n cs sl I R pc L st := by subst h; exact k
theorem g_ref {R' : xR} (h : R = R') (k : G X n cs sl I R' pc L st) : G X n cs sl I R pc L st := by subst h; exact k
theorem g_nm {x : Int32} (k : ∀ y : Int32, y = x → G X n cs sl I R pc L (.int y :: st)) : G X n cs sl I R pc L (.int x :: st) := k x rfl
theorem g_nml {x : Int64} (k : ∀ y : Int64, y = x → G X n cs sl I R pc L (.long y :: st)) : G X n cs sl I R pc L (.long x :: st) := k x rfl
theorem g_nmm (k : ∀ J : xM, J = I → G X n cs sl J R pc L st) : G X n cs sl I R pc L st := k I rfl
theorem g_iconst (hX : xOK X own cc nL lv kc ks) {z : Int} {v : Int32} (hd : decode cc pc = .ok (.iconst z, 1)) (hv : Int32.ofInt z = v) (k : G X n cs sl I R (pc + 1) L (.int v :: st)) : G X n cs sl I R pc L (st) := G_pure hX (fun ad hx hb _ _ q => lv_iconst hx hb hd hv q) k
theorem g_bipush (hX : xOK X own cc nL lv kc ks) {z : Int} {v : Int32} (hd : decode cc pc = .ok (.bipush z, 2)) (hv : (Int8.ofInt z).toInt32 = v) (k : G X n cs sl I R (pc + 2) L (.int v :: st)) : G X n cs sl I R pc L (st) := G_pure hX (fun ad hx hb _ _ q => lv_bipush hx hb hd hv q) k
theorem g_sipush (hX : xOK X own cc nL lv kc ks) {z : Int} {v : Int32} (hd : decode cc pc = .ok (.sipush z, 3)) (hv : (Int16.ofInt z).toInt32 = v) (k : G X n cs sl I R (pc + 3) L (.int v :: st)) : G X n cs sl I R pc L (st) := G_pure hX (fun ad hx hb _ _ q => lv_sipush hx hb hd hv q) k
theorem g_lconst (hX : xOK X own cc nL lv kc ks) {z : Fin 2} {v : Int64} (hd : decode cc pc = .ok (.lconst z, 1)) (hv : Int64.ofNat (z : Nat) = v) (k : G X n cs sl I R (pc + 1) L (.long v :: st)) : G X n cs sl I R pc L (st) := G_pure hX (fun ad hx hb _ _ q => lv_lconst hx hb hd hv q) k
theorem g_iadd (hX : xOK X own cc nL lv kc ks) {x y v : Int32} (hd : decode cc pc = .ok (.iadd, 1)) (hv : x + y = v) (k : G X n cs sl I R (pc + 1) L (.int v :: st)) : G X n cs sl I R pc L (.int y :: .int x :: st) := G_pure hX (fun ad hx hb _ _ q => by subst hv; exact lv_iadd hx hb hd q) k
theorem g_isub (hX : xOK X own cc nL lv kc ks) {x y v : Int32} (hd : decode cc pc = .ok (.isub, 1)) (hv : x - y = v) (k : G X n cs sl I R (pc + 1) L (.int v :: st)) : G X n cs sl I R pc L (.int y :: .int x :: st) := G_pure hX (fun ad hx hb _ _ q => by subst hv; exact lv_isub hx hb hd q) k
theorem g_imul (hX : xOK X own cc nL lv kc ks) {x y v : Int32} (hd : decode cc pc = .ok (.imul, 1)) (hv : x * y = v) (k : G X n cs sl I R (pc + 1) L (.int v :: st)) : G X n cs sl I R pc L (.int y :: .int x :: st) := G_pure hX (fun ad hx hb _ _ q => by subst hv; exact lv_imul hx hb hd q) k
theorem g_idiv (hX : xOK X own cc nL lv kc ks) {x y v : Int32} (hd : decode cc pc = .ok (.idiv, 1)) (hne : ¬ y = 0) (hv : x / y = v) (k : G X n cs sl I R (pc + 1) L (.int v :: st)) : G X n cs sl I R pc L (.int y :: .int x :: st) := G_pure hX (fun ad hx hb _ _ q => by subst hv; exact lv_idiv hx hb hd hne q) k
theorem g_iand (hX : xOK X own cc nL lv kc ks) {x y v : Int32} (hd : decode cc pc = .ok (.iand, 1)) (hv : x &&& y = v) (k : G X n cs sl I R (pc + 1) L (.int v :: st)) : G X n cs sl I R pc L (.int y :: .int x :: st) := G_pure hX (fun ad hx hb _ _ q => by subst hv; exact lv_iand hx hb hd q) k
theorem g_ior (hX : xOK X own cc nL lv kc ks) {x y v : Int32} (hd : decode cc pc = .ok (.ior, 1)) (hv : x ||| y = v) (k : G X n cs sl I R (pc + 1) L (.int v :: st)) : G X n cs sl I R pc L (.int y :: .int x :: st) := G_pure hX (fun ad hx hb _ _ q => by subst hv; exact lv_ior hx hb hd q) k
theorem g_ixor (hX : xOK X own cc nL lv kc ks) {x y v : Int32} (hd : decode cc pc = .ok (.ixor, 1)) (hv : x ^^^ y = v) (k : G X n cs sl I R (pc + 1) L (.int v :: st)) : G X n cs sl I R pc L (.int y :: .int x :: st) := G_pure hX (fun ad hx hb _ _ q => by subst hv; exact lv_ixor hx hb hd q) k
theorem g_ineg (hX : xOK X own cc nL lv kc ks) {x v : Int32} (hd : decode cc pc = .ok (.ineg, 1)) (hv : -x = v) (k : G X n cs sl I R (pc + 1) L (.int v :: st)) : G X n cs sl I R pc L (.int x :: st) := G_pure hX (fun ad hx hb _ _ q => by subst hv; exact lv_ineg hx hb hd q) k
theorem g_ishl (hX : xOK X own cc nL lv kc ks) {x y v : Int32} (hd : decode cc pc = .ok (.ishl, 1)) (hv : x <<< (y &&& 31) = v) (k : G X n cs sl I R (pc + 1) L (.int v :: st)) : G X n cs sl I R pc L (.int y :: .int x :: st) := G_pure hX (fun ad hx hb _ _ q => by subst hv; exact lv_ishl hx hb hd q) k
theorem g_ishr (hX : xOK X own cc nL lv kc ks) {x y v : Int32} (hd : decode cc pc = .ok (.ishr, 1)) (hv : x >>> (y &&& 31) = v) (k : G X n cs sl I R (pc + 1) L (.int v :: st)) : G X n cs sl I R pc L (.int y :: .int x :: st) := G_pure hX (fun ad hx hb _ _ q => by subst hv; exact lv_ishr hx hb hd q) k
theorem g_i2l (hX : xOK X own cc nL lv kc ks) {x : Int32} {v : Int64} (hd : decode cc pc = .ok (.i2l, 1)) (hv : x.toInt64 = v) (k : G X n cs sl I R (pc + 1) L (.long v :: st)) : G X n cs sl I R pc L (.int x :: st) := G_pure hX (fun ad hx hb _ _ q => lv_i2l hx hb hd hv q) k
theorem g_l2i (hX : xOK X own cc nL lv kc ks) {x : Int64} {v : Int32} (hd : decode cc pc = .ok (.l2i, 1)) (hv : x.toInt32 = v) (k : G X n cs sl I R (pc + 1) L (.int v :: st)) : G X n cs sl I R pc L (.long x :: st) := G_pure hX (fun ad hx hb _ _ q => lv_l2i hx hb hd hv q) k
theorem g_i2b (hX : xOK X own cc nL lv kc ks) {x v : Int32} (hd : decode cc pc = .ok (.i2b, 1)) (hv : x.toInt8.toInt32 = v) (k : G X n cs sl I R (pc + 1) L (.int v :: st)) : G X n cs sl I R pc L (.int x :: st) := G_pure hX (fun ad hx hb _ _ q => lv_i2b hx hb hd hv q) k
theorem g_i2s (hX : xOK X own cc nL lv kc ks) {x v : Int32} (hd : decode cc pc = .ok (.i2s, 1)) (hv : x.toInt16.toInt32 = v) (k : G X n cs sl I R (pc + 1) L (.int v :: st)) : G X n cs sl I R pc L (.int x :: st) := G_pure hX (fun ad hx hb _ _ q => lv_i2s hx hb hd hv q) k
theorem g_i2c (hX : xOK X own cc nL lv kc ks) {x v : Int32} (hd : decode cc pc = .ok (.i2c, 1)) (hv : (x.toUInt32 % 65536).toInt32 = v) (k : G X n cs sl I R (pc + 1) L (.int v :: st)) : G X n cs sl I R pc L (.int x :: st) := G_pure hX (fun ad hx hb _ _ q => lv_i2c hx hb hd hv q) k
theorem g_ladd (hX : xOK X own cc nL lv kc ks) {x y v : Int64} (hd : decode cc pc = .ok (.ladd, 1)) (hv : x + y = v) (k : G X n cs sl I R (pc + 1) L (.long v :: st)) : G X n cs sl I R pc L (.long y :: .long x :: st) := G_pure hX (fun ad hx hb _ _ q => by subst hv; exact lv_ladd hx hb hd q) k
theorem g_lsub (hX : xOK X own cc nL lv kc ks) {x y v : Int64} (hd : decode cc pc = .ok (.lsub, 1)) (hv : x - y = v) (k : G X n cs sl I R (pc + 1) L (.long v :: st)) : G X n cs sl I R pc L (.long y :: .long x :: st) := G_pure hX (fun ad hx hb _ _ q => by subst hv; exact lv_lsub hx hb hd q) k
theorem g_land (hX : xOK X own cc nL lv kc ks) {x y v : Int64} (hd : decode cc pc = .ok (.land, 1)) (hv : x &&& y = v) (k : G X n cs sl I R (pc + 1) L (.long v :: st)) : G X n cs sl I R pc L (.long y :: .long x :: st) := G_pure hX (fun ad hx hb _ _ q => by subst hv; exact lv_land hx hb hd q) k
theorem g_lor (hX : xOK X own cc nL lv kc ks) {x y v : Int64} (hd : decode cc pc = .ok (.lor, 1)) (hv : x ||| y = v) (k : G X n cs sl I R (pc + 1) L (.long v :: st)) : G X n cs sl I R pc L (.long y :: .long x :: st) := G_pure hX (fun ad hx hb _ _ q => by subst hv; exact lv_lor hx hb hd q) k
theorem g_lushr (hX : xOK X own cc nL lv kc ks) {x : Int64} {y : Int32} {v : Int64} (hd : decode cc pc = .ok (.lushr, 1)) (hv : (x.toUInt64 >>> (y.toInt64.toUInt64 &&& Int64.toUInt64 63)).toInt64 = v) (k : G X n cs sl I R (pc + 1) L (.long v :: st)) : G X n cs sl I R pc L (.int y :: .long x :: st) := G_pure hX (fun ad hx hb _ _ q => lv_lushr hx hb hd hv q) k
theorem g_lshl (hX : xOK X own cc nL lv kc ks) {x : Int64} {y : Int32} {v : Int64} (hd : decode cc pc = .ok (.lshl, 1)) (hv : x <<< (y.toInt64 &&& 63) = v) (k : G X n cs sl I R (pc + 1) L (.long v :: st)) : G X n cs sl I R pc L (.int y :: .long x :: st) := G_pure hX (fun ad hx hb _ _ q => lv_lshl hx hb hd hv q) k
theorem g_lshr (hX : xOK X own cc nL lv kc ks) {x : Int64} {y : Int32} {v : Int64} (hd : decode cc pc = .ok (.lshr, 1)) (hv : x >>> (y.toInt64 &&& 63) = v) (k : G X n cs sl I R (pc + 1) L (.long v :: st)) : G X n cs sl I R pc L (.int y :: .long x :: st) := G_pure hX (fun ad hx hb _ _ q => lv_lshr hx hb hd hv q) k
theorem g_lcmp (hX : xOK X own cc nL lv kc ks) {x y : Int64} {v : Int32} (hd : decode cc pc = .ok (.lcmp, 1)) (hv : lg_cmp x y = v) (k : G X n cs sl I R (pc + 1) L (.int v :: st)) : G X n cs sl I R pc L (.long y :: .long x :: st) := G_pure hX (fun ad hx hb _ _ q => by subst hv; exact W.lcmp hx hb hd q) k
theorem g_dup (hX : xOK X own cc nL lv kc ks) {a : Value} (hc : a.category = 1) (hd : decode cc pc = .ok (.dup, 1))  (k : G X n cs sl I R (pc + 1) L (a :: a :: st)) : G X n cs sl I R pc L (a :: st) := G_pure hX (fun ad hx hb _ _ q => lv_dup hx hb hd (by rw [xcv_cat]; exact hc) q) k
theorem g_dup_x1 (hX : xOK X own cc nL lv kc ks) {a b : Value} (hc : a.category = 1) (hc2 : b.category = 1) (hd : decode cc pc = .ok (.dup_x1, 1))  (k : G X n cs sl I R (pc + 1) L (a :: b :: a :: st)) : G X n cs sl I R pc L (a :: b :: st) := G_pure hX (fun ad hx hb _ _ q => lv_dup_x1 hx hb hd (by rw [xcv_cat]; exact hc) (by rw [xcv_cat]; exact hc2) q) k
theorem g_dup_x2 (hX : xOK X own cc nL lv kc ks) {a b d : Value} (hc : a.category = 1) (hc2 : b.category = 1) (hc3 : d.category = 1) (hd : decode cc pc = .ok (.dup_x2, 1))  (k : G X n cs sl I R (pc + 1) L (a :: b :: d :: a :: st)) : G X n cs sl I R pc L (a :: b :: d :: st) := G_pure hX (fun ad hx hb _ _ q => lv_dup_x2 hx hb hd (by rw [xcv_cat]; exact hc) (by rw [xcv_cat]; exact hc2) (by rw [xcv_cat]; exact hc3) q) k
theorem g_dup2 (hX : xOK X own cc nL lv kc ks) {a b : Value} (hc : a.category = 1) (hc2 : b.category = 1) (hd : decode cc pc = .ok (.dup2, 1))  (k : G X n cs sl I R (pc + 1) L (a :: b :: a :: b :: st)) : G X n cs sl I R pc L (a :: b :: st) := G_pure hX (fun ad hx hb _ _ q => lv_dup2_11 hx hb hd (by rw [xcv_cat]; exact hc) (by rw [xcv_cat]; exact hc2) q) k
theorem g_pop (hX : xOK X own cc nL lv kc ks) {a : Value} (hc : a.category = 1) (hd : decode cc pc = .ok (.pop, 1))  (k : G X n cs sl I R (pc + 1) L (st)) : G X n cs sl I R pc L (a :: st) := G_pure hX (fun ad hx hb _ _ q => lv_pop hx hb hd (by rw [xcv_cat]; exact hc) q) k
theorem g_ldc (hX : xOK X own cc nL lv kc ks) {index : Nat} {v : Int32} (hw : Jvm.Cond.constant own index v ∈ xgw) (hd : decode cc pc = .ok (.ldc index, 2)) (k : G X n cs sl I R (pc + 2) L (.int v :: st)) : G X n cs sl I R pc L st := G_pure hX (fun ad hx hb ho ht q => lv_ldc hx hb ho (ht _ hw) hd q) k
theorem g_ldcw (hX : xOK X own cc nL lv kc ks) {index : Nat} {v : Int32} (hw : Jvm.Cond.constant own index v ∈ xgw) (hd : decode cc pc = .ok (.ldc_w index, 3)) (k : G X n cs sl I R (pc + 3) L (.int v :: st)) : G X n cs sl I R pc L st := G_pure hX (fun ad hx hb ho ht q => lv_ldcw hx hb ho (ht _ hw) hd q) k
theorem g_ldc2 (hX : xOK X own cc nL lv kc ks) {index : Nat} {v : Int64} (hw : Jvm.Cond.constantLong own index v ∈ xgw) (hd : decode cc pc = .ok (.ldc2_w index, 3)) (k : G X n cs sl I R (pc + 3) L (.long v :: st)) : G X n cs sl I R pc L st := G_pure hX (fun ad hx hb ho ht q => lv_ldc2 hx hb ho (ht _ hw) hd q) k
theorem g_goto (hX : xOK X own cc nL lv kc ks) {off : Int} {tgt : Nat} (hd : decode cc pc = .ok (.goto off, 3)) (ht : (pc : Int) + off = (tgt : Int)) (k : G X n cs sl I R tgt L st) : G X n cs sl I R pc L st := G_pure hX (fun ad hx hb _ _ q => lv_goto hx hb hd ht q) k
theorem g_null (hX : xOK X own cc nL lv kc ks) (hd : decode cc pc = .ok (.aconst_null, 1)) (k : G X n cs sl I R (pc + 1) L (.null :: st)) : G X n cs sl I R pc L st := G_pure hX (fun ad hx hb _ _ q => lv_null hx hb hd q) k
theorem g_if_eq (hX : xOK X own cc nL lv kc ks) {x : Int32} {off : Int} {tgt : Nat} (hd : decode cc pc = .ok (.ifCond .eq off, 3)) (ht : (pc : Int) + off = (tgt : Int)) (kt : x = 0 → G X n cs sl I R tgt L st) (kf : ¬ x = 0 → G X n cs sl I R (pc + 3) L st) : G X n cs sl I R pc L (.int x :: st) := G_br hX (fun ad hx hb q1 q2 => lv_if_eq hx hb hd ht q1 q2) kt kf
theorem g_if_lt (hX : xOK X own cc nL lv kc ks) {x : Int32} {off : Int} {tgt : Nat} (hd : decode cc pc = .ok (.ifCond .lt off, 3)) (ht : (pc : Int) + off = (tgt : Int)) (kt : x < 0 → G X n cs sl I R tgt L st) (kf : ¬ x < 0 → G X n cs sl I R (pc + 3) L st) : G X n cs sl I R pc L (.int x :: st) := G_br hX (fun ad hx hb q1 q2 => lv_if_lt hx hb hd ht q1 q2) kt kf
theorem g_if_ge (hX : xOK X own cc nL lv kc ks) {x : Int32} {off : Int} {tgt : Nat} (hd : decode cc pc = .ok (.ifCond .ge off, 3)) (ht : (pc : Int) + off = (tgt : Int)) (kt : 0 ≤ x → G X n cs sl I R tgt L st) (kf : ¬ 0 ≤ x → G X n cs sl I R (pc + 3) L st) : G X n cs sl I R pc L (.int x :: st) := G_br hX (fun ad hx hb q1 q2 => lv_if_ge hx hb hd ht q1 q2) kt kf
theorem g_if_gt (hX : xOK X own cc nL lv kc ks) {x : Int32} {off : Int} {tgt : Nat} (hd : decode cc pc = .ok (.ifCond .gt off, 3)) (ht : (pc : Int) + off = (tgt : Int)) (kt : 0 < x → G X n cs sl I R tgt L st) (kf : ¬ 0 < x → G X n cs sl I R (pc + 3) L st) : G X n cs sl I R pc L (.int x :: st) := G_br hX (fun ad hx hb q1 q2 => lv_if_gt hx hb hd ht q1 q2) kt kf
theorem g_if_le (hX : xOK X own cc nL lv kc ks) {x : Int32} {off : Int} {tgt : Nat} (hd : decode cc pc = .ok (.ifCond .le off, 3)) (ht : (pc : Int) + off = (tgt : Int)) (kt : x ≤ 0 → G X n cs sl I R tgt L st) (kf : ¬ x ≤ 0 → G X n cs sl I R (pc + 3) L st) : G X n cs sl I R pc L (.int x :: st) := G_br hX (fun ad hx hb q1 q2 => lv_if_le hx hb hd ht q1 q2) kt kf
theorem g_icmp_eq (hX : xOK X own cc nL lv kc ks) {x y : Int32} {off : Int} {tgt : Nat} (hd : decode cc pc = .ok (.if_icmp .eq off, 3)) (ht : (pc : Int) + off = (tgt : Int)) (kt : x = y → G X n cs sl I R tgt L st) (kf : ¬ x = y → G X n cs sl I R (pc + 3) L st) : G X n cs sl I R pc L (.int y :: .int x :: st) := G_br hX (fun ad hx hb q1 q2 => lv_icmp_eq hx hb hd ht q1 q2) kt kf
theorem g_icmp_lt (hX : xOK X own cc nL lv kc ks) {x y : Int32} {off : Int} {tgt : Nat} (hd : decode cc pc = .ok (.if_icmp .lt off, 3)) (ht : (pc : Int) + off = (tgt : Int)) (kt : x < y → G X n cs sl I R tgt L st) (kf : ¬ x < y → G X n cs sl I R (pc + 3) L st) : G X n cs sl I R pc L (.int y :: .int x :: st) := G_br hX (fun ad hx hb q1 q2 => lv_icmp_lt hx hb hd ht q1 q2) kt kf
theorem g_icmp_ge (hX : xOK X own cc nL lv kc ks) {x y : Int32} {off : Int} {tgt : Nat} (hd : decode cc pc = .ok (.if_icmp .ge off, 3)) (ht : (pc : Int) + off = (tgt : Int)) (kt : y ≤ x → G X n cs sl I R tgt L st) (kf : ¬ y ≤ x → G X n cs sl I R (pc + 3) L st) : G X n cs sl I R pc L (.int y :: .int x :: st) := G_br hX (fun ad hx hb q1 q2 => lv_icmp_ge hx hb hd ht q1 q2) kt kf
theorem g_icmp_gt (hX : xOK X own cc nL lv kc ks) {x y : Int32} {off : Int} {tgt : Nat} (hd : decode cc pc = .ok (.if_icmp .gt off, 3)) (ht : (pc : Int) + off = (tgt : Int)) (kt : y < x → G X n cs sl I R tgt L st) (kf : ¬ y < x → G X n cs sl I R (pc + 3) L st) : G X n cs sl I R pc L (.int y :: .int x :: st) := G_br hX (fun ad hx hb q1 q2 => lv_icmp_gt hx hb hd ht q1 q2) kt kf
theorem g_icmp_le (hX : xOK X own cc nL lv kc ks) {x y : Int32} {off : Int} {tgt : Nat} (hd : decode cc pc = .ok (.if_icmp .le off, 3)) (ht : (pc : Int) + off = (tgt : Int)) (kt : x ≤ y → G X n cs sl I R tgt L st) (kf : ¬ x ≤ y → G X n cs sl I R (pc + 3) L st) : G X n cs sl I R pc L (.int y :: .int x :: st) := G_br hX (fun ad hx hb q1 q2 => lv_icmp_le hx hb hd ht q1 q2) kt kf
theorem g_if_ne (hX : xOK X own cc nL lv kc ks) {x : Int32} {off : Int} {tgt : Nat} (hd : decode cc pc = .ok (.ifCond .ne off, 3)) (ht : (pc : Int) + off = (tgt : Int)) (kt : ¬ x = 0 → G X n cs sl I R tgt L st) (kf : x = 0 → G X n cs sl I R (pc + 3) L st) : G X n cs sl I R pc L (.int x :: st) := G_br (P := ¬ x = 0) hX (fun ad hx hb q1 q2 => lv_if_ne hx hb hd ht q1 (fun z => q2 (fun y => y z))) kt (fun z => kf (Classical.not_not.mp z))
theorem g_icmp_ne (hX : xOK X own cc nL lv kc ks) {x y : Int32} {off : Int} {tgt : Nat} (hd : decode cc pc = .ok (.if_icmp .ne off, 3)) (ht : (pc : Int) + off = (tgt : Int)) (kt : ¬ x = y → G X n cs sl I R tgt L st) (kf : x = y → G X n cs sl I R (pc + 3) L st) : G X n cs sl I R pc L (.int y :: .int x :: st) := G_br (P := ¬ x = y) hX (fun ad hx hb q1 q2 => lv_icmp_ne hx hb hd ht q1 (fun z => q2 (fun y => y z))) kt (fun z => kf (Classical.not_not.mp z))
theorem g_iload_n (hX : xOK X own cc nL lv kc ks) {a : Fin 4} {i : Nat} {x : Int32} (hd : decode cc pc = .ok (.iload_n a, 1)) (hi : (a : Nat) = i) (j : Nat) (hj : L[j]? = some (i, .int x)) (k : G X n cs sl I R (pc + 1) L (.int x :: st)) : G X n cs sl I R pc L st := G_ld hX hj (fun ad hx hb z q => lv_iload_n hx hb hd hi z q) k
theorem g_iload (hX : xOK X own cc nL lv kc ks) {i : Nat} {x : Int32} (hd : decode cc pc = .ok (.iload i, 2)) (j : Nat) (hj : L[j]? = some (i, .int x)) (k : G X n cs sl I R (pc + 2) L (.int x :: st)) : G X n cs sl I R pc L st := G_ld hX hj (fun ad hx hb z q => lv_iload hx hb hd z q) k
theorem g_istore_n (hX : xOK X own cc nL lv kc ks) {a : Fin 4} {i : Nat} {x : Int32} {L' : List (Nat × Value)} (hd : decode cc pc = .ok (.istore_n a, 1)) (hi : (a : Nat) = i) (hn : i < nL) (hL : xlset L i (.int x) = L') (k : G X n cs sl I R (pc + 1) L' st) : G X n cs sl I R pc L (.int x :: st) := by
  obtain ⟨⟨p, l, e, Rm, s, m, args, below, meth, c⟩, Q, D, cy, A, B, n0, nL'⟩ := X
  obtain ⟨hx, hb, hml, rfl, hown, hts, hK, hA, hE, -⟩ := hX
  intro ad H locs ls hS hl
  exact lv_istore_n hx hb hd hi hl hn rfl (fun ls2 hl2 => k ad H locs ls2 hS (xlset_ok (ad := ad) rfl hL rfl hl2))
theorem g_istore (hX : xOK X own cc nL lv kc ks) {i : Nat} {x : Int32} {L' : List (Nat × Value)} (hd : decode cc pc = .ok (.istore i, 2)) (hn : i < nL) (hL : xlset L i (.int x) = L') (k : G X n cs sl I R (pc + 2) L' st) : G X n cs sl I R pc L (.int x :: st) := by
  obtain ⟨⟨p, l, e, Rm, s, m, args, below, meth, c⟩, Q, D, cy, A, B, n0, nL'⟩ := X
  obtain ⟨hx, hb, hml, rfl, hown, hts, hK, hA, hE, -⟩ := hX
  intro ad H locs ls hS hl
  exact lv_istore hx hb hd hl hn rfl (fun ls2 hl2 => k ad H locs ls2 hS (xlset_ok (ad := ad) rfl hL rfl hl2))
theorem g_aload_n (hX : xOK X own cc nL lv kc ks) {a : Fin 4} {i : Nat} {x : Nat} (hd : decode cc pc = .ok (.aload_n a, 1)) (hi : (a : Nat) = i) (j : Nat) (hj : L[j]? = some (i, .ref x)) (k : G X n cs sl I R (pc + 1) L (.ref x :: st)) : G X n cs sl I R pc L st := G_ld hX hj (fun ad hx hb z q => lv_aload_n hx hb hd hi z q) k
theorem g_aload (hX : xOK X own cc nL lv kc ks) {i : Nat} {x : Nat} (hd : decode cc pc = .ok (.aload i, 2)) (j : Nat) (hj : L[j]? = some (i, .ref x)) (k : G X n cs sl I R (pc + 2) L (.ref x :: st)) : G X n cs sl I R pc L st := G_ld hX hj (fun ad hx hb z q => lv_aload hx hb hd z q) k
theorem g_astore_n (hX : xOK X own cc nL lv kc ks) {a : Fin 4} {i : Nat} {x : Nat} {L' : List (Nat × Value)} (hd : decode cc pc = .ok (.astore_n a, 1)) (hi : (a : Nat) = i) (hn : i < nL) (hL : xlset L i (.ref x) = L') (k : G X n cs sl I R (pc + 1) L' st) : G X n cs sl I R pc L (.ref x :: st) := by
  obtain ⟨⟨p, l, e, Rm, s, m, args, below, meth, c⟩, Q, D, cy, A, B, n0, nL'⟩ := X
  obtain ⟨hx, hb, hml, rfl, hown, hts, hK, hA, hE, -⟩ := hX
  intro ad H locs ls hS hl
  exact lv_astore_n hx hb hd hi hl hn rfl (fun ls2 hl2 => k ad H locs ls2 hS (xlset_ok (ad := ad) rfl hL rfl hl2))
theorem g_astore (hX : xOK X own cc nL lv kc ks) {i : Nat} {x : Nat} {L' : List (Nat × Value)} (hd : decode cc pc = .ok (.astore i, 2)) (hn : i < nL) (hL : xlset L i (.ref x) = L') (k : G X n cs sl I R (pc + 2) L' st) : G X n cs sl I R pc L (.ref x :: st) := by
  obtain ⟨⟨p, l, e, Rm, s, m, args, below, meth, c⟩, Q, D, cy, A, B, n0, nL'⟩ := X
  obtain ⟨hx, hb, hml, rfl, hown, hts, hK, hA, hE, -⟩ := hX
  intro ad H locs ls hS hl
  exact lv_astore hx hb hd hl hn rfl (fun ls2 hl2 => k ad H locs ls2 hS (xlset_ok (ad := ad) rfl hL rfl hl2))
theorem g_lload_n (hX : xOK X own cc nL lv kc ks) {a : Fin 4} {i : Nat} {x : Int64} (hd : decode cc pc = .ok (.lload_n a, 1)) (hi : (a : Nat) = i) (j : Nat) (hj : L[j]? = some (i, .long x)) (k : G X n cs sl I R (pc + 1) L (.long x :: st)) : G X n cs sl I R pc L st := G_ld hX hj (fun ad hx hb z q => lv_lload_n hx hb hd hi z q) k
theorem g_lload (hX : xOK X own cc nL lv kc ks) {i : Nat} {x : Int64} (hd : decode cc pc = .ok (.lload i, 2)) (j : Nat) (hj : L[j]? = some (i, .long x)) (k : G X n cs sl I R (pc + 2) L (.long x :: st)) : G X n cs sl I R pc L st := G_ld hX hj (fun ad hx hb z q => lv_lload hx hb hd z q) k
theorem g_lstore_n (hX : xOK X own cc nL lv kc ks) {a : Fin 4} {i : Nat} {x : Int64} {L' : List (Nat × Value)} (hd : decode cc pc = .ok (.lstore_n a, 1)) (hi : (a : Nat) = i) (hn : i + 1 < nL) (hL : xlset L i (.long x) = L') (k : G X n cs sl I R (pc + 1) L' st) : G X n cs sl I R pc L (.long x :: st) := by
  obtain ⟨⟨p, l, e, Rm, s, m, args, below, meth, c⟩, Q, D, cy, A, B, n0, nL'⟩ := X
  obtain ⟨hx, hb, hml, rfl, hown, hts, hK, hA, hE, -⟩ := hX
  intro ad H locs ls hS hl
  exact lv_lstore_n hx hb hd hi hl hn rfl (fun ls2 hl2 => k ad H locs ls2 hS (xlset_ok2 (ad := ad) rfl hL rfl hl2))
theorem g_lstore (hX : xOK X own cc nL lv kc ks) {i : Nat} {x : Int64} {L' : List (Nat × Value)} (hd : decode cc pc = .ok (.lstore i, 2)) (hn : i + 1 < nL) (hL : xlset L i (.long x) = L') (k : G X n cs sl I R (pc + 2) L' st) : G X n cs sl I R pc L (.long x :: st) := by
  obtain ⟨⟨p, l, e, Rm, s, m, args, below, meth, c⟩, Q, D, cy, A, B, n0, nL'⟩ := X
  obtain ⟨hx, hb, hml, rfl, hown, hts, hK, hA, hE, -⟩ := hX
  intro ad H locs ls hS hl
  exact lv_lstore hx hb hd hl hn rfl (fun ls2 hl2 => k ad H locs ls2 hS (xlset_ok2 (ad := ad) rfl hL rfl hl2))
theorem g_iinc (hX : xOK X own cc nL lv kc ks) {i : Nat} {z : Int} {x v : Int32} {L' : List (Nat × Value)} (hd : decode cc pc = .ok (.iinc i z, 3)) (hn : i < nL) (j : Nat) (hj : L[j]? = some (i, .int x)) (hv : x + Int32.ofInt z = v) (hL : xlset L i (.int v) = L') (k : G X n cs sl I R (pc + 3) L' st) : G X n cs sl I R pc L st := by
  obtain ⟨⟨p, l, e, Rm, s, m, args, below, meth, c⟩, Q, D, cy, A, B, n0, nL'⟩ := X
  obtain ⟨hx, hb, hml, rfl, hown, hts, hK, hA, hE, -⟩ := hX
  intro ad H locs ls hS hl
  exact lv_iinc (k := j) hx hb hd hl (by rw [List.getElem?_map, hj]; rfl) hv hn rfl (fun ls2 hl2 => k ad H locs ls2 hS (xlset_ok (ad := ad) (v := .int v) rfl hL rfl hl2))
theorem g_tin (hX : xOK X own cc nL lv kc ks) {dflt lo hi : Int} {offs : Array Int} {len : Nat} {x : Int32} {off : Int} {tgt : Nat} (hd : decode cc pc = .ok (.tableswitch dflt lo hi offs, len)) (h1 : ¬ x.toInt < lo) (h2 : ¬ hi < x.toInt) (ho : offs[(x.toInt - lo).toNat]? = some off) (ht : (pc : Int) + off = (tgt : Int)) (k : G X n cs sl I R tgt L st) : G X n cs sl I R pc L (.int x :: st) := G_pure hX (fun ad hx hb _ _ q => lv_tableIn hx hb hd h1 h2 ho ht q) k
theorem g_tout (hX : xOK X own cc nL lv kc ks) {dflt lo hi : Int} {offs : Array Int} {len : Nat} {x : Int32} {tgt : Nat} (hd : decode cc pc = .ok (.tableswitch dflt lo hi offs, len)) (h : x.toInt < lo ∨ hi < x.toInt) (ht : (pc : Int) + dflt = (tgt : Int)) (k : G X n cs sl I R tgt L st) : G X n cs sl I R pc L (.int x :: st) := G_pure hX (fun ad hx hb _ _ q => lv_tableOut hx hb hd h ht q) k
end
end
section
/-- what is known of an own kind of objects -/
def xCl (c : Nat) (C : String) (T : u_T) (N : Nat) (ty : Nat → FieldType) : Prop :=
  vwCl[c]? = some (C, T, N) ∧ c < 7 ∧ xnf c = N ∧ (∀ w ∈ u_ws C T N, w ∈ xgw) ∧ (∀ k, k < N → parseFieldDescriptor (T k).2.2.1 = some (ty k)) ∧ (∀ a, a < N → ∀ b, b < N → a ≠ b → (T a).2.1 ≠ (T b).2.1) ∧ (∀ k, k < N → (T k).1 = C)
theorem xin_of {ws : List Cond} (h1 : ∀ w ∈ ws, w ∈ lw_tbl) (h2 : ws.all goodWord = true) : ∀ w ∈ ws, w ∈ xgw := fun w h => xgw_in (h1 w h) (List.all_eq_true.mp h2 w h)
theorem xCl0 : xCl 0 RX0 TX0 15 tyX0 := ⟨rfl, by decide, rfl, xin_of (by decide +kernel) (by decide +kernel), tyX0_ok, nmX0, by decide +kernel⟩
theorem xCl1 : xCl 1 RX1 TX1 8 tyX1 := ⟨rfl, by decide, rfl, xin_of (by decide +kernel) (by decide +kernel), tyX1_ok, nmX1, by decide +kernel⟩
theorem xCl2 : xCl 2 RX2 TX2 4 tyX2 := ⟨rfl, by decide, rfl, xin_of (by decide +kernel) (by decide +kernel), tyX2_ok, nmX2, by decide +kernel⟩
theorem xCl3 : xCl 3 RX3 TX3 1 tyX3 := ⟨rfl, by decide, rfl, xin_of (by decide +kernel) (by decide +kernel), tyX3_ok, nmX3, by decide +kernel⟩
theorem xCl4 : xCl 4 RX4 TX4 2 tyX4 := ⟨rfl, by decide, rfl, xin_of (by decide +kernel) (by decide +kernel), tyX4_ok, nmX4, by decide +kernel⟩
theorem xCl5 : xCl 5 RX5 TX5 14 tyX5 := ⟨rfl, by decide, rfl, xin_of (by decide +kernel) (by decide +kernel), tyX5_ok, nmX5, by decide +kernel⟩
theorem xCl6 : xCl 6 RX6 TX6 25 tyX6 := ⟨rfl, by decide, rfl, xin_of (by decide +kernel) (by decide +kernel), tyX6_ok, nmX6, by decide +kernel⟩
/-- a link to a field, to a method -/
def xLk (own : String) (index : Nat) (T : u_T) (k : Nat) : Prop := Cond.fieldLink own index (T k).1 (T k).2.1 (T k).2.2.1 ∈ xgw ∨ ∃ host, Cond.fieldLinkNest own index (T k).1 (T k).2.1 (T k).2.2.1 host ∈ xnw
def xLm (own : String) (index : Nat) (y : MethodName) : Prop := Cond.methodLink own index y ∈ xgw ∨ ∃ host, Cond.methodLinkNest own index y host ∈ xnw
def xMt (y : MethodName) (b : ByteArray) (maxL : Nat) (ret : Option FieldType) (np : Nat) : Prop :=
  Cond.code y b maxL ret ∈ xgw ∧ Cond.initialized y.cls ∈ xgw ∧ (y.cls ≠ "java/lang/invoke/MethodHandle" ∧ y.cls ≠ "java/lang/invoke/VarHandle" ∧ (parseMethodDescriptor y.desc).map (fun d => d.parameters.length) = some np) ∧ maxL ≤ 45
def xMv (y : MethodName) : Prop := Cond.instanceMethod y ∈ xgw ∧ Cond.selects y.cls y y ∈ xgw
theorem xN1_le : ∀ i, i < 47 → xN1.getD i 0 ≤ 1776 := by decide +kernel
theorem xN2_le : ∀ i, i < 10 → xN2.getD i 0 ≤ 1776 := by decide +kernel
theorem xN3_le : ∀ i, i < 12 → xN3.getD i 0 ≤ 1776 := by decide +kernel
theorem xN_le (i : Nat) : xN i ≤ 1776 := by
  unfold xN
  split
  · exact xN1_le i (by omega)
  · split
    · exact xN2_le _ (Nat.mod_lt _ (by decide))
    · by_cases h : i - 307 < 12
      · exact xN3_le _ h
      · rw [List.getD_eq_getElem?_getD, List.getElem?_eq_none (by simp [xN3]; omega)]; simp
theorem xN_lt (i : Nat) : xN i < 2 ^ 31 := Nat.lt_of_le_of_lt (xN_le i) (by decide)
theorem xput_ne {I : xM} {i k j : Nat} {v : Int32} (h : j ≠ i) : xput I i k v j = I j := va_up_ne _ _ h
theorem xput_self {I : xM} {i k : Nat} {v : Int32} : xput I i k v i = upd (I i) k v := va_up_self _ _ _
theorem xputR_ne {R : xR} {i k j : Nat} {v : Option Nat} (h : j ≠ i) : xputR R i k v j = R j := va_up_ne _ _ h
theorem xputR_self {R : xR} {i k : Nat} {v : Option Nat} : xputR R i k v i = va_up (R i) k v := va_up_self _ _ _
theorem xws_putI {cy : Nat → ClassId} {ad : Nat → Nat} {I : xM} {R : xR} {n i c k : Nat} {v : Int32} (hn : i < n) (hc : xK i = c) (h7 : c < 7) (hk : k < xnf c) (hir : xir c k = false) :
    (xws cy ad I R n).set i (ad i, .inr (c, (xfs ad (I i) (R i) c).set k (.int v))) = xws cy ad (xput I i k v) R n := by
  refine xws_set hn (fun j hj => xput_ne hj) (fun _ _ => rfl) ?_
  rw [xe_obj hc h7, xput_self, xfs_set (f' := upd (I i) k v) (r' := R i) hk (fun j hj => by simp [upd, hj]) (fun _ _ => rfl) (by simp [xval, hir, upd])]
theorem xws_putR {cy : Nat → ClassId} {ad : Nat → Nat} {I : xM} {R : xR} {n i c k j : Nat} (hn : i < n) (hc : xK i = c) (h7 : c < 7) (hk : k < xnf c) (hir : xir c k = true) :
    (xws cy ad I R n).set i (ad i, .inr (c, (xfs ad (I i) (R i) c).set k (.ref (ad j)))) = xws cy ad I (xputR R i k (some j)) n := by
  refine xws_set hn (fun _ _ => rfl) (fun j hj => xputR_ne hj) ?_
  rw [xe_obj hc h7, xputR_self, xfs_set (f' := I i) (r' := va_up (R i) k (some j)) hk (fun _ _ => rfl) (fun j hj => va_up_ne _ _ hj) (by simp [xval, hir, va_up, xrf, va_rf])]
theorem xws_row {cy : Nat → ClassId} {ad : Nat → Nat} {I : xM} {R : xR} {n i c : Nat} {f : Nat → Int32} (hn : i < n) (hc : xK i = c) (h7 : ¬ c < 7) (h10 : c < 10) :
    (xws cy ad I R n).set i (ad i, .inl (cy c, xN i, .inl f)) = xws cy ad (xrow I i f) R n := by
  refine xws_set hn (fun j hj => va_up_ne _ _ hj) (fun _ _ => rfl) ?_
  rw [xe_arr hc h7 h10, xrow, va_up_self]
section
variable {X : xX} {own : String} {cc : ByteArray} {nL lv kc ks n cs sl pc : Nat} {I : xM} {R : xR} {L : List (Nat × Value)} {st : List Value}
theorem g_getI (hX : xOK X own cc nL lv kc ks) {i c N index : Nat} {C : String} {T : u_T} {ty : Nat → FieldType} {v : Int32} (hn : i < n) (hc : xK i = c) (hC : xCl c C T N ty) (k : Nat) (hk : k < N) (hir : xir c k = false) (hlk : xLk own index T k) (hd : decode cc pc = .ok (.getfield index, 3)) (hv : I i k = v)
    (kk : G X n cs sl I R (pc + 3) L (.int v :: st)) : G X n cs sl I R pc L (.ref i :: st) := by
  obtain ⟨⟨p, l, e, Rm, s, m, args, below, meth, c'⟩, Q, D, cy, A, B, n0, nL'⟩ := X
  obtain ⟨hx, hb, hml, hnl, hown, hts, hK, hA, hE, -⟩ := hX
  obtain ⟨q1, q2, q3, q4, q5, q6, q7⟩ := hC
  intro ad H locs ls hS hl
  have he : (xws cy ad I R n)[i]? = some (ad i, .inr (c, xfs ad (I i) (R i) c)) := by rw [xws_get hn, xe_obj hc q2]
  have hv2 : (xfs ad (I i) (R i) c)[k]? = some (.int v) := by rw [xfs_get (by omega)]; simp [xval, hir, hv]
  rcases hlk with h | ⟨host, h⟩
  · exact va_get hx hb hts q4 hown hK hS.1 i he q1 k hk (hts _ h) (fun _ z => z) hv2 hd (kk ad H locs ls hS hl)
  · exact va_getN hx hb hts q4 hown hK hS.1 i he q1 k hk ((hE.1 _ h).use (by rfl)) (fun _ z => z) hv2 hd (kk ad H locs ls hS hl)
theorem g_getR (hX : xOK X own cc nL lv kc ks) {i c N index : Nat} {C : String} {T : u_T} {ty : Nat → FieldType} {j : Nat} (hn : i < n) (hc : xK i = c) (hC : xCl c C T N ty) (k : Nat) (hk : k < N) (hir : xir c k = true) (hlk : xLk own index T k) (hd : decode cc pc = .ok (.getfield index, 3)) (hv : R i k = some j)
    (kk : G X n cs sl I R (pc + 3) L (.ref j :: st)) : G X n cs sl I R pc L (.ref i :: st) := by
  obtain ⟨⟨p, l, e, Rm, s, m, args, below, meth, c'⟩, Q, D, cy, A, B, n0, nL'⟩ := X
  obtain ⟨hx, hb, hml, hnl, hown, hts, hK, hA, hE, -⟩ := hX
  obtain ⟨q1, q2, q3, q4, q5, q6, q7⟩ := hC
  intro ad H locs ls hS hl
  have he : (xws cy ad I R n)[i]? = some (ad i, .inr (c, xfs ad (I i) (R i) c)) := by rw [xws_get hn, xe_obj hc q2]
  have hv2 : (xfs ad (I i) (R i) c)[k]? = some (.ref (ad j)) := by rw [xfs_get (by omega)]; simp [xval, hir, hv, xrf, va_rf]
  rcases hlk with h | ⟨host, h⟩
  · exact va_get hx hb hts q4 hown hK hS.1 i he q1 k hk (hts _ h) (fun _ z => z) hv2 hd (kk ad H locs ls hS hl)
  · exact va_getN hx hb hts q4 hown hK hS.1 i he q1 k hk ((hE.1 _ h).use (by rfl)) (fun _ z => z) hv2 hd (kk ad H locs ls hS hl)
theorem g_putI (hX : xOK X own cc nL lv kc ks) {i c N index : Nat} {C : String} {T : u_T} {ty : Nat → FieldType} {v : Int32} (hn : i < n) (hc : xK i = c) (hC : xCl c C T N ty) (k : Nat) (hk : k < N) (hir : xir c k = false) (hfin : (T k).2.2.2 = false) (hlk : xLk own index T k) (hd : decode cc pc = .ok (.putfield index, 3)) (hf1 : narrow (ty k) (.int v) = .int v) (hf2 : fits (ty k) (.int v) = true)
    (kk : G X n cs sl (xput I i k v) R (pc + 3) L st) : G X n cs sl I R pc L (.int v :: .ref i :: st) := by
  obtain ⟨⟨p, l, e, Rm, s, m, args, below, meth, c'⟩, Q, D, cy, A, B, n0, nL'⟩ := X
  obtain ⟨hx, hb, hml, hnl, hown, hts, hK, hA, hE, -⟩ := hX
  obtain ⟨q1, q2, q3, q4, q5, q6, q7⟩ := hC
  intro ad H locs ls hS hl
  obtain ⟨hP, hD, hSS, hAg⟩ := hS
  have he : (xws cy ad I R n)[i]? = some (ad i, .inr (c, xfs ad (I i) (R i) c)) := by rw [xws_get hn, xe_obj hc q2]
  have hkk : ∀ (H1 : Heap) (locs1 : List Loc), va_P D vwCl ((xws cy ad I R n).set i (ad i, .inr (c, (xfs ad (I i) (R i) c).set k (.int v)))) H1 → va_D A ((xws cy ad I R n).set i (ad i, .inr (c, (xfs ad (I i) (R i) c).set k (.int v)))) → va_S A s.heap H1 locs1 → W p l e Rm s m args below meth c' H1 locs1 cs sl Q (F0 m (pc + 3) ls (st.map (xcv ad))) := by
    intro H1 locs1 h1 h2 h3
    rw [xws_putI hn hc q2 (by omega) hir] at h1 h2
    exact kk ad H1 locs1 ls ⟨h1, h2, h3, hAg⟩ hl
  rcases hlk with h | ⟨host, h⟩
  · exact va_put hx hb hts q4 ty q5 q6 hown hK hP hD hSS i he q1 k hk (hts _ h) (fun _ z => z) hfin (q5 k hk) hf1 hf2 (by rw [xfs_len]; omega) hd hkk
  · exact va_putN hx hb hts q4 ty q5 q6 hown hK hP hD hSS i he q1 k hk ((hE.1 _ h).use (by rfl)) (fun _ z => z) hfin (q5 k hk) hf1 hf2 (by rw [xfs_len]; omega) hd hkk
theorem g_putR (hX : xOK X own cc nL lv kc ks) {i c N index : Nat} {C : String} {T : u_T} {ty : Nat → FieldType} {j : Nat} (hn : i < n) (hc : xK i = c) (hC : xCl c C T N ty) (k : Nat) (hk : k < N) (hir : xir c k = true) (hfin : (T k).2.2.2 = false) (hlk : xLk own index T k) (hd : decode cc pc = .ok (.putfield index, 3)) (hf1 : ∀ a : Nat, narrow (ty k) (.ref a) = .ref a) (hf2 : ∀ a : Nat, fits (ty k) (.ref a) = true)
    (kk : G X n cs sl I (xputR R i k (some j)) (pc + 3) L st) : G X n cs sl I R pc L (.ref j :: .ref i :: st) := by
  obtain ⟨⟨p, l, e, Rm, s, m, args, below, meth, c'⟩, Q, D, cy, A, B, n0, nL'⟩ := X
  obtain ⟨hx, hb, hml, hnl, hown, hts, hK, hA, hE, -⟩ := hX
  obtain ⟨q1, q2, q3, q4, q5, q6, q7⟩ := hC
  intro ad H locs ls hS hl
  obtain ⟨hP, hD, hSS, hAg⟩ := hS
  have he : (xws cy ad I R n)[i]? = some (ad i, .inr (c, xfs ad (I i) (R i) c)) := by rw [xws_get hn, xe_obj hc q2]
  have hkk : ∀ (H1 : Heap) (locs1 : List Loc), va_P D vwCl ((xws cy ad I R n).set i (ad i, .inr (c, (xfs ad (I i) (R i) c).set k (.ref (ad j))))) H1 → va_D A ((xws cy ad I R n).set i (ad i, .inr (c, (xfs ad (I i) (R i) c).set k (.ref (ad j))))) → va_S A s.heap H1 locs1 → W p l e Rm s m args below meth c' H1 locs1 cs sl Q (F0 m (pc + 3) ls (st.map (xcv ad))) := by
    intro H1 locs1 h1 h2 h3
    rw [xws_putR hn hc q2 (by omega) hir] at h1 h2
    exact kk ad H1 locs1 ls ⟨h1, h2, h3, hAg⟩ hl
  rcases hlk with h | ⟨host, h⟩
  · exact va_put hx hb hts q4 ty q5 q6 hown hK hP hD hSS i he q1 k hk (hts _ h) (fun _ z => z) hfin (q5 k hk) (hf1 _) (hf2 _) (by rw [xfs_len]; omega) hd hkk
  · exact va_putN hx hb hts q4 ty q5 q6 hown hK hP hD hSS i he q1 k hk ((hE.1 _ h).use (by rfl)) (fun _ z => z) hfin (q5 k hk) (hf1 _) (hf2 _) (by rw [xfs_len]; omega) hd hkk
theorem xty_at (cy : Nat → ClassId) : (xty cy)[0]? = some (cy 7, .byte) ∧ (xty cy)[1]? = some (cy 8, .int) ∧ (xty cy)[2]? = some (cy 9, .boolean) ∧ (xty cy)[3]? = some (cy 10, .object RX0) ∧ (xty cy)[4]? = some (cy 11, .object RX2) := ⟨rfl, rfl, rfl, rfl, rfl⟩
theorem g_alen (hX : xOK X own cc nL lv kc ks) {a c : Nat} {v : Int32} (hn : a < n) (hc : xK a = c) (h7 : ¬ c < 7) (h10 : c < 10) (hd : decode cc pc = .ok (.arraylength, 1)) (hv : nI (xN a) = v)
    (kk : G X n cs sl I R (pc + 1) L (.int v :: st)) : G X n cs sl I R pc L (.ref a :: st) := by
  obtain ⟨⟨p, l, e, Rm, s, m, args, below, meth, c'⟩, Q, D, cy, A, B, n0, nL'⟩ := X
  obtain ⟨hx, hb, hml, hnl, hown, hts, hK, hA, hE, -⟩ := hX
  intro ad H locs ls hS hl
  have he : (xws cy ad I R n)[a]? = some (ad a, .inl (cy c, xN a, .inl (I a))) := by rw [xws_get hn, xe_arr hc h7 h10]
  rcases (show c = 7 ∨ c = 8 ∨ c = 9 by omega) with rfl | rfl | rfl
  · exact va_alen hx hb hK hS.1 a 0 he (xty_at cy).1 hv hd (kk ad H locs ls hS hl)
  · exact va_alen hx hb hK hS.1 a 1 he (xty_at cy).2.1 hv hd (kk ad H locs ls hS hl)
  · exact va_alen hx hb hK hS.1 a 2 he (xty_at cy).2.2.1 hv hd (kk ad H locs ls hS hl)
theorem g_iald (hX : xOK X own cc nL lv kc ks) {a : Nat} {i v : Int32} (hn : a < n) (hc : xK a = 8) (k : Nat) (hi : i = nI k) (hk : k < xN a) (hd : decode cc pc = .ok (.iaload, 1)) (hv : I a k = v)
    (kk : G X n cs sl I R (pc + 1) L (.int v :: st)) : G X n cs sl I R pc L (.int i :: .ref a :: st) := by
  obtain ⟨⟨p, l, e, Rm, s, m, args, below, meth, c'⟩, Q, D, cy, A, B, n0, nL'⟩ := X
  obtain ⟨hx, hb, hml, hnl, hown, hts, hK, hA, hE, -⟩ := hX
  intro ad H locs ls hS hl
  have he : (xws cy ad I R n)[a]? = some (ad a, .inl (cy 8, xN a, .inl (I a))) := by rw [xws_get hn, xe_arr hc (by decide) (by decide)]
  subst hi; subst hv
  have w := kk ad H locs ls hS hl
  refine va_iald hx hb hK hS.1 a 1 he (xty_at cy).2.1 (vp_in_nI hk (xN_lt a)) hd ?_
  rw [nI_clamp (Nat.lt_trans hk (xN_lt a))]
  exact w
theorem g_bald (hX : xOK X own cc nL lv kc ks) {a : Nat} {i v : Int32} (hn : a < n) (hc : xK a = 7) (k : Nat) (hi : i = nI k) (hk : k < xN a) (hd : decode cc pc = .ok (.baload, 1)) (hv : I a k = v)
    (kk : G X n cs sl I R (pc + 1) L (.int v :: st)) : G X n cs sl I R pc L (.int i :: .ref a :: st) := by
  obtain ⟨⟨p, l, e, Rm, s, m, args, below, meth, c'⟩, Q, D, cy, A, B, n0, nL'⟩ := X
  obtain ⟨hx, hb, hml, hnl, hown, hts, hK, hA, hE, -⟩ := hX
  intro ad H locs ls hS hl
  have he : (xws cy ad I R n)[a]? = some (ad a, .inl (cy 7, xN a, .inl (I a))) := by rw [xws_get hn, xe_arr hc (by decide) (by decide)]
  subst hi; subst hv
  have w := kk ad H locs ls hS hl
  refine va_bald hx hb hK hS.1 a 0 he (xty_at cy).1 (vp_in_nI hk (xN_lt a)) hd ?_
  rw [nI_clamp (Nat.lt_trans hk (xN_lt a))]
  exact w
theorem g_zald (hX : xOK X own cc nL lv kc ks) {a : Nat} {i v : Int32} (hn : a < n) (hc : xK a = 9) (k : Nat) (hi : i = nI k) (hk : k < xN a) (hd : decode cc pc = .ok (.baload, 1)) (hv : I a k = v)
    (kk : G X n cs sl I R (pc + 1) L (.int v :: st)) : G X n cs sl I R pc L (.int i :: .ref a :: st) := by
  obtain ⟨⟨p, l, e, Rm, s, m, args, below, meth, c'⟩, Q, D, cy, A, B, n0, nL'⟩ := X
  obtain ⟨hx, hb, hml, hnl, hown, hts, hK, hA, hE, -⟩ := hX
  intro ad H locs ls hS hl
  have he : (xws cy ad I R n)[a]? = some (ad a, .inl (cy 9, xN a, .inl (I a))) := by rw [xws_get hn, xe_arr hc (by decide) (by decide)]
  subst hi; subst hv
  have w := kk ad H locs ls hS hl
  refine va_zald hx hb hK hS.1 a 2 he (xty_at cy).2.2.1 (vp_in_nI hk (xN_lt a)) hd ?_
  rw [nI_clamp (Nat.lt_trans hk (xN_lt a))]
  exact w
theorem g_iast (hX : xOK X own cc nL lv kc ks) {a : Nat} {i v : Int32} (hn : a < n) (hc : xK a = 8) (k : Nat) (hi : i = nI k) (hk : k < xN a) (hd : decode cc pc = .ok (.iastore, 1))
    (kk : G X n cs sl (xput I a k v) R (pc + 1) L st) : G X n cs sl I R pc L (.int v :: .int i :: .ref a :: st) := by
  obtain ⟨⟨p, l, e, Rm, s, m, args, below, meth, c'⟩, Q, D, cy, A, B, n0, nL'⟩ := X
  obtain ⟨hx, hb, hml, hnl, hown, hts, hK, hA, hE, -⟩ := hX
  intro ad H locs ls hS hl
  obtain ⟨hP, hD, hSS, hAg⟩ := hS
  have he : (xws cy ad I R n)[a]? = some (ad a, .inl (cy 8, xN a, .inl (I a))) := by rw [xws_get hn, xe_arr hc (by decide) (by decide)]
  subst hi
  refine va_iast hx hb hK hP hD hSS a 1 he (xty_at cy).2.1 (vp_in_nI hk (xN_lt a)) hd (fun H1 locs1 h1 h2 h3 => ?_)
  rw [nI_clamp (Nat.lt_trans hk (xN_lt a)), xws_row hn hc (by decide) (by decide)] at h1 h2
  exact kk ad H1 locs1 ls ⟨h1, h2, h3, hAg⟩ hl
theorem g_bast (hX : xOK X own cc nL lv kc ks) {a : Nat} {i v : Int32} (hn : a < n) (hc : xK a = 7) (k : Nat) (hi : i = nI k) (hk : k < xN a) (hd : decode cc pc = .ok (.bastore, 1))
    (kk : G X n cs sl (xput I a k v.toInt8.toInt32) R (pc + 1) L st) : G X n cs sl I R pc L (.int v :: .int i :: .ref a :: st) := by
  obtain ⟨⟨p, l, e, Rm, s, m, args, below, meth, c'⟩, Q, D, cy, A, B, n0, nL'⟩ := X
  obtain ⟨hx, hb, hml, hnl, hown, hts, hK, hA, hE, -⟩ := hX
  intro ad H locs ls hS hl
  obtain ⟨hP, hD, hSS, hAg⟩ := hS
  have he : (xws cy ad I R n)[a]? = some (ad a, .inl (cy 7, xN a, .inl (I a))) := by rw [xws_get hn, xe_arr hc (by decide) (by decide)]
  subst hi
  refine va_bast hx hb hK hP hD hSS a 0 he (xty_at cy).1 (vp_in_nI hk (xN_lt a)) hd (fun H1 locs1 h1 h2 h3 => ?_)
  rw [nI_clamp (Nat.lt_trans hk (xN_lt a)), xws_row hn hc (by decide) (by decide), vp_nar_byte] at h1 h2
  exact kk ad H1 locs1 ls ⟨h1, h2, h3, hAg⟩ hl
theorem g_zast (hX : xOK X own cc nL lv kc ks) {a : Nat} {i v : Int32} (hn : a < n) (hc : xK a = 9) (k : Nat) (hi : i = nI k) (hk : k < xN a) (hd : decode cc pc = .ok (.bastore, 1)) (hv : vp_nar .boolean v = v)
    (kk : G X n cs sl (xput I a k v) R (pc + 1) L st) : G X n cs sl I R pc L (.int v :: .int i :: .ref a :: st) := by
  obtain ⟨⟨p, l, e, Rm, s, m, args, below, meth, c'⟩, Q, D, cy, A, B, n0, nL'⟩ := X
  obtain ⟨hx, hb, hml, hnl, hown, hts, hK, hA, hE, -⟩ := hX
  intro ad H locs ls hS hl
  obtain ⟨hP, hD, hSS, hAg⟩ := hS
  have he : (xws cy ad I R n)[a]? = some (ad a, .inl (cy 9, xN a, .inl (I a))) := by rw [xws_get hn, xe_arr hc (by decide) (by decide)]
  subst hi
  refine va_zast hx hb hK hP hD hSS a 2 he (xty_at cy).2.2.1 (vp_in_nI hk (xN_lt a)) hd (fun H1 locs1 h1 h2 h3 => ?_)
  rw [nI_clamp (Nat.lt_trans hk (xN_lt a)), xws_row hn hc (by decide) (by decide), hv] at h1 h2
  exact kk ad H1 locs1 ls ⟨h1, h2, h3, hAg⟩ hl
theorem g_aald (hX : xOK X own cc nL lv kc ks) {a c j : Nat} {i : Int32} (hn : a < n) (hc : xK a = c) (h10 : c = 10 ∨ c = 11) (k : Nat) (hi : i = nI k) (hk : k < xN a) (hd : decode cc pc = .ok (.aaload, 1)) (hv : R a k = some j)
    (kk : G X n cs sl I R (pc + 1) L (.ref j :: st)) : G X n cs sl I R pc L (.int i :: .ref a :: st) := by
  obtain ⟨⟨p, l, e, Rm, s, m, args, below, meth, c'⟩, Q, D, cy, A, B, n0, nL'⟩ := X
  obtain ⟨hx, hb, hml, hnl, hown, hts, hK, hA, hE, -⟩ := hX
  intro ad H locs ls hS hl
  have he : (xws cy ad I R n)[a]? = some (ad a, .inl (cy c, xN a, .inr (.inr (.inr (.inr (fun k => (R a k).map ad)))))) := by rw [xws_get hn, xe_arq hc (by omega)]
  subst hi
  have w := kk ad H locs ls hS hl
  have e2 : va_rf ((fun k => (R a k).map ad) (nI k).toNatClampNeg) = .ref (ad j) := by
    rw [nI_clamp (Nat.lt_trans hk (xN_lt a))]
    simp [hv, va_rf]
  rcases h10 with rfl | rfl
  · refine va_aldq hx hb hK hS.1 a 3 he (xty_at cy).2.2.2.1 (vp_in_nI hk (xN_lt a)) hd ?_
    rw [e2]
    exact w
  · refine va_aldq hx hb hK hS.1 a 4 he (xty_at cy).2.2.2.2 (vp_in_nI hk (xN_lt a)) hd ?_
    rw [e2]
    exact w
end
end
section
/-! CONTRACTS: from this memory the method comes back with an answer and a memory that the post names -/
abbrev xP : Type := Option Value → Nat → xM → xR → Prop
def xrm (lv mc ms : Nat) : Room := { frames := lv, cells := mc, slots := ms, locals := 64 * lv }
def xPre (D : va_G) (cy : Nat → ClassId) (ad : Nat → Nat) (n : Nat) (I : xM) (R : xR) (sz : Nat) : State → Prop := fun U =>
  U.heap.size = sz ∧ va_P D vwCl (xws cy ad I R n) U.heap ∧ va_K D vwCl (xty cy) U ∧ va_D (fun _ => True) (xws cy ad I R n) ∧ xE ad (va_A (xws cy ad I R n) sz) U U.heap
def xQ (D : va_G) (cy : Nat → ClassId) (A : Nat → Prop) (n : Nat) (ad : Nat → Nat) (Post : xP) : Array Value → State → Outcome → State → Prop := fun _ s o t =>
  (∃ (v : Option Value) (ad' : Nat → Nat) (n' : Nat) (I' : xM) (R' : xR), o = .returned (v.map (xcv ad')) ∧ Post v n' I' R' ∧ va_P D vwCl (xws cy ad' I' R' n') t.heap ∧ va_D A (xws cy ad' I' R' n') ∧ xAg ad n n' ad') ∧ va_F A s t
def xC (l : Launch) (lv mc ms : Nat) (y : MethodName) (b : ByteArray) (maxL : Nat) (ret : Option FieldType) (n : Nat) (vs : List Value) (I : xM) (R : xR) (Post : xP) : Prop :=
  ∀ (D : va_G) (cy : Nat → ClassId) (ad : Nat → Nat) (sz : Nat), Met l y (Cond.code y b maxL ret :: xgw) (xrm lv mc ms) (va_Pc (vs.map (xcv ad)) (xPre D cy ad n I R sz)) (xQ D cy (va_A (xws cy ad I R n) sz) n ad Post) mc ms (va_A (xws cy ad I R n) sz)
def xRt (X : xX) (y : MethodName) (ret : Option FieldType) (n : Nat) (Post : xP) (mc ms : Nat) : Prop :=
  match X with
  | ((_, _, _, _, s, _, args, below, meth, _), (Q, D, cy, A, B, n0, _)) =>
    meth.sig.returnType = ret ∧ meth.locks = false ∧ meth.name = y.name ∧ n0 = n ∧ Q = MQ below (xQ D cy A n B Post) args s mc ms A
theorem xC_of {l : Launch} {lv mc ms : Nat} {y : MethodName} {b : ByteArray} {maxL : Nat} {ret : Option FieldType} {n : Nat} {vs : List Value} {I : xM} {R : xR} {Post : xP} (hy : plainName y.cls = true) (hlen : (lg_sl vs).length ≤ maxL)
    (body : ∀ X : xX, X.1.2.1 = l → xOK X y.cls b maxL lv mc ms → xRt X y ret n Post mc ms → G X n 0 0 I R 0 (lv_args 0 vs) []) : xC l lv mc ms y b maxL ret n vs I R Post := by
  intro D cy ad sz
  refine Met.ofW (cc := b) (maxL := maxL) (ret := ret) hy rfl ?_
  intro p e s m args below meth c s₁ B hml hv
  obtain ⟨rfl, hsz, hP, hK, hD0, hE⟩ := hv
  have hts := atoms_spec (ws := Cond.code y b maxL ret :: xgw) B.pre
  have hown : s.vm.findClass y.cls = some m.cls := findClass_of_methodNamed B.named
  have hin : meth.name = y.name := (name_of_methodNamed B.named B.method).1
  subst hsz
  have hD := hD0.self (sz := s.heap.size)
  have hA : ∀ q : Nat, s.heap.size ≤ q → va_A (xws cy ad I R n) s.heap.size q := fun q h => Or.inr h
  have hl := lv_entry (vs.map (xcv ad)) (n := maxL) (by rw [xcv_sl]; exact hlen)
  rw [xcl_args] at hl
  rw [lg_entry_eq]
  exact body ((p, l, e, (headSpec (Cond.code y b maxL ret :: xgw) (xrm lv mc ms)).room, s, m, (vs.map (xcv ad)).toArray, below, meth, c), (MQ below (xQ D cy (va_A (xws cy ad I R n) s.heap.size) n ad Post) (vs.map (xcv ad)).toArray s mc ms (va_A (xws cy ad I R n) s.heap.size), D, cy, va_A (xws cy ad I R n) s.heap.size, ad, n, maxL)) rfl
    ⟨B.exec, B.bytes, hml, rfl, hown, fun w h => hts w (List.mem_cons_of_mem _ h), hK, hA, hE, Nat.le_refl lv, Nat.le_refl (64 * lv), Nat.le_refl mc, Nat.le_refl ms⟩
    ⟨B.returns, B.notSynchronized, hin, rfl, rfl⟩ ad s.heap [] _ ⟨hP, hD, va_S.rf, Nat.le_refl _, fun _ _ => rfl, fun _ => rfl⟩ hl
section
variable {X : xX} {own : String} {cc : ByteArray} {nL lv kc ks n cs sl pc : Nat} {I : xM} {R : xR} {L : List (Nat × Value)} {st : List Value}
variable {y : MethodName} {n0 mc ms : Nat} {Post : xP}
theorem g_iret (hX : xOK X own cc nL lv kc ks) (hR : xRt X y (some .int) n0 Post mc ms) {v : Int32} (hd : decode cc pc = .ok (.ireturn, 1)) (h1 : cs ≤ mc) (h2 : sl ≤ ms) (hp : Post (some (.int v)) n I R) : G X n cs sl I R pc L [.int v] := by
  obtain ⟨⟨p, l, e, Rm, s, m, args, below, meth, c'⟩, Q, D, cy, A, B, n0', nL'⟩ := X
  obtain ⟨hx, hb, hml, hnl, hown, hts, hK, hA, hE, -⟩ := hX
  obtain ⟨hr, hlocks, hin, rfl, rfl⟩ := hR
  intro ad H locs ls hS hl
  refine W.widen h1 h2 ?_
  exact W.iret hx hb hr (fun t ht hW => ⟨⟨some (.int v), ad, n, I, R, rfl, hp, by rw [ht]; exact hS.1, hS.2.1, hS.2.2.2⟩, hS.2.2.1.F ht⟩) hS.2.2.1.2.2 hd
theorem g_zret (hX : xOK X own cc nL lv kc ks) {ty : FieldType} (hR : xRt X y (some ty) n0 Post mc ms) {v : Int32} (hd : decode cc pc = .ok (.ireturn, 1)) (hn : narrow ty (.int v) = .int v) (h1 : cs ≤ mc) (h2 : sl ≤ ms) (hp : Post (some (.int v)) n I R) : G X n cs sl I R pc L [.int v] := by
  obtain ⟨⟨p, l, e, Rm, s, m, args, below, meth, c'⟩, Q, D, cy, A, B, n0', nL'⟩ := X
  obtain ⟨hx, hb, hml, hnl, hown, hts, hK, hA, hE, -⟩ := hX
  obtain ⟨hr, hlocks, hin, rfl, rfl⟩ := hR
  intro ad H locs ls hS hl
  refine W.widen h1 h2 ?_
  exact W.zret hx hb hr hn (fun t ht hW => ⟨⟨some (.int v), ad, n, I, R, rfl, hp, by rw [ht]; exact hS.1, hS.2.1, hS.2.2.2⟩, hS.2.2.1.F ht⟩) hS.2.2.1.2.2 hd
theorem g_lret (hX : xOK X own cc nL lv kc ks) (hR : xRt X y (some .long) n0 Post mc ms) {v : Int64} (hd : decode cc pc = .ok (.lreturn, 1)) (h1 : cs ≤ mc) (h2 : sl ≤ ms) (hp : Post (some (.long v)) n I R) : G X n cs sl I R pc L [.long v] := by
  obtain ⟨⟨p, l, e, Rm, s, m, args, below, meth, c'⟩, Q, D, cy, A, B, n0', nL'⟩ := X
  obtain ⟨hx, hb, hml, hnl, hown, hts, hK, hA, hE, -⟩ := hX
  obtain ⟨hr, hlocks, hin, rfl, rfl⟩ := hR
  intro ad H locs ls hS hl
  refine W.widen h1 h2 ?_
  exact W.lret hx hb hr (fun t ht hW => ⟨⟨some (.long v), ad, n, I, R, rfl, hp, by rw [ht]; exact hS.1, hS.2.1, hS.2.2.2⟩, hS.2.2.1.F ht⟩) hS.2.2.1.2.2 hd
theorem g_vret (hX : xOK X own cc nL lv kc ks) (hR : xRt X y none n0 Post mc ms) (hd : decode cc pc = .ok (.return_, 1)) (h1 : cs ≤ mc) (h2 : sl ≤ ms) (hp : Post none n I R) : G X n cs sl I R pc L [] := by
  obtain ⟨⟨p, l, e, Rm, s, m, args, below, meth, c'⟩, Q, D, cy, A, B, n0', nL'⟩ := X
  obtain ⟨hx, hb, hml, hnl, hown, hts, hK, hA, hE, -⟩ := hX
  obtain ⟨hr, hlocks, hin, rfl, rfl⟩ := hR
  intro ad H locs ls hS hl
  refine W.widen h1 h2 ?_
  exact W.vret hx hb hr (fun t ht hW => ⟨⟨none, ad, n, I, R, rfl, hp, by rw [ht]; exact hS.1, hS.2.1, hS.2.2.2⟩, hS.2.2.1.F ht⟩) hS.2.2.1.2.2 hd
end
/-- what a call leaves, for any kind of answer -/
theorem x_call {p : Program} {l : Launch} {e : Env} {Rm : Room} {s : State} {m : MethodId} {args : Array Value} {below : List Frame} {meth : Method} {c : Code} {H : Heap} {locs : List Loc} {cs sl mc ms pc n : Nat} {Q : State → Prop} {ls : Array Slot} {rest st0 : List Value} {a : Array Value} {A0 A1 free : Nat → Prop} {H0 : Heap}
    {D : va_G} {cy : Nat → ClassId} {ad : Nat → Nat} {Post : xP}
    (hr : va_Run p l e Rm s m args below meth c H locs cs sl mc ms (F0 m pc ls st0) rest (xQ D cy A1 n ad Post a) free) (hS : va_S A0 H0 H locs) (hA : ∀ q, q < H.size → A1 q → A0 q) (hf : ∀ q, free q → A0 q)
    (kk : ∀ (v : Option Value) (ad' : Nat → Nat) (n' : Nat) (I' : xM) (R' : xR) (H1 : Heap) (locs1 : List Loc), Post v n' I' R' → va_P D vwCl (xws cy ad' I' R' n') H1 → va_D A1 (xws cy ad' I' R' n') → xAg ad n n' ad' → H.size ≤ H1.size → va_S A0 H0 H1 locs1 → W p l e Rm s m args below meth c H1 locs1 (cs + mc) (sl + ms) Q (F0 m (pc + 3) ls ((v.map (xcv ad')).toList ++ rest))) : W p l e Rm s m args below meth c H locs cs sl Q (F0 m pc ls st0) := by
  intro T hT X
  obtain ⟨v, st₀, t, T', L, h0, X', hL, e1, e2, ⟨⟨v', ad', n', I', R', hv, hp, hP, hD, hag⟩, hz, hk⟩, st⟩ := hr T hT X
  cases hv
  rw [h0] at hz hk
  obtain ⟨t2, a1, b1⟩ := kk v' ad' n' I' R' T'.heap (locs ++ L) hp (by rw [e1]; exact hP) hD hag (by rw [e1]; exact hz)
    ⟨Nat.le_trans hS.1 (by rw [e1]; exact hz), fun q h1 h2 => by rw [e1, hk q (Nat.lt_of_lt_of_le h1 hS.1) (fun z => h2 (hA q (Nat.lt_of_lt_of_le h1 hS.1) z))]; exact hS.2.1 q h1 h2, fun q hq => by
      rcases List.mem_append.mp hq with h | h
      · exact hS.2.2 q h
      · exact hf _ (hL q h)⟩ T' rfl X'
  exact ⟨t2, st t2 a1, b1⟩
theorem xgood_self {y : MethodName} {b : ByteArray} {maxL : Nat} {ret : Option FieldType} (h : Cond.code y b maxL ret ∈ xgw) : GoodIn xgw (Cond.code y b maxL ret :: xgw) := fun w hw => by
  rcases List.mem_cons.mp hw with rfl | hw
  · exact ⟨h, xgw_good h⟩
  · exact ⟨hw, xgw_good hw⟩
/-- the part of the world that a callee may write is the caller's -/
theorem xA_free {A0 : Nat → Prop} {cy : Nat → ClassId} {ad : Nat → Nat} {I : xM} {R : xR} {n : Nat} {H0 H : Heap} {locs : List Loc} (hD : va_D A0 (xws cy ad I R n)) (hS : va_S A0 H0 H locs) (hA : ∀ q, H0.size ≤ q → A0 q) : ∀ q, va_A (xws cy ad I R n) H.size q → A0 q := by
  intro q h
  rcases h with ⟨k, e, hk⟩ | h
  · exact hD.2 k _ hk
  · exact hA q (Nat.le_trans hS.1 h)
theorem xPre_of {D : va_G} {cy : Nat → ClassId} {ad : Nat → Nat} {n : Nat} {I : xM} {R : xR} {B : Nat → Nat} {n0 : Nat} {A : Nat → Prop} {s U : State} {H : Heap} {locs : List Loc} (hK : va_K D vwCl (xty cy) s) (hE : xE B A s s.heap) (hA : ∀ q, s.heap.size ≤ q → A q) (hS : xSt D cy A B n0 s.heap n ad I R H locs) (hU : U.heap = H) (hW : s.WarmedH U.vm) : xPre D cy ad n I R H.size U := by
  obtain ⟨hP, hD, hSS, hAg⟩ := hS
  refine ⟨by rw [hU], by rw [hU]; exact hP, va_K.moved hW.alike hK, hD.weaken (fun _ _ _ _ => trivial), ?_⟩
  rw [hU]
  exact (((hE.warm hW).kept hSS.2.1).narrow (xA_free hD hSS hA)).base (fun i hi => hAg.2.1 i (Or.inr hi))
theorem xPre_blind {D : va_G} {cy : Nat → ClassId} {ad : Nat → Nat} {n : Nat} {I : xM} {R : xR} {sz : Nat} {vs : List Value} : FrameBlind (va_Pc vs (xPre D cy ad n I R sz)) := by
  intro a U g mk q
  obtain ⟨q0, q1, qP, qK, qD, qE⟩ := q
  exact ⟨q0, q1, qP, va_K.moved (u := U) (U := U.calling g mk a) (Vm.Alike.refl U.vm) qK, qD, (show xE ad (va_A (xws cy ad I R n) sz) (U.calling g mk a) U.heap from xE.same (s := U) (show U.vm = (U.calling g mk a).vm from rfl) qE)⟩
/-- a reference that stands for an object made already -/
def xvok (n : Nat) (v : Value) : Prop := match v with
  | .ref i => i < n ∨ 1000000 ≤ i
  | _ => True
theorem xcv_same {ad ad' : Nat → Nat} {n : Nat} {v : Value} (h : xvok n v) (hag : ∀ i, (i < n ∨ 1000000 ≤ i) → ad' i = ad i) : xcv ad' v = xcv ad v := by
  cases v <;> simp only [xcv]
  rw [hag _ h]
theorem xcv_map {ad ad' : Nat → Nat} {n : Nat} {st : List Value} (h : ∀ v ∈ st, xvok n v) (hag : ∀ i, (i < n ∨ 1000000 ≤ i) → ad' i = ad i) : st.map (xcv ad') = st.map (xcv ad) := List.map_congr_left fun v hv => xcv_same (h v hv) hag
theorem xcl_map {ad ad' : Nat → Nat} {n : Nat} {L : List (Nat × Value)} (h : ∀ q ∈ L, xvok n q.2) (hag : ∀ i, (i < n ∨ 1000000 ≤ i) → ad' i = ad i) : L.map (xcl ad') = L.map (xcl ad) := List.map_congr_left fun q hq => by unfold xcl; rw [xcv_same (h q hq) hag]
section
variable {X : xX} {own : String} {cc : ByteArray} {nL lv kc ks n cs sl pc : Nat} {I : xM} {R : xR} {L : List (Nat × Value)} {st stk : List Value}
variable {y : MethodName} {b : ByteArray} {maxL lvc mc ms np index : Nat} {ret : Option FieldType} {Post : xP} {as : List Value}
theorem xcb (hX : xOK X own cc nL lv kc ks) (hy : xMt y b maxL ret np) (hl : Cond.methodLink own index y ∈ xgw) (hlv : lvc + 1 ≤ lv) : CallB X.1.2.2.2.1 X.1.2.2.2.2.1 X.1.2.2.2.2.2.2.1 own index y b maxL ret (Cond.code y b maxL ret :: xgw) (xrm lvc mc ms) mc ms np := by
  obtain ⟨⟨p, l, e, Rm, s, m, args, below, meth, c⟩, Q, D, cy, A, B, n0, nL'⟩ := X
  obtain ⟨hx, hb, hml, hnl, hown, hts, hK, hA, hE, hfr, hlo, hce, hsl⟩ := hX
  obtain ⟨h1, h2, h3, h4⟩ := hy
  exact callB_of np hts (xgood_self h1) rfl rfl rfl (hts _ h2) (hts _ hl) h3 ⟨by show lvc + 1 ≤ Rm.frames; omega, by show 8 + (maxL + 11) + 64 * lvc ≤ Rm.locals; omega⟩
theorem xcn {host : String} (hX : xOK X own cc nL lv kc ks) (hy : xMt y b maxL ret np) (hl : Cond.methodLinkNest own index y host ∈ xnw) (hlv : lvc + 1 ≤ lv) : va_CN X.1.2.2.2.1 X.1.2.2.2.2.1 X.1.2.2.2.2.2.2.1 own index y host b maxL ret (Cond.code y b maxL ret :: xgw) (xrm lvc mc ms) mc ms np := by
  obtain ⟨⟨p, l, e, Rm, s, m, args, below, meth, c⟩, Q, D, cy, A, B, n0, nL'⟩ := X
  obtain ⟨hx, hb, hml, hnl, hown, hts, hK, hA, hE, hfr, hlo, hce, hsl⟩ := hX
  obtain ⟨h1, h2, h3, h4⟩ := hy
  exact va_cnB np hts (xgood_self h1) rfl rfl rfl (hE.1 _ hl) (hts _ h2) h3 ⟨by show lvc + 1 ≤ Rm.frames; omega, by show 8 + (maxL + 11) + 64 * lvc ≤ Rm.locals; omega⟩
/-- a call on an own object, that makes nothing -/
theorem g_callV (hX : xOK X own cc nL lv kc ks) {i c N : Nat} {C : String} {T : u_T} {ty : Nat → FieldType} (hM : ∀ l, xC l lvc mc ms y b maxL ret n (.ref i :: as) I R Post) (hy : xMt y b maxL ret np) (hv : xMv y) (hlk : xLm own index y) (hn : i < n) (hc : xK i = c) (hC : xCl c C T N ty) (hyC : y.cls = C) (hlen : as.length = np) (hd : decode cc pc = .ok (.invokevirtual index, 3)) (hst : stk = as.reverse ++ .ref i :: st) (hlv : lvc + 1 ≤ lv) (hroom : (st.map fun v => v.category).sum ≤ 8) (hcs : cs + mc ≤ kc) (hsl : sl + ms ≤ ks)
    (kk : ∀ (v : Option Value) (n' : Nat) (I' : xM) (R' : xR), Post v n' I' R' → n' = n ∧ G X n (cs + mc) (sl + ms) I' R' (pc + 3) L (v.toList ++ st)) : G X n cs sl I R pc L stk := by
  subst hst
  have hcb := fun h => xcb (X := X) (lvc := lvc) (mc := mc) (ms := ms) (index := index) hX hy h hlv
  have hcn := fun host h => xcn (X := X) (lvc := lvc) (mc := mc) (ms := ms) (index := index) (host := host) hX hy h hlv
  obtain ⟨⟨p, l, e, Rm, s, m, args, below, meth, c'⟩, Q, D, cy, A, B, n0, nL'⟩ := X
  obtain ⟨hx, hb, hml, rfl, hown, hts, hK, hA, hE, hfr, hlo, hce, hsl2⟩ := hX
  obtain ⟨q1, q2, q3, q4, q5, q6, q7⟩ := hC
  intro ad H locs ls hS hl
  have he : (xws cy ad I R n)[i]? = some (ad i, .inr (c, xfs ad (I i) (R i) c)) := by rw [xws_get hn, xe_obj hc q2]
  have hp : PreV s H C (ad i) (va_Pc ((Value.ref i :: as).map (xcv ad)) (xPre D cy ad n I R H.size)) (as.map (xcv ad)) :=
    ⟨xPre_blind, va_recv hK hS.1 q1 he, fun U hU hW => ⟨rfl, xPre_of hK hE hA hS hU hW⟩⟩
  have hsel : (Cond.selects C y y).before args s = true := by rw [← hyC]; exact hts _ hv.2
  have hstk : ((as.reverse ++ Value.ref i :: st).map (xcv ad)) = (as.map (xcv ad)).reverse ++ .ref (ad i) :: st.map (xcv ad) := by simp [xcv]
  have hrm : ((st.map (xcv ad)).map fun v => v.category).sum ≤ 8 := by
    rw [List.map_map]
    exact Nat.le_trans (Nat.le_of_eq (by congr 1; apply List.map_congr_left; intro v _; exact xcv_cat ad v)) hroom
  have hrun : va_Run p l e Rm s m args below meth c' H locs cs sl mc ms (F0 m pc ls (List.map (xcv ad) (as.reverse ++ Value.ref i :: st))) (st.map (xcv ad)) (xQ D cy (va_A (xws cy ad I R n) H.size) n ad Post ((Value.ref i :: as).map (xcv ad)).toArray) (va_A (xws cy ad I R n) H.size) := by
    rcases hlk with h | ⟨host, h⟩
    · exact va_runV (As := as.map (xcv ad)) (rest := st.map (xcv ad)) ⟨hx, hb, hml, hown, hts⟩ (hM l D cy ad H.size) ⟨hcb h, hts _ hv.1, hsel⟩ hp rfl (by rw [List.length_map]; exact hlen) hl.1 hstk (lv_room hrm) hd ⟨by omega, by omega⟩
    · exact va_runVN (As := as.map (xcv ad)) (rest := st.map (xcv ad)) ⟨hx, hb, hml, hown, hts⟩ (hM l D cy ad H.size) ⟨hcn host h, hts _ hv.1, hsel⟩ hp rfl (by rw [List.length_map]; exact hlen) hl.1 hstk (lv_room hrm) hd ⟨by omega, by omega⟩
  have hfree := xA_free hS.2.1 hS.2.2.1 hA
  refine x_call hrun hS.2.2.1 (fun q _ h => hfree q h) hfree (fun v ad' n' I' R' H1 locs1 hpost hP1 hD1 hag hz hS1 => ?_)
  obtain ⟨e1, w⟩ := kk v n' I' R' hpost
  subst e1
  have e2 : ad' = ad := hag.2.2 rfl
  subst e2
  have w2 := w ad' H1 locs1 ls ⟨hP1, xD_same hS.2.1, hS1, hS.2.2.2⟩ hl
  cases v <;> exact w2
/-- a static call that makes nothing -/
theorem g_callS (hX : xOK X own cc nL lv kc ks) (hM : ∀ l, xC l lvc mc ms y b maxL ret n as I R Post) (hy : xMt y b maxL ret np) (hv : Cond.static y ∈ xgw) (hlk : xLm own index y) (hlen : as.length = np) (hd : decode cc pc = .ok (.invokestatic index, 3)) (hst : stk = as.reverse ++ st) (hlv : lvc + 1 ≤ lv) (hroom : (st.map fun v => v.category).sum ≤ 8) (hcs : cs + mc ≤ kc) (hsl : sl + ms ≤ ks)
    (kk : ∀ (v : Option Value) (n' : Nat) (I' : xM) (R' : xR), Post v n' I' R' → n' = n ∧ G X n (cs + mc) (sl + ms) I' R' (pc + 3) L (v.toList ++ st)) : G X n cs sl I R pc L stk := by
  subst hst
  have hcb := fun h => xcb (X := X) (lvc := lvc) (mc := mc) (ms := ms) (index := index) hX hy h hlv
  have hcn := fun host h => xcn (X := X) (lvc := lvc) (mc := mc) (ms := ms) (index := index) (host := host) hX hy h hlv
  obtain ⟨⟨p, l, e, Rm, s, m, args, below, meth, c'⟩, Q, D, cy, A, B, n0, nL'⟩ := X
  obtain ⟨hx, hb, hml, rfl, hown, hts, hK, hA, hE, hfr, hlo, hce, hsl2⟩ := hX
  intro ad H locs ls hS hl
  have hp : PreS s H (va_Pc (as.map (xcv ad)) (xPre D cy ad n I R H.size)) (as.map (xcv ad)) :=
    ⟨xPre_blind, fun U hU hW => ⟨rfl, xPre_of hK hE hA hS hU hW⟩⟩
  have hstk : ((as.reverse ++ st).map (xcv ad)) = (as.map (xcv ad)).reverse ++ st.map (xcv ad) := by simp
  have hrm : ((st.map (xcv ad)).map fun v => v.category).sum ≤ 8 := by
    rw [List.map_map]
    exact Nat.le_trans (Nat.le_of_eq (by congr 1; apply List.map_congr_left; intro v _; exact xcv_cat ad v)) hroom
  have hrun : va_Run p l e Rm s m args below meth c' H locs cs sl mc ms (F0 m pc ls (List.map (xcv ad) (as.reverse ++ st))) (st.map (xcv ad)) (xQ D cy (va_A (xws cy ad I R n) H.size) n ad Post (as.map (xcv ad)).toArray) (va_A (xws cy ad I R n) H.size) := by
    rcases hlk with h | ⟨host, h⟩
    · exact va_runS (As := as.map (xcv ad)) (rest := st.map (xcv ad)) ⟨hx, hb, hml, hown, hts⟩ (hM l D cy ad H.size) ⟨hcb h, hts _ hv⟩ hp rfl (by rw [List.length_map]; exact hlen) hl.1 hstk (lv_room hrm) hd ⟨by omega, by omega⟩
    · exact va_runSN (As := as.map (xcv ad)) (rest := st.map (xcv ad)) ⟨hx, hb, hml, hown, hts⟩ (hM l D cy ad H.size) ⟨hcn host h, hts _ hv, trivial⟩ hp rfl (by rw [List.length_map]; exact hlen) hl.1 hstk (lv_room hrm) hd ⟨by omega, by omega⟩
  have hfree := xA_free hS.2.1 hS.2.2.1 hA
  refine x_call hrun hS.2.2.1 (fun q _ h => hfree q h) hfree (fun v ad' n' I' R' H1 locs1 hpost hP1 hD1 hag hz hS1 => ?_)
  obtain ⟨e1, w⟩ := kk v n' I' R' hpost
  subst e1
  have e2 : ad' = ad := hag.2.2 rfl
  subst e2
  have w2 := w ad' H1 locs1 ls ⟨hP1, xD_same hS.2.1, hS1, hS.2.2.2⟩ hl
  cases v <;> exact w2
end
end
section
theorem xws_app {cy : Nat → ClassId} {ad : Nat → Nat} {I : xM} {R : xR} {n q : Nat} {e : va_E} (he : e = xe cy (va_up ad n q) I R n) (hw : ∀ i, i < n → xe cy (va_up ad n q) I R i = xe cy ad I R i) : xws cy ad I R n ++ [(q, e)] = xws cy (va_up ad n q) I R (n + 1) := by
  unfold xws
  rw [List.range_succ, List.map_append]
  congr 1
  · apply List.map_congr_left
    intro i hi
    have h1 := List.mem_range.mp hi
    rw [hw i h1, va_up_ne _ _ (show i ≠ n by omega)]
  · simp [he, va_up_self]
/-- what is made already refers to what is made already -/
def xRok (n : Nat) (R : xR) : Prop := ∀ i k j, i < n → R i k = some j → j < n
theorem xe_up {cy : Nat → ClassId} {ad : Nat → Nat} {I : xM} {R : xR} {n q i : Nat} (h : xRok n R) (hi : i < n) : xe cy (va_up ad n q) I R i = xe cy ad I R i := by
  have e : ∀ k, (R i k).map (va_up ad n q) = (R i k).map ad := by
    intro k
    cases hk : R i k with
    | none => rfl
    | some j => simp [va_up_ne _ _ (show j ≠ n from fun z => by have := h i k j hi hk; omega)]
  unfold xe xek xfs xval xrf
  simp only [e]
section
variable {X : xX} {own : String} {cc : ByteArray} {nL lv kc ks n cs sl pc : Nat} {I : xM} {R : xR} {L : List (Nat × Value)} {st : List Value}
theorem g_imax (hX : xOK X own cc nL lv kc ks) {index : Nat} {x y v : Int32} (h1 : Cond.methodLink own index Lib.Math.max.name ∈ xgw) (h2 : Cond.static Lib.Math.max.name ∈ xgw) (h3 : Cond.initialized "java/lang/Math" ∈ xgw) (h4 : Cond.code Lib.Math.max.name Lib.Math.max.code 2 (some .int) ∈ xgw) (hlv : 1 ≤ lv) (hrm : (st.map fun v => v.category).sum ≤ 8) (hcs : cs ≤ kc) (hsl : sl ≤ ks) (hd : decode cc pc = .ok (.invokestatic index, 3)) (hv : (if x < y then y else x) = v)
    (kk : G X n cs sl I R (pc + 3) L (.int v :: st)) : G X n cs sl I R pc L (.int y :: .int x :: st) := by
  obtain ⟨⟨p, l, e, Rm, s, m, args, below, meth, c'⟩, Q, D, cy, A, B, n0, nL'⟩ := X
  obtain ⟨hx, hb, hml, hnl, hown, hts, hK, hA, hE, hfr, hlo, hce, hsl2⟩ := hX
  intro ad H locs ls hS hl
  have hrm2 : ((st.map (xcv ad)).map fun v => v.category).sum ≤ 8 := by
    rw [List.map_map]
    exact Nat.le_trans (Nat.le_of_eq (by congr 1; apply List.map_congr_left; intro v _; exact xcv_cat ad v)) hrm
  subst hv
  exact va_mmax hx hb (by rw [hml, ← hnl]; exact hl.1.symm) hown (hts _ h1) (hts _ h2) (hts _ h3) (hts _ h4) (by omega) (by omega) (by omega) (by omega) hd (kk ad H locs ls hS hl)
theorem g_imin (hX : xOK X own cc nL lv kc ks) {index : Nat} {x y v : Int32} (h1 : Cond.methodLink own index Lib.Math.min.name ∈ xgw) (h2 : Cond.static Lib.Math.min.name ∈ xgw) (h3 : Cond.initialized "java/lang/Math" ∈ xgw) (h4 : Cond.code Lib.Math.min.name Lib.Math.min.code 2 (some .int) ∈ xgw) (hlv : 1 ≤ lv) (hrm : (st.map fun v => v.category).sum ≤ 8) (hcs : cs ≤ kc) (hsl : sl ≤ ks) (hd : decode cc pc = .ok (.invokestatic index, 3)) (hv : (if y < x then y else x) = v)
    (kk : G X n cs sl I R (pc + 3) L (.int v :: st)) : G X n cs sl I R pc L (.int y :: .int x :: st) := by
  obtain ⟨⟨p, l, e, Rm, s, m, args, below, meth, c'⟩, Q, D, cy, A, B, n0, nL'⟩ := X
  obtain ⟨hx, hb, hml, hnl, hown, hts, hK, hA, hE, hfr, hlo, hce, hsl2⟩ := hX
  intro ad H locs ls hS hl
  have hrm2 : ((st.map (xcv ad)).map fun v => v.category).sum ≤ 8 := by
    rw [List.map_map]
    exact Nat.le_trans (Nat.le_of_eq (by congr 1; apply List.map_congr_left; intro v _; exact xcv_cat ad v)) hrm
  subst hv
  exact va_mmin hx hb (by rw [hml, ← hnl]; exact hl.1.symm) hown (hts _ h1) (hts _ h2) (hts _ h3) (hts _ h4) (by omega) (by omega) (by omega) (by omega) hd (kk ad H locs ls hS hl)
/-- System.arraycopy between rows of one kind: ints or booleans -/
theorem g_copy (hX : xOK X own cc nL lv kc ks) {index a0 a1 c : Nat} {sp dp z : Int32} (h1 : Cond.methodLink own index arraycopyName ∈ xgw) (h2 : Cond.native arraycopyName ∈ xgw) (h3 : Cond.static arraycopyName ∈ xgw) (h4 : Cond.initialized "java/lang/System" ∈ xgw) (hn0 : a0 < n) (hn1 : a1 < n) (hc0 : xK a0 = c) (hc1 : xK a1 = c) (hc : c = 8 ∨ c = 9) (i j k : Nat) (hi : sp = nI i) (hj : dp = nI j) (hk : z = nI k) (hik : i + k ≤ xN a0) (hjk : j + k ≤ xN a1)
    (hfit : c = 9 → ∀ q, q < k → fits .boolean (.int (I a0 (i + q))) = true) (hlv : 1 ≤ lv) (hrm : (st.map fun v => v.category).sum + (nativeFrameWords "java/lang/System" "arraycopy" 5 + 11) ≤ 64) (hd : decode cc pc = .ok (.invokestatic index, 3))
    (kk : G X n cs sl (xrow I a1 (va_cpy (I a0) (I a1) i j k)) R (pc + 3) L st) : G X n cs sl I R pc L (.int z :: .int dp :: .ref a1 :: .int sp :: .ref a0 :: st) := by
  obtain ⟨⟨p, l, e, Rm, s, m, args, below, meth, c'⟩, Q, D, cy, A, B, n0, nL'⟩ := X
  obtain ⟨hx, hb, hml, hnl, hown, hts, hK, hA, hE, hfr, hlo, hce, hsl2⟩ := hX
  intro ad H locs ls hS hl
  obtain ⟨hP, hD, hSS, hAg⟩ := hS
  have hrm2 : ((st.map (xcv ad)).map fun v => v.category).sum + (nativeFrameWords "java/lang/System" "arraycopy" 5 + 11) ≤ Rm.locals := by
    have e1 : ((st.map (xcv ad)).map fun v => v.category).sum = (st.map fun v => v.category).sum := by
      rw [List.map_map]
      congr 1; apply List.map_congr_left; intro v _; exact xcv_cat ad v
    omega
  have b0 := xN_lt a0
  have b1 := xN_lt a1
  have c1 : (nI i).toNatClampNeg = i := nI_clamp (by omega)
  have c2 : (nI j).toNatClampNeg = j := nI_clamp (by omega)
  have c3 : (nI k).toNatClampNeg = k := nI_clamp (by omega)
  have he0 : (xws cy ad I R n)[a0]? = some (ad a0, .inl (cy c, xN a0, .inl (I a0))) := by rw [xws_get hn0, xe_arr hc0 (by omega) (by omega)]
  have he1 : (xws cy ad I R n)[a1]? = some (ad a1, .inl (cy c, xN a1, .inl (I a1))) := by rw [xws_get hn1, xe_arr hc1 (by omega) (by omega)]
  subst hi; subst hj; subst hk
  rcases hc with rfl | rfl
  · refine va_copyi hx hb (by rw [hml, ← hnl]; exact hl.1.symm) hown (hts _ h1) (hts _ h2) (hts _ h3) (hts _ h4) hK hP hD hSS a0 a1 1 1 he0 he1 (xty_at cy).2.1 (xty_at cy).2.1 rfl (nI_pos (by omega)) (nI_pos (by omega)) (nI_pos (by omega)) (by rw [c1, c3]; exact hik) (by rw [c2, c3]; exact hjk) (fun q _ => rfl) (by omega) hrm2 hd (fun H1 locs1 g1 g2 g3 => ?_)
    rw [c1, c2, c3, xws_row hn1 hc1 (by decide) (by decide)] at g1 g2
    exact kk ad H1 locs1 ls ⟨g1, g2, g3, hAg⟩ hl
  · refine va_copyi hx hb (by rw [hml, ← hnl]; exact hl.1.symm) hown (hts _ h1) (hts _ h2) (hts _ h3) (hts _ h4) hK hP hD hSS a0 a1 2 2 he0 he1 (xty_at cy).2.2.1 (xty_at cy).2.2.1 rfl (nI_pos (by omega)) (nI_pos (by omega)) (nI_pos (by omega)) (by rw [c1, c3]; exact hik) (by rw [c2, c3]; exact hjk) (fun q hq => by rw [c1]; rw [c3] at hq; exact hfit rfl q hq) (by omega) hrm2 hd (fun H1 locs1 g1 g2 g3 => ?_)
    rw [c1, c2, c3, xws_row hn1 hc1 (by decide) (by decide)] at g1 g2
    exact kk ad H1 locs1 ls ⟨g1, g2, g3, hAg⟩ hl
/-- a final field, in the constructor -/
theorem g_putF (hX : xOK X own cc nL lv kc ks) {y : MethodName} {ret : Option FieldType} {n0 mc ms : Nat} {Post : xP} (hRt : xRt X y ret n0 Post mc ms) (hy : y.name = "<init>") {i c N index : Nat} {C : String} {T : u_T} {ty : Nat → FieldType} {j : Nat} (hn : i < n) (hc : xK i = c) (hC : xCl c C T N ty) (hCo : C = own) (k : Nat) (hk : k < N) (hir : xir c k = true) (hfin : (T k).2.2.2 = true) (hlk : Cond.fieldLink own index (T k).1 (T k).2.1 (T k).2.2.1 ∈ xgw) (hd : decode cc pc = .ok (.putfield index, 3)) (hf1 : ∀ a : Nat, narrow (ty k) (.ref a) = .ref a) (hf2 : ∀ a : Nat, fits (ty k) (.ref a) = true)
    (kk : G X n cs sl I (xputR R i k (some j)) (pc + 3) L st) : G X n cs sl I R pc L (.ref j :: .ref i :: st) := by
  obtain ⟨⟨p, l, e, Rm, s, m, args, below, meth, c'⟩, Q, D, cy, A, B, n0', nL'⟩ := X
  obtain ⟨hx, hb, hml, hnl, hown, hts, hK, hA, hE, -⟩ := hX
  obtain ⟨q1, q2, q3, q4, q5, q6, q7⟩ := hC
  obtain ⟨hr, hlocks, hin, -, -⟩ := hRt
  intro ad H locs ls hS hl
  obtain ⟨hP, hD, hSS, hAg⟩ := hS
  have he : (xws cy ad I R n)[i]? = some (ad i, .inr (c, xfs ad (I i) (R i) c)) := by rw [xws_get hn, xe_obj hc q2]
  have hkk : ∀ (H1 : Heap) (locs1 : List Loc), va_P D vwCl ((xws cy ad I R n).set i (ad i, .inr (c, (xfs ad (I i) (R i) c).set k (.ref (ad j))))) H1 → va_D A ((xws cy ad I R n).set i (ad i, .inr (c, (xfs ad (I i) (R i) c).set k (.ref (ad j))))) → va_S A s.heap H1 locs1 → W p l e Rm s m args below meth c' H1 locs1 cs sl Q (F0 m (pc + 3) ls (st.map (xcv ad))) := by
    intro H1 locs1 h1 h2 h3
    rw [xws_putR hn hc q2 (by omega) hir] at h1 h2
    exact kk ad H1 locs1 ls ⟨h1, h2, h3, hAg⟩ hl
  exact va_putF hx hb hts q4 ty q5 q6 hown hK hP hD hSS i he q1 k hk (hts _ hlk) (fun _ z => z) hfin (hin.trans hy) ((q7 k hk).trans hCo) (q5 k hk) (hf1 _) (hf2 _) (by rw [xfs_len]; omega) hd hkk
theorem g_objInit (hX : xOK X own cc nL lv kc ks) {index a : Nat} (h1 : Cond.methodLink own index objectInit ∈ xgw) (h2 : Cond.instanceMethod objectInit ∈ xgw) (h3 : Cond.code objectInit ⟨#[0xb1]⟩ 1 none ∈ xgw) (hlv : 1 ≤ lv) (hrm : (st.map fun v => v.category).sum ≤ 8) (hd : decode cc pc = .ok (.invokespecial index, 3))
    (kk : G X n cs sl I R (pc + 3) L st) : G X n cs sl I R pc L (.ref a :: st) := by
  obtain ⟨⟨p, l, e, Rm, s, m, args, below, meth, c'⟩, Q, D, cy, A, B, n0, nL'⟩ := X
  obtain ⟨hx, hb, hml, hnl, hown, hts, hK, hA, hE, hfr, hlo, hce, hsl2⟩ := hX
  intro ad H locs ls hS hl
  have hrm2 : ((st.map (xcv ad)).map fun v => v.category).sum ≤ 8 := by
    rw [List.map_map]
    exact Nat.le_trans (Nat.le_of_eq (by congr 1; apply List.map_congr_left; intro v _; exact xcv_cat ad v)) hrm
  exact W.objInit hx hb hown (hts _ h1) (hts _ h2) (hts _ h3) rfl (by rw [hml, ← hnl]; exact hl.1) rfl hd (by omega) (by show 2 * 0 + _ + 12 ≤ _; omega) (kk ad H locs ls hS hl)
theorem xAg_new {B ad : Nat → Nat} {n0 q : Nat} (h : xAg B n0 n ad) (hn : n < 1000000) : xAg B n0 (n + 1) (va_up ad n q) := by
  refine ⟨by have := h.1; omega, fun i hi => ?_, fun e => by have := h.1; omega⟩
  rw [va_up_ne _ _ (show i ≠ n by have := h.1; omega)]
  exact h.2.1 i hi
theorem xup_same {ad : Nat → Nat} {q : Nat} (hn : n < 1000000) : ∀ i, (i < n ∨ 1000000 ≤ i) → va_up ad n q i = ad i := fun i hi => va_up_ne _ _ (by omega)
theorem g_new (hX : xOK X own cc nL lv kc ks) {index c N : Nat} {C : String} {T : u_T} {ty : Nat → FieldType} (hC : xCl c C T N ty) (hdf : ∀ j, j < N → defaultValue (ty j) = if xir c j then .null else .int 0) (h1 : Cond.classLink own index C ∈ xgw) (h2 : Cond.instantiable C N ∈ xgw) (h3 : Cond.initialized C ∈ xgw) (hc : xK n = c) (hn : n < 1000000) (hI : I n = fun _ => 0) (hR : R n = fun _ => none) (hRk : xRok n R) (hL : ∀ q ∈ L, xvok n q.2) (hst : ∀ v ∈ st, xvok n v) (hcs : cs + 1 ≤ kc) (hsl : sl + N ≤ ks) (hd : decode cc pc = .ok (.new index, 3))
    (kk : G X (n + 1) (cs + 1) (sl + N) I R (pc + 3) L (.ref n :: st)) : G X n cs sl I R pc L st := by
  obtain ⟨⟨p, l, e, Rm, s, m, args, below, meth, c'⟩, Q, D, cy, A, B, n0, nL'⟩ := X
  obtain ⟨hx, hb, hml, hnl, hown, hts, hK, hA, hE, hfr, hlo, hce, hsl2⟩ := hX
  obtain ⟨q1, q2, q3, q4, q5, q6, q7⟩ := hC
  intro ad H locs ls hS hl
  obtain ⟨hP, hD, hSS, hAg⟩ := hS
  refine va_new (fs := xfs ad (fun _ => 0) (fun _ => none) c) hx hb hts q4 ty q5 hown (hts _ h1) (hts _ h2) (hts _ h3) hK hP hD hSS hA q1 (fun j hj => ?_) (by omega) (by omega) hd (fun q H1 g1 g2 g3 => ?_)
  · rw [hdf j hj]
    unfold vp_V
    rw [List.getD_eq_getElem?_getD, xfs_get (by omega)]
    by_cases h : xir c j = true <;> simp [xval, h, xrf, va_rf]
  · have e1 : xws cy ad I R n ++ [(q, .inr (c, xfs ad (fun _ => 0) (fun _ => none) c))] = xws cy (va_up ad n q) I R (n + 1) := by
      refine xws_app ?_ (fun i hi => xe_up hRk hi)
      rw [xe_obj hc q2, hI, hR]
      rfl
    rw [e1] at g1 g2
    have w := kk (va_up ad n q) H1 locs ls ⟨g1, g2, g3, xAg_new hAg hn⟩ (by rw [xcl_map hL (xup_same hn)]; exact hl)
    rw [List.map_cons, xcv_map hst (xup_same hn)] at w
    have e2 : xcv (va_up ad n q) (.ref n) = .ref q := by simp [xcv, va_up_self]
    rw [e2] at w
    exact w
theorem g_newa (hX : xOK X own cc nL lv kc ks) {c N : Nat} {z : Int32} (at' : ArrayType) (ty : FieldType) (hat : (at', ty, c) = (.byte, .byte, 7) ∨ (at', ty, c) = (.int, .int, 8) ∨ (at', ty, c) = (.boolean, .boolean, 9)) (h1 : Cond.arrayClass ty ∈ xgw) (hc : xK n = c) (hN : xN n = N) (hz : z = nI N) (hn : n < 1000000) (hI : I n = fun _ => 0) (hR : R n = fun _ => none) (hRk : xRok n R) (hL : ∀ q ∈ L, xvok n q.2) (hst : ∀ v ∈ st, xvok n v) (hcs : cs + 1 ≤ kc) (hsl : sl + N ≤ ks) (hd : decode cc pc = .ok (.newarray at', 2))
    (kk : G X (n + 1) (cs + 1) (sl + N) I R (pc + 2) L (.ref n :: st)) : G X n cs sl I R pc L (.int z :: st) := by
  obtain ⟨⟨p, l, e, Rm, s, m, args, below, meth, c'⟩, Q, D, cy, A, B, n0, nL'⟩ := X
  obtain ⟨hx, hb, hml, hnl, hown, hts, hK, hA, hE, hfr, hlo, hce, hsl2⟩ := hX
  intro ad H locs ls hS hl
  obtain ⟨hP, hD, hSS, hAg⟩ := hS
  have hNl := xN_le n
  subst hz
  have fin : ∀ (q : Nat) (cA : ClassId) (H1 : Heap) (_ : cA = cy c) (_ : ¬ c < 7) (_ : c < 10), va_P D vwCl (xws cy ad I R n ++ [(q, .inl (cA, N, .inl (fun _ => 0)))]) H1 → va_D A (xws cy ad I R n ++ [(q, .inl (cA, N, .inl (fun _ => 0)))]) → va_S A s.heap H1 locs → W p l e Rm s m args below meth c' H1 locs (cs + 1) (sl + N) Q (F0 m (pc + 2) ls (.ref q :: st.map (xcv ad))) := by
    intro q cA H1 hcA h7 h10 g1 g2 g3
    have e1 : xws cy ad I R n ++ [(q, .inl (cA, N, .inl (fun _ => 0)))] = xws cy (va_up ad n q) I R (n + 1) := by
      refine xws_app ?_ (fun i hi => xe_up hRk hi)
      rw [xe_arr hc h7 h10, hI, hcA, hN]
    rw [e1] at g1 g2
    have w := kk (va_up ad n q) H1 locs ls ⟨g1, g2, g3, xAg_new hAg hn⟩ (by rw [xcl_map hL (xup_same hn)]; exact hl)
    rw [List.map_cons, xcv_map hst (xup_same hn)] at w
    have e2 : xcv (va_up ad n q) (.ref n) = .ref q := by simp [xcv, va_up_self]
    rw [e2] at w
    exact w
  rcases hat with h | h | h <;> cases h
  · refine va_newa (atype := .byte) (ty := .byte) (a0 := (N, .inl (fun _ => 0))) (N' := N) hx hb (hts _ h1) rfl hK hP hD hSS hA (fun cA => by rw [vp_cell_i]; rfl) (nI_pos (by omega)) (nI_clamp (by omega)) (by simp [componentBytes]; omega) (by omega) (by omega) hd (fun q cA H1 gK g1 g2 g3 => fin q cA H1 ?_ (by decide) (by decide) g1 g2 g3)
    have r1 := (hK.2 0 _ (xty_at cy).1).2
    have r2 := (gK.2 5 (cA, .byte) rfl).2
    exact Option.some.inj (r2.symm.trans r1)
  · refine va_newa (atype := .int) (ty := .int) (a0 := (N, .inl (fun _ => 0))) (N' := N) hx hb (hts _ h1) rfl hK hP hD hSS hA (fun cA => by rw [vp_cell_i]; rfl) (nI_pos (by omega)) (nI_clamp (by omega)) (by simp [componentBytes]; omega) (by omega) (by omega) hd (fun q cA H1 gK g1 g2 g3 => fin q cA H1 ?_ (by decide) (by decide) g1 g2 g3)
    have r1 := (hK.2 1 _ (xty_at cy).2.1).2
    have r2 := (gK.2 5 (cA, .int) rfl).2
    exact Option.some.inj (r2.symm.trans r1)
  · refine va_newa (atype := .boolean) (ty := .boolean) (a0 := (N, .inl (fun _ => 0))) (N' := N) hx hb (hts _ h1) rfl hK hP hD hSS hA (fun cA => by rw [vp_cell_i]; rfl) (nI_pos (by omega)) (nI_clamp (by omega)) (by simp [componentBytes]; omega) (by omega) (by omega) hd (fun q cA H1 gK g1 g2 g3 => fin q cA H1 ?_ (by decide) (by decide) g1 g2 g3)
    have r1 := (hK.2 2 _ (xty_at cy).2.2.1).2
    have r2 := (gK.2 5 (cA, .boolean) rfl).2
    exact Option.some.inj (r2.symm.trans r1)
end
end
