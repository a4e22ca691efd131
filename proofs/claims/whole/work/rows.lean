section
-- ===== PART A: goes FIRST, ahead of the names: the tables' words, and 'selects' of the private methods out of them =====
/-- a private method of a class that the tables say can be made, by its rows of tables_1 -/
def lw_okq (q : MethodName × Nat) : Prop := (q.1.cls ≠ "java/lang/invoke/MethodHandle" ∧ q.1.cls ≠ "java/lang/invoke/VarHandle") ∧ Cond.instantiable q.1.cls q.2 ∈ tables_1 ∧ Cond.privateMethod q.1 ∈ tables_1 ∧ Cond.instanceMethod q.1 ∈ tables_1
theorem lw_p0 : lw_okq (⟨"OneBench", "found", "(I)I"⟩, 14) := ⟨⟨by decide +kernel, by decide +kernel⟩, List.mem_of_getElem? (i := 16) (by decide +kernel), List.mem_of_getElem? (i := 242) (by decide +kernel), List.mem_of_getElem? (i := 243) (by decide +kernel)⟩
theorem lw_p1 : lw_okq (⟨"OneBench$Row", "begin", "(II)V"⟩, 4) := ⟨⟨by decide +kernel, by decide +kernel⟩, List.mem_of_getElem? (i := 168) (by decide +kernel), List.mem_of_getElem? (i := 247) (by decide +kernel), List.mem_of_getElem? (i := 248) (by decide +kernel)⟩
theorem lw_p2 : lw_okq (⟨"OneBench", "unfound", "(I)I"⟩, 14) := ⟨⟨by decide +kernel, by decide +kernel⟩, List.mem_of_getElem? (i := 16) (by decide +kernel), List.mem_of_getElem? (i := 254) (by decide +kernel), List.mem_of_getElem? (i := 255) (by decide +kernel)⟩
theorem lw_p3 : lw_okq (⟨"OneBench$Row", "cutToLane", "(I)I"⟩, 4) := ⟨⟨by decide +kernel, by decide +kernel⟩, List.mem_of_getElem? (i := 168) (by decide +kernel), List.mem_of_getElem? (i := 262) (by decide +kernel), List.mem_of_getElem? (i := 263) (by decide +kernel)⟩
theorem lw_p4 : lw_okq (⟨"OneBench$Row", "has", "(II)Z"⟩, 4) := ⟨⟨by decide +kernel, by decide +kernel⟩, List.mem_of_getElem? (i := 168) (by decide +kernel), List.mem_of_getElem? (i := 270) (by decide +kernel), List.mem_of_getElem? (i := 271) (by decide +kernel)⟩
theorem lw_p5 : lw_okq (⟨"OneBench$Reader", "take", "(B)V"⟩, 8) := ⟨⟨by decide +kernel, by decide +kernel⟩, List.mem_of_getElem? (i := 26) (by decide +kernel), List.mem_of_getElem? (i := 286) (by decide +kernel), List.mem_of_getElem? (i := 287) (by decide +kernel)⟩
theorem lw_p6 : lw_okq (⟨"OneBench$Reader", "readInto", "(LOneBench$Garden;)Z"⟩, 8) := ⟨⟨by decide +kernel, by decide +kernel⟩, List.mem_of_getElem? (i := 26) (by decide +kernel), List.mem_of_getElem? (i := 294) (by decide +kernel), List.mem_of_getElem? (i := 295) (by decide +kernel)⟩
theorem lw_p7 : lw_okq (⟨"OneBench$Garden", "clear", "()V"⟩, 15) := ⟨⟨by decide +kernel, by decide +kernel⟩, List.mem_of_getElem? (i := 88) (by decide +kernel), List.mem_of_getElem? (i := 298) (by decide +kernel), List.mem_of_getElem? (i := 299) (by decide +kernel)⟩
theorem lw_p8 : lw_okq (⟨"OneBench$Reader", "advance", "()V"⟩, 8) := ⟨⟨by decide +kernel, by decide +kernel⟩, List.mem_of_getElem? (i := 26) (by decide +kernel), List.mem_of_getElem? (i := 303) (by decide +kernel), List.mem_of_getElem? (i := 304) (by decide +kernel)⟩
theorem lw_p9 : lw_okq (⟨"OneBench$Reader", "passLetters", "()V"⟩, 8) := ⟨⟨by decide +kernel, by decide +kernel⟩, List.mem_of_getElem? (i := 26) (by decide +kernel), List.mem_of_getElem? (i := 313) (by decide +kernel), List.mem_of_getElem? (i := 314) (by decide +kernel)⟩
theorem lw_p10 : lw_okq (⟨"OneBench$Reader", "passFigures", "()V"⟩, 8) := ⟨⟨by decide +kernel, by decide +kernel⟩, List.mem_of_getElem? (i := 26) (by decide +kernel), List.mem_of_getElem? (i := 320) (by decide +kernel), List.mem_of_getElem? (i := 321) (by decide +kernel)⟩
theorem lw_p11 : lw_okq (⟨"OneBench$Reader", "readGround", "(LOneBench$Garden;)Z"⟩, 8) := ⟨⟨by decide +kernel, by decide +kernel⟩, List.mem_of_getElem? (i := 26) (by decide +kernel), List.mem_of_getElem? (i := 324) (by decide +kernel), List.mem_of_getElem? (i := 325) (by decide +kernel)⟩
theorem lw_p12 : lw_okq (⟨"OneBench$Reader", "passWord", "(Ljava/lang/String;)Z"⟩, 8) := ⟨⟨by decide +kernel, by decide +kernel⟩, List.mem_of_getElem? (i := 26) (by decide +kernel), List.mem_of_getElem? (i := 329) (by decide +kernel), List.mem_of_getElem? (i := 330) (by decide +kernel)⟩
theorem lw_p13 : lw_okq (⟨"OneBench$Reader", "isWord", "(Ljava/lang/String;)Z"⟩, 8) := ⟨⟨by decide +kernel, by decide +kernel⟩, List.mem_of_getElem? (i := 26) (by decide +kernel), List.mem_of_getElem? (i := 333) (by decide +kernel), List.mem_of_getElem? (i := 334) (by decide +kernel)⟩
theorem lw_p14 : lw_okq (⟨"OneBench$Reader", "refuse", "(I)Z"⟩, 8) := ⟨⟨by decide +kernel, by decide +kernel⟩, List.mem_of_getElem? (i := 26) (by decide +kernel), List.mem_of_getElem? (i := 385) (by decide +kernel), List.mem_of_getElem? (i := 386) (by decide +kernel)⟩
theorem lw_p15 : lw_okq (⟨"OneBench$Reader", "isNumber", "(II)Z"⟩, 8) := ⟨⟨by decide +kernel, by decide +kernel⟩, List.mem_of_getElem? (i := 26) (by decide +kernel), List.mem_of_getElem? (i := 389) (by decide +kernel), List.mem_of_getElem? (i := 390) (by decide +kernel)⟩
def lw_privs_1 : List (MethodName × Nat) := [(⟨"OneBench", "found", "(I)I"⟩, 14), (⟨"OneBench$Row", "begin", "(II)V"⟩, 4), (⟨"OneBench", "unfound", "(I)I"⟩, 14), (⟨"OneBench$Row", "cutToLane", "(I)I"⟩, 4), (⟨"OneBench$Row", "has", "(II)Z"⟩, 4), (⟨"OneBench$Reader", "take", "(B)V"⟩, 8), (⟨"OneBench$Reader", "readInto", "(LOneBench$Garden;)Z"⟩, 8), (⟨"OneBench$Garden", "clear", "()V"⟩, 15), (⟨"OneBench$Reader", "advance", "()V"⟩, 8), (⟨"OneBench$Reader", "passLetters", "()V"⟩, 8), (⟨"OneBench$Reader", "passFigures", "()V"⟩, 8), (⟨"OneBench$Reader", "readGround", "(LOneBench$Garden;)Z"⟩, 8), (⟨"OneBench$Reader", "passWord", "(Ljava/lang/String;)Z"⟩, 8), (⟨"OneBench$Reader", "isWord", "(Ljava/lang/String;)Z"⟩, 8), (⟨"OneBench$Reader", "refuse", "(I)Z"⟩, 8), (⟨"OneBench$Reader", "isNumber", "(II)Z"⟩, 8)]
theorem lw_r1 : ∀ q ∈ lw_privs_1, lw_okq q := List.forall_mem_cons.mpr ⟨lw_p0, List.forall_mem_cons.mpr ⟨lw_p1, List.forall_mem_cons.mpr ⟨lw_p2, List.forall_mem_cons.mpr ⟨lw_p3, List.forall_mem_cons.mpr ⟨lw_p4, List.forall_mem_cons.mpr ⟨lw_p5, List.forall_mem_cons.mpr ⟨lw_p6, List.forall_mem_cons.mpr ⟨lw_p7, List.forall_mem_cons.mpr ⟨lw_p8, List.forall_mem_cons.mpr ⟨lw_p9, List.forall_mem_cons.mpr ⟨lw_p10, List.forall_mem_cons.mpr ⟨lw_p11, List.forall_mem_cons.mpr ⟨lw_p12, List.forall_mem_cons.mpr ⟨lw_p13, List.forall_mem_cons.mpr ⟨lw_p14, List.forall_mem_cons.mpr ⟨lw_p15, fun _ h => absurd h List.not_mem_nil⟩⟩⟩⟩⟩⟩⟩⟩⟩⟩⟩⟩⟩⟩⟩⟩
theorem lw_p16 : lw_okq (⟨"OneBench$Reader", "pass", "()I"⟩, 8) := ⟨⟨by decide +kernel, by decide +kernel⟩, List.mem_of_getElem? (i := 26) (by decide +kernel), List.mem_of_getElem? (i := 393) (by decide +kernel), List.mem_of_getElem? (i := 394) (by decide +kernel)⟩
theorem lw_p17 : lw_okq (⟨"OneBench$Reader", "passSign", "()Z"⟩, 8) := ⟨⟨by decide +kernel, by decide +kernel⟩, List.mem_of_getElem? (i := 26) (by decide +kernel), List.mem_of_getElem? (i := 397) (by decide +kernel), List.mem_of_getElem? (i := 398) (by decide +kernel)⟩
theorem lw_p18 : lw_okq (⟨"OneBench$Reader", "readLake", "(LOneBench$Garden;)Z"⟩, 8) := ⟨⟨by decide +kernel, by decide +kernel⟩, List.mem_of_getElem? (i := 26) (by decide +kernel), List.mem_of_getElem? (i := 402) (by decide +kernel), List.mem_of_getElem? (i := 403) (by decide +kernel)⟩
theorem lw_p19 : lw_okq (⟨"OneBench$Reader", "readTree", "(LOneBench$Garden;)Z"⟩, 8) := ⟨⟨by decide +kernel, by decide +kernel⟩, List.mem_of_getElem? (i := 26) (by decide +kernel), List.mem_of_getElem? (i := 407) (by decide +kernel), List.mem_of_getElem? (i := 408) (by decide +kernel)⟩
theorem lw_p20 : lw_okq (⟨"OneBench$Reader", "sortTold", "()I"⟩, 8) := ⟨⟨by decide +kernel, by decide +kernel⟩, List.mem_of_getElem? (i := 26) (by decide +kernel), List.mem_of_getElem? (i := 411) (by decide +kernel), List.mem_of_getElem? (i := 412) (by decide +kernel)⟩
theorem lw_p21 : lw_okq (⟨"OneBench$Garden", "treeAt", "(I)I"⟩, 15) := ⟨⟨by decide +kernel, by decide +kernel⟩, List.mem_of_getElem? (i := 88) (by decide +kernel), List.mem_of_getElem? (i := 421) (by decide +kernel), List.mem_of_getElem? (i := 422) (by decide +kernel)⟩
theorem lw_p22 : lw_okq (⟨"OneBench$Garden", "addTree", "(IIII)V"⟩, 15) := ⟨⟨by decide +kernel, by decide +kernel⟩, List.mem_of_getElem? (i := 88) (by decide +kernel), List.mem_of_getElem? (i := 425) (by decide +kernel), List.mem_of_getElem? (i := 426) (by decide +kernel)⟩
theorem lw_p23 : lw_okq (⟨"OneBench$Reader", "readThing", "(LOneBench$Garden;)Z"⟩, 8) := ⟨⟨by decide +kernel, by decide +kernel⟩, List.mem_of_getElem? (i := 26) (by decide +kernel), List.mem_of_getElem? (i := 430) (by decide +kernel), List.mem_of_getElem? (i := 431) (by decide +kernel)⟩
theorem lw_p24 : lw_okq (⟨"OneBench$Garden", "addThing", "(IIZ)V"⟩, 15) := ⟨⟨by decide +kernel, by decide +kernel⟩, List.mem_of_getElem? (i := 88) (by decide +kernel), List.mem_of_getElem? (i := 436) (by decide +kernel), List.mem_of_getElem? (i := 437) (by decide +kernel)⟩
theorem lw_p25 : lw_okq (⟨"OneBench", "keepDay", "()V"⟩, 14) := ⟨⟨by decide +kernel, by decide +kernel⟩, List.mem_of_getElem? (i := 16) (by decide +kernel), List.mem_of_getElem? (i := 450) (by decide +kernel), List.mem_of_getElem? (i := 451) (by decide +kernel)⟩
theorem lw_p26 : lw_okq (⟨"OneBench$Garden", "becomes", "(LOneBench$Garden;)V"⟩, 15) := ⟨⟨by decide +kernel, by decide +kernel⟩, List.mem_of_getElem? (i := 88) (by decide +kernel), List.mem_of_getElem? (i := 454) (by decide +kernel), List.mem_of_getElem? (i := 455) (by decide +kernel)⟩
theorem lw_p27 : lw_okq (⟨"OneBench$Garden", "hasTree", "(I)Z"⟩, 15) := ⟨⟨by decide +kernel, by decide +kernel⟩, List.mem_of_getElem? (i := 88) (by decide +kernel), List.mem_of_getElem? (i := 470) (by decide +kernel), List.mem_of_getElem? (i := 471) (by decide +kernel)⟩
theorem lw_p28 : lw_okq (⟨"OneBench$Garden", "mayBeCut", "(I)Z"⟩, 15) := ⟨⟨by decide +kernel, by decide +kernel⟩, List.mem_of_getElem? (i := 88) (by decide +kernel), List.mem_of_getElem? (i := 474) (by decide +kernel), List.mem_of_getElem? (i := 475) (by decide +kernel)⟩
theorem lw_p29 : lw_okq (⟨"OneBench$Garden", "heightNow", "(I)I"⟩, 15) := ⟨⟨by decide +kernel, by decide +kernel⟩, List.mem_of_getElem? (i := 88) (by decide +kernel), List.mem_of_getElem? (i := 479) (by decide +kernel), List.mem_of_getElem? (i := 480) (by decide +kernel)⟩
theorem lw_p30 : lw_okq (⟨"OneBench$Garden", "heightIn", "(IIZ)I"⟩, 15) := ⟨⟨by decide +kernel, by decide +kernel⟩, List.mem_of_getElem? (i := 88) (by decide +kernel), List.mem_of_getElem? (i := 483) (by decide +kernel), List.mem_of_getElem? (i := 484) (by decide +kernel)⟩
theorem lw_p31 : lw_okq (⟨"OneBench$Sight", "lookNow", "(LOneBench$Garden;)V"⟩, 1) := ⟨⟨by decide +kernel, by decide +kernel⟩, List.mem_of_getElem? (i := 61) (by decide +kernel), List.mem_of_getElem? (i := 516) (by decide +kernel), List.mem_of_getElem? (i := 517) (by decide +kernel)⟩
def lw_privs_2 : List (MethodName × Nat) := [(⟨"OneBench$Reader", "pass", "()I"⟩, 8), (⟨"OneBench$Reader", "passSign", "()Z"⟩, 8), (⟨"OneBench$Reader", "readLake", "(LOneBench$Garden;)Z"⟩, 8), (⟨"OneBench$Reader", "readTree", "(LOneBench$Garden;)Z"⟩, 8), (⟨"OneBench$Reader", "sortTold", "()I"⟩, 8), (⟨"OneBench$Garden", "treeAt", "(I)I"⟩, 15), (⟨"OneBench$Garden", "addTree", "(IIII)V"⟩, 15), (⟨"OneBench$Reader", "readThing", "(LOneBench$Garden;)Z"⟩, 8), (⟨"OneBench$Garden", "addThing", "(IIZ)V"⟩, 15), (⟨"OneBench", "keepDay", "()V"⟩, 14), (⟨"OneBench$Garden", "becomes", "(LOneBench$Garden;)V"⟩, 15), (⟨"OneBench$Garden", "hasTree", "(I)Z"⟩, 15), (⟨"OneBench$Garden", "mayBeCut", "(I)Z"⟩, 15), (⟨"OneBench$Garden", "heightNow", "(I)I"⟩, 15), (⟨"OneBench$Garden", "heightIn", "(IIZ)I"⟩, 15), (⟨"OneBench$Sight", "lookNow", "(LOneBench$Garden;)V"⟩, 1)]
theorem lw_r2 : ∀ q ∈ lw_privs_2, lw_okq q := List.forall_mem_cons.mpr ⟨lw_p16, List.forall_mem_cons.mpr ⟨lw_p17, List.forall_mem_cons.mpr ⟨lw_p18, List.forall_mem_cons.mpr ⟨lw_p19, List.forall_mem_cons.mpr ⟨lw_p20, List.forall_mem_cons.mpr ⟨lw_p21, List.forall_mem_cons.mpr ⟨lw_p22, List.forall_mem_cons.mpr ⟨lw_p23, List.forall_mem_cons.mpr ⟨lw_p24, List.forall_mem_cons.mpr ⟨lw_p25, List.forall_mem_cons.mpr ⟨lw_p26, List.forall_mem_cons.mpr ⟨lw_p27, List.forall_mem_cons.mpr ⟨lw_p28, List.forall_mem_cons.mpr ⟨lw_p29, List.forall_mem_cons.mpr ⟨lw_p30, List.forall_mem_cons.mpr ⟨lw_p31, fun _ h => absurd h List.not_mem_nil⟩⟩⟩⟩⟩⟩⟩⟩⟩⟩⟩⟩⟩⟩⟩⟩
theorem lw_p32 : lw_okq (⟨"OneBench$Sight", "look", "(LOneBench$Garden;IZ)V"⟩, 1) := ⟨⟨by decide +kernel, by decide +kernel⟩, List.mem_of_getElem? (i := 61) (by decide +kernel), List.mem_of_getElem? (i := 520) (by decide +kernel), List.mem_of_getElem? (i := 521) (by decide +kernel)⟩
theorem lw_p33 : lw_okq (⟨"OneBench$Sight", "raise", "(II)V"⟩, 1) := ⟨⟨by decide +kernel, by decide +kernel⟩, List.mem_of_getElem? (i := 61) (by decide +kernel), List.mem_of_getElem? (i := 526) (by decide +kernel), List.mem_of_getElem? (i := 527) (by decide +kernel)⟩
theorem lw_p34 : lw_okq (⟨"OneBench$Sight", "thingsFrom", "(LOneBench$Garden;II)I"⟩, 1) := ⟨⟨by decide +kernel, by decide +kernel⟩, List.mem_of_getElem? (i := 61) (by decide +kernel), List.mem_of_getElem? (i := 537) (by decide +kernel), List.mem_of_getElem? (i := 538) (by decide +kernel)⟩
theorem lw_p35 : lw_okq (⟨"OneBench$Sight", "isSeen", "(LOneBench$Garden;III)Z"⟩, 1) := ⟨⟨by decide +kernel, by decide +kernel⟩, List.mem_of_getElem? (i := 61) (by decide +kernel), List.mem_of_getElem? (i := 541) (by decide +kernel), List.mem_of_getElem? (i := 542) (by decide +kernel)⟩
theorem lw_p36 : lw_okq (⟨"OneBench$Garden", "topOf", "(I)I"⟩, 15) := ⟨⟨by decide +kernel, by decide +kernel⟩, List.mem_of_getElem? (i := 88) (by decide +kernel), List.mem_of_getElem? (i := 545) (by decide +kernel), List.mem_of_getElem? (i := 546) (by decide +kernel)⟩
theorem lw_p37 : lw_okq (⟨"OneBench$Sight", "isFree", "(IIII)Z"⟩, 1) := ⟨⟨by decide +kernel, by decide +kernel⟩, List.mem_of_getElem? (i := 61) (by decide +kernel), List.mem_of_getElem? (i := 549) (by decide +kernel), List.mem_of_getElem? (i := 550) (by decide +kernel)⟩
theorem lw_p38 : lw_okq (⟨"OneBench$Sight", "isDoubled", "(LOneBench$Garden;II)Z"⟩, 1) := ⟨⟨by decide +kernel, by decide +kernel⟩, List.mem_of_getElem? (i := 61) (by decide +kernel), List.mem_of_getElem? (i := 558) (by decide +kernel), List.mem_of_getElem? (i := 559) (by decide +kernel)⟩
theorem lw_p39 : lw_okq (⟨"OneBench$Sight", "wantsAreMet", "(LOneBench$Garden;I)Z"⟩, 1) := ⟨⟨by decide +kernel, by decide +kernel⟩, List.mem_of_getElem? (i := 61) (by decide +kernel), List.mem_of_getElem? (i := 569) (by decide +kernel), List.mem_of_getElem? (i := 570) (by decide +kernel)⟩
theorem lw_p40 : lw_okq (⟨"OneBench", "leastCut", "(II)I"⟩, 14) := ⟨⟨by decide +kernel, by decide +kernel⟩, List.mem_of_getElem? (i := 16) (by decide +kernel), List.mem_of_getElem? (i := 577) (by decide +kernel), List.mem_of_getElem? (i := 578) (by decide +kernel)⟩
theorem lw_p41 : lw_okq (⟨"OneBench$Sight", "wantsAreMetForAll", "(LOneBench$Garden;I)Z"⟩, 1) := ⟨⟨by decide +kernel, by decide +kernel⟩, List.mem_of_getElem? (i := 61) (by decide +kernel), List.mem_of_getElem? (i := 587) (by decide +kernel), List.mem_of_getElem? (i := 588) (by decide +kernel)⟩
theorem lw_p42 : lw_okq (⟨"OneBench$Garden", "hasThings", "(I)Z"⟩, 15) := ⟨⟨by decide +kernel, by decide +kernel⟩, List.mem_of_getElem? (i := 88) (by decide +kernel), List.mem_of_getElem? (i := 607) (by decide +kernel), List.mem_of_getElem? (i := 608) (by decide +kernel)⟩
theorem lw_p43 : lw_okq (⟨"OneBench", "placesSeeing", "(III)I"⟩, 14) := ⟨⟨by decide +kernel, by decide +kernel⟩, List.mem_of_getElem? (i := 16) (by decide +kernel), List.mem_of_getElem? (i := 611) (by decide +kernel), List.mem_of_getElem? (i := 612) (by decide +kernel)⟩
theorem lw_p44 : lw_okq (⟨"OneBench", "leastHider", "(II)I"⟩, 14) := ⟨⟨by decide +kernel, by decide +kernel⟩, List.mem_of_getElem? (i := 16) (by decide +kernel), List.mem_of_getElem? (i := 623) (by decide +kernel), List.mem_of_getElem? (i := 624) (by decide +kernel)⟩
theorem lw_p45 : lw_okq (⟨"OneBench", "hidingBy", "(III)I"⟩, 14) := ⟨⟨by decide +kernel, by decide +kernel⟩, List.mem_of_getElem? (i := 16) (by decide +kernel), List.mem_of_getElem? (i := 627) (by decide +kernel), List.mem_of_getElem? (i := 628) (by decide +kernel)⟩
theorem lw_p46 : lw_okq (⟨"OneBench$Trace", "note", "(I)V"⟩, 2) := ⟨⟨by decide +kernel, by decide +kernel⟩, List.mem_of_getElem? (i := 73) (by decide +kernel), List.mem_of_getElem? (i := 663) (by decide +kernel), List.mem_of_getElem? (i := 664) (by decide +kernel)⟩
theorem lw_p47 : lw_okq (⟨"OneBench", "rowsThere", "()I"⟩, 14) := ⟨⟨by decide +kernel, by decide +kernel⟩, List.mem_of_getElem? (i := 16) (by decide +kernel), List.mem_of_getElem? (i := 675) (by decide +kernel), List.mem_of_getElem? (i := 676) (by decide +kernel)⟩
def lw_privs_3 : List (MethodName × Nat) := [(⟨"OneBench$Sight", "look", "(LOneBench$Garden;IZ)V"⟩, 1), (⟨"OneBench$Sight", "raise", "(II)V"⟩, 1), (⟨"OneBench$Sight", "thingsFrom", "(LOneBench$Garden;II)I"⟩, 1), (⟨"OneBench$Sight", "isSeen", "(LOneBench$Garden;III)Z"⟩, 1), (⟨"OneBench$Garden", "topOf", "(I)I"⟩, 15), (⟨"OneBench$Sight", "isFree", "(IIII)Z"⟩, 1), (⟨"OneBench$Sight", "isDoubled", "(LOneBench$Garden;II)Z"⟩, 1), (⟨"OneBench$Sight", "wantsAreMet", "(LOneBench$Garden;I)Z"⟩, 1), (⟨"OneBench", "leastCut", "(II)I"⟩, 14), (⟨"OneBench$Sight", "wantsAreMetForAll", "(LOneBench$Garden;I)Z"⟩, 1), (⟨"OneBench$Garden", "hasThings", "(I)Z"⟩, 15), (⟨"OneBench", "placesSeeing", "(III)I"⟩, 14), (⟨"OneBench", "leastHider", "(II)I"⟩, 14), (⟨"OneBench", "hidingBy", "(III)I"⟩, 14), (⟨"OneBench$Trace", "note", "(I)V"⟩, 2), (⟨"OneBench", "rowsThere", "()I"⟩, 14)]
theorem lw_r3 : ∀ q ∈ lw_privs_3, lw_okq q := List.forall_mem_cons.mpr ⟨lw_p32, List.forall_mem_cons.mpr ⟨lw_p33, List.forall_mem_cons.mpr ⟨lw_p34, List.forall_mem_cons.mpr ⟨lw_p35, List.forall_mem_cons.mpr ⟨lw_p36, List.forall_mem_cons.mpr ⟨lw_p37, List.forall_mem_cons.mpr ⟨lw_p38, List.forall_mem_cons.mpr ⟨lw_p39, List.forall_mem_cons.mpr ⟨lw_p40, List.forall_mem_cons.mpr ⟨lw_p41, List.forall_mem_cons.mpr ⟨lw_p42, List.forall_mem_cons.mpr ⟨lw_p43, List.forall_mem_cons.mpr ⟨lw_p44, List.forall_mem_cons.mpr ⟨lw_p45, List.forall_mem_cons.mpr ⟨lw_p46, List.forall_mem_cons.mpr ⟨lw_p47, fun _ h => absurd h List.not_mem_nil⟩⟩⟩⟩⟩⟩⟩⟩⟩⟩⟩⟩⟩⟩⟩⟩
theorem lw_p48 : lw_okq (⟨"OneBenchModel", "finding", "(I)I"⟩, 25) := ⟨⟨by decide +kernel, by decide +kernel⟩, List.mem_of_getElem? (i := 683) (by decide +kernel), List.mem_of_getElem? (i := 778) (by decide +kernel), List.mem_of_getElem? (i := 779) (by decide +kernel)⟩
theorem lw_p49 : lw_okq (⟨"OneBenchModel", "begin", "()V"⟩, 25) := ⟨⟨by decide +kernel, by decide +kernel⟩, List.mem_of_getElem? (i := 683) (by decide +kernel), List.mem_of_getElem? (i := 806) (by decide +kernel), List.mem_of_getElem? (i := 807) (by decide +kernel)⟩
theorem lw_p50 : lw_okq (⟨"OneBenchModel", "next", "()V"⟩, 25) := ⟨⟨by decide +kernel, by decide +kernel⟩, List.mem_of_getElem? (i := 683) (by decide +kernel), List.mem_of_getElem? (i := 810) (by decide +kernel), List.mem_of_getElem? (i := 811) (by decide +kernel)⟩
theorem lw_p51 : lw_okq (⟨"OneBenchModel", "byteAt", "(I)I"⟩, 25) := ⟨⟨by decide +kernel, by decide +kernel⟩, List.mem_of_getElem? (i := 683) (by decide +kernel), List.mem_of_getElem? (i := 814) (by decide +kernel), List.mem_of_getElem? (i := 815) (by decide +kernel)⟩
theorem lw_p52 : lw_okq (⟨"OneBenchModel", "readGround", "()V"⟩, 25) := ⟨⟨by decide +kernel, by decide +kernel⟩, List.mem_of_getElem? (i := 683) (by decide +kernel), List.mem_of_getElem? (i := 825) (by decide +kernel), List.mem_of_getElem? (i := 826) (by decide +kernel)⟩
theorem lw_p53 : lw_okq (⟨"OneBenchModel", "name", "()J"⟩, 25) := ⟨⟨by decide +kernel, by decide +kernel⟩, List.mem_of_getElem? (i := 683) (by decide +kernel), List.mem_of_getElem? (i := 829) (by decide +kernel), List.mem_of_getElem? (i := 830) (by decide +kernel)⟩
theorem lw_p54 : lw_okq (⟨"OneBenchModel", "must", "(Z)V"⟩, 25) := ⟨⟨by decide +kernel, by decide +kernel⟩, List.mem_of_getElem? (i := 683) (by decide +kernel), List.mem_of_getElem? (i := 834) (by decide +kernel), List.mem_of_getElem? (i := 835) (by decide +kernel)⟩
theorem lw_p55 : lw_okq (⟨"OneBenchModel", "bad", "(I)V"⟩, 25) := ⟨⟨by decide +kernel, by decide +kernel⟩, List.mem_of_getElem? (i := 683) (by decide +kernel), List.mem_of_getElem? (i := 838) (by decide +kernel), List.mem_of_getElem? (i := 839) (by decide +kernel)⟩
theorem lw_p56 : lw_okq (⟨"OneBenchModel", "number", "(II)I"⟩, 25) := ⟨⟨by decide +kernel, by decide +kernel⟩, List.mem_of_getElem? (i := 683) (by decide +kernel), List.mem_of_getElem? (i := 842) (by decide +kernel), List.mem_of_getElem? (i := 843) (by decide +kernel)⟩
theorem lw_p57 : lw_okq (⟨"OneBenchModel", "figures", "()I"⟩, 25) := ⟨⟨by decide +kernel, by decide +kernel⟩, List.mem_of_getElem? (i := 683) (by decide +kernel), List.mem_of_getElem? (i := 846) (by decide +kernel), List.mem_of_getElem? (i := 847) (by decide +kernel)⟩
theorem lw_p58 : lw_okq (⟨"OneBenchModel", "mustEnd", "()V"⟩, 25) := ⟨⟨by decide +kernel, by decide +kernel⟩, List.mem_of_getElem? (i := 683) (by decide +kernel), List.mem_of_getElem? (i := 850) (by decide +kernel), List.mem_of_getElem? (i := 851) (by decide +kernel)⟩
theorem lw_p59 : lw_okq (⟨"OneBenchModel", "readLake", "()V"⟩, 25) := ⟨⟨by decide +kernel, by decide +kernel⟩, List.mem_of_getElem? (i := 683) (by decide +kernel), List.mem_of_getElem? (i := 855) (by decide +kernel), List.mem_of_getElem? (i := 856) (by decide +kernel)⟩
theorem lw_p60 : lw_okq (⟨"OneBenchModel", "readTree", "()V"⟩, 25) := ⟨⟨by decide +kernel, by decide +kernel⟩, List.mem_of_getElem? (i := 683) (by decide +kernel), List.mem_of_getElem? (i := 860) (by decide +kernel), List.mem_of_getElem? (i := 861) (by decide +kernel)⟩
theorem lw_p61 : lw_okq (⟨"OneBenchModel", "begins", "(II)V"⟩, 25) := ⟨⟨by decide +kernel, by decide +kernel⟩, List.mem_of_getElem? (i := 683) (by decide +kernel), List.mem_of_getElem? (i := 864) (by decide +kernel), List.mem_of_getElem? (i := 865) (by decide +kernel)⟩
theorem lw_p62 : lw_okq (⟨"OneBenchModel", "isTold", "(I)Z"⟩, 25) := ⟨⟨by decide +kernel, by decide +kernel⟩, List.mem_of_getElem? (i := 683) (by decide +kernel), List.mem_of_getElem? (i := 876) (by decide +kernel), List.mem_of_getElem? (i := 877) (by decide +kernel)⟩
theorem lw_p63 : lw_okq (⟨"OneBenchModel", "readThing", "()V"⟩, 25) := ⟨⟨by decide +kernel, by decide +kernel⟩, List.mem_of_getElem? (i := 683) (by decide +kernel), List.mem_of_getElem? (i := 881) (by decide +kernel), List.mem_of_getElem? (i := 882) (by decide +kernel)⟩
def lw_privs_4 : List (MethodName × Nat) := [(⟨"OneBenchModel", "finding", "(I)I"⟩, 25), (⟨"OneBenchModel", "begin", "()V"⟩, 25), (⟨"OneBenchModel", "next", "()V"⟩, 25), (⟨"OneBenchModel", "byteAt", "(I)I"⟩, 25), (⟨"OneBenchModel", "readGround", "()V"⟩, 25), (⟨"OneBenchModel", "name", "()J"⟩, 25), (⟨"OneBenchModel", "must", "(Z)V"⟩, 25), (⟨"OneBenchModel", "bad", "(I)V"⟩, 25), (⟨"OneBenchModel", "number", "(II)I"⟩, 25), (⟨"OneBenchModel", "figures", "()I"⟩, 25), (⟨"OneBenchModel", "mustEnd", "()V"⟩, 25), (⟨"OneBenchModel", "readLake", "()V"⟩, 25), (⟨"OneBenchModel", "readTree", "()V"⟩, 25), (⟨"OneBenchModel", "begins", "(II)V"⟩, 25), (⟨"OneBenchModel", "isTold", "(I)Z"⟩, 25), (⟨"OneBenchModel", "readThing", "()V"⟩, 25)]
theorem lw_r4 : ∀ q ∈ lw_privs_4, lw_okq q := List.forall_mem_cons.mpr ⟨lw_p48, List.forall_mem_cons.mpr ⟨lw_p49, List.forall_mem_cons.mpr ⟨lw_p50, List.forall_mem_cons.mpr ⟨lw_p51, List.forall_mem_cons.mpr ⟨lw_p52, List.forall_mem_cons.mpr ⟨lw_p53, List.forall_mem_cons.mpr ⟨lw_p54, List.forall_mem_cons.mpr ⟨lw_p55, List.forall_mem_cons.mpr ⟨lw_p56, List.forall_mem_cons.mpr ⟨lw_p57, List.forall_mem_cons.mpr ⟨lw_p58, List.forall_mem_cons.mpr ⟨lw_p59, List.forall_mem_cons.mpr ⟨lw_p60, List.forall_mem_cons.mpr ⟨lw_p61, List.forall_mem_cons.mpr ⟨lw_p62, List.forall_mem_cons.mpr ⟨lw_p63, fun _ h => absurd h List.not_mem_nil⟩⟩⟩⟩⟩⟩⟩⟩⟩⟩⟩⟩⟩⟩⟩⟩
theorem lw_p64 : lw_okq (⟨"OneBenchModel", "keep", "()V"⟩, 25) := ⟨⟨by decide +kernel, by decide +kernel⟩, List.mem_of_getElem? (i := 683) (by decide +kernel), List.mem_of_getElem? (i := 898) (by decide +kernel), List.mem_of_getElem? (i := 899) (by decide +kernel)⟩
theorem lw_p65 : lw_okq (⟨"OneBenchModel", "isTree", "(I)Z"⟩, 25) := ⟨⟨by decide +kernel, by decide +kernel⟩, List.mem_of_getElem? (i := 683) (by decide +kernel), List.mem_of_getElem? (i := 910) (by decide +kernel), List.mem_of_getElem? (i := 911) (by decide +kernel)⟩
theorem lw_p66 : lw_okq (⟨"OneBenchModel", "mayBeCut", "(I)Z"⟩, 25) := ⟨⟨by decide +kernel, by decide +kernel⟩, List.mem_of_getElem? (i := 683) (by decide +kernel), List.mem_of_getElem? (i := 914) (by decide +kernel), List.mem_of_getElem? (i := 915) (by decide +kernel)⟩
theorem lw_p67 : lw_okq (⟨"OneBenchModel", "of", "(II)I"⟩, 25) := ⟨⟨by decide +kernel, by decide +kernel⟩, List.mem_of_getElem? (i := 683) (by decide +kernel), List.mem_of_getElem? (i := 918) (by decide +kernel), List.mem_of_getElem? (i := 919) (by decide +kernel)⟩
theorem lw_p68 : lw_okq (⟨"OneBenchModel", "height", "(I)I"⟩, 25) := ⟨⟨by decide +kernel, by decide +kernel⟩, List.mem_of_getElem? (i := 683) (by decide +kernel), List.mem_of_getElem? (i := 922) (by decide +kernel), List.mem_of_getElem? (i := 923) (by decide +kernel)⟩
theorem lw_p69 : lw_okq (⟨"OneBenchModel", "treeAt", "(I)I"⟩, 25) := ⟨⟨by decide +kernel, by decide +kernel⟩, List.mem_of_getElem? (i := 683) (by decide +kernel), List.mem_of_getElem? (i := 931) (by decide +kernel), List.mem_of_getElem? (i := 932) (by decide +kernel)⟩
theorem lw_p70 : lw_okq (⟨"OneBenchModel", "ground", "(I)I"⟩, 25) := ⟨⟨by decide +kernel, by decide +kernel⟩, List.mem_of_getElem? (i := 683) (by decide +kernel), List.mem_of_getElem? (i := 955) (by decide +kernel), List.mem_of_getElem? (i := 956) (by decide +kernel)⟩
theorem lw_p71 : lw_okq (⟨"OneBenchModel", "bar", "(I)I"⟩, 25) := ⟨⟨by decide +kernel, by decide +kernel⟩, List.mem_of_getElem? (i := 683) (by decide +kernel), List.mem_of_getElem? (i := 959) (by decide +kernel), List.mem_of_getElem? (i := 960) (by decide +kernel)⟩
theorem lw_p72 : lw_okq (⟨"OneBenchModel", "seenFrom", "(II)I"⟩, 25) := ⟨⟨by decide +kernel, by decide +kernel⟩, List.mem_of_getElem? (i := 683) (by decide +kernel), List.mem_of_getElem? (i := 971) (by decide +kernel), List.mem_of_getElem? (i := 972) (by decide +kernel)⟩
theorem lw_p73 : lw_okq (⟨"OneBenchModel", "isSeen", "(III)Z"⟩, 25) := ⟨⟨by decide +kernel, by decide +kernel⟩, List.mem_of_getElem? (i := 683) (by decide +kernel), List.mem_of_getElem? (i := 975) (by decide +kernel), List.mem_of_getElem? (i := 976) (by decide +kernel)⟩
theorem lw_p74 : lw_okq (⟨"OneBenchModel", "top", "(I)I"⟩, 25) := ⟨⟨by decide +kernel, by decide +kernel⟩, List.mem_of_getElem? (i := 683) (by decide +kernel), List.mem_of_getElem? (i := 979) (by decide +kernel), List.mem_of_getElem? (i := 980) (by decide +kernel)⟩
theorem lw_p75 : lw_okq (⟨"OneBenchModel", "isFree", "(IIII)Z"⟩, 25) := ⟨⟨by decide +kernel, by decide +kernel⟩, List.mem_of_getElem? (i := 683) (by decide +kernel), List.mem_of_getElem? (i := 983) (by decide +kernel), List.mem_of_getElem? (i := 984) (by decide +kernel)⟩
theorem lw_p76 : lw_okq (⟨"OneBenchModel", "isDoubled", "(II)Z"⟩, 25) := ⟨⟨by decide +kernel, by decide +kernel⟩, List.mem_of_getElem? (i := 683) (by decide +kernel), List.mem_of_getElem? (i := 991) (by decide +kernel), List.mem_of_getElem? (i := 992) (by decide +kernel)⟩
theorem lw_p77 : lw_okq (⟨"OneBenchModel", "metBy", "(I)I"⟩, 25) := ⟨⟨by decide +kernel, by decide +kernel⟩, List.mem_of_getElem? (i := 683) (by decide +kernel), List.mem_of_getElem? (i := 999) (by decide +kernel), List.mem_of_getElem? (i := 1000) (by decide +kernel)⟩
theorem lw_p78 : lw_okq (⟨"OneBenchModel", "areMet", "(I)Z"⟩, 25) := ⟨⟨by decide +kernel, by decide +kernel⟩, List.mem_of_getElem? (i := 683) (by decide +kernel), List.mem_of_getElem? (i := 1003) (by decide +kernel), List.mem_of_getElem? (i := 1004) (by decide +kernel)⟩
theorem lw_p79 : lw_okq (⟨"OneBenchModel", "areThings", "(I)Z"⟩, 25) := ⟨⟨by decide +kernel, by decide +kernel⟩, List.mem_of_getElem? (i := 683) (by decide +kernel), List.mem_of_getElem? (i := 1028) (by decide +kernel), List.mem_of_getElem? (i := 1029) (by decide +kernel)⟩
def lw_privs_5 : List (MethodName × Nat) := [(⟨"OneBenchModel", "keep", "()V"⟩, 25), (⟨"OneBenchModel", "isTree", "(I)Z"⟩, 25), (⟨"OneBenchModel", "mayBeCut", "(I)Z"⟩, 25), (⟨"OneBenchModel", "of", "(II)I"⟩, 25), (⟨"OneBenchModel", "height", "(I)I"⟩, 25), (⟨"OneBenchModel", "treeAt", "(I)I"⟩, 25), (⟨"OneBenchModel", "ground", "(I)I"⟩, 25), (⟨"OneBenchModel", "bar", "(I)I"⟩, 25), (⟨"OneBenchModel", "seenFrom", "(II)I"⟩, 25), (⟨"OneBenchModel", "isSeen", "(III)Z"⟩, 25), (⟨"OneBenchModel", "top", "(I)I"⟩, 25), (⟨"OneBenchModel", "isFree", "(IIII)Z"⟩, 25), (⟨"OneBenchModel", "isDoubled", "(II)Z"⟩, 25), (⟨"OneBenchModel", "metBy", "(I)I"⟩, 25), (⟨"OneBenchModel", "areMet", "(I)Z"⟩, 25), (⟨"OneBenchModel", "areThings", "(I)Z"⟩, 25)]
theorem lw_r5 : ∀ q ∈ lw_privs_5, lw_okq q := List.forall_mem_cons.mpr ⟨lw_p64, List.forall_mem_cons.mpr ⟨lw_p65, List.forall_mem_cons.mpr ⟨lw_p66, List.forall_mem_cons.mpr ⟨lw_p67, List.forall_mem_cons.mpr ⟨lw_p68, List.forall_mem_cons.mpr ⟨lw_p69, List.forall_mem_cons.mpr ⟨lw_p70, List.forall_mem_cons.mpr ⟨lw_p71, List.forall_mem_cons.mpr ⟨lw_p72, List.forall_mem_cons.mpr ⟨lw_p73, List.forall_mem_cons.mpr ⟨lw_p74, List.forall_mem_cons.mpr ⟨lw_p75, List.forall_mem_cons.mpr ⟨lw_p76, List.forall_mem_cons.mpr ⟨lw_p77, List.forall_mem_cons.mpr ⟨lw_p78, List.forall_mem_cons.mpr ⟨lw_p79, fun _ h => absurd h List.not_mem_nil⟩⟩⟩⟩⟩⟩⟩⟩⟩⟩⟩⟩⟩⟩⟩⟩
theorem lw_p80 : lw_okq (⟨"OneBenchModel", "moreOf", "(III)I"⟩, 25) := ⟨⟨by decide +kernel, by decide +kernel⟩, List.mem_of_getElem? (i := 683) (by decide +kernel), List.mem_of_getElem? (i := 1040) (by decide +kernel), List.mem_of_getElem? (i := 1041) (by decide +kernel)⟩
theorem lw_p81 : lw_okq (⟨"OneBenchModel", "sizeOf", "(I)I"⟩, 25) := ⟨⟨by decide +kernel, by decide +kernel⟩, List.mem_of_getElem? (i := 683) (by decide +kernel), List.mem_of_getElem? (i := 1069) (by decide +kernel), List.mem_of_getElem? (i := 1070) (by decide +kernel)⟩
theorem lw_p82 : lw_okq (⟨"OneBenchModel", "plainSize", "(I)I"⟩, 25) := ⟨⟨by decide +kernel, by decide +kernel⟩, List.mem_of_getElem? (i := 683) (by decide +kernel), List.mem_of_getElem? (i := 1073) (by decide +kernel), List.mem_of_getElem? (i := 1074) (by decide +kernel)⟩
theorem lw_p83 : lw_okq (⟨"OneBenchModel", "began", "(I)V"⟩, 25) := ⟨⟨by decide +kernel, by decide +kernel⟩, List.mem_of_getElem? (i := 683) (by decide +kernel), List.mem_of_getElem? (i := 1077) (by decide +kernel), List.mem_of_getElem? (i := 1078) (by decide +kernel)⟩
theorem lw_p84 : lw_okq (⟨"OneBenchModel", "markOf", "(I)I"⟩, 25) := ⟨⟨by decide +kernel, by decide +kernel⟩, List.mem_of_getElem? (i := 683) (by decide +kernel), List.mem_of_getElem? (i := 1081) (by decide +kernel), List.mem_of_getElem? (i := 1082) (by decide +kernel)⟩
def lw_privs_6 : List (MethodName × Nat) := [(⟨"OneBenchModel", "moreOf", "(III)I"⟩, 25), (⟨"OneBenchModel", "sizeOf", "(I)I"⟩, 25), (⟨"OneBenchModel", "plainSize", "(I)I"⟩, 25), (⟨"OneBenchModel", "began", "(I)V"⟩, 25), (⟨"OneBenchModel", "markOf", "(I)I"⟩, 25)]
theorem lw_r6 : ∀ q ∈ lw_privs_6, lw_okq q := List.forall_mem_cons.mpr ⟨lw_p80, List.forall_mem_cons.mpr ⟨lw_p81, List.forall_mem_cons.mpr ⟨lw_p82, List.forall_mem_cons.mpr ⟨lw_p83, List.forall_mem_cons.mpr ⟨lw_p84, fun _ h => absurd h List.not_mem_nil⟩⟩⟩⟩⟩
def lw_privs : List (MethodName × Nat) := lw_privs_1 ++ (lw_privs_2 ++ (lw_privs_3 ++ (lw_privs_4 ++ (lw_privs_5 ++ (lw_privs_6)))))
def lw_tbl : List Cond := k2_sels lw_privs ++ tables_1
theorem lw_privs_ok : ∀ q ∈ lw_privs, lw_okq q := by
  show ∀ q ∈ lw_privs_1 ++ (lw_privs_2 ++ (lw_privs_3 ++ (lw_privs_4 ++ (lw_privs_5 ++ (lw_privs_6))))), lw_okq q
  exact List.forall_mem_append.mpr ⟨lw_r1, List.forall_mem_append.mpr ⟨lw_r2, List.forall_mem_append.mpr ⟨lw_r3, List.forall_mem_append.mpr ⟨lw_r4, List.forall_mem_append.mpr ⟨lw_r5, lw_r6⟩⟩⟩⟩⟩
end
section
def RX0 : String := "OneBench$Garden"
def TX0 : u_T := fun k => match k with
  | 0 => ("OneBench$Garden", "ground", "[I", true)
  | 1 => ("OneBench$Garden", "lakeFrom", "I", false)
  | 2 => ("OneBench$Garden", "lakeTo", "I", false)
  | 3 => ("OneBench$Garden", "trees", "I", false)
  | 4 => ("OneBench$Garden", "kinds", "[I", true)
  | 5 => ("OneBench$Garden", "sites", "[I", true)
  | 6 => ("OneBench$Garden", "highs", "[I", true)
  | 7 => ("OneBench$Garden", "grows", "[I", true)
  | 8 => ("OneBench$Garden", "cuts", "[I", true)
  | 9 => ("OneBench$Garden", "things", "I", false)
  | 10 => ("OneBench$Garden", "thingSites", "[I", true)
  | 11 => ("OneBench$Garden", "thingHighs", "[I", true)
  | 12 => ("OneBench$Garden", "toShow", "[Z", true)
  | 13 => ("OneBench$Garden", "year", "I", false)
  | _ => ("OneBench$Garden", "winter", "Z", false)
def tyX0 : Nat → FieldType := fun k => match k with
  | 0 => .array .int
  | 1 => .int
  | 2 => .int
  | 3 => .int
  | 4 => .array .int
  | 5 => .array .int
  | 6 => .array .int
  | 7 => .array .int
  | 8 => .array .int
  | 9 => .int
  | 10 => .array .int
  | 11 => .array .int
  | 12 => .array .boolean
  | 13 => .int
  | _ => .boolean
abbrev wsX00 : List Cond := u_ws RX0 TX0 15
theorem nmX0 : ∀ a, a < 15 → ∀ b, b < 15 → a ≠ b → (TX0 a).2.1 ≠ (TX0 b).2.1 := by decide +kernel
theorem tyX0_ok : ∀ k, k < 15 → parseFieldDescriptor (TX0 k).2.2.1 = some (tyX0 k) := by decide +kernel
abbrev cX0_init : ByteArray := prog_2_method_1_code
def yX0_init : MethodName := ⟨RX0, "<init>", "()V"⟩
abbrev cX0_becomes : ByteArray := prog_2_method_2_code
def yX0_becomes : MethodName := ⟨RX0, "becomes", "(LOneBench$Garden;)V"⟩
abbrev cX0_clear : ByteArray := prog_2_method_3_code
def yX0_clear : MethodName := ⟨RX0, "clear", "()V"⟩
abbrev cX0_addTree : ByteArray := prog_2_method_4_code
def yX0_addTree : MethodName := ⟨RX0, "addTree", "(IIII)V"⟩
abbrev cX0_addThing : ByteArray := prog_2_method_5_code
def yX0_addThing : MethodName := ⟨RX0, "addThing", "(IIZ)V"⟩
abbrev cX0_hasTree : ByteArray := prog_2_method_6_code
def yX0_hasTree : MethodName := ⟨RX0, "hasTree", "(I)Z"⟩
abbrev cX0_hasThings : ByteArray := prog_2_method_7_code
def yX0_hasThings : MethodName := ⟨RX0, "hasThings", "(I)Z"⟩
abbrev cX0_mayBeCut : ByteArray := prog_2_method_8_code
def yX0_mayBeCut : MethodName := ⟨RX0, "mayBeCut", "(I)Z"⟩
abbrev cX0_treeAt : ByteArray := prog_2_method_9_code
def yX0_treeAt : MethodName := ⟨RX0, "treeAt", "(I)I"⟩
abbrev cX0_topOf : ByteArray := prog_2_method_10_code
def yX0_topOf : MethodName := ⟨RX0, "topOf", "(I)I"⟩
abbrev cX0_heightNow : ByteArray := prog_2_method_11_code
def yX0_heightNow : MethodName := ⟨RX0, "heightNow", "(I)I"⟩
abbrev cX0_heightIn : ByteArray := prog_2_method_12_code
def yX0_heightIn : MethodName := ⟨RX0, "heightIn", "(IIZ)I"⟩
def RX1 : String := "OneBench$Reader"
def TX1 : u_T := fun k => match k with
  | 0 => ("OneBench$Reader", "tape", "[B", true)
  | 1 => ("OneBench$Reader", "bytes", "I", false)
  | 2 => ("OneBench$Reader", "start", "I", false)
  | 3 => ("OneBench$Reader", "behind", "I", false)
  | 4 => ("OneBench$Reader", "token", "I", false)
  | 5 => ("OneBench$Reader", "value", "I", false)
  | 6 => ("OneBench$Reader", "fault", "I", false)
  | _ => ("OneBench$Reader", "place", "I", false)
def tyX1 : Nat → FieldType := fun k => match k with
  | 0 => .array .byte
  | 1 => .int
  | 2 => .int
  | 3 => .int
  | 4 => .int
  | 5 => .int
  | 6 => .int
  | _ => .int
abbrev wsX10 : List Cond := u_ws RX1 TX1 8
theorem nmX1 : ∀ a, a < 8 → ∀ b, b < 8 → a ≠ b → (TX1 a).2.1 ≠ (TX1 b).2.1 := by decide +kernel
theorem tyX1_ok : ∀ k, k < 8 → parseFieldDescriptor (TX1 k).2.2.1 = some (tyX1 k) := by decide +kernel
abbrev cX1_init : ByteArray := prog_3_method_1_code
def yX1_init : MethodName := ⟨RX1, "<init>", "()V"⟩
abbrev cX1_take : ByteArray := prog_3_method_2_code
def yX1_take : MethodName := ⟨RX1, "take", "(B)V"⟩
abbrev cX1_readInto : ByteArray := prog_3_method_3_code
def yX1_readInto : MethodName := ⟨RX1, "readInto", "(LOneBench$Garden;)Z"⟩
abbrev cX1_readGround : ByteArray := prog_3_method_4_code
def yX1_readGround : MethodName := ⟨RX1, "readGround", "(LOneBench$Garden;)Z"⟩
abbrev cX1_readLake : ByteArray := prog_3_method_5_code
def yX1_readLake : MethodName := ⟨RX1, "readLake", "(LOneBench$Garden;)Z"⟩
abbrev cX1_readTree : ByteArray := prog_3_method_6_code
def yX1_readTree : MethodName := ⟨RX1, "readTree", "(LOneBench$Garden;)Z"⟩
abbrev cX1_readThing : ByteArray := prog_3_method_7_code
def yX1_readThing : MethodName := ⟨RX1, "readThing", "(LOneBench$Garden;)Z"⟩
abbrev cX1_sortTold : ByteArray := prog_3_method_8_code
def yX1_sortTold : MethodName := ⟨RX1, "sortTold", "()I"⟩
abbrev cX1_refuse : ByteArray := prog_3_method_9_code
def yX1_refuse : MethodName := ⟨RX1, "refuse", "(I)Z"⟩
abbrev cX1_isNumber : ByteArray := prog_3_method_10_code
def yX1_isNumber : MethodName := ⟨RX1, "isNumber", "(II)Z"⟩
abbrev cX1_passSign : ByteArray := prog_3_method_11_code
def yX1_passSign : MethodName := ⟨RX1, "passSign", "()Z"⟩
abbrev cX1_passWord : ByteArray := prog_3_method_12_code
def yX1_passWord : MethodName := ⟨RX1, "passWord", "(Ljava/lang/String;)Z"⟩
abbrev cX1_pass : ByteArray := prog_3_method_13_code
def yX1_pass : MethodName := ⟨RX1, "pass", "()I"⟩
abbrev cX1_isWord : ByteArray := prog_3_method_14_code
def yX1_isWord : MethodName := ⟨RX1, "isWord", "(Ljava/lang/String;)Z"⟩
abbrev cX1_advance : ByteArray := prog_3_method_15_code
def yX1_advance : MethodName := ⟨RX1, "advance", "()V"⟩
abbrev cX1_passLetters : ByteArray := prog_3_method_16_code
def yX1_passLetters : MethodName := ⟨RX1, "passLetters", "()V"⟩
abbrev cX1_passFigures : ByteArray := prog_3_method_17_code
def yX1_passFigures : MethodName := ⟨RX1, "passFigures", "()V"⟩
abbrev cX1_isBlank : ByteArray := prog_3_method_18_code
def yX1_isBlank : MethodName := ⟨RX1, "isBlank", "(B)Z"⟩
abbrev cX1_isLetter : ByteArray := prog_3_method_19_code
def yX1_isLetter : MethodName := ⟨RX1, "isLetter", "(B)Z"⟩
abbrev cX1_isFigure : ByteArray := prog_3_method_20_code
def yX1_isFigure : MethodName := ⟨RX1, "isFigure", "(B)Z"⟩
def RX2 : String := "OneBench$Row"
def TX2 : u_T := fun k => match k with
  | 0 => ("OneBench$Row", "there", "Z", false)
  | 1 => ("OneBench$Row", "lane", "I", false)
  | 2 => ("OneBench$Row", "items", "I", false)
  | _ => ("OneBench$Row", "item", "[I", true)
def tyX2 : Nat → FieldType := fun k => match k with
  | 0 => .boolean
  | 1 => .int
  | 2 => .int
  | _ => .array .int
abbrev wsX20 : List Cond := u_ws RX2 TX2 4
theorem nmX2 : ∀ a, a < 4 → ∀ b, b < 4 → a ≠ b → (TX2 a).2.1 ≠ (TX2 b).2.1 := by decide +kernel
theorem tyX2_ok : ∀ k, k < 4 → parseFieldDescriptor (TX2 k).2.2.1 = some (tyX2 k) := by decide +kernel
abbrev cX2_init : ByteArray := prog_4_method_1_code
def yX2_init : MethodName := ⟨RX2, "<init>", "()V"⟩
abbrev cX2_begin : ByteArray := prog_4_method_2_code
def yX2_begin : MethodName := ⟨RX2, "begin", "(II)V"⟩
abbrev cX2_cutToLane : ByteArray := prog_4_method_3_code
def yX2_cutToLane : MethodName := ⟨RX2, "cutToLane", "(I)I"⟩
abbrev cX2_has : ByteArray := prog_4_method_4_code
def yX2_has : MethodName := ⟨RX2, "has", "(II)Z"⟩
def RX3 : String := "OneBench$Sight"
def TX3 : u_T := fun k => match k with
  | _ => ("OneBench$Sight", "bar", "[I", true)
def tyX3 : Nat → FieldType := fun k => match k with
  | _ => .array .int
abbrev wsX30 : List Cond := u_ws RX3 TX3 1
theorem nmX3 : ∀ a, a < 1 → ∀ b, b < 1 → a ≠ b → (TX3 a).2.1 ≠ (TX3 b).2.1 := by decide +kernel
theorem tyX3_ok : ∀ k, k < 1 → parseFieldDescriptor (TX3 k).2.2.1 = some (tyX3 k) := by decide +kernel
abbrev cX3_init : ByteArray := prog_5_method_1_code
def yX3_init : MethodName := ⟨RX3, "<init>", "()V"⟩
abbrev cX3_lookNow : ByteArray := prog_5_method_2_code
def yX3_lookNow : MethodName := ⟨RX3, "lookNow", "(LOneBench$Garden;)V"⟩
abbrev cX3_look : ByteArray := prog_5_method_3_code
def yX3_look : MethodName := ⟨RX3, "look", "(LOneBench$Garden;IZ)V"⟩
abbrev cX3_raise : ByteArray := prog_5_method_4_code
def yX3_raise : MethodName := ⟨RX3, "raise", "(II)V"⟩
abbrev cX3_isFree : ByteArray := prog_5_method_5_code
def yX3_isFree : MethodName := ⟨RX3, "isFree", "(IIII)Z"⟩
abbrev cX3_leastStop : ByteArray := prog_5_method_6_code
def yX3_leastStop : MethodName := ⟨RX3, "leastStop", "(IIII)I"⟩
abbrev cX3_isSeen : ByteArray := prog_5_method_7_code
def yX3_isSeen : MethodName := ⟨RX3, "isSeen", "(LOneBench$Garden;III)Z"⟩
abbrev cX3_thingsFrom : ByteArray := prog_5_method_8_code
def yX3_thingsFrom : MethodName := ⟨RX3, "thingsFrom", "(LOneBench$Garden;II)I"⟩
abbrev cX3_isDoubled : ByteArray := prog_5_method_9_code
def yX3_isDoubled : MethodName := ⟨RX3, "isDoubled", "(LOneBench$Garden;II)Z"⟩
abbrev cX3_wantsAreMet : ByteArray := prog_5_method_10_code
def yX3_wantsAreMet : MethodName := ⟨RX3, "wantsAreMet", "(LOneBench$Garden;I)Z"⟩
abbrev cX3_wantsAreMetForAll : ByteArray := prog_5_method_11_code
def yX3_wantsAreMetForAll : MethodName := ⟨RX3, "wantsAreMetForAll", "(LOneBench$Garden;I)Z"⟩
def RX4 : String := "OneBench$Trace"
def TX4 : u_T := fun k => match k with
  | 0 => ("OneBench$Trace", "bodies", "[I", true)
  | _ => ("OneBench$Trace", "length", "I", false)
def tyX4 : Nat → FieldType := fun k => match k with
  | 0 => .array .int
  | _ => .int
abbrev wsX40 : List Cond := u_ws RX4 TX4 2
theorem nmX4 : ∀ a, a < 2 → ∀ b, b < 2 → a ≠ b → (TX4 a).2.1 ≠ (TX4 b).2.1 := by decide +kernel
theorem tyX4_ok : ∀ k, k < 2 → parseFieldDescriptor (TX4 k).2.2.1 = some (tyX4 k) := by decide +kernel
abbrev cX4_init : ByteArray := prog_6_method_1_code
def yX4_init : MethodName := ⟨RX4, "<init>", "()V"⟩
abbrev cX4_note : ByteArray := prog_6_method_2_code
def yX4_note : MethodName := ⟨RX4, "note", "(I)V"⟩
def RX5 : String := "OneBench"
def TX5 : u_T := fun k => match k with
  | 0 => ("OneBench", "rows", "[LOneBench$Row;", true)
  | 1 => ("OneBench", "reader", "LOneBench$Reader;", true)
  | 2 => ("OneBench", "sight", "LOneBench$Sight;", true)
  | 3 => ("OneBench", "asked", "LOneBench$Trace;", true)
  | 4 => ("OneBench", "now", "LOneBench$Garden;", false)
  | 5 => ("OneBench", "spare", "LOneBench$Garden;", false)
  | 6 => ("OneBench", "stands", "Z", false)
  | 7 => ("OneBench", "days", "[LOneBench$Garden;", true)
  | 8 => ("OneBench", "nextDay", "I", false)
  | 9 => ("OneBench", "daysKept", "I", false)
  | 10 => ("OneBench", "images", "[LOneBench$Garden;", true)
  | 11 => ("OneBench", "imageKept", "[Z", true)
  | 12 => ("OneBench", "latestFault", "I", false)
  | _ => ("OneBench", "latestFinding", "I", false)
def tyX5 : Nat → FieldType := fun k => match k with
  | 0 => .array (.object "OneBench$Row")
  | 1 => .object "OneBench$Reader"
  | 2 => .object "OneBench$Sight"
  | 3 => .object "OneBench$Trace"
  | 4 => .object "OneBench$Garden"
  | 5 => .object "OneBench$Garden"
  | 6 => .boolean
  | 7 => .array (.object "OneBench$Garden")
  | 8 => .int
  | 9 => .int
  | 10 => .array (.object "OneBench$Garden")
  | 11 => .array .boolean
  | 12 => .int
  | _ => .int
abbrev wsX50 : List Cond := u_ws RX5 TX5 14
theorem nmX5 : ∀ a, a < 14 → ∀ b, b < 14 → a ≠ b → (TX5 a).2.1 ≠ (TX5 b).2.1 := by decide +kernel
theorem tyX5_ok : ∀ k, k < 14 → parseFieldDescriptor (TX5 k).2.2.1 = some (tyX5 k) := by decide +kernel
abbrev cX5_init : ByteArray := prog_1_method_1_code
def yX5_init : MethodName := ⟨RX5, "<init>", "()V"⟩
abbrev cX5_row : ByteArray := prog_1_method_2_code
def yX5_row : MethodName := ⟨RX5, "row", "(III)I"⟩
abbrev cX5_set : ByteArray := prog_1_method_3_code
def yX5_set : MethodName := ⟨RX5, "set", "(III)I"⟩
abbrev cX5_copy : ByteArray := prog_1_method_4_code
def yX5_copy : MethodName := ⟨RX5, "copy", "(IIIII)I"⟩
abbrev cX5_drop : ByteArray := prog_1_method_5_code
def yX5_drop : MethodName := ⟨RX5, "drop", "(I)I"⟩
abbrev cX5_feed : ByteArray := prog_1_method_6_code
def yX5_feed : MethodName := ⟨RX5, "feed", "(JI)I"⟩
abbrev cX5_garden : ByteArray := prog_1_method_7_code
def yX5_garden : MethodName := ⟨RX5, "garden", "()I"⟩
abbrev cX5_fault : ByteArray := prog_1_method_8_code
def yX5_fault : MethodName := ⟨RX5, "fault", "()I"⟩
abbrev cX5_years : ByteArray := prog_1_method_9_code
def yX5_years : MethodName := ⟨RX5, "years", "(I)I"⟩
abbrev cX5_winter : ByteArray := prog_1_method_10_code
def yX5_winter : MethodName := ⟨RX5, "winter", "(I)I"⟩
abbrev cX5_clip : ByteArray := prog_1_method_11_code
def yX5_clip : MethodName := ⟨RX5, "clip", "(II)I"⟩
abbrev cX5_move : ByteArray := prog_1_method_12_code
def yX5_move : MethodName := ⟨RX5, "move", "(II)I"⟩
abbrev cX5_level : ByteArray := prog_1_method_13_code
def yX5_level : MethodName := ⟨RX5, "level", "(II)I"⟩
abbrev cX5_undo : ByteArray := prog_1_method_14_code
def yX5_undo : MethodName := ⟨RX5, "undo", "()I"⟩
abbrev cX5_tree : ByteArray := prog_1_method_15_code
def yX5_tree : MethodName := ⟨RX5, "tree", "(II)I"⟩
abbrev cX5_site : ByteArray := prog_1_method_16_code
def yX5_site : MethodName := ⟨RX5, "site", "(II)I"⟩
abbrev cX5_seen : ByteArray := prog_1_method_17_code
def yX5_seen : MethodName := ⟨RX5, "seen", "(II)I"⟩
abbrev cX5_doubled : ByteArray := prog_1_method_18_code
def yX5_doubled : MethodName := ⟨RX5, "doubled", "(I)I"⟩
abbrev cX5_met : ByteArray := prog_1_method_19_code
def yX5_met : MethodName := ⟨RX5, "met", "(I)I"⟩
abbrev cX5_cut : ByteArray := prog_1_method_20_code
def yX5_cut : MethodName := ⟨RX5, "cut", "(IIII)I"⟩
abbrev cX5_plant : ByteArray := prog_1_method_21_code
def yX5_plant : MethodName := ⟨RX5, "plant", "(IIII)I"⟩
abbrev cX5_moon : ByteArray := prog_1_method_22_code
def yX5_moon : MethodName := ⟨RX5, "moon", "(I)I"⟩
abbrev cX5_path : ByteArray := prog_1_method_23_code
def yX5_path : MethodName := ⟨RX5, "path", "(II)I"⟩
abbrev cX5_picture : ByteArray := prog_1_method_24_code
def yX5_picture : MethodName := ⟨RX5, "picture", "(II)I"⟩
abbrev cX5_rival : ByteArray := prog_1_method_25_code
def yX5_rival : MethodName := ⟨RX5, "rival", "(II)I"⟩
abbrev cX5_image : ByteArray := prog_1_method_26_code
def yX5_image : MethodName := ⟨RX5, "image", "(I)I"⟩
abbrev cX5_restore : ByteArray := prog_1_method_27_code
def yX5_restore : MethodName := ⟨RX5, "restore", "(I)I"⟩
abbrev cX5_kind : ByteArray := prog_1_method_28_code
def yX5_kind : MethodName := ⟨RX5, "kind", "(I)I"⟩
abbrev cX5_as : ByteArray := prog_1_method_29_code
def yX5_as : MethodName := ⟨RX5, "as", "(II)I"⟩
abbrev cX5_ask : ByteArray := prog_1_method_30_code
def yX5_ask : MethodName := ⟨RX5, "ask", "(II)I"⟩
abbrev cX5_trace : ByteArray := prog_1_method_31_code
def yX5_trace : MethodName := ⟨RX5, "trace", "(I)I"⟩
abbrev cX5_count : ByteArray := prog_1_method_32_code
def yX5_count : MethodName := ⟨RX5, "count", "(I)I"⟩
abbrev cX5_status : ByteArray := prog_1_method_33_code
def yX5_status : MethodName := ⟨RX5, "status", "()I"⟩
abbrev cX5_found : ByteArray := prog_1_method_34_code
def yX5_found : MethodName := ⟨RX5, "found", "(I)I"⟩
abbrev cX5_unfound : ByteArray := prog_1_method_35_code
def yX5_unfound : MethodName := ⟨RX5, "unfound", "(I)I"⟩
abbrev cX5_isRow : ByteArray := prog_1_method_36_code
def yX5_isRow : MethodName := ⟨RX5, "isRow", "(I)Z"⟩
abbrev cX5_isEye : ByteArray := prog_1_method_37_code
def yX5_isEye : MethodName := ⟨RX5, "isEye", "(I)Z"⟩
abbrev cX5_isInnerSite : ByteArray := prog_1_method_38_code
def yX5_isInnerSite : MethodName := ⟨RX5, "isInnerSite", "(I)Z"⟩
abbrev cX5_isIn : ByteArray := prog_1_method_39_code
def yX5_isIn : MethodName := ⟨RX5, "isIn", "(II)Z"⟩
abbrev cX5_rowsThere : ByteArray := prog_1_method_40_code
def yX5_rowsThere : MethodName := ⟨RX5, "rowsThere", "()I"⟩
abbrev cX5_keepDay : ByteArray := prog_1_method_41_code
def yX5_keepDay : MethodName := ⟨RX5, "keepDay", "()V"⟩
abbrev cX5_placesSeeing : ByteArray := prog_1_method_42_code
def yX5_placesSeeing : MethodName := ⟨RX5, "placesSeeing", "(III)I"⟩
abbrev cX5_leastCut : ByteArray := prog_1_method_43_code
def yX5_leastCut : MethodName := ⟨RX5, "leastCut", "(II)I"⟩
abbrev cX5_leastHider : ByteArray := prog_1_method_44_code
def yX5_leastHider : MethodName := ⟨RX5, "leastHider", "(II)I"⟩
abbrev cX5_hidingBy : ByteArray := prog_1_method_45_code
def yX5_hidingBy : MethodName := ⟨RX5, "hidingBy", "(III)I"⟩
abbrev cX5_isOfKind : ByteArray := prog_1_method_46_code
def yX5_isOfKind : MethodName := ⟨RX5, "isOfKind", "(II)Z"⟩
abbrev cX5_bodyOfSize : ByteArray := prog_1_method_47_code
def yX5_bodyOfSize : MethodName := ⟨RX5, "bodyOfSize", "(I)I"⟩
abbrev cX5_bodyOfMark : ByteArray := prog_1_method_48_code
def yX5_bodyOfMark : MethodName := ⟨RX5, "bodyOfMark", "(I)I"⟩
abbrev cX5_bodyGives : ByteArray := prog_1_method_49_code
def yX5_bodyGives : MethodName := ⟨RX5, "bodyGives", "(LOneBench$Garden;LOneBench$Trace;III)I"⟩
def RX6 : String := "OneBenchModel"
def TX6 : u_T := fun k => match k with
  | 0 => ("OneBenchModel", "thrown", "I", false)
  | 1 => ("OneBenchModel", "status", "I", false)
  | 2 => ("OneBenchModel", "lane", "[I", true)
  | 3 => ("OneBenchModel", "many", "[I", true)
  | 4 => ("OneBenchModel", "item", "[I", true)
  | 5 => ("OneBenchModel", "garden", "[I", true)
  | 6 => ("OneBenchModel", "fresh", "[I", true)
  | 7 => ("OneBenchModel", "isThere", "Z", false)
  | 8 => ("OneBenchModel", "was", "[I", true)
  | 9 => ("OneBenchModel", "days", "I", false)
  | 10 => ("OneBenchModel", "tape", "[I", true)
  | 11 => ("OneBenchModel", "taped", "I", false)
  | 12 => ("OneBenchModel", "latest", "I", false)
  | 13 => ("OneBenchModel", "length", "I", false)
  | 14 => ("OneBenchModel", "cursor", "I", false)
  | 15 => ("OneBenchModel", "token", "I", false)
  | 16 => ("OneBenchModel", "start", "I", false)
  | 17 => ("OneBenchModel", "till", "I", false)
  | 18 => ("OneBenchModel", "fault", "I", false)
  | 19 => ("OneBenchModel", "faultAt", "I", false)
  | 20 => ("OneBenchModel", "added", "[I", true)
  | 21 => ("OneBenchModel", "isKept", "[Z", true)
  | 22 => ("OneBenchModel", "kept", "[I", true)
  | 23 => ("OneBenchModel", "trace", "[I", true)
  | _ => ("OneBenchModel", "traced", "I", false)
def tyX6 : Nat → FieldType := fun k => match k with
  | 0 => .int
  | 1 => .int
  | 2 => .array .int
  | 3 => .array .int
  | 4 => .array .int
  | 5 => .array .int
  | 6 => .array .int
  | 7 => .boolean
  | 8 => .array .int
  | 9 => .int
  | 10 => .array .int
  | 11 => .int
  | 12 => .int
  | 13 => .int
  | 14 => .int
  | 15 => .int
  | 16 => .int
  | 17 => .int
  | 18 => .int
  | 19 => .int
  | 20 => .array .int
  | 21 => .array .boolean
  | 22 => .array .int
  | 23 => .array .int
  | _ => .int
abbrev wsX60 : List Cond := u_ws RX6 TX6 25
theorem nmX6 : ∀ a, a < 25 → ∀ b, b < 25 → a ≠ b → (TX6 a).2.1 ≠ (TX6 b).2.1 := by decide +kernel
theorem tyX6_ok : ∀ k, k < 25 → parseFieldDescriptor (TX6 k).2.2.1 = some (tyX6 k) := by decide +kernel
abbrev cX6_init : ByteArray := prog_8_method_1_code
def yX6_init : MethodName := ⟨RX6, "<init>", "()V"⟩
abbrev cX6_in : ByteArray := prog_8_method_3_code
def yX6_in : MethodName := ⟨RX6, "in", "(JJJ)Z"⟩
abbrev cX6_finding : ByteArray := prog_8_method_4_code
def yX6_finding : MethodName := ⟨RX6, "finding", "(I)I"⟩
abbrev cX6_isRow : ByteArray := prog_8_method_5_code
def yX6_isRow : MethodName := ⟨RX6, "isRow", "(I)Z"⟩
abbrev cX6_row : ByteArray := prog_8_method_6_code
def yX6_row : MethodName := ⟨RX6, "row", "(III)I"⟩
abbrev cX6_set : ByteArray := prog_8_method_7_code
def yX6_set : MethodName := ⟨RX6, "set", "(III)I"⟩
abbrev cX6_copy : ByteArray := prog_8_method_8_code
def yX6_copy : MethodName := ⟨RX6, "copy", "(IIIII)I"⟩
abbrev cX6_drop : ByteArray := prog_8_method_9_code
def yX6_drop : MethodName := ⟨RX6, "drop", "(I)I"⟩
abbrev cX6_feed : ByteArray := prog_8_method_10_code
def yX6_feed : MethodName := ⟨RX6, "feed", "(JI)I"⟩
abbrev cX6_byteAt : ByteArray := prog_8_method_11_code
def yX6_byteAt : MethodName := ⟨RX6, "byteAt", "(I)I"⟩
abbrev cX6_isLetter : ByteArray := prog_8_method_12_code
def yX6_isLetter : MethodName := ⟨RX6, "isLetter", "(I)Z"⟩
abbrev cX6_isFigure : ByteArray := prog_8_method_13_code
def yX6_isFigure : MethodName := ⟨RX6, "isFigure", "(I)Z"⟩
abbrev cX6_next : ByteArray := prog_8_method_14_code
def yX6_next : MethodName := ⟨RX6, "next", "()V"⟩
abbrev cX6_begin : ByteArray := prog_8_method_15_code
def yX6_begin : MethodName := ⟨RX6, "begin", "()V"⟩
abbrev cX6_bad : ByteArray := prog_8_method_16_code
def yX6_bad : MethodName := ⟨RX6, "bad", "(I)V"⟩
abbrev cX6_must : ByteArray := prog_8_method_17_code
def yX6_must : MethodName := ⟨RX6, "must", "(Z)V"⟩
abbrev cX6_name : ByteArray := prog_8_method_18_code
def yX6_name : MethodName := ⟨RX6, "name", "()J"⟩
abbrev cX6_figures : ByteArray := prog_8_method_19_code
def yX6_figures : MethodName := ⟨RX6, "figures", "()I"⟩
abbrev cX6_number : ByteArray := prog_8_method_20_code
def yX6_number : MethodName := ⟨RX6, "number", "(II)I"⟩
abbrev cX6_kindBy : ByteArray := prog_8_method_21_code
def yX6_kindBy : MethodName := ⟨RX6, "kindBy", "(J)I"⟩
abbrev cX6_mustEnd : ByteArray := prog_8_method_22_code
def yX6_mustEnd : MethodName := ⟨RX6, "mustEnd", "()V"⟩
abbrev cX6_begins : ByteArray := prog_8_method_23_code
def yX6_begins : MethodName := ⟨RX6, "begins", "(II)V"⟩
abbrev cX6_readGround : ByteArray := prog_8_method_24_code
def yX6_readGround : MethodName := ⟨RX6, "readGround", "()V"⟩
abbrev cX6_readLake : ByteArray := prog_8_method_25_code
def yX6_readLake : MethodName := ⟨RX6, "readLake", "()V"⟩
abbrev cX6_isTold : ByteArray := prog_8_method_26_code
def yX6_isTold : MethodName := ⟨RX6, "isTold", "(I)Z"⟩
abbrev cX6_readTree : ByteArray := prog_8_method_27_code
def yX6_readTree : MethodName := ⟨RX6, "readTree", "()V"⟩
abbrev cX6_readThing : ByteArray := prog_8_method_28_code
def yX6_readThing : MethodName := ⟨RX6, "readThing", "()V"⟩
abbrev cX6_garden : ByteArray := prog_8_method_29_code
def yX6_garden : MethodName := ⟨RX6, "garden", "()I"⟩
abbrev cX6_fault : ByteArray := prog_8_method_30_code
def yX6_fault : MethodName := ⟨RX6, "fault", "()I"⟩
abbrev cX6_isTree : ByteArray := prog_8_method_31_code
def yX6_isTree : MethodName := ⟨RX6, "isTree", "(I)Z"⟩
abbrev cX6_of : ByteArray := prog_8_method_32_code
def yX6_of : MethodName := ⟨RX6, "of", "(II)I"⟩
abbrev cX6_mayBeCut : ByteArray := prog_8_method_33_code
def yX6_mayBeCut : MethodName := ⟨RX6, "mayBeCut", "(I)Z"⟩
abbrev cX6_treeAt : ByteArray := prog_8_method_34_code
def yX6_treeAt : MethodName := ⟨RX6, "treeAt", "(I)I"⟩
abbrev cX6_height : ByteArray := prog_8_method_35_code
def yX6_height : MethodName := ⟨RX6, "height", "(I)I"⟩
abbrev cX6_ground : ByteArray := prog_8_method_36_code
def yX6_ground : MethodName := ⟨RX6, "ground", "(I)I"⟩
abbrev cX6_bar : ByteArray := prog_8_method_37_code
def yX6_bar : MethodName := ⟨RX6, "bar", "(I)I"⟩
abbrev cX6_keep : ByteArray := prog_8_method_38_code
def yX6_keep : MethodName := ⟨RX6, "keep", "()V"⟩
abbrev cX6_years : ByteArray := prog_8_method_39_code
def yX6_years : MethodName := ⟨RX6, "years", "(I)I"⟩
abbrev cX6_winter : ByteArray := prog_8_method_40_code
def yX6_winter : MethodName := ⟨RX6, "winter", "(I)I"⟩
abbrev cX6_clip : ByteArray := prog_8_method_41_code
def yX6_clip : MethodName := ⟨RX6, "clip", "(II)I"⟩
abbrev cX6_move : ByteArray := prog_8_method_42_code
def yX6_move : MethodName := ⟨RX6, "move", "(II)I"⟩
abbrev cX6_level : ByteArray := prog_8_method_43_code
def yX6_level : MethodName := ⟨RX6, "level", "(II)I"⟩
abbrev cX6_undo : ByteArray := prog_8_method_44_code
def yX6_undo : MethodName := ⟨RX6, "undo", "()I"⟩
abbrev cX6_tree : ByteArray := prog_8_method_45_code
def yX6_tree : MethodName := ⟨RX6, "tree", "(II)I"⟩
abbrev cX6_site : ByteArray := prog_8_method_46_code
def yX6_site : MethodName := ⟨RX6, "site", "(II)I"⟩
abbrev cX6_isFree : ByteArray := prog_8_method_47_code
def yX6_isFree : MethodName := ⟨RX6, "isFree", "(IIII)Z"⟩
abbrev cX6_top : ByteArray := prog_8_method_48_code
def yX6_top : MethodName := ⟨RX6, "top", "(I)I"⟩
abbrev cX6_isSeen : ByteArray := prog_8_method_49_code
def yX6_isSeen : MethodName := ⟨RX6, "isSeen", "(III)Z"⟩
abbrev cX6_seenFrom : ByteArray := prog_8_method_50_code
def yX6_seenFrom : MethodName := ⟨RX6, "seenFrom", "(II)I"⟩
abbrev cX6_isEye : ByteArray := prog_8_method_51_code
def yX6_isEye : MethodName := ⟨RX6, "isEye", "(I)Z"⟩
abbrev cX6_seen : ByteArray := prog_8_method_52_code
def yX6_seen : MethodName := ⟨RX6, "seen", "(II)I"⟩
abbrev cX6_isDoubled : ByteArray := prog_8_method_53_code
def yX6_isDoubled : MethodName := ⟨RX6, "isDoubled", "(II)Z"⟩
abbrev cX6_doubled : ByteArray := prog_8_method_54_code
def yX6_doubled : MethodName := ⟨RX6, "doubled", "(I)I"⟩
abbrev cX6_areMet : ByteArray := prog_8_method_55_code
def yX6_areMet : MethodName := ⟨RX6, "areMet", "(I)Z"⟩
abbrev cX6_metBy : ByteArray := prog_8_method_56_code
def yX6_metBy : MethodName := ⟨RX6, "metBy", "(I)I"⟩
abbrev cX6_met : ByteArray := prog_8_method_57_code
def yX6_met : MethodName := ⟨RX6, "met", "(I)I"⟩
abbrev cX6_cut : ByteArray := prog_8_method_58_code
def yX6_cut : MethodName := ⟨RX6, "cut", "(IIII)I"⟩
abbrev cX6_kindOfSort : ByteArray := prog_8_method_59_code
def yX6_kindOfSort : MethodName := ⟨RX6, "kindOfSort", "(I)I"⟩
abbrev cX6_plant : ByteArray := prog_8_method_60_code
def yX6_plant : MethodName := ⟨RX6, "plant", "(IIII)I"⟩
abbrev cX6_moon : ByteArray := prog_8_method_61_code
def yX6_moon : MethodName := ⟨RX6, "moon", "(I)I"⟩
abbrev cX6_areThings : ByteArray := prog_8_method_62_code
def yX6_areThings : MethodName := ⟨RX6, "areThings", "(I)Z"⟩
abbrev cX6_path : ByteArray := prog_8_method_63_code
def yX6_path : MethodName := ⟨RX6, "path", "(II)I"⟩
abbrev cX6_picture : ByteArray := prog_8_method_64_code
def yX6_picture : MethodName := ⟨RX6, "picture", "(II)I"⟩
abbrev cX6_moreOf : ByteArray := prog_8_method_65_code
def yX6_moreOf : MethodName := ⟨RX6, "moreOf", "(III)I"⟩
abbrev cX6_rival : ByteArray := prog_8_method_66_code
def yX6_rival : MethodName := ⟨RX6, "rival", "(II)I"⟩
abbrev cX6_image : ByteArray := prog_8_method_67_code
def yX6_image : MethodName := ⟨RX6, "image", "(I)I"⟩
abbrev cX6_restore : ByteArray := prog_8_method_68_code
def yX6_restore : MethodName := ⟨RX6, "restore", "(I)I"⟩
abbrev cX6_isOf : ByteArray := prog_8_method_69_code
def yX6_isOf : MethodName := ⟨RX6, "isOf", "(II)Z"⟩
abbrev cX6_kind : ByteArray := prog_8_method_70_code
def yX6_kind : MethodName := ⟨RX6, "kind", "(I)I"⟩
abbrev cX6_as : ByteArray := prog_8_method_71_code
def yX6_as : MethodName := ⟨RX6, "as", "(II)I"⟩
abbrev cX6_began : ByteArray := prog_8_method_72_code
def yX6_began : MethodName := ⟨RX6, "began", "(I)V"⟩
abbrev cX6_plainSize : ByteArray := prog_8_method_73_code
def yX6_plainSize : MethodName := ⟨RX6, "plainSize", "(I)I"⟩
abbrev cX6_markOf : ByteArray := prog_8_method_74_code
def yX6_markOf : MethodName := ⟨RX6, "markOf", "(I)I"⟩
abbrev cX6_sizeOf : ByteArray := prog_8_method_75_code
def yX6_sizeOf : MethodName := ⟨RX6, "sizeOf", "(I)I"⟩
abbrev cX6_ask : ByteArray := prog_8_method_76_code
def yX6_ask : MethodName := ⟨RX6, "ask", "(II)I"⟩
abbrev cX6_trace : ByteArray := prog_8_method_77_code
def yX6_trace : MethodName := ⟨RX6, "trace", "(I)I"⟩
abbrev cX6_count : ByteArray := prog_8_method_78_code
def yX6_count : MethodName := ⟨RX6, "count", "(I)I"⟩
abbrev cX6_status : ByteArray := prog_8_method_79_code
def yX6_status : MethodName := ⟨RX6, "status", "()I"⟩
def RJ9 : String := "java/lang/Math"
abbrev cJ9_max_7cf53 : ByteArray := prog_9_method_65_code
def yJ9_max_7cf53 : MethodName := ⟨RJ9, "max", "(II)I"⟩
abbrev cJ9_min_7cf53 : ByteArray := prog_9_method_69_code
def yJ9_min_7cf53 : MethodName := ⟨RJ9, "min", "(II)I"⟩
def RJ0 : String := "java/lang/String"
abbrev cJ0_length_8abf5 : ByteArray := prog_10_method_54_code
def yJ0_length_8abf5 : MethodName := ⟨RJ0, "length", "()I"⟩
abbrev cJ0_charAt_5068e : ByteArray := prog_10_method_56_code
def yJ0_charAt_5068e : MethodName := ⟨RJ0, "charAt", "(I)C"⟩
abbrev cJ0_coder_7d493 : ByteArray := prog_10_method_152_code
def yJ0_coder_7d493 : MethodName := ⟨RJ0, "coder", "()B"⟩
abbrev cJ0_isLatin1_aae02 : ByteArray := prog_10_method_154_code
def yJ0_isLatin1_aae02 : MethodName := ⟨RJ0, "isLatin1", "()Z"⟩
abbrev cJ0_checkIndex_df160 : ByteArray := prog_10_method_155_code
def yJ0_checkIndex_df160 : MethodName := ⟨RJ0, "checkIndex", "(II)V"⟩
def RJ1 : String := "java/lang/StringLatin1"
abbrev cJ1_charAt_3b067 : ByteArray := prog_11_method_2_code
def yJ1_charAt_3b067 : MethodName := ⟨RJ1, "charAt", "([BI)C"⟩
def RJ10 : String := "java/lang/System"
def RJ7 : String := "java/util/Arrays"
abbrev cJ7_fill_53178 : ByteArray := prog_14_method_103_code
def yJ7_fill_53178 : MethodName := ⟨RJ7, "fill", "([II)V"⟩
def RJ3 : String := "jdk/internal/util/Preconditions"
abbrev cJ3_checkIndex_8e157 : ByteArray := prog_15_method_11_code
def yJ3_checkIndex_8e157 : MethodName := ⟨RJ3, "checkIndex", "(IILjava/util/function/BiFunction;)I"⟩
def RL : String := "OneBenchLaw"
abbrev cL_law : ByteArray := code
abbrev vwCl : List vw_C := [(RX0, TX0, 15), (RX1, TX1, 8), (RX2, TX2, 4), (RX3, TX3, 1), (RX4, TX4, 2), (RX5, TX5, 14), (RX6, TX6, 25)]
end
section
/-! THE MEMORY: every object has a number, given in the order of making; what it holds is told by its number and place -/
abbrev xM : Type := Nat → Nat → Int32
abbrev xR : Type := Nat → Nat → Option Nat
def xput (I : xM) (i k : Nat) (v : Int32) : xM := va_up I i (upd (I i) k v)
def xrow (I : xM) (i : Nat) (f : Nat → Int32) : xM := va_up I i f
def xputR (R : xR) (i k : Nat) (v : Option Nat) : xR := va_up R i (va_up (R i) k v)
/-- kinds: 0 .. 6 the own classes, 7 bytes, 8 ints, 9 booleans, 10 Garden[], 11 Row[] -/
def xK1 : List Nat := [5, 11, 1, 7, 3, 8, 4, 8, 0, 8, 8, 8, 8, 8, 8, 8, 8, 9, 0, 8, 8, 8, 8, 8, 8, 8, 8, 9, 10, 10, 9, 2, 8, 2, 8, 2, 8, 2, 8, 2, 8, 2, 8, 2, 8, 2, 8]
def xK2 : List Nat := [0, 8, 8, 8, 8, 8, 8, 8, 8, 9]
def xK3 : List Nat := [6, 8, 8, 8, 8, 8, 8, 8, 8, 9, 8, 8]
def xK (i : Nat) : Nat := if i < 47 then xK1.getD i 99 else if i < 307 then xK2.getD ((i - 47) % 10) 99 else xK3.getD (i - 307) 99
def xN1 : List Nat := [0, 8, 0, 400, 0, 20, 0, 16, 0, 20, 6, 6, 6, 6, 6, 6, 6, 6, 0, 20, 6, 6, 6, 6, 6, 6, 6, 6, 24, 2, 2, 0, 40, 0, 40, 0, 40, 0, 40, 0, 40, 0, 40, 0, 40, 0, 40]
def xN2 : List Nat := [0, 20, 6, 6, 6, 6, 6, 6, 6, 6]
def xN3 : List Nat := [0, 8, 8, 320, 74, 74, 1776, 400, 7, 2, 148, 16]
def xN (i : Nat) : Nat := if i < 47 then xN1.getD i 0 else if i < 307 then xN2.getD ((i - 47) % 10) 0 else xN3.getD (i - 307) 0
def xnf (c : Nat) : Nat := ([15, 8, 4, 1, 2, 14, 25] : List Nat).getD c 0
def xIR : List (List Nat) := [[0, 4, 5, 6, 7, 8, 10, 11, 12], [0], [3], [0], [0], [0, 1, 2, 3, 4, 5, 7, 10, 11], [2, 3, 4, 5, 6, 8, 10, 20, 21, 22, 23]]
def xir (c k : Nat) : Bool := (xIR.getD c []).contains k
def xrf (ad : Nat → Nat) (r : Option Nat) : Value := va_rf (r.map ad)
def xval (ad : Nat → Nat) (f : Nat → Int32) (r : Nat → Option Nat) (c k : Nat) : Value := if xir c k then xrf ad (r k) else .int (f k)
def xfs (ad : Nat → Nat) (f : Nat → Int32) (r : Nat → Option Nat) (c : Nat) : List Value := (List.range (xnf c)).map (xval ad f r c)
def xek (cy : Nat → ClassId) (ad : Nat → Nat) (f : Nat → Int32) (r : Nat → Option Nat) (c N : Nat) : va_E :=
  if c < 7 then .inr (c, xfs ad f r c) else if c < 10 then .inl (cy c, N, .inl f) else .inl (cy c, N, .inr (.inr (.inr (.inr (fun k => (r k).map ad)))))
def xe (cy : Nat → ClassId) (ad : Nat → Nat) (I : xM) (R : xR) (i : Nat) : va_E := xek cy ad (I i) (R i) (xK i) (xN i)
/-- the world of the first n objects -/
def xws (cy : Nat → ClassId) (ad : Nat → Nat) (I : xM) (R : xR) (n : Nat) : va_W := (List.range n).map (fun i => (ad i, xe cy ad I R i))
def xty (cy : Nat → ClassId) : List (ClassId × FieldType) := [(cy 7, .byte), (cy 8, .int), (cy 9, .boolean), (cy 10, .object RX0), (cy 11, .object RX2)]
theorem xws_get {cy : Nat → ClassId} {ad : Nat → Nat} {I : xM} {R : xR} {n i : Nat} (h : i < n) : (xws cy ad I R n)[i]? = some (ad i, xe cy ad I R i) := by
  simp [xws, h]
theorem xws_len {cy : Nat → ClassId} {ad : Nat → Nat} {I : xM} {R : xR} {n : Nat} : (xws cy ad I R n).length = n := by simp [xws]
theorem xws_lt {cy : Nat → ClassId} {ad : Nat → Nat} {I : xM} {R : xR} {n k : Nat} {q : Nat × va_E} (h : (xws cy ad I R n)[k]? = some q) : k < n ∧ q = (ad k, xe cy ad I R k) := by
  have hk := (List.getElem?_eq_some_iff.mp h).1
  rw [xws_len] at hk
  rw [xws_get hk] at h
  exact ⟨hk, (Option.some.inj h).symm⟩
theorem xws_set {cy : Nat → ClassId} {ad : Nat → Nat} {I I' : xM} {R R' : xR} {n i : Nat} {e : va_E} (h : i < n) (hI : ∀ j, j ≠ i → I' j = I j) (hR : ∀ j, j ≠ i → R' j = R j) (he : e = xe cy ad I' R' i) : (xws cy ad I R n).set i (ad i, e) = xws cy ad I' R' n := by
  apply List.ext_getElem?
  intro j
  by_cases hj : j = i
  · subst hj
    rw [List.getElem?_set_self (by rw [xws_len]; exact h), xws_get h, he]
  · rw [List.getElem?_set_ne (fun q => hj q.symm)]
    by_cases hn : j < n
    · rw [xws_get hn, xws_get hn]
      unfold xe
      rw [hI j hj, hR j hj]
    · rw [List.getElem?_eq_none (by rw [xws_len]; omega), List.getElem?_eq_none (by rw [xws_len]; omega)]
theorem xws_congr {cy : Nat → ClassId} {ad : Nat → Nat} {I I' : xM} {R R' : xR} {n : Nat} (h : ∀ i, i < n → xe cy ad I' R' i = xe cy ad I R i) : xws cy ad I' R' n = xws cy ad I R n := by
  unfold xws
  apply List.map_congr_left
  intro i hi
  rw [h i (List.mem_range.mp hi)]
theorem xD_same {A : Nat → Prop} {cy cy' : Nat → ClassId} {ad : Nat → Nat} {I I' : xM} {R R' : xR} {n : Nat} (h : va_D A (xws cy ad I R n)) : va_D A (xws cy' ad I' R' n) := by
  refine ⟨fun i j p q hp hq e => ?_, fun k q hk => ?_⟩
  · obtain ⟨h1, rfl⟩ := xws_lt hp
    obtain ⟨h2, rfl⟩ := xws_lt hq
    exact h.1 i j _ _ (xws_get h1) (xws_get h2) e
  · obtain ⟨h1, rfl⟩ := xws_lt hk
    exact h.2 k (ad k, xe cy ad I R k) (xws_get h1)
theorem xfs_get {ad : Nat → Nat} {f : Nat → Int32} {r : Nat → Option Nat} {c k : Nat} (h : k < xnf c) : (xfs ad f r c)[k]? = some (xval ad f r c k) := by
  simp [xfs, h]
theorem xfs_len {ad : Nat → Nat} {f : Nat → Int32} {r : Nat → Option Nat} {c : Nat} : (xfs ad f r c).length = xnf c := by simp [xfs]
theorem xfs_set {ad : Nat → Nat} {f f' : Nat → Int32} {r r' : Nat → Option Nat} {c k : Nat} {v : Value} (h : k < xnf c) (hf : ∀ j, j ≠ k → f' j = f j) (hr : ∀ j, j ≠ k → r' j = r j) (hv : v = xval ad f' r' c k) : (xfs ad f r c).set k v = xfs ad f' r' c := by
  apply List.ext_getElem?
  intro j
  by_cases hj : j = k
  · subst hj
    rw [List.getElem?_set_self (by rw [xfs_len]; exact h), xfs_get h, hv]
  · rw [List.getElem?_set_ne (fun q => hj q.symm)]
    by_cases hn : j < xnf c
    · rw [xfs_get hn, xfs_get hn]
      unfold xval
      rw [hf j hj, hr j hj]
    · rw [List.getElem?_eq_none (by rw [xfs_len]; omega), List.getElem?_eq_none (by rw [xfs_len]; omega)]
theorem xe_obj {cy : Nat → ClassId} {ad : Nat → Nat} {I : xM} {R : xR} {i c : Nat} (hc : xK i = c) (h : c < 7) : xe cy ad I R i = .inr (c, xfs ad (I i) (R i) c) := by
  subst hc; simp [xe, xek, h]
theorem xe_arr {cy : Nat → ClassId} {ad : Nat → Nat} {I : xM} {R : xR} {i c : Nat} (hc : xK i = c) (h : ¬ c < 7) (h2 : c < 10) : xe cy ad I R i = .inl (cy c, xN i, .inl (I i)) := by
  subst hc; simp [xe, xek, h, h2]
theorem xe_arq {cy : Nat → ClassId} {ad : Nat → Nat} {I : xM} {R : xR} {i c : Nat} (hc : xK i = c) (h2 : ¬ c < 10) : xe cy ad I R i = .inl (cy c, xN i, .inr (.inr (.inr (.inr (fun k => (R i k).map ad))))) := by
  subst hc; simp [xe, xek, h2, show ¬ xK i < 7 by omega]
/-! THE FRAME: values with numbers for references -/
def xcv (ad : Nat → Nat) (v : Value) : Value := match v with
  | .ref i => .ref (ad i)
  | v => v
def xcl (ad : Nat → Nat) (q : Nat × Value) : Nat × Value := (q.1, xcv ad q.2)
theorem xcv_cat (ad : Nat → Nat) (v : Value) : (xcv ad v).category = v.category := by cases v <;> rfl
theorem xcv_sl (ad : Nat → Nat) (vs : List Value) : (lg_sl (vs.map (xcv ad))).length = (lg_sl vs).length := by
  induction vs with
  | nil => rfl
  | cons v t ih =>
    simp only [lg_sl, List.map_cons, List.flatMap_cons, List.length_append] at ih ⊢
    rw [ih, xcv_cat]
    by_cases h : v.category = 2 <;> simp [h]
theorem xcl_args (ad : Nat → Nat) (vs : List Value) : ∀ k, lv_args k (vs.map (xcv ad)) = (lv_args k vs).map (xcl ad) := by
  induction vs with
  | nil => intro k; rfl
  | cons v t ih =>
    intro k
    simp only [List.map_cons, lv_args, xcv_cat]
    rw [ih]
    rfl
/-- the words that a contract asks for: all that can be asked, of the tables -/
def xgw : List Cond := lw_tbl.filter goodWord
theorem xgw_in {w : Cond} (h : w ∈ lw_tbl) (hg : goodWord w = true) : w ∈ xgw := List.mem_filter.mpr ⟨h, hg⟩
theorem xgw_tbl {w : Cond} (h : w ∈ xgw) : w ∈ lw_tbl := (List.mem_filter.mp h).1
theorem xgw_good {w : Cond} (h : w ∈ xgw) : (w.onTables && w.keeps) = true ∨ ∃ ty, w = .arrayClass ty := good_of_word (List.mem_filter.mp h).2
/-- links between nest mates -/
def xisN (w : Cond) : Bool := match w with
  | .methodLinkNest _ _ _ _ => true
  | .fieldLinkNest _ _ _ _ _ _ => true
  | _ => false
def xnw : List Cond := lw_tbl.filter xisN
theorem xnw_in {w : Cond} (h : w ∈ lw_tbl) (hg : xisN w = true) : w ∈ xnw := List.mem_filter.mpr ⟨h, hg⟩
theorem xnw_warm {w : Cond} (h : w ∈ xnw) {s U : State} (hW : s.WarmedH U.vm) (hZ : va_Nw w s) : va_Nw w U := by
  have h2 := (List.mem_filter.mp h).2
  cases w <;> simp [xisN] at h2
  · first | exact va_Nw.warmM hW hZ | exact va_Nw.warmF hW hZ
  · first | exact va_Nw.warmM hW hZ | exact va_Nw.warmF hW hZ
theorem xnw_same {w : Cond} (h : w ∈ xnw) {u U : State} (hv : u.vm = U.vm) (hZ : va_Nw w u) : va_Nw w U := by
  have h2 := (List.mem_filter.mp h).2
  cases w <;> simp [xisN] at h2
  · exact va_Nw.same rfl hv hZ
  · exact va_Nw.same rfl hv hZ
/-- the texts in the class files: entry, text, length, bytes -/
def xsi (i : Nat) : Nat := ([72, 49, 58, 124, 126, 128, 130, 132, 63, 116, 118] : List Nat).getD i 0
def xst (i : Nat) : String := (["ground", "lake", "tree", "ash", "yew", "oak", "hedge", "false", "thing", "show", "hide"] : List String).getD i ""
def xsl : List Nat := [6, 4, 4, 3, 3, 3, 5, 5, 5, 4, 4]
def xsb : List (List Int32) := [[103, 114, 111, 117, 110, 100], [108, 97, 107, 101], [116, 114, 101, 101], [97, 115, 104], [121, 101, 119], [111, 97, 107], [104, 101, 100, 103, 101], [102, 97, 108, 115, 101], [116, 104, 105, 110, 103], [115, 104, 111, 119], [104, 105, 100, 101]]
/-- what a walk finds beside its own world: links, texts, two statics -/
def xE (B : Nat → Nat) (A : Nat → Prop) (U : State) (H : Heap) : Prop :=
  (∀ w ∈ xnw, va_Nw w U) ∧ (∀ i, i < 11 → vk_R RX1 (xsi i) (xst i) (B (2000000 + i)) U) ∧ vk_S 11 xsl xsb (fun i => B (2000000 + i)) (fun i => B (3000000 + i)) A U H ∧
  va_Z "java/lang/String" "COMPACT_STRINGS" "Z" (.int 1) A U H ∧
  (va_Z "jdk/internal/util/Preconditions" "SIOOBE_FORMATTER" "Ljava/util/function/BiFunction;" .null A U H ∨ va_Z "jdk/internal/util/Preconditions" "SIOOBE_FORMATTER" "Ljava/util/function/BiFunction;" (.ref (B 4000000)) A U H)
theorem xE.warm {B : Nat → Nat} {A : Nat → Prop} {s U : State} {H : Heap} (hW : s.WarmedH U.vm) (h : xE B A s H) : xE B A U H :=
  ⟨fun w hw => xnw_warm hw hW (h.1 w hw), fun i hi => (h.2.1 i hi).warm hW, h.2.2.1.moved hW.alike, va_Z.moved hW.alike h.2.2.2.1, h.2.2.2.2.elim (fun z => Or.inl (va_Z.moved hW.alike z)) (fun z => Or.inr (va_Z.moved hW.alike z))⟩
theorem xE.same {B : Nat → Nat} {A : Nat → Prop} {s U : State} {H : Heap} (hv : s.vm = U.vm) (h : xE B A s H) : xE B A U H :=
  ⟨fun w hw => xnw_same hw hv (h.1 w hw), fun i hi => (h.2.1 i hi).same hv.symm, h.2.2.1.moved (by rw [hv]; exact Vm.Alike.refl _), va_Z.moved (by rw [hv]; exact Vm.Alike.refl _) h.2.2.2.1, h.2.2.2.2.elim (fun z => Or.inl (va_Z.moved (by rw [hv]; exact Vm.Alike.refl _) z)) (fun z => Or.inr (va_Z.moved (by rw [hv]; exact Vm.Alike.refl _) z))⟩
theorem xE.kept {B : Nat → Nat} {A : Nat → Prop} {U : State} {H H1 : Heap} (h : xE B A U H) (hq : ∀ a : Nat, a < H.size → ¬ A a → H1[a]? = H[a]?) : xE B A U H1 :=
  ⟨h.1, h.2.1, h.2.2.1.kept hq, h.2.2.2.1.kept hq, h.2.2.2.2.elim (fun z => Or.inl (z.kept hq)) (fun z => Or.inr (z.kept hq))⟩
theorem xE.narrow {B : Nat → Nat} {A A1 : Nat → Prop} {U : State} {H : Heap} (h : xE B A U H) (hA : ∀ q, A1 q → A q) : xE B A1 U H :=
  ⟨h.1, h.2.1, h.2.2.1.narrow hA, h.2.2.2.1.narrow hA, h.2.2.2.2.elim (fun z => Or.inl (z.narrow hA)) (fun z => Or.inr (z.narrow hA))⟩
theorem xE.base {B B' : Nat → Nat} {A : Nat → Prop} {U : State} {H : Heap} (h : xE B A U H) (hB : ∀ i, 1000000 ≤ i → B' i = B i) : xE B' A U H := by
  unfold xE
  rw [hB 4000000 (by omega), show (fun i => B' (2000000 + i)) = (fun i => B (2000000 + i)) from funext fun i => hB _ (by omega), show (fun i => B' (3000000 + i)) = (fun i => B (3000000 + i)) from funext fun i => hB _ (by omega)]
  refine ⟨h.1, fun i hi => ?_, h.2.2.1, h.2.2.2.1, h.2.2.2.2⟩
  rw [hB _ (by omega)]
  exact h.2.1 i hi
/-! THE JUDGEMENT -/
/-- the addresses as they were at the entry, but for what has been made since -/
def xAg (B : Nat → Nat) (n0 n : Nat) (ad : Nat → Nat) : Prop := n0 ≤ n ∧ (∀ i, (i < n0 ∨ 1000000 ≤ i) → ad i = B i) ∧ (n = n0 → ad = B)
theorem xAg.trans {B ad ad' : Nat → Nat} {n0 n n' : Nat} (h1 : xAg B n0 n ad) (h2 : xAg ad n n' ad') : xAg B n0 n' ad' :=
  ⟨Nat.le_trans h1.1 h2.1, fun i hi => (h2.2.1 i (hi.elim (fun z => Or.inl (Nat.lt_of_lt_of_le z h1.1)) Or.inr)).trans (h1.2.1 i hi), fun e => by
    have e1 : n = n0 := by have := h1.1; have := h2.1; omega
    rw [h2.2.2 (by omega), h1.2.2 e1]⟩
def xSt (D : va_G) (cy : Nat → ClassId) (A : Nat → Prop) (B : Nat → Nat) (n0 : Nat) (H0 : Heap) (n : Nat) (ad : Nat → Nat) (I : xM) (R : xR) (H : Heap) (locs : List Loc) : Prop :=
  va_P D vwCl (xws cy ad I R n) H ∧ va_D A (xws cy ad I R n) ∧ va_S A H0 H locs ∧ xAg B n0 n ad
abbrev xX : Type := (Program × Launch × Env × Room × State × MethodId × Array Value × List Frame × Method × Code) × ((State → Prop) × va_G × (Nat → ClassId) × (Nat → Prop) × (Nat → Nat) × Nat × Nat)
/-- the machine, at this place of this body, with this memory, comes to its end as it should -/
def G (X : xX) (n cs sl : Nat) (I : xM) (R : xR) (pc : Nat) (L : List (Nat × Value)) (st : List Value) : Prop :=
  match X with
  | ((p, l, e, Rm, s, m, args, below, meth, c), (Q, D, cy, A, B, n0, nL)) =>
    ∀ (ad : Nat → Nat) (H : Heap) (locs : List Loc) (ls : Array Slot), xSt D cy A B n0 s.heap n ad I R H locs → lv_has ls nL (L.map (xcl ad)) →
      W p l e Rm s m args below meth c H locs cs sl Q (F0 m pc ls (st.map (xcv ad)))
def xOK (X : xX) (own : String) (cc : ByteArray) (nL lv kc ks : Nat) : Prop :=
  match X with
  | ((p, _, _, Rm, s, m, args, _, _, c), (_, D, cy, A, B, _, nL')) =>
    p.tables.exec = Jvm.exec ∧ c.code = cc ∧ c.maxLocals = nL ∧ nL' = nL ∧ s.vm.findClass own = some m.cls ∧ (∀ w ∈ xgw, w.before args s = true) ∧ va_K D vwCl (xty cy) s ∧ (∀ q, s.heap.size ≤ q → A q) ∧ xE B A s s.heap ∧ lv ≤ Rm.frames ∧ 64 * lv ≤ Rm.locals ∧ kc ≤ Rm.cells ∧ ks ≤ Rm.slots
end
section
section
variable {X : xX} {own : String} {cc : ByteArray} {nL lv kc ks n cs sl pc : Nat} {I : xM} {R : xR} {L : List (Nat × Value)} {st : List Value}
theorem G_pure (hX : xOK X own cc nL lv kc ks) {pc' : Nat} {st' : List Value}
    (h : ∀ {p : Program} {l : Launch} {e : Env} {Rm : Room} {s : State} {m : MethodId} {args : Array Value} {below : List Frame} {meth : Method} {c : Code} {H : Heap} {locs : List Loc} {ls : Array Slot} {Q : State → Prop} (ad : Nat → Nat),
      p.tables.exec = Jvm.exec → c.code = cc → s.vm.findClass own = some m.cls → (∀ w ∈ xgw, w.before args s = true) → W p l e Rm s m args below meth c H locs cs sl Q (F0 m pc' ls (st'.map (xcv ad))) → W p l e Rm s m args below meth c H locs cs sl Q (F0 m pc ls (st.map (xcv ad))))
    (k : G X n cs sl I R pc' L st') : G X n cs sl I R pc L st := by
  obtain ⟨⟨p, l, e, Rm, s, m, args, below, meth, c⟩, Q, D, cy, A, B, n0, nL'⟩ := X
  obtain ⟨hx, hb, hml, hnl, hown, hts, hK, hA, hE, -⟩ := hX
  intro ad H locs ls hS hl
  exact h ad hx hb hown hts (k ad H locs ls hS hl)
theorem G_br (hX : xOK X own cc nL lv kc ks) {tgt : Nat} {st' : List Value} {P : Prop}
    (h : ∀ {p : Program} {l : Launch} {e : Env} {Rm : Room} {s : State} {m : MethodId} {args : Array Value} {below : List Frame} {meth : Method} {c : Code} {H : Heap} {locs : List Loc} {ls : Array Slot} {Q : State → Prop} (ad : Nat → Nat),
      p.tables.exec = Jvm.exec → c.code = cc → (P → W p l e Rm s m args below meth c H locs cs sl Q (F0 m tgt ls (st'.map (xcv ad)))) → (¬ P → W p l e Rm s m args below meth c H locs cs sl Q (F0 m (pc + 3) ls (st'.map (xcv ad)))) → W p l e Rm s m args below meth c H locs cs sl Q (F0 m pc ls (st.map (xcv ad))))
    (kt : P → G X n cs sl I R tgt L st') (kf : ¬ P → G X n cs sl I R (pc + 3) L st') : G X n cs sl I R pc L st := by
  obtain ⟨⟨p, l, e, Rm, s, m, args, below, meth, c⟩, Q, D, cy, A, B, n0, nL'⟩ := X
  obtain ⟨hx, hb, hml, hnl, hown, hts, hK, hA, hE, -⟩ := hX
  intro ad H locs ls hS hl
  exact h ad hx hb (fun c => kt c ad H locs ls hS hl) (fun c => kf c ad H locs ls hS hl)
theorem G_ld (hX : xOK X own cc nL lv kc ks) {pc' i j : Nat} {st' : List Value} {v : Value} (hj : L[j]? = some (i, v))
    (h : ∀ {p : Program} {l : Launch} {e : Env} {Rm : Room} {s : State} {m : MethodId} {args : Array Value} {below : List Frame} {meth : Method} {c : Code} {H : Heap} {locs : List Loc} {ls : Array Slot} {Q : State → Prop} (ad : Nat → Nat),
      p.tables.exec = Jvm.exec → c.code = cc → ls[i]? = some (.val (xcv ad v)) → W p l e Rm s m args below meth c H locs cs sl Q (F0 m pc' ls (st'.map (xcv ad))) → W p l e Rm s m args below meth c H locs cs sl Q (F0 m pc ls (st.map (xcv ad))))
    (k : G X n cs sl I R pc' L st') : G X n cs sl I R pc L st := by
  obtain ⟨⟨p, l, e, Rm, s, m, args, below, meth, c⟩, Q, D, cy, A, B, n0, nL'⟩ := X
  obtain ⟨hx, hb, hml, hnl, hown, hts, hK, hA, hE, -⟩ := hX
  intro ad H locs ls hS hl
  refine h ad hx hb (lv_at hl j ?_) (k ad H locs ls hS hl)
  rw [List.getElem?_map, hj]
  rfl
def xlset (L : List (Nat × Value)) (i : Nat) (v : Value) : List (Nat × Value) := L.filter (fun q => decide (q.1 < i) && !(q.1 + 1 == i && q.2.category == 2)) ++ (i, v) :: L.filter (fun q => decide (i < q.1) && !(v.category == 2 && q.1 == i + 1))
theorem xlset_ok {ls : Array Slot} {nL : Nat} {ad : Nat → Nat} {L L' : List (Nat × Value)} {i : Nat} {v : Value} {lv' : List (Nat × Value)} (hv : v.category = 1) (hL : xlset L i v = L') (hl' : (i, xcv ad v) :: (L.map (xcl ad)).filter (fun q => !(q.1 == i) && !(q.1 + 1 == i && q.2.category == 2)) = lv') (h : lv_has ls nL lv') : lv_has ls nL (L'.map (xcl ad)) := by
  subst hL; subst hl'
  refine ⟨h.1, h.2.1, fun q hq => h.2.2 q ?_⟩
  obtain ⟨q0, h0, rfl⟩ := List.mem_map.mp hq
  rcases List.mem_append.mp h0 with h1 | h1
  · obtain ⟨h2, h3⟩ := List.mem_filter.mp h1
    refine List.mem_cons_of_mem _ (List.mem_filter.mpr ⟨List.mem_map.mpr ⟨q0, h2, rfl⟩, ?_⟩)
    simp only [xcl, xcv_cat]
    simp only [Bool.and_eq_true, decide_eq_true_eq] at h3
    simp [h3.2, show ¬ q0.1 = i by omega]
  · rcases List.mem_cons.mp h1 with rfl | h1
    · exact List.mem_cons_self
    · obtain ⟨h2, h3⟩ := List.mem_filter.mp h1
      refine List.mem_cons_of_mem _ (List.mem_filter.mpr ⟨List.mem_map.mpr ⟨q0, h2, rfl⟩, ?_⟩)
      simp only [xcl, xcv_cat]
      simp only [Bool.and_eq_true, decide_eq_true_eq] at h3
      simp [show ¬ q0.1 = i by omega, show ¬ q0.1 + 1 = i by omega]
theorem xlset_ok2 {ls : Array Slot} {nL : Nat} {ad : Nat → Nat} {L L' : List (Nat × Value)} {i : Nat} {v : Value} {lv' : List (Nat × Value)} (hv : v.category = 2) (hL : xlset L i v = L') (hl' : (i, xcv ad v) :: (L.map (xcl ad)).filter (fun q => !(q.1 == i) && (!(q.1 == i + 1) && !(q.1 + 1 == i && q.2.category == 2))) = lv') (h : lv_has ls nL lv') : lv_has ls nL (L'.map (xcl ad)) := by
  subst hL; subst hl'
  refine ⟨h.1, h.2.1, fun q hq => h.2.2 q ?_⟩
  obtain ⟨q0, h0, rfl⟩ := List.mem_map.mp hq
  rcases List.mem_append.mp h0 with h1 | h1
  · obtain ⟨h2, h3⟩ := List.mem_filter.mp h1
    refine List.mem_cons_of_mem _ (List.mem_filter.mpr ⟨List.mem_map.mpr ⟨q0, h2, rfl⟩, ?_⟩)
    simp only [xcl, xcv_cat]
    simp only [Bool.and_eq_true, decide_eq_true_eq] at h3
    simp [show ¬ q0.1 = i by omega, show ¬ q0.1 = i + 1 by omega]
    simpa using h3.2
  · rcases List.mem_cons.mp h1 with rfl | h1
    · exact List.mem_cons_self
    · obtain ⟨h2, h3⟩ := List.mem_filter.mp h1
      refine List.mem_cons_of_mem _ (List.mem_filter.mpr ⟨List.mem_map.mpr ⟨q0, h2, rfl⟩, ?_⟩)
      simp only [xcl, xcv_cat]
      simp only [Bool.and_eq_true, decide_eq_true_eq, hv] at h3
      simp [show ¬ q0.1 = i by omega, show ¬ q0.1 + 1 = i by omega]
      simpa using h3.2
/-- the locals that aren't wanted any more -/
theorem g_loc {L' : List (Nat × Value)} (is : List Nat) (h : is.filterMap (fun i => L[i]?) = L') (k : G X n cs sl I R pc L' st) : G X n cs sl I R pc L st := by
  obtain ⟨⟨p, l, e, Rm, s, m, args, below, meth, c⟩, Q, D, cy, A, B, n0, nL'⟩ := X
  intro ad H locs ls hS hl
  refine k ad H locs ls hS (lv_sub hl is ?_)
  subst h
  simp [lv_pick, List.map_filterMap]
theorem g_widen {cs' sl' : Nat} (h1 : cs ≤ cs') (h2 : sl ≤ sl') (k : G X n cs' sl' I R pc L st) : G X n cs sl I R pc L st := by
  obtain ⟨⟨p, l, e, Rm, s, m, args, below, meth, c⟩, Q, D, cy, A, B, n0, nL'⟩ := X
  intro ad H locs ls hS hl
  exact W.widen h1 h2 (k ad H locs ls hS hl)
/-- the same, told otherwise -/
theorem g_st {st' : List Value} (h : st = st') (k : G X n cs sl I R pc L st') : G X n cs sl I R pc L st := by subst h; exact k
theorem g_top {x y : Int32} (h : x = y) (k : G X n cs sl I R pc L (.int y :: st)) : G X n cs sl I R pc L (.int x :: st) := by subst h; exact k
theorem g_L {L' : List (Nat × Value)} (h : L = L') (k : G X n cs sl I R pc L' st) : G X n cs sl I R pc L st := by subst h; exact k
theorem g_mem {I' : xM} (h : I = I') (k : G X n cs sl I' R pc L st) : G X n cs sl I R pc L st := by subst h; exact k
theorem g_ref {R' : xR} (h : R = R') (k : G X n cs sl I R' pc L st) : G X n cs sl I R pc L st := by subst h; exact k
theorem g_nm {x : Int32} (k : ∀ y : Int32, y = x → G X n cs sl I R pc L (.int y :: st)) : G X n cs sl I R pc L (.int x :: st) := k x rfl
theorem g_nml {x : Int64} (k : ∀ y : Int64, y = x → G X n cs sl I R pc L (.long y :: st)) : G X n cs sl I R pc L (.long x :: st) := k x rfl
theorem g_nmm (k : ∀ J : xM, J = I → G X n cs sl J R pc L st) : G X n cs sl I R pc L st := k I rfl
theorem g_iconst (hX : xOK X own cc nL lv kc ks) {z : Int} {v : Int32} (hd : decode cc pc = .ok (.iconst z, 1)) (hv : Int32.ofInt z = v) (k : G X n cs sl I R (pc + 1) L (.int v :: st)) : G X n cs sl I R pc L (st) := G_pure hX (fun ad hx hb _ _ q => lv_iconst hx hb hd hv q) k
theorem g_bipush (hX : xOK X own cc nL lv kc ks) {z : Int} {v : Int32} (hd : decode cc pc = .ok (.bipush z, 2)) (hv : (Int8.ofInt z).toInt32 = v) (k : G X n cs sl I R (pc + 2) L (.int v :: st)) : G X n cs sl I R pc L (st) := G_pure hX (fun ad hx hb _ _ q => lv_bipush hx hb hd hv q) k
theorem g_sipush (hX : xOK X own cc nL lv kc ks) {z : Int} {v : Int32} (hd : decode cc pc = .ok (.sipush z, 3)) (hv : (Int16.ofInt z).toInt32 = v) (k : G X n cs sl I R (pc + 3) L (.int v :: st)) : G X n cs sl I R pc L (st) := G_pure hX (fun ad hx hb _ _ q => lv_sipush hx hb hd hv q) k
theorem g_lconst (hX : xOK X own cc nL lv kc ks) {z : Fin 2} {v : Int64} (hd : decode cc pc = .ok (.lconst z, 1)) (hv : Int64.ofNat (z : Nat) = v) (k : G X n cs sl I R (pc + 1) L (.long v :: st)) : G X n cs sl I R pc L (st) := G_pure hX (fun ad hx hb _ _ q => lv_lconst hx hb hd hv q) k
theorem g_iadd (hX : xOK X own cc nL lv kc ks) {x y v : Int32} (hd : decode cc pc = .ok (.iadd, 1)) (hv : x + y = v) (k : G X n cs sl I R (pc + 1) L (.int v :: st)) : G X n cs sl I R pc L (.int y :: .int x :: st) := G_pure hX (fun ad hx hb _ _ q => by subst hv; exact lv_iadd hx hb hd q) k
theorem g_isub (hX : xOK X own cc nL lv kc ks) {x y v : Int32} (hd : decode cc pc = .ok (.isub, 1)) (hv : x - y = v) (k : G X n cs sl I R (pc + 1) L (.int v :: st)) : G X n cs sl I R pc L (.int y :: .int x :: st) := G_pure hX (fun ad hx hb _ _ q => by subst hv; exact lv_isub hx hb hd q) k
theorem g_imul (hX : xOK X own cc nL lv kc ks) {x y v : Int32} (hd : decode cc pc = .ok (.imul, 1)) (hv : x * y = v) (k : G X n cs sl I R (pc + 1) L (.int v :: st)) : G X n cs sl I R pc L (.int y :: .int x :: st) := G_pure hX (fun ad hx hb _ _ q => by subst hv; exact lv_imul hx hb hd q) k
theorem g_idiv (hX : xOK X own cc nL lv kc ks) {x y v : Int32} (hd : decode cc pc = .ok (.idiv, 1)) (hne : ¬ y = 0) (hv : x / y = v) (k : G X n cs sl I R (pc + 1) L (.int v :: st)) : G X n cs sl I R pc L (.int y :: .int x :: st) := G_pure hX (fun ad hx hb _ _ q => by subst hv; exact lv_idiv hx hb hd hne q) k
theorem g_iand (hX : xOK X own cc nL lv kc ks) {x y v : Int32} (hd : decode cc pc = .ok (.iand, 1)) (hv : x &&& y = v) (k : G X n cs sl I R (pc + 1) L (.int v :: st)) : G X n cs sl I R pc L (.int y :: .int x :: st) := G_pure hX (fun ad hx hb _ _ q => by subst hv; exact lv_iand hx hb hd q) k
theorem g_ior (hX : xOK X own cc nL lv kc ks) {x y v : Int32} (hd : decode cc pc = .ok (.ior, 1)) (hv : x ||| y = v) (k : G X n cs sl I R (pc + 1) L (.int v :: st)) : G X n cs sl I R pc L (.int y :: .int x :: st) := G_pure hX (fun ad hx hb _ _ q => by subst hv; exact lv_ior hx hb hd q) k
theorem g_ixor (hX : xOK X own cc nL lv kc ks) {x y v : Int32} (hd : decode cc pc = .ok (.ixor, 1)) (hv : x ^^^ y = v) (k : G X n cs sl I R (pc + 1) L (.int v :: st)) : G X n cs sl I R pc L (.int y :: .int x :: st) := G_pure hX (fun ad hx hb _ _ q => by subst hv; exact lv_ixor hx hb hd q) k
theorem g_ineg (hX : xOK X own cc nL lv kc ks) {x v : Int32} (hd : decode cc pc = .ok (.ineg, 1)) (hv : -x = v) (k : G X n cs sl I R (pc + 1) L (.int v :: st)) : G X n cs sl I R pc L (.int x :: st) := G_pure hX (fun ad hx hb _ _ q => by subst hv; exact lv_ineg hx hb hd q) k
theorem g_ishl (hX : xOK X own cc nL lv kc ks) {x y v : Int32} (hd : decode cc pc = .ok (.ishl, 1)) (hv : x <<< (y &&& 31) = v) (k : G X n cs sl I R (pc + 1) L (.int v :: st)) : G X n cs sl I R pc L (.int y :: .int x :: st) := G_pure hX (fun ad hx hb _ _ q => by subst hv; exact lv_ishl hx hb hd q) k
theorem g_ishr (hX : xOK X own cc nL lv kc ks) {x y v : Int32} (hd : decode cc pc = .ok (.ishr, 1)) (hv : x >>> (y &&& 31) = v) (k : G X n cs sl I R (pc + 1) L (.int v :: st)) : G X n cs sl I R pc L (.int y :: .int x :: st) := G_pure hX (fun ad hx hb _ _ q => by subst hv; exact lv_ishr hx hb hd q) k
theorem g_i2l (hX : xOK X own cc nL lv kc ks) {x : Int32} {v : Int64} (hd : decode cc pc = .ok (.i2l, 1)) (hv : x.toInt64 = v) (k : G X n cs sl I R (pc + 1) L (.long v :: st)) : G X n cs sl I R pc L (.int x :: st) := G_pure hX (fun ad hx hb _ _ q => lv_i2l hx hb hd hv q) k
theorem g_l2i (hX : xOK X own cc nL lv kc ks) {x : Int64} {v : Int32} (hd : decode cc pc = .ok (.l2i, 1)) (hv : x.toInt32 = v) (k : G X n cs sl I R (pc + 1) L (.int v :: st)) : G X n cs sl I R pc L (.long x :: st) := G_pure hX (fun ad hx hb _ _ q => lv_l2i hx hb hd hv q) k
theorem g_i2b (hX : xOK X own cc nL lv kc ks) {x v : Int32} (hd : decode cc pc = .ok (.i2b, 1)) (hv : x.toInt8.toInt32 = v) (k : G X n cs sl I R (pc + 1) L (.int v :: st)) : G X n cs sl I R pc L (.int x :: st) := G_pure hX (fun ad hx hb _ _ q => lv_i2b hx hb hd hv q) k
theorem g_i2s (hX : xOK X own cc nL lv kc ks) {x v : Int32} (hd : decode cc pc = .ok (.i2s, 1)) (hv : x.toInt16.toInt32 = v) (k : G X n cs sl I R (pc + 1) L (.int v :: st)) : G X n cs sl I R pc L (.int x :: st) := G_pure hX (fun ad hx hb _ _ q => lv_i2s hx hb hd hv q) k
theorem g_i2c (hX : xOK X own cc nL lv kc ks) {x v : Int32} (hd : decode cc pc = .ok (.i2c, 1)) (hv : (x.toUInt32 % 65536).toInt32 = v) (k : G X n cs sl I R (pc + 1) L (.int v :: st)) : G X n cs sl I R pc L (.int x :: st) := G_pure hX (fun ad hx hb _ _ q => lv_i2c hx hb hd hv q) k
theorem g_ladd (hX : xOK X own cc nL lv kc ks) {x y v : Int64} (hd : decode cc pc = .ok (.ladd, 1)) (hv : x + y = v) (k : G X n cs sl I R (pc + 1) L (.long v :: st)) : G X n cs sl I R pc L (.long y :: .long x :: st) := G_pure hX (fun ad hx hb _ _ q => by subst hv; exact lv_ladd hx hb hd q) k
theorem g_lsub (hX : xOK X own cc nL lv kc ks) {x y v : Int64} (hd : decode cc pc = .ok (.lsub, 1)) (hv : x - y = v) (k : G X n cs sl I R (pc + 1) L (.long v :: st)) : G X n cs sl I R pc L (.long y :: .long x :: st) := G_pure hX (fun ad hx hb _ _ q => by subst hv; exact lv_lsub hx hb hd q) k
theorem g_land (hX : xOK X own cc nL lv kc ks) {x y v : Int64} (hd : decode cc pc = .ok (.land, 1)) (hv : x &&& y = v) (k : G X n cs sl I R (pc + 1) L (.long v :: st)) : G X n cs sl I R pc L (.long y :: .long x :: st) := G_pure hX (fun ad hx hb _ _ q => by subst hv; exact lv_land hx hb hd q) k
theorem g_lor (hX : xOK X own cc nL lv kc ks) {x y v : Int64} (hd : decode cc pc = .ok (.lor, 1)) (hv : x ||| y = v) (k : G X n cs sl I R (pc + 1) L (.long v :: st)) : G X n cs sl I R pc L (.long y :: .long x :: st) := G_pure hX (fun ad hx hb _ _ q => by subst hv; exact lv_lor hx hb hd q) k
theorem g_lushr (hX : xOK X own cc nL lv kc ks) {x : Int64} {y : Int32} {v : Int64} (hd : decode cc pc = .ok (.lushr, 1)) (hv : (x.toUInt64 >>> (y.toInt64.toUInt64 &&& Int64.toUInt64 63)).toInt64 = v) (k : G X n cs sl I R (pc + 1) L (.long v :: st)) : G X n cs sl I R pc L (.int y :: .long x :: st) := G_pure hX (fun ad hx hb _ _ q => lv_lushr hx hb hd hv q) k
theorem g_lshl (hX : xOK X own cc nL lv kc ks) {x : Int64} {y : Int32} {v : Int64} (hd : decode cc pc = .ok (.lshl, 1)) (hv : x <<< (y.toInt64 &&& 63) = v) (k : G X n cs sl I R (pc + 1) L (.long v :: st)) : G X n cs sl I R pc L (.int y :: .long x :: st) := G_pure hX (fun ad hx hb _ _ q => lv_lshl hx hb hd hv q) k
theorem g_lshr (hX : xOK X own cc nL lv kc ks) {x : Int64} {y : Int32} {v : Int64} (hd : decode cc pc = .ok (.lshr, 1)) (hv : x >>> (y.toInt64 &&& 63) = v) (k : G X n cs sl I R (pc + 1) L (.long v :: st)) : G X n cs sl I R pc L (.int y :: .long x :: st) := G_pure hX (fun ad hx hb _ _ q => lv_lshr hx hb hd hv q) k
theorem g_lcmp (hX : xOK X own cc nL lv kc ks) {x y : Int64} {v : Int32} (hd : decode cc pc = .ok (.lcmp, 1)) (hv : lg_cmp x y = v) (k : G X n cs sl I R (pc + 1) L (.int v :: st)) : G X n cs sl I R pc L (.long y :: .long x :: st) := G_pure hX (fun ad hx hb _ _ q => by subst hv; exact W.lcmp hx hb hd q) k
theorem g_dup (hX : xOK X own cc nL lv kc ks) {a : Value} (hc : a.category = 1) (hd : decode cc pc = .ok (.dup, 1))  (k : G X n cs sl I R (pc + 1) L (a :: a :: st)) : G X n cs sl I R pc L (a :: st) := G_pure hX (fun ad hx hb _ _ q => lv_dup hx hb hd (by rw [xcv_cat]; exact hc) q) k
theorem g_dup_x1 (hX : xOK X own cc nL lv kc ks) {a b : Value} (hc : a.category = 1) (hc2 : b.category = 1) (hd : decode cc pc = .ok (.dup_x1, 1))  (k : G X n cs sl I R (pc + 1) L (a :: b :: a :: st)) : G X n cs sl I R pc L (a :: b :: st) := G_pure hX (fun ad hx hb _ _ q => lv_dup_x1 hx hb hd (by rw [xcv_cat]; exact hc) (by rw [xcv_cat]; exact hc2) q) k
theorem g_dup_x2 (hX : xOK X own cc nL lv kc ks) {a b d : Value} (hc : a.category = 1) (hc2 : b.category = 1) (hc3 : d.category = 1) (hd : decode cc pc = .ok (.dup_x2, 1))  (k : G X n cs sl I R (pc + 1) L (a :: b :: d :: a :: st)) : G X n cs sl I R pc L (a :: b :: d :: st) := G_pure hX (fun ad hx hb _ _ q => lv_dup_x2 hx hb hd (by rw [xcv_cat]; exact hc) (by rw [xcv_cat]; exact hc2) (by rw [xcv_cat]; exact hc3) q) k
theorem g_dup2 (hX : xOK X own cc nL lv kc ks) {a b : Value} (hc : a.category = 1) (hc2 : b.category = 1) (hd : decode cc pc = .ok (.dup2, 1))  (k : G X n cs sl I R (pc + 1) L (a :: b :: a :: b :: st)) : G X n cs sl I R pc L (a :: b :: st) := G_pure hX (fun ad hx hb _ _ q => lv_dup2_11 hx hb hd (by rw [xcv_cat]; exact hc) (by rw [xcv_cat]; exact hc2) q) k
theorem g_pop (hX : xOK X own cc nL lv kc ks) {a : Value} (hc : a.category = 1) (hd : decode cc pc = .ok (.pop, 1))  (k : G X n cs sl I R (pc + 1) L (st)) : G X n cs sl I R pc L (a :: st) := G_pure hX (fun ad hx hb _ _ q => lv_pop hx hb hd (by rw [xcv_cat]; exact hc) q) k
theorem g_ldc (hX : xOK X own cc nL lv kc ks) {index : Nat} {v : Int32} (hw : Jvm.Cond.constant own index v ∈ xgw) (hd : decode cc pc = .ok (.ldc index, 2)) (k : G X n cs sl I R (pc + 2) L (.int v :: st)) : G X n cs sl I R pc L st := G_pure hX (fun ad hx hb ho ht q => lv_ldc hx hb ho (ht _ hw) hd q) k
theorem g_ldcw (hX : xOK X own cc nL lv kc ks) {index : Nat} {v : Int32} (hw : Jvm.Cond.constant own index v ∈ xgw) (hd : decode cc pc = .ok (.ldc_w index, 3)) (k : G X n cs sl I R (pc + 3) L (.int v :: st)) : G X n cs sl I R pc L st := G_pure hX (fun ad hx hb ho ht q => lv_ldcw hx hb ho (ht _ hw) hd q) k
theorem g_ldc2 (hX : xOK X own cc nL lv kc ks) {index : Nat} {v : Int64} (hw : Jvm.Cond.constantLong own index v ∈ xgw) (hd : decode cc pc = .ok (.ldc2_w index, 3)) (k : G X n cs sl I R (pc + 3) L (.long v :: st)) : G X n cs sl I R pc L st := G_pure hX (fun ad hx hb ho ht q => lv_ldc2 hx hb ho (ht _ hw) hd q) k
theorem g_goto (hX : xOK X own cc nL lv kc ks) {off : Int} {tgt : Nat} (hd : decode cc pc = .ok (.goto off, 3)) (ht : (pc : Int) + off = (tgt : Int)) (k : G X n cs sl I R tgt L st) : G X n cs sl I R pc L st := G_pure hX (fun ad hx hb _ _ q => lv_goto hx hb hd ht q) k
theorem g_null (hX : xOK X own cc nL lv kc ks) (hd : decode cc pc = .ok (.aconst_null, 1)) (k : G X n cs sl I R (pc + 1) L (.null :: st)) : G X n cs sl I R pc L st := G_pure hX (fun ad hx hb _ _ q => lv_null hx hb hd q) k
theorem g_if_eq (hX : xOK X own cc nL lv kc ks) {x : Int32} {off : Int} {tgt : Nat} (hd : decode cc pc = .ok (.ifCond .eq off, 3)) (ht : (pc : Int) + off = (tgt : Int)) (kt : x = 0 → G X n cs sl I R tgt L st) (kf : ¬ x = 0 → G X n cs sl I R (pc + 3) L st) : G X n cs sl I R pc L (.int x :: st) := G_br hX (fun ad hx hb q1 q2 => lv_if_eq hx hb hd ht q1 q2) kt kf
theorem g_if_lt (hX : xOK X own cc nL lv kc ks) {x : Int32} {off : Int} {tgt : Nat} (hd : decode cc pc = .ok (.ifCond .lt off, 3)) (ht : (pc : Int) + off = (tgt : Int)) (kt : x < 0 → G X n cs sl I R tgt L st) (kf : ¬ x < 0 → G X n cs sl I R (pc + 3) L st) : G X n cs sl I R pc L (.int x :: st) := G_br hX (fun ad hx hb q1 q2 => lv_if_lt hx hb hd ht q1 q2) kt kf
theorem g_if_ge (hX : xOK X own cc nL lv kc ks) {x : Int32} {off : Int} {tgt : Nat} (hd : decode cc pc = .ok (.ifCond .ge off, 3)) (ht : (pc : Int) + off = (tgt : Int)) (kt : 0 ≤ x → G X n cs sl I R tgt L st) (kf : ¬ 0 ≤ x → G X n cs sl I R (pc + 3) L st) : G X n cs sl I R pc L (.int x :: st) := G_br hX (fun ad hx hb q1 q2 => lv_if_ge hx hb hd ht q1 q2) kt kf
theorem g_if_gt (hX : xOK X own cc nL lv kc ks) {x : Int32} {off : Int} {tgt : Nat} (hd : decode cc pc = .ok (.ifCond .gt off, 3)) (ht : (pc : Int) + off = (tgt : Int)) (kt : 0 < x → G X n cs sl I R tgt L st) (kf : ¬ 0 < x → G X n cs sl I R (pc + 3) L st) : G X n cs sl I R pc L (.int x :: st) := G_br hX (fun ad hx hb q1 q2 => lv_if_gt hx hb hd ht q1 q2) kt kf
theorem g_if_le (hX : xOK X own cc nL lv kc ks) {x : Int32} {off : Int} {tgt : Nat} (hd : decode cc pc = .ok (.ifCond .le off, 3)) (ht : (pc : Int) + off = (tgt : Int)) (kt : x ≤ 0 → G X n cs sl I R tgt L st) (kf : ¬ x ≤ 0 → G X n cs sl I R (pc + 3) L st) : G X n cs sl I R pc L (.int x :: st) := G_br hX (fun ad hx hb q1 q2 => lv_if_le hx hb hd ht q1 q2) kt kf
theorem g_icmp_eq (hX : xOK X own cc nL lv kc ks) {x y : Int32} {off : Int} {tgt : Nat} (hd : decode cc pc = .ok (.if_icmp .eq off, 3)) (ht : (pc : Int) + off = (tgt : Int)) (kt : x = y → G X n cs sl I R tgt L st) (kf : ¬ x = y → G X n cs sl I R (pc + 3) L st) : G X n cs sl I R pc L (.int y :: .int x :: st) := G_br hX (fun ad hx hb q1 q2 => lv_icmp_eq hx hb hd ht q1 q2) kt kf
theorem g_icmp_lt (hX : xOK X own cc nL lv kc ks) {x y : Int32} {off : Int} {tgt : Nat} (hd : decode cc pc = .ok (.if_icmp .lt off, 3)) (ht : (pc : Int) + off = (tgt : Int)) (kt : x < y → G X n cs sl I R tgt L st) (kf : ¬ x < y → G X n cs sl I R (pc + 3) L st) : G X n cs sl I R pc L (.int y :: .int x :: st) := G_br hX (fun ad hx hb q1 q2 => lv_icmp_lt hx hb hd ht q1 q2) kt kf
theorem g_icmp_ge (hX : xOK X own cc nL lv kc ks) {x y : Int32} {off : Int} {tgt : Nat} (hd : decode cc pc = .ok (.if_icmp .ge off, 3)) (ht : (pc : Int) + off = (tgt : Int)) (kt : y ≤ x → G X n cs sl I R tgt L st) (kf : ¬ y ≤ x → G X n cs sl I R (pc + 3) L st) : G X n cs sl I R pc L (.int y :: .int x :: st) := G_br hX (fun ad hx hb q1 q2 => lv_icmp_ge hx hb hd ht q1 q2) kt kf
theorem g_icmp_gt (hX : xOK X own cc nL lv kc ks) {x y : Int32} {off : Int} {tgt : Nat} (hd : decode cc pc = .ok (.if_icmp .gt off, 3)) (ht : (pc : Int) + off = (tgt : Int)) (kt : y < x → G X n cs sl I R tgt L st) (kf : ¬ y < x → G X n cs sl I R (pc + 3) L st) : G X n cs sl I R pc L (.int y :: .int x :: st) := G_br hX (fun ad hx hb q1 q2 => lv_icmp_gt hx hb hd ht q1 q2) kt kf
theorem g_icmp_le (hX : xOK X own cc nL lv kc ks) {x y : Int32} {off : Int} {tgt : Nat} (hd : decode cc pc = .ok (.if_icmp .le off, 3)) (ht : (pc : Int) + off = (tgt : Int)) (kt : x ≤ y → G X n cs sl I R tgt L st) (kf : ¬ x ≤ y → G X n cs sl I R (pc + 3) L st) : G X n cs sl I R pc L (.int y :: .int x :: st) := G_br hX (fun ad hx hb q1 q2 => lv_icmp_le hx hb hd ht q1 q2) kt kf
theorem g_if_ne (hX : xOK X own cc nL lv kc ks) {x : Int32} {off : Int} {tgt : Nat} (hd : decode cc pc = .ok (.ifCond .ne off, 3)) (ht : (pc : Int) + off = (tgt : Int)) (kt : ¬ x = 0 → G X n cs sl I R tgt L st) (kf : x = 0 → G X n cs sl I R (pc + 3) L st) : G X n cs sl I R pc L (.int x :: st) := G_br (P := ¬ x = 0) hX (fun ad hx hb q1 q2 => lv_if_ne hx hb hd ht q1 (fun z => q2 (fun y => y z))) kt (fun z => kf (Classical.not_not.mp z))
theorem g_icmp_ne (hX : xOK X own cc nL lv kc ks) {x y : Int32} {off : Int} {tgt : Nat} (hd : decode cc pc = .ok (.if_icmp .ne off, 3)) (ht : (pc : Int) + off = (tgt : Int)) (kt : ¬ x = y → G X n cs sl I R tgt L st) (kf : x = y → G X n cs sl I R (pc + 3) L st) : G X n cs sl I R pc L (.int y :: .int x :: st) := G_br (P := ¬ x = y) hX (fun ad hx hb q1 q2 => lv_icmp_ne hx hb hd ht q1 (fun z => q2 (fun y => y z))) kt (fun z => kf (Classical.not_not.mp z))
theorem g_iload_n (hX : xOK X own cc nL lv kc ks) {a : Fin 4} {i : Nat} {x : Int32} (hd : decode cc pc = .ok (.iload_n a, 1)) (hi : (a : Nat) = i) (j : Nat) (hj : L[j]? = some (i, .int x)) (k : G X n cs sl I R (pc + 1) L (.int x :: st)) : G X n cs sl I R pc L st := G_ld hX hj (fun ad hx hb z q => lv_iload_n hx hb hd hi z q) k
theorem g_iload (hX : xOK X own cc nL lv kc ks) {i : Nat} {x : Int32} (hd : decode cc pc = .ok (.iload i, 2)) (j : Nat) (hj : L[j]? = some (i, .int x)) (k : G X n cs sl I R (pc + 2) L (.int x :: st)) : G X n cs sl I R pc L st := G_ld hX hj (fun ad hx hb z q => lv_iload hx hb hd z q) k
theorem g_istore_n (hX : xOK X own cc nL lv kc ks) {a : Fin 4} {i : Nat} {x : Int32} {L' : List (Nat × Value)} (hd : decode cc pc = .ok (.istore_n a, 1)) (hi : (a : Nat) = i) (hn : i < nL) (hL : xlset L i (.int x) = L') (k : G X n cs sl I R (pc + 1) L' st) : G X n cs sl I R pc L (.int x :: st) := by
  obtain ⟨⟨p, l, e, Rm, s, m, args, below, meth, c⟩, Q, D, cy, A, B, n0, nL'⟩ := X
  obtain ⟨hx, hb, hml, rfl, hown, hts, hK, hA, hE, -⟩ := hX
  intro ad H locs ls hS hl
  exact lv_istore_n hx hb hd hi hl hn rfl (fun ls2 hl2 => k ad H locs ls2 hS (xlset_ok (ad := ad) rfl hL rfl hl2))
theorem g_istore (hX : xOK X own cc nL lv kc ks) {i : Nat} {x : Int32} {L' : List (Nat × Value)} (hd : decode cc pc = .ok (.istore i, 2)) (hn : i < nL) (hL : xlset L i (.int x) = L') (k : G X n cs sl I R (pc + 2) L' st) : G X n cs sl I R pc L (.int x :: st) := by
  obtain ⟨⟨p, l, e, Rm, s, m, args, below, meth, c⟩, Q, D, cy, A, B, n0, nL'⟩ := X
  obtain ⟨hx, hb, hml, rfl, hown, hts, hK, hA, hE, -⟩ := hX
  intro ad H locs ls hS hl
  exact lv_istore hx hb hd hl hn rfl (fun ls2 hl2 => k ad H locs ls2 hS (xlset_ok (ad := ad) rfl hL rfl hl2))
theorem g_aload_n (hX : xOK X own cc nL lv kc ks) {a : Fin 4} {i : Nat} {x : Nat} (hd : decode cc pc = .ok (.aload_n a, 1)) (hi : (a : Nat) = i) (j : Nat) (hj : L[j]? = some (i, .ref x)) (k : G X n cs sl I R (pc + 1) L (.ref x :: st)) : G X n cs sl I R pc L st := G_ld hX hj (fun ad hx hb z q => lv_aload_n hx hb hd hi z q) k
theorem g_aload (hX : xOK X own cc nL lv kc ks) {i : Nat} {x : Nat} (hd : decode cc pc = .ok (.aload i, 2)) (j : Nat) (hj : L[j]? = some (i, .ref x)) (k : G X n cs sl I R (pc + 2) L (.ref x :: st)) : G X n cs sl I R pc L st := G_ld hX hj (fun ad hx hb z q => lv_aload hx hb hd z q) k
theorem g_astore_n (hX : xOK X own cc nL lv kc ks) {a : Fin 4} {i : Nat} {x : Nat} {L' : List (Nat × Value)} (hd : decode cc pc = .ok (.astore_n a, 1)) (hi : (a : Nat) = i) (hn : i < nL) (hL : xlset L i (.ref x) = L') (k : G X n cs sl I R (pc + 1) L' st) : G X n cs sl I R pc L (.ref x :: st) := by
  obtain ⟨⟨p, l, e, Rm, s, m, args, below, meth, c⟩, Q, D, cy, A, B, n0, nL'⟩ := X
  obtain ⟨hx, hb, hml, rfl, hown, hts, hK, hA, hE, -⟩ := hX
  intro ad H locs ls hS hl
  exact lv_astore_n hx hb hd hi hl hn rfl (fun ls2 hl2 => k ad H locs ls2 hS (xlset_ok (ad := ad) rfl hL rfl hl2))
theorem g_astore (hX : xOK X own cc nL lv kc ks) {i : Nat} {x : Nat} {L' : List (Nat × Value)} (hd : decode cc pc = .ok (.astore i, 2)) (hn : i < nL) (hL : xlset L i (.ref x) = L') (k : G X n cs sl I R (pc + 2) L' st) : G X n cs sl I R pc L (.ref x :: st) := by
  obtain ⟨⟨p, l, e, Rm, s, m, args, below, meth, c⟩, Q, D, cy, A, B, n0, nL'⟩ := X
  obtain ⟨hx, hb, hml, rfl, hown, hts, hK, hA, hE, -⟩ := hX
  intro ad H locs ls hS hl
  exact lv_astore hx hb hd hl hn rfl (fun ls2 hl2 => k ad H locs ls2 hS (xlset_ok (ad := ad) rfl hL rfl hl2))
theorem g_lload_n (hX : xOK X own cc nL lv kc ks) {a : Fin 4} {i : Nat} {x : Int64} (hd : decode cc pc = .ok (.lload_n a, 1)) (hi : (a : Nat) = i) (j : Nat) (hj : L[j]? = some (i, .long x)) (k : G X n cs sl I R (pc + 1) L (.long x :: st)) : G X n cs sl I R pc L st := G_ld hX hj (fun ad hx hb z q => lv_lload_n hx hb hd hi z q) k
theorem g_lload (hX : xOK X own cc nL lv kc ks) {i : Nat} {x : Int64} (hd : decode cc pc = .ok (.lload i, 2)) (j : Nat) (hj : L[j]? = some (i, .long x)) (k : G X n cs sl I R (pc + 2) L (.long x :: st)) : G X n cs sl I R pc L st := G_ld hX hj (fun ad hx hb z q => lv_lload hx hb hd z q) k
theorem g_lstore_n (hX : xOK X own cc nL lv kc ks) {a : Fin 4} {i : Nat} {x : Int64} {L' : List (Nat × Value)} (hd : decode cc pc = .ok (.lstore_n a, 1)) (hi : (a : Nat) = i) (hn : i + 1 < nL) (hL : xlset L i (.long x) = L') (k : G X n cs sl I R (pc + 1) L' st) : G X n cs sl I R pc L (.long x :: st) := by
  obtain ⟨⟨p, l, e, Rm, s, m, args, below, meth, c⟩, Q, D, cy, A, B, n0, nL'⟩ := X
  obtain ⟨hx, hb, hml, rfl, hown, hts, hK, hA, hE, -⟩ := hX
  intro ad H locs ls hS hl
  exact lv_lstore_n hx hb hd hi hl hn rfl (fun ls2 hl2 => k ad H locs ls2 hS (xlset_ok2 (ad := ad) rfl hL rfl hl2))
theorem g_lstore (hX : xOK X own cc nL lv kc ks) {i : Nat} {x : Int64} {L' : List (Nat × Value)} (hd : decode cc pc = .ok (.lstore i, 2)) (hn : i + 1 < nL) (hL : xlset L i (.long x) = L') (k : G X n cs sl I R (pc + 2) L' st) : G X n cs sl I R pc L (.long x :: st) := by
  obtain ⟨⟨p, l, e, Rm, s, m, args, below, meth, c⟩, Q, D, cy, A, B, n0, nL'⟩ := X
  obtain ⟨hx, hb, hml, rfl, hown, hts, hK, hA, hE, -⟩ := hX
  intro ad H locs ls hS hl
  exact lv_lstore hx hb hd hl hn rfl (fun ls2 hl2 => k ad H locs ls2 hS (xlset_ok2 (ad := ad) rfl hL rfl hl2))
theorem g_iinc (hX : xOK X own cc nL lv kc ks) {i : Nat} {z : Int} {x v : Int32} {L' : List (Nat × Value)} (hd : decode cc pc = .ok (.iinc i z, 3)) (hn : i < nL) (j : Nat) (hj : L[j]? = some (i, .int x)) (hv : x + Int32.ofInt z = v) (hL : xlset L i (.int v) = L') (k : G X n cs sl I R (pc + 3) L' st) : G X n cs sl I R pc L st := by
  obtain ⟨⟨p, l, e, Rm, s, m, args, below, meth, c⟩, Q, D, cy, A, B, n0, nL'⟩ := X
  obtain ⟨hx, hb, hml, rfl, hown, hts, hK, hA, hE, -⟩ := hX
  intro ad H locs ls hS hl
  exact lv_iinc (k := j) hx hb hd hl (by rw [List.getElem?_map, hj]; rfl) hv hn rfl (fun ls2 hl2 => k ad H locs ls2 hS (xlset_ok (ad := ad) (v := .int v) rfl hL rfl hl2))
theorem g_tin (hX : xOK X own cc nL lv kc ks) {dflt lo hi : Int} {offs : Array Int} {len : Nat} {x : Int32} {off : Int} {tgt : Nat} (hd : decode cc pc = .ok (.tableswitch dflt lo hi offs, len)) (h1 : ¬ x.toInt < lo) (h2 : ¬ hi < x.toInt) (ho : offs[(x.toInt - lo).toNat]? = some off) (ht : (pc : Int) + off = (tgt : Int)) (k : G X n cs sl I R tgt L st) : G X n cs sl I R pc L (.int x :: st) := G_pure hX (fun ad hx hb _ _ q => lv_tableIn hx hb hd h1 h2 ho ht q) k
theorem g_tout (hX : xOK X own cc nL lv kc ks) {dflt lo hi : Int} {offs : Array Int} {len : Nat} {x : Int32} {tgt : Nat} (hd : decode cc pc = .ok (.tableswitch dflt lo hi offs, len)) (h : x.toInt < lo ∨ hi < x.toInt) (ht : (pc : Int) + dflt = (tgt : Int)) (k : G X n cs sl I R tgt L st) : G X n cs sl I R pc L (.int x :: st) := G_pure hX (fun ad hx hb _ _ q => lv_tableOut hx hb hd h ht q) k
end
end
section
/-- what is known of an own kind of objects -/
def xCl (c : Nat) (C : String) (T : u_T) (N : Nat) (ty : Nat → FieldType) : Prop :=
  vwCl[c]? = some (C, T, N) ∧ c < 7 ∧ xnf c = N ∧ (∀ w ∈ u_ws C T N, w ∈ xgw) ∧ (∀ k, k < N → parseFieldDescriptor (T k).2.2.1 = some (ty k)) ∧ (∀ a, a < N → ∀ b, b < N → a ≠ b → (T a).2.1 ≠ (T b).2.1) ∧ (∀ k, k < N → (T k).1 = C)
theorem xin_of {ws : List Cond} (h1 : ∀ w ∈ ws, w ∈ lw_tbl) (h2 : ws.all goodWord = true) : ∀ w ∈ ws, w ∈ xgw := fun w h => xgw_in (h1 w h) (List.all_eq_true.mp h2 w h)
theorem xCl0 : xCl 0 RX0 TX0 15 tyX0 := ⟨rfl, by decide, rfl, xin_of (by decide +kernel) (by decide +kernel), tyX0_ok, nmX0, by decide +kernel⟩
theorem xCl1 : xCl 1 RX1 TX1 8 tyX1 := ⟨rfl, by decide, rfl, xin_of (by decide +kernel) (by decide +kernel), tyX1_ok, nmX1, by decide +kernel⟩
theorem xCl2 : xCl 2 RX2 TX2 4 tyX2 := ⟨rfl, by decide, rfl, xin_of (by decide +kernel) (by decide +kernel), tyX2_ok, nmX2, by decide +kernel⟩
theorem xCl3 : xCl 3 RX3 TX3 1 tyX3 := ⟨rfl, by decide, rfl, xin_of (by decide +kernel) (by decide +kernel), tyX3_ok, nmX3, by decide +kernel⟩
theorem xCl4 : xCl 4 RX4 TX4 2 tyX4 := ⟨rfl, by decide, rfl, xin_of (by decide +kernel) (by decide +kernel), tyX4_ok, nmX4, by decide +kernel⟩
theorem xCl5 : xCl 5 RX5 TX5 14 tyX5 := ⟨rfl, by decide, rfl, xin_of (by decide +kernel) (by decide +kernel), tyX5_ok, nmX5, by decide +kernel⟩
theorem xCl6 : xCl 6 RX6 TX6 25 tyX6 := ⟨rfl, by decide, rfl, xin_of (by decide +kernel) (by decide +kernel), tyX6_ok, nmX6, by decide +kernel⟩
/-- a link to a field, to a method -/
def xLk (own : String) (index : Nat) (T : u_T) (k : Nat) : Prop := Cond.fieldLink own index (T k).1 (T k).2.1 (T k).2.2.1 ∈ xgw ∨ ∃ host, Cond.fieldLinkNest own index (T k).1 (T k).2.1 (T k).2.2.1 host ∈ xnw
def xLm (own : String) (index : Nat) (y : MethodName) : Prop := Cond.methodLink own index y ∈ xgw ∨ ∃ host, Cond.methodLinkNest own index y host ∈ xnw
def xMt (y : MethodName) (b : ByteArray) (maxL : Nat) (ret : Option FieldType) (np : Nat) : Prop :=
  Cond.code y b maxL ret ∈ xgw ∧ Cond.initialized y.cls ∈ xgw ∧ (y.cls ≠ "java/lang/invoke/MethodHandle" ∧ y.cls ≠ "java/lang/invoke/VarHandle" ∧ (parseMethodDescriptor y.desc).map (fun d => d.parameters.length) = some np) ∧ maxL ≤ 45
def xMv (y : MethodName) : Prop := Cond.instanceMethod y ∈ xgw ∧ Cond.selects y.cls y y ∈ xgw
theorem xN1_le : ∀ i, i < 47 → xN1.getD i 0 ≤ 1776 := by decide +kernel
theorem xN2_le : ∀ i, i < 10 → xN2.getD i 0 ≤ 1776 := by decide +kernel
theorem xN3_le : ∀ i, i < 12 → xN3.getD i 0 ≤ 1776 := by decide +kernel
theorem xN_le (i : Nat) : xN i ≤ 1776 := by
  unfold xN
  split
  · exact xN1_le i (by omega)
  · split
    · exact xN2_le _ (Nat.mod_lt _ (by decide))
    · by_cases h : i - 307 < 12
      · exact xN3_le _ h
      · rw [List.getD_eq_getElem?_getD, List.getElem?_eq_none (by simp [xN3]; omega)]; simp
theorem xN_lt (i : Nat) : xN i < 2 ^ 31 := Nat.lt_of_le_of_lt (xN_le i) (by decide)
theorem xput_ne {I : xM} {i k j : Nat} {v : Int32} (h : j ≠ i) : xput I i k v j = I j := va_up_ne _ _ h
theorem xput_self {I : xM} {i k : Nat} {v : Int32} : xput I i k v i = upd (I i) k v := va_up_self _ _ _
theorem xputR_ne {R : xR} {i k j : Nat} {v : Option Nat} (h : j ≠ i) : xputR R i k v j = R j := va_up_ne _ _ h
theorem xputR_self {R : xR} {i k : Nat} {v : Option Nat} : xputR R i k v i = va_up (R i) k v := va_up_self _ _ _
theorem xws_putI {cy : Nat → ClassId} {ad : Nat → Nat} {I : xM} {R : xR} {n i c k : Nat} {v : Int32} (hn : i < n) (hc : xK i = c) (h7 : c < 7) (hk : k < xnf c) (hir : xir c k = false) :
    (xws cy ad I R n).set i (ad i, .inr (c, (xfs ad (I i) (R i) c).set k (.int v))) = xws cy ad (xput I i k v) R n := by
  refine xws_set hn (fun j hj => xput_ne hj) (fun _ _ => rfl) ?_
  rw [xe_obj hc h7, xput_self, xfs_set (f' := upd (I i) k v) (r' := R i) hk (fun j hj => by simp [upd, hj]) (fun _ _ => rfl) (by simp [xval, hir, upd])]
theorem xws_putR {cy : Nat → ClassId} {ad : Nat → Nat} {I : xM} {R : xR} {n i c k j : Nat} (hn : i < n) (hc : xK i = c) (h7 : c < 7) (hk : k < xnf c) (hir : xir c k = true) :
    (xws cy ad I R n).set i (ad i, .inr (c, (xfs ad (I i) (R i) c).set k (.ref (ad j)))) = xws cy ad I (xputR R i k (some j)) n := by
  refine xws_set hn (fun _ _ => rfl) (fun j hj => xputR_ne hj) ?_
  rw [xe_obj hc h7, xputR_self, xfs_set (f' := I i) (r' := va_up (R i) k (some j)) hk (fun _ _ => rfl) (fun j hj => va_up_ne _ _ hj) (by simp [xval, hir, va_up, xrf, va_rf])]
theorem xws_row {cy : Nat → ClassId} {ad : Nat → Nat} {I : xM} {R : xR} {n i c : Nat} {f : Nat → Int32} (hn : i < n) (hc : xK i = c) (h7 : ¬ c < 7) (h10 : c < 10) :
    (xws cy ad I R n).set i (ad i, .inl (cy c, xN i, .inl f)) = xws cy ad (xrow I i f) R n := by
  refine xws_set hn (fun j hj => va_up_ne _ _ hj) (fun _ _ => rfl) ?_
  rw [xe_arr hc h7 h10, xrow, va_up_self]
section
variable {X : xX} {own : String} {cc : ByteArray} {nL lv kc ks n cs sl pc : Nat} {I : xM} {R : xR} {L : List (Nat × Value)} {st : List Value}
theorem g_getI (hX : xOK X own cc nL lv kc ks) {i c N index : Nat} {C : String} {T : u_T} {ty : Nat → FieldType} {v : Int32} (hn : i < n) (hc : xK i = c) (hC : xCl c C T N ty) (k : Nat) (hk : k < N) (hir : xir c k = false) (hlk : xLk own index T k) (hd : decode cc pc = .ok (.getfield index, 3)) (hv : I i k = v)
    (kk : G X n cs sl I R (pc + 3) L (.int v :: st)) : G X n cs sl I R pc L (.ref i :: st) := by
  obtain ⟨⟨p, l, e, Rm, s, m, args, below, meth, c'⟩, Q, D, cy, A, B, n0, nL'⟩ := X
  obtain ⟨hx, hb, hml, hnl, hown, hts, hK, hA, hE, -⟩ := hX
  obtain ⟨q1, q2, q3, q4, q5, q6, q7⟩ := hC
  intro ad H locs ls hS hl
  have he : (xws cy ad I R n)[i]? = some (ad i, .inr (c, xfs ad (I i) (R i) c)) := by rw [xws_get hn, xe_obj hc q2]
  have hv2 : (xfs ad (I i) (R i) c)[k]? = some (.int v) := by rw [xfs_get (by omega)]; simp [xval, hir, hv]
  rcases hlk with h | ⟨host, h⟩
  · exact va_get hx hb hts q4 hown hK hS.1 i he q1 k hk (hts _ h) (fun _ z => z) hv2 hd (kk ad H locs ls hS hl)
  · exact va_getN hx hb hts q4 hown hK hS.1 i he q1 k hk ((hE.1 _ h).use (by rfl)) (fun _ z => z) hv2 hd (kk ad H locs ls hS hl)
theorem g_getR (hX : xOK X own cc nL lv kc ks) {i c N index : Nat} {C : String} {T : u_T} {ty : Nat → FieldType} {j : Nat} (hn : i < n) (hc : xK i = c) (hC : xCl c C T N ty) (k : Nat) (hk : k < N) (hir : xir c k = true) (hlk : xLk own index T k) (hd : decode cc pc = .ok (.getfield index, 3)) (hv : R i k = some j)
    (kk : G X n cs sl I R (pc + 3) L (.ref j :: st)) : G X n cs sl I R pc L (.ref i :: st) := by
  obtain ⟨⟨p, l, e, Rm, s, m, args, below, meth, c'⟩, Q, D, cy, A, B, n0, nL'⟩ := X
  obtain ⟨hx, hb, hml, hnl, hown, hts, hK, hA, hE, -⟩ := hX
  obtain ⟨q1, q2, q3, q4, q5, q6, q7⟩ := hC
  intro ad H locs ls hS hl
  have he : (xws cy ad I R n)[i]? = some (ad i, .inr (c, xfs ad (I i) (R i) c)) := by rw [xws_get hn, xe_obj hc q2]
  have hv2 : (xfs ad (I i) (R i) c)[k]? = some (.ref (ad j)) := by rw [xfs_get (by omega)]; simp [xval, hir, hv, xrf, va_rf]
  rcases hlk with h | ⟨host, h⟩
  · exact va_get hx hb hts q4 hown hK hS.1 i he q1 k hk (hts _ h) (fun _ z => z) hv2 hd (kk ad H locs ls hS hl)
  · exact va_getN hx hb hts q4 hown hK hS.1 i he q1 k hk ((hE.1 _ h).use (by rfl)) (fun _ z => z) hv2 hd (kk ad H locs ls hS hl)
theorem g_putI (hX : xOK X own cc nL lv kc ks) {i c N index : Nat} {C : String} {T : u_T} {ty : Nat → FieldType} {v : Int32} (hn : i < n) (hc : xK i = c) (hC : xCl c C T N ty) (k : Nat) (hk : k < N) (hir : xir c k = false) (hfin : (T k).2.2.2 = false) (hlk : xLk own index T k) (hd : decode cc pc = .ok (.putfield index, 3)) (hf1 : narrow (ty k) (.int v) = .int v) (hf2 : fits (ty k) (.int v) = true)
    (kk : G X n cs sl (xput I i k v) R (pc + 3) L st) : G X n cs sl I R pc L (.int v :: .ref i :: st) := by
  obtain ⟨⟨p, l, e, Rm, s, m, args, below, meth, c'⟩, Q, D, cy, A, B, n0, nL'⟩ := X
  obtain ⟨hx, hb, hml, hnl, hown, hts, hK, hA, hE, -⟩ := hX
  obtain ⟨q1, q2, q3, q4, q5, q6, q7⟩ := hC
  intro ad H locs ls hS hl
  obtain ⟨hP, hD, hSS, hAg⟩ := hS
  have he : (xws cy ad I R n)[i]? = some (ad i, .inr (c, xfs ad (I i) (R i) c)) := by rw [xws_get hn, xe_obj hc q2]
  have hkk : ∀ (H1 : Heap) (locs1 : List Loc), va_P D vwCl ((xws cy ad I R n).set i (ad i, .inr (c, (xfs ad (I i) (R i) c).set k (.int v)))) H1 → va_D A ((xws cy ad I R n).set i (ad i, .inr (c, (xfs ad (I i) (R i) c).set k (.int v)))) → va_S A s.heap H1 locs1 → W p l e Rm s m args below meth c' H1 locs1 cs sl Q (F0 m (pc + 3) ls (st.map (xcv ad))) := by
    intro H1 locs1 h1 h2 h3
    rw [xws_putI hn hc q2 (by omega) hir] at h1 h2
    exact kk ad H1 locs1 ls ⟨h1, h2, h3, hAg⟩ hl
  rcases hlk with h | ⟨host, h⟩
  · exact va_put hx hb hts q4 ty q5 q6 hown hK hP hD hSS i he q1 k hk (hts _ h) (fun _ z => z) hfin (q5 k hk) hf1 hf2 (by rw [xfs_len]; omega) hd hkk
  · exact va_putN hx hb hts q4 ty q5 q6 hown hK hP hD hSS i he q1 k hk ((hE.1 _ h).use (by rfl)) (fun _ z => z) hfin (q5 k hk) hf1 hf2 (by rw [xfs_len]; omega) hd hkk
theorem g_putR (hX : xOK X own cc nL lv kc ks) {i c N index : Nat} {C : String} {T : u_T} {ty : Nat → FieldType} {j : Nat} (hn : i < n) (hc : xK i = c) (hC : xCl c C T N ty) (k : Nat) (hk : k < N) (hir : xir c k = true) (hfin : (T k).2.2.2 = false) (hlk : xLk own index T k) (hd : decode cc pc = .ok (.putfield index, 3)) (hf1 : ∀ a : Nat, narrow (ty k) (.ref a) = .ref a) (hf2 : ∀ a : Nat, fits (ty k) (.ref a) = true)
    (kk : G X n cs sl I (xputR R i k (some j)) (pc + 3) L st) : G X n cs sl I R pc L (.ref j :: .ref i :: st) := by
  obtain ⟨⟨p, l, e, Rm, s, m, args, below, meth, c'⟩, Q, D, cy, A, B, n0, nL'⟩ := X
  obtain ⟨hx, hb, hml, hnl, hown, hts, hK, hA, hE, -⟩ := hX
  obtain ⟨q1, q2, q3, q4, q5, q6, q7⟩ := hC
  intro ad H locs ls hS hl
  obtain ⟨hP, hD, hSS, hAg⟩ := hS
  have he : (xws cy ad I R n)[i]? = some (ad i, .inr (c, xfs ad (I i) (R i) c)) := by rw [xws_get hn, xe_obj hc q2]
  have hkk : ∀ (H1 : Heap) (locs1 : List Loc), va_P D vwCl ((xws cy ad I R n).set i (ad i, .inr (c, (xfs ad (I i) (R i) c).set k (.ref (ad j))))) H1 → va_D A ((xws cy ad I R n).set i (ad i, .inr (c, (xfs ad (I i) (R i) c).set k (.ref (ad j))))) → va_S A s.heap H1 locs1 → W p l e Rm s m args below meth c' H1 locs1 cs sl Q (F0 m (pc + 3) ls (st.map (xcv ad))) := by
    intro H1 locs1 h1 h2 h3
    rw [xws_putR hn hc q2 (by omega) hir] at h1 h2
    exact kk ad H1 locs1 ls ⟨h1, h2, h3, hAg⟩ hl
  rcases hlk with h | ⟨host, h⟩
  · exact va_put hx hb hts q4 ty q5 q6 hown hK hP hD hSS i he q1 k hk (hts _ h) (fun _ z => z) hfin (q5 k hk) (hf1 _) (hf2 _) (by rw [xfs_len]; omega) hd hkk
  · exact va_putN hx hb hts q4 ty q5 q6 hown hK hP hD hSS i he q1 k hk ((hE.1 _ h).use (by rfl)) (fun _ z => z) hfin (q5 k hk) (hf1 _) (hf2 _) (by rw [xfs_len]; omega) hd hkk
theorem xty_at (cy : Nat → ClassId) : (xty cy)[0]? = some (cy 7, .byte) ∧ (xty cy)[1]? = some (cy 8, .int) ∧ (xty cy)[2]? = some (cy 9, .boolean) ∧ (xty cy)[3]? = some (cy 10, .object RX0) ∧ (xty cy)[4]? = some (cy 11, .object RX2) := ⟨rfl, rfl, rfl, rfl, rfl⟩
theorem g_alen (hX : xOK X own cc nL lv kc ks) {a c : Nat} {v : Int32} (hn : a < n) (hc : xK a = c) (h7 : ¬ c < 7) (h10 : c < 10) (hd : decode cc pc = .ok (.arraylength, 1)) (hv : nI (xN a) = v)
    (kk : G X n cs sl I R (pc + 1) L (.int v :: st)) : G X n cs sl I R pc L (.ref a :: st) := by
  obtain ⟨⟨p, l, e, Rm, s, m, args, below, meth, c'⟩, Q, D, cy, A, B, n0, nL'⟩ := X
  obtain ⟨hx, hb, hml, hnl, hown, hts, hK, hA, hE, -⟩ := hX
  intro ad H locs ls hS hl
  have he : (xws cy ad I R n)[a]? = some (ad a, .inl (cy c, xN a, .inl (I a))) := by rw [xws_get hn, xe_arr hc h7 h10]
  rcases (show c = 7 ∨ c = 8 ∨ c = 9 by omega) with rfl | rfl | rfl
  · exact va_alen hx hb hK hS.1 a 0 he (xty_at cy).1 hv hd (kk ad H locs ls hS hl)
  · exact va_alen hx hb hK hS.1 a 1 he (xty_at cy).2.1 hv hd (kk ad H locs ls hS hl)
  · exact va_alen hx hb hK hS.1 a 2 he (xty_at cy).2.2.1 hv hd (kk ad H locs ls hS hl)
theorem g_iald (hX : xOK X own cc nL lv kc ks) {a : Nat} {i v : Int32} (hn : a < n) (hc : xK a = 8) (k : Nat) (hi : i = nI k) (hk : k < xN a) (hd : decode cc pc = .ok (.iaload, 1)) (hv : I a k = v)
    (kk : G X n cs sl I R (pc + 1) L (.int v :: st)) : G X n cs sl I R pc L (.int i :: .ref a :: st) := by
  obtain ⟨⟨p, l, e, Rm, s, m, args, below, meth, c'⟩, Q, D, cy, A, B, n0, nL'⟩ := X
  obtain ⟨hx, hb, hml, hnl, hown, hts, hK, hA, hE, -⟩ := hX
  intro ad H locs ls hS hl
  have he : (xws cy ad I R n)[a]? = some (ad a, .inl (cy 8, xN a, .inl (I a))) := by rw [xws_get hn, xe_arr hc (by decide) (by decide)]
  subst hi; subst hv
  have w := kk ad H locs ls hS hl
  refine va_iald hx hb hK hS.1 a 1 he (xty_at cy).2.1 (vp_in_nI hk (xN_lt a)) hd ?_
  rw [nI_clamp (Nat.lt_trans hk (xN_lt a))]
  exact w
theorem g_bald (hX : xOK X own cc nL lv kc ks) {a : Nat} {i v : Int32} (hn : a < n) (hc : xK a = 7) (k : Nat) (hi : i = nI k) (hk : k < xN a) (hd : decode cc pc = .ok (.baload, 1)) (hv : I a k = v)
    (kk : G X n cs sl I R (pc + 1) L (.int v :: st)) : G X n cs sl I R pc L (.int i :: .ref a :: st) := by
  obtain ⟨⟨p, l, e, Rm, s, m, args, below, meth, c'⟩, Q, D, cy, A, B, n0, nL'⟩ := X
  obtain ⟨hx, hb, hml, hnl, hown, hts, hK, hA, hE, -⟩ := hX
  intro ad H locs ls hS hl
  have he : (xws cy ad I R n)[a]? = some (ad a, .inl (cy 7, xN a, .inl (I a))) := by rw [xws_get hn, xe_arr hc (by decide) (by decide)]
  subst hi; subst hv
  have w := kk ad H locs ls hS hl
  refine va_bald hx hb hK hS.1 a 0 he (xty_at cy).1 (vp_in_nI hk (xN_lt a)) hd ?_
  rw [nI_clamp (Nat.lt_trans hk (xN_lt a))]
  exact w
theorem g_zald (hX : xOK X own cc nL lv kc ks) {a : Nat} {i v : Int32} (hn : a < n) (hc : xK a = 9) (k : Nat) (hi : i = nI k) (hk : k < xN a) (hd : decode cc pc = .ok (.baload, 1)) (hv : I a k = v)
    (kk : G X n cs sl I R (pc + 1) L (.int v :: st)) : G X n cs sl I R pc L (.int i :: .ref a :: st) := by
  obtain ⟨⟨p, l, e, Rm, s, m, args, below, meth, c'⟩, Q, D, cy, A, B, n0, nL'⟩ := X
  obtain ⟨hx, hb, hml, hnl, hown, hts, hK, hA, hE, -⟩ := hX
  intro ad H locs ls hS hl
  have he : (xws cy ad I R n)[a]? = some (ad a, .inl (cy 9, xN a, .inl (I a))) := by rw [xws_get hn, xe_arr hc (by decide) (by decide)]
  subst hi; subst hv
  have w := kk ad H locs ls hS hl
  refine va_zald hx hb hK hS.1 a 2 he (xty_at cy).2.2.1 (vp_in_nI hk (xN_lt a)) hd ?_
  rw [nI_clamp (Nat.lt_trans hk (xN_lt a))]
  exact w
theorem g_iast (hX : xOK X own cc nL lv kc ks) {a : Nat} {i v : Int32} (hn : a < n) (hc : xK a = 8) (k : Nat) (hi : i = nI k) (hk : k < xN a) (hd : decode cc pc = .ok (.iastore, 1))
    (kk : G X n cs sl (xput I a k v) R (pc + 1) L st) : G X n cs sl I R pc L (.int v :: .int i :: .ref a :: st) := by
  obtain ⟨⟨p, l, e, Rm, s, m, args, below, meth, c'⟩, Q, D, cy, A, B, n0, nL'⟩ := X
  obtain ⟨hx, hb, hml, hnl, hown, hts, hK, hA, hE, -⟩ := hX
  intro ad H locs ls hS hl
  obtain ⟨hP, hD, hSS, hAg⟩ := hS
  have he : (xws cy ad I R n)[a]? = some (ad a, .inl (cy 8, xN a, .inl (I a))) := by rw [xws_get hn, xe_arr hc (by decide) (by decide)]
  subst hi
  refine va_iast hx hb hK hP hD hSS a 1 he (xty_at cy).2.1 (vp_in_nI hk (xN_lt a)) hd (fun H1 locs1 h1 h2 h3 => ?_)
  rw [nI_clamp (Nat.lt_trans hk (xN_lt a)), xws_row hn hc (by decide) (by decide)] at h1 h2
  exact kk ad H1 locs1 ls ⟨h1, h2, h3, hAg⟩ hl
theorem g_bast (hX : xOK X own cc nL lv kc ks) {a : Nat} {i v : Int32} (hn : a < n) (hc : xK a = 7) (k : Nat) (hi : i = nI k) (hk : k < xN a) (hd : decode cc pc = .ok (.bastore, 1))
    (kk : G X n cs sl (xput I a k v.toInt8.toInt32) R (pc + 1) L st) : G X n cs sl I R pc L (.int v :: .int i :: .ref a :: st) := by
  obtain ⟨⟨p, l, e, Rm, s, m, args, below, meth, c'⟩, Q, D, cy, A, B, n0, nL'⟩ := X
  obtain ⟨hx, hb, hml, hnl, hown, hts, hK, hA, hE, -⟩ := hX
  intro ad H locs ls hS hl
  obtain ⟨hP, hD, hSS, hAg⟩ := hS
  have he : (xws cy ad I R n)[a]? = some (ad a, .inl (cy 7, xN a, .inl (I a))) := by rw [xws_get hn, xe_arr hc (by decide) (by decide)]
  subst hi
  refine va_bast hx hb hK hP hD hSS a 0 he (xty_at cy).1 (vp_in_nI hk (xN_lt a)) hd (fun H1 locs1 h1 h2 h3 => ?_)
  rw [nI_clamp (Nat.lt_trans hk (xN_lt a)), xws_row hn hc (by decide) (by decide), vp_nar_byte] at h1 h2
  exact kk ad H1 locs1 ls ⟨h1, h2, h3, hAg⟩ hl
theorem g_zast (hX : xOK X own cc nL lv kc ks) {a : Nat} {i v : Int32} (hn : a < n) (hc : xK a = 9) (k : Nat) (hi : i = nI k) (hk : k < xN a) (hd : decode cc pc = .ok (.bastore, 1)) (hv : vp_nar .boolean v = v)
    (kk : G X n cs sl (xput I a k v) R (pc + 1) L st) : G X n cs sl I R pc L (.int v :: .int i :: .ref a :: st) := by
  obtain ⟨⟨p, l, e, Rm, s, m, args, below, meth, c'⟩, Q, D, cy, A, B, n0, nL'⟩ := X
  obtain ⟨hx, hb, hml, hnl, hown, hts, hK, hA, hE, -⟩ := hX
  intro ad H locs ls hS hl
  obtain ⟨hP, hD, hSS, hAg⟩ := hS
  have he : (xws cy ad I R n)[a]? = some (ad a, .inl (cy 9, xN a, .inl (I a))) := by rw [xws_get hn, xe_arr hc (by decide) (by decide)]
  subst hi
  refine va_zast hx hb hK hP hD hSS a 2 he (xty_at cy).2.2.1 (vp_in_nI hk (xN_lt a)) hd (fun H1 locs1 h1 h2 h3 => ?_)
  rw [nI_clamp (Nat.lt_trans hk (xN_lt a)), xws_row hn hc (by decide) (by decide), hv] at h1 h2
  exact kk ad H1 locs1 ls ⟨h1, h2, h3, hAg⟩ hl
theorem g_aald (hX : xOK X own cc nL lv kc ks) {a c j : Nat} {i : Int32} (hn : a < n) (hc : xK a = c) (h10 : c = 10 ∨ c = 11) (k : Nat) (hi : i = nI k) (hk : k < xN a) (hd : decode cc pc = .ok (.aaload, 1)) (hv : R a k = some j)
    (kk : G X n cs sl I R (pc + 1) L (.ref j :: st)) : G X n cs sl I R pc L (.int i :: .ref a :: st) := by
  obtain ⟨⟨p, l, e, Rm, s, m, args, below, meth, c'⟩, Q, D, cy, A, B, n0, nL'⟩ := X
  obtain ⟨hx, hb, hml, hnl, hown, hts, hK, hA, hE, -⟩ := hX
  intro ad H locs ls hS hl
  have he : (xws cy ad I R n)[a]? = some (ad a, .inl (cy c, xN a, .inr (.inr (.inr (.inr (fun k => (R a k).map ad)))))) := by rw [xws_get hn, xe_arq hc (by omega)]
  subst hi
  have w := kk ad H locs ls hS hl
  have e2 : va_rf ((fun k => (R a k).map ad) (nI k).toNatClampNeg) = .ref (ad j) := by
    rw [nI_clamp (Nat.lt_trans hk (xN_lt a))]
    simp [hv, va_rf]
  rcases h10 with rfl | rfl
  · refine va_aldq hx hb hK hS.1 a 3 he (xty_at cy).2.2.2.1 (vp_in_nI hk (xN_lt a)) hd ?_
    rw [e2]
    exact w
  · refine va_aldq hx hb hK hS.1 a 4 he (xty_at cy).2.2.2.2 (vp_in_nI hk (xN_lt a)) hd ?_
    rw [e2]
    exact w
end
end
section
/-! CONTRACTS: from this memory the method comes back with an answer and a memory that the post names -/
abbrev xP : Type := Option Value → Nat → xM → xR → Prop
def xrm (lv mc ms : Nat) : Room := { frames := lv, cells := mc, slots := ms, locals := 64 * lv }
def xPre (D : va_G) (cy : Nat → ClassId) (ad : Nat → Nat) (n : Nat) (I : xM) (R : xR) (sz : Nat) : State → Prop := fun U =>
  U.heap.size = sz ∧ va_P D vwCl (xws cy ad I R n) U.heap ∧ va_K D vwCl (xty cy) U ∧ va_D (fun _ => True) (xws cy ad I R n) ∧ xE ad (va_A (xws cy ad I R n) sz) U U.heap
def xQ (D : va_G) (cy : Nat → ClassId) (A : Nat → Prop) (n : Nat) (ad : Nat → Nat) (Post : xP) : Array Value → State → Outcome → State → Prop := fun _ s o t =>
  (∃ (v : Option Value) (ad' : Nat → Nat) (n' : Nat) (I' : xM) (R' : xR), o = .returned (v.map (xcv ad')) ∧ Post v n' I' R' ∧ va_P D vwCl (xws cy ad' I' R' n') t.heap ∧ va_D A (xws cy ad' I' R' n') ∧ xAg ad n n' ad') ∧ va_F A s t
def xC (l : Launch) (lv mc ms : Nat) (y : MethodName) (b : ByteArray) (maxL : Nat) (ret : Option FieldType) (n : Nat) (vs : List Value) (I : xM) (R : xR) (Post : xP) : Prop :=
  ∀ (D : va_G) (cy : Nat → ClassId) (ad : Nat → Nat) (sz : Nat), Met l y (Cond.code y b maxL ret :: xgw) (xrm lv mc ms) (va_Pc (vs.map (xcv ad)) (xPre D cy ad n I R sz)) (xQ D cy (va_A (xws cy ad I R n) sz) n ad Post) mc ms (va_A (xws cy ad I R n) sz)
def xRt (X : xX) (y : MethodName) (ret : Option FieldType) (n : Nat) (Post : xP) (mc ms : Nat) : Prop :=
  match X with
  | ((_, _, _, _, s, _, args, below, meth, _), (Q, D, cy, A, B, n0, _)) =>
    meth.sig.returnType = ret ∧ meth.locks = false ∧ meth.name = y.name ∧ n0 = n ∧ Q = MQ below (xQ D cy A n B Post) args s mc ms A
theorem xC_of {l : Launch} {lv mc ms : Nat} {y : MethodName} {b : ByteArray} {maxL : Nat} {ret : Option FieldType} {n : Nat} {vs : List Value} {I : xM} {R : xR} {Post : xP} (hy : plainName y.cls = true) (hlen : (lg_sl vs).length ≤ maxL)
    (body : ∀ X : xX, X.1.2.1 = l → xOK X y.cls b maxL lv mc ms → xRt X y ret n Post mc ms → G X n 0 0 I R 0 (lv_args 0 vs) []) : xC l lv mc ms y b maxL ret n vs I R Post := by
  intro D cy ad sz
  refine Met.ofW (cc := b) (maxL := maxL) (ret := ret) hy rfl ?_
  intro p e s m args below meth c s₁ B hml hv
  obtain ⟨rfl, hsz, hP, hK, hD0, hE⟩ := hv
  have hts := atoms_spec (ws := Cond.code y b maxL ret :: xgw) B.pre
  have hown : s.vm.findClass y.cls = some m.cls := findClass_of_methodNamed B.named
  have hin : meth.name = y.name := (name_of_methodNamed B.named B.method).1
  subst hsz
  have hD := hD0.self (sz := s.heap.size)
  have hA : ∀ q : Nat, s.heap.size ≤ q → va_A (xws cy ad I R n) s.heap.size q := fun q h => Or.inr h
  have hl := lv_entry (vs.map (xcv ad)) (n := maxL) (by rw [xcv_sl]; exact hlen)
  rw [xcl_args] at hl
  rw [lg_entry_eq]
  exact body ((p, l, e, (headSpec (Cond.code y b maxL ret :: xgw) (xrm lv mc ms)).room, s, m, (vs.map (xcv ad)).toArray, below, meth, c), (MQ below (xQ D cy (va_A (xws cy ad I R n) s.heap.size) n ad Post) (vs.map (xcv ad)).toArray s mc ms (va_A (xws cy ad I R n) s.heap.size), D, cy, va_A (xws cy ad I R n) s.heap.size, ad, n, maxL)) rfl
    ⟨B.exec, B.bytes, hml, rfl, hown, fun w h => hts w (List.mem_cons_of_mem _ h), hK, hA, hE, Nat.le_refl lv, Nat.le_refl (64 * lv), Nat.le_refl mc, Nat.le_refl ms⟩
    ⟨B.returns, B.notSynchronized, hin, rfl, rfl⟩ ad s.heap [] _ ⟨hP, hD, va_S.rf, Nat.le_refl _, fun _ _ => rfl, fun _ => rfl⟩ hl
section
variable {X : xX} {own : String} {cc : ByteArray} {nL lv kc ks n cs sl pc : Nat} {I : xM} {R : xR} {L : List (Nat × Value)} {st : List Value}
variable {y : MethodName} {n0 mc ms : Nat} {Post : xP}
theorem g_iret (hX : xOK X own cc nL lv kc ks) (hR : xRt X y (some .int) n0 Post mc ms) {v : Int32} (hd : decode cc pc = .ok (.ireturn, 1)) (h1 : cs ≤ mc) (h2 : sl ≤ ms) (hp : Post (some (.int v)) n I R) : G X n cs sl I R pc L [.int v] := by
  obtain ⟨⟨p, l, e, Rm, s, m, args, below, meth, c'⟩, Q, D, cy, A, B, n0', nL'⟩ := X
  obtain ⟨hx, hb, hml, hnl, hown, hts, hK, hA, hE, -⟩ := hX
  obtain ⟨hr, hlocks, hin, rfl, rfl⟩ := hR
  intro ad H locs ls hS hl
  refine W.widen h1 h2 ?_
  exact W.iret hx hb hr (fun t ht hW => ⟨⟨some (.int v), ad, n, I, R, rfl, hp, by rw [ht]; exact hS.1, hS.2.1, hS.2.2.2⟩, hS.2.2.1.F ht⟩) hS.2.2.1.2.2 hd
theorem g_zret (hX : xOK X own cc nL lv kc ks) {ty : FieldType} (hR : xRt X y (some ty) n0 Post mc ms) {v : Int32} (hd : decode cc pc = .ok (.ireturn, 1)) (hn : narrow ty (.int v) = .int v) (h1 : cs ≤ mc) (h2 : sl ≤ ms) (hp : Post (some (.int v)) n I R) : G X n cs sl I R pc L [.int v] := by
  obtain ⟨⟨p, l, e, Rm, s, m, args, below, meth, c'⟩, Q, D, cy, A, B, n0', nL'⟩ := X
  obtain ⟨hx, hb, hml, hnl, hown, hts, hK, hA, hE, -⟩ := hX
  obtain ⟨hr, hlocks, hin, rfl, rfl⟩ := hR
  intro ad H locs ls hS hl
  refine W.widen h1 h2 ?_
  exact W.zret hx hb hr hn (fun t ht hW => ⟨⟨some (.int v), ad, n, I, R, rfl, hp, by rw [ht]; exact hS.1, hS.2.1, hS.2.2.2⟩, hS.2.2.1.F ht⟩) hS.2.2.1.2.2 hd
theorem g_lret (hX : xOK X own cc nL lv kc ks) (hR : xRt X y (some .long) n0 Post mc ms) {v : Int64} (hd : decode cc pc = .ok (.lreturn, 1)) (h1 : cs ≤ mc) (h2 : sl ≤ ms) (hp : Post (some (.long v)) n I R) : G X n cs sl I R pc L [.long v] := by
  obtain ⟨⟨p, l, e, Rm, s, m, args, below, meth, c'⟩, Q, D, cy, A, B, n0', nL'⟩ := X
  obtain ⟨hx, hb, hml, hnl, hown, hts, hK, hA, hE, -⟩ := hX
  obtain ⟨hr, hlocks, hin, rfl, rfl⟩ := hR
  intro ad H locs ls hS hl
  refine W.widen h1 h2 ?_
  exact W.lret hx hb hr (fun t ht hW => ⟨⟨some (.long v), ad, n, I, R, rfl, hp, by rw [ht]; exact hS.1, hS.2.1, hS.2.2.2⟩, hS.2.2.1.F ht⟩) hS.2.2.1.2.2 hd
theorem g_vret (hX : xOK X own cc nL lv kc ks) (hR : xRt X y none n0 Post mc ms) (hd : decode cc pc = .ok (.return_, 1)) (h1 : cs ≤ mc) (h2 : sl ≤ ms) (hp : Post none n I R) : G X n cs sl I R pc L [] := by
  obtain ⟨⟨p, l, e, Rm, s, m, args, below, meth, c'⟩, Q, D, cy, A, B, n0', nL'⟩ := X
  obtain ⟨hx, hb, hml, hnl, hown, hts, hK, hA, hE, -⟩ := hX
  obtain ⟨hr, hlocks, hin, rfl, rfl⟩ := hR
  intro ad H locs ls hS hl
  refine W.widen h1 h2 ?_
  exact W.vret hx hb hr (fun t ht hW => ⟨⟨none, ad, n, I, R, rfl, hp, by rw [ht]; exact hS.1, hS.2.1, hS.2.2.2⟩, hS.2.2.1.F ht⟩) hS.2.2.1.2.2 hd
end
/-- what a call leaves, for any kind of answer -/
theorem x_call {p : Program} {l : Launch} {e : Env} {Rm : Room} {s : State} {m : MethodId} {args : Array Value} {below : List Frame} {meth : Method} {c : Code} {H : Heap} {locs : List Loc} {cs sl mc ms pc n : Nat} {Q : State → Prop} {ls : Array Slot} {rest st0 : List Value} {a : Array Value} {A0 A1 free : Nat → Prop} {H0 : Heap}
    {D : va_G} {cy : Nat → ClassId} {ad : Nat → Nat} {Post : xP}
    (hr : va_Run p l e Rm s m args below meth c H locs cs sl mc ms (F0 m pc ls st0) rest (xQ D cy A1 n ad Post a) free) (hS : va_S A0 H0 H locs) (hA : ∀ q, q < H.size → A1 q → A0 q) (hf : ∀ q, free q → A0 q)
    (kk : ∀ (v : Option Value) (ad' : Nat → Nat) (n' : Nat) (I' : xM) (R' : xR) (H1 : Heap) (locs1 : List Loc), Post v n' I' R' → va_P D vwCl (xws cy ad' I' R' n') H1 → va_D A1 (xws cy ad' I' R' n') → xAg ad n n' ad' → H.size ≤ H1.size → va_S A0 H0 H1 locs1 → W p l e Rm s m args below meth c H1 locs1 (cs + mc) (sl + ms) Q (F0 m (pc + 3) ls ((v.map (xcv ad')).toList ++ rest))) : W p l e Rm s m args below meth c H locs cs sl Q (F0 m pc ls st0) := by
  intro T hT X
  obtain ⟨v, st₀, t, T', L, h0, X', hL, e1, e2, ⟨⟨v', ad', n', I', R', hv, hp, hP, hD, hag⟩, hz, hk⟩, st⟩ := hr T hT X
  cases hv
  rw [h0] at hz hk
  obtain ⟨t2, a1, b1⟩ := kk v' ad' n' I' R' T'.heap (locs ++ L) hp (by rw [e1]; exact hP) hD hag (by rw [e1]; exact hz)
    ⟨Nat.le_trans hS.1 (by rw [e1]; exact hz), fun q h1 h2 => by rw [e1, hk q (Nat.lt_of_lt_of_le h1 hS.1) (fun z => h2 (hA q (Nat.lt_of_lt_of_le h1 hS.1) z))]; exact hS.2.1 q h1 h2, fun q hq => by
      rcases List.mem_append.mp hq with h | h
      · exact hS.2.2 q h
      · exact hf _ (hL q h)⟩ T' rfl X'
  exact ⟨t2, st t2 a1, b1⟩
theorem xgood_self {y : MethodName} {b : ByteArray} {maxL : Nat} {ret : Option FieldType} (h : Cond.code y b maxL ret ∈ xgw) : GoodIn xgw (Cond.code y b maxL ret :: xgw) := fun w hw => by
  rcases List.mem_cons.mp hw with rfl | hw
  · exact ⟨h, xgw_good h⟩
  · exact ⟨hw, xgw_good hw⟩
/-- the part of the world that a callee may write is the caller's -/
theorem xA_free {A0 : Nat → Prop} {cy : Nat → ClassId} {ad : Nat → Nat} {I : xM} {R : xR} {n : Nat} {H0 H : Heap} {locs : List Loc} (hD : va_D A0 (xws cy ad I R n)) (hS : va_S A0 H0 H locs) (hA : ∀ q, H0.size ≤ q → A0 q) : ∀ q, va_A (xws cy ad I R n) H.size q → A0 q := by
  intro q h
  rcases h with ⟨k, e, hk⟩ | h
  · exact hD.2 k _ hk
  · exact hA q (Nat.le_trans hS.1 h)
theorem xPre_of {D : va_G} {cy : Nat → ClassId} {ad : Nat → Nat} {n : Nat} {I : xM} {R : xR} {B : Nat → Nat} {n0 : Nat} {A : Nat → Prop} {s U : State} {H : Heap} {locs : List Loc} (hK : va_K D vwCl (xty cy) s) (hE : xE B A s s.heap) (hA : ∀ q, s.heap.size ≤ q → A q) (hS : xSt D cy A B n0 s.heap n ad I R H locs) (hU : U.heap = H) (hW : s.WarmedH U.vm) : xPre D cy ad n I R H.size U := by
  obtain ⟨hP, hD, hSS, hAg⟩ := hS
  refine ⟨by rw [hU], by rw [hU]; exact hP, va_K.moved hW.alike hK, hD.weaken (fun _ _ _ _ => trivial), ?_⟩
  rw [hU]
  exact (((hE.warm hW).kept hSS.2.1).narrow (xA_free hD hSS hA)).base (fun i hi => hAg.2.1 i (Or.inr hi))
theorem xPre_blind {D : va_G} {cy : Nat → ClassId} {ad : Nat → Nat} {n : Nat} {I : xM} {R : xR} {sz : Nat} {vs : List Value} : FrameBlind (va_Pc vs (xPre D cy ad n I R sz)) := by
  intro a U g mk q
  obtain ⟨q0, q1, qP, qK, qD, qE⟩ := q
  exact ⟨q0, q1, qP, va_K.moved (u := U) (U := U.calling g mk a) (Vm.Alike.refl U.vm) qK, qD, (show xE ad (va_A (xws cy ad I R n) sz) (U.calling g mk a) U.heap from xE.same (s := U) (show U.vm = (U.calling g mk a).vm from rfl) qE)⟩
/-- a reference that stands for an object made already -/
def xvok (n : Nat) (v : Value) : Prop := match v with
  | .ref i => i < n ∨ 1000000 ≤ i
  | _ => True
theorem xcv_same {ad ad' : Nat → Nat} {n : Nat} {v : Value} (h : xvok n v) (hag : ∀ i, (i < n ∨ 1000000 ≤ i) → ad' i = ad i) : xcv ad' v = xcv ad v := by
  cases v <;> simp only [xcv]
  rw [hag _ h]
theorem xcv_map {ad ad' : Nat → Nat} {n : Nat} {st : List Value} (h : ∀ v ∈ st, xvok n v) (hag : ∀ i, (i < n ∨ 1000000 ≤ i) → ad' i = ad i) : st.map (xcv ad') = st.map (xcv ad) := List.map_congr_left fun v hv => xcv_same (h v hv) hag
theorem xcl_map {ad ad' : Nat → Nat} {n : Nat} {L : List (Nat × Value)} (h : ∀ q ∈ L, xvok n q.2) (hag : ∀ i, (i < n ∨ 1000000 ≤ i) → ad' i = ad i) : L.map (xcl ad') = L.map (xcl ad) := List.map_congr_left fun q hq => by unfold xcl; rw [xcv_same (h q hq) hag]
section
variable {X : xX} {own : String} {cc : ByteArray} {nL lv kc ks n cs sl pc : Nat} {I : xM} {R : xR} {L : List (Nat × Value)} {st stk : List Value}
variable {y : MethodName} {b : ByteArray} {maxL lvc mc ms np index : Nat} {ret : Option FieldType} {Post : xP} {as : List Value}
theorem xcb (hX : xOK X own cc nL lv kc ks) (hy : xMt y b maxL ret np) (hl : Cond.methodLink own index y ∈ xgw) (hlv : lvc + 1 ≤ lv) : CallB X.1.2.2.2.1 X.1.2.2.2.2.1 X.1.2.2.2.2.2.2.1 own index y b maxL ret (Cond.code y b maxL ret :: xgw) (xrm lvc mc ms) mc ms np := by
  obtain ⟨⟨p, l, e, Rm, s, m, args, below, meth, c⟩, Q, D, cy, A, B, n0, nL'⟩ := X
  obtain ⟨hx, hb, hml, hnl, hown, hts, hK, hA, hE, hfr, hlo, hce, hsl⟩ := hX
  obtain ⟨h1, h2, h3, h4⟩ := hy
  exact callB_of np hts (xgood_self h1) rfl rfl rfl (hts _ h2) (hts _ hl) h3 ⟨by show lvc + 1 ≤ Rm.frames; omega, by show 8 + (maxL + 11) + 64 * lvc ≤ Rm.locals; omega⟩
theorem xcn {host : String} (hX : xOK X own cc nL lv kc ks) (hy : xMt y b maxL ret np) (hl : Cond.methodLinkNest own index y host ∈ xnw) (hlv : lvc + 1 ≤ lv) : va_CN X.1.2.2.2.1 X.1.2.2.2.2.1 X.1.2.2.2.2.2.2.1 own index y host b maxL ret (Cond.code y b maxL ret :: xgw) (xrm lvc mc ms) mc ms np := by
  obtain ⟨⟨p, l, e, Rm, s, m, args, below, meth, c⟩, Q, D, cy, A, B, n0, nL'⟩ := X
  obtain ⟨hx, hb, hml, hnl, hown, hts, hK, hA, hE, hfr, hlo, hce, hsl⟩ := hX
  obtain ⟨h1, h2, h3, h4⟩ := hy
  exact va_cnB np hts (xgood_self h1) rfl rfl rfl (hE.1 _ hl) (hts _ h2) h3 ⟨by show lvc + 1 ≤ Rm.frames; omega, by show 8 + (maxL + 11) + 64 * lvc ≤ Rm.locals; omega⟩
/-- a call on an own object, that makes nothing -/
theorem g_callV (hX : xOK X own cc nL lv kc ks) {i c N : Nat} {C : String} {T : u_T} {ty : Nat → FieldType} (hM : ∀ l, xC l lvc mc ms y b maxL ret n (.ref i :: as) I R Post) (hy : xMt y b maxL ret np) (hv : xMv y) (hlk : xLm own index y) (hn : i < n) (hc : xK i = c) (hC : xCl c C T N ty) (hyC : y.cls = C) (hlen : as.length = np) (hd : decode cc pc = .ok (.invokevirtual index, 3)) (hst : stk = as.reverse ++ .ref i :: st) (hlv : lvc + 1 ≤ lv) (hroom : (st.map fun v => v.category).sum ≤ 8) (hcs : cs + mc ≤ kc) (hsl : sl + ms ≤ ks)
    (kk : ∀ (v : Option Value) (n' : Nat) (I' : xM) (R' : xR), Post v n' I' R' → n' = n ∧ G X n (cs + mc) (sl + ms) I' R' (pc + 3) L (v.toList ++ st)) : G X n cs sl I R pc L stk := by
  subst hst
  have hcb := fun h => xcb (X := X) (lvc := lvc) (mc := mc) (ms := ms) (index := index) hX hy h hlv
  have hcn := fun host h => xcn (X := X) (lvc := lvc) (mc := mc) (ms := ms) (index := index) (host := host) hX hy h hlv
  obtain ⟨⟨p, l, e, Rm, s, m, args, below, meth, c'⟩, Q, D, cy, A, B, n0, nL'⟩ := X
  obtain ⟨hx, hb, hml, rfl, hown, hts, hK, hA, hE, hfr, hlo, hce, hsl2⟩ := hX
  obtain ⟨q1, q2, q3, q4, q5, q6, q7⟩ := hC
  intro ad H locs ls hS hl
  have he : (xws cy ad I R n)[i]? = some (ad i, .inr (c, xfs ad (I i) (R i) c)) := by rw [xws_get hn, xe_obj hc q2]
  have hp : PreV s H C (ad i) (va_Pc ((Value.ref i :: as).map (xcv ad)) (xPre D cy ad n I R H.size)) (as.map (xcv ad)) :=
    ⟨xPre_blind, va_recv hK hS.1 q1 he, fun U hU hW => ⟨rfl, xPre_of hK hE hA hS hU hW⟩⟩
  have hsel : (Cond.selects C y y).before args s = true := by rw [← hyC]; exact hts _ hv.2
  have hstk : ((as.reverse ++ Value.ref i :: st).map (xcv ad)) = (as.map (xcv ad)).reverse ++ .ref (ad i) :: st.map (xcv ad) := by simp [xcv]
  have hrm : ((st.map (xcv ad)).map fun v => v.category).sum ≤ 8 := by
    rw [List.map_map]
    exact Nat.le_trans (Nat.le_of_eq (by congr 1; apply List.map_congr_left; intro v _; exact xcv_cat ad v)) hroom
  have hrun : va_Run p l e Rm s m args below meth c' H locs cs sl mc ms (F0 m pc ls (List.map (xcv ad) (as.reverse ++ Value.ref i :: st))) (st.map (xcv ad)) (xQ D cy (va_A (xws cy ad I R n) H.size) n ad Post ((Value.ref i :: as).map (xcv ad)).toArray) (va_A (xws cy ad I R n) H.size) := by
    rcases hlk with h | ⟨host, h⟩
    · exact va_runV (As := as.map (xcv ad)) (rest := st.map (xcv ad)) ⟨hx, hb, hml, hown, hts⟩ (hM l D cy ad H.size) ⟨hcb h, hts _ hv.1, hsel⟩ hp rfl (by rw [List.length_map]; exact hlen) hl.1 hstk (lv_room hrm) hd ⟨by omega, by omega⟩
    · exact va_runVN (As := as.map (xcv ad)) (rest := st.map (xcv ad)) ⟨hx, hb, hml, hown, hts⟩ (hM l D cy ad H.size) ⟨hcn host h, hts _ hv.1, hsel⟩ hp rfl (by rw [List.length_map]; exact hlen) hl.1 hstk (lv_room hrm) hd ⟨by omega, by omega⟩
  have hfree := xA_free hS.2.1 hS.2.2.1 hA
  refine x_call hrun hS.2.2.1 (fun q _ h => hfree q h) hfree (fun v ad' n' I' R' H1 locs1 hpost hP1 hD1 hag hz hS1 => ?_)
  obtain ⟨e1, w⟩ := kk v n' I' R' hpost
  subst e1
  have e2 : ad' = ad := hag.2.2 rfl
  subst e2
  have w2 := w ad' H1 locs1 ls ⟨hP1, xD_same hS.2.1, hS1, hS.2.2.2⟩ hl
  cases v <;> exact w2
/-- a static call that makes nothing -/
theorem g_callS (hX : xOK X own cc nL lv kc ks) (hM : ∀ l, xC l lvc mc ms y b maxL ret n as I R Post) (hy : xMt y b maxL ret np) (hv : Cond.static y ∈ xgw) (hlk : xLm own index y) (hlen : as.length = np) (hd : decode cc pc = .ok (.invokestatic index, 3)) (hst : stk = as.reverse ++ st) (hlv : lvc + 1 ≤ lv) (hroom : (st.map fun v => v.category).sum ≤ 8) (hcs : cs + mc ≤ kc) (hsl : sl + ms ≤ ks)
    (kk : ∀ (v : Option Value) (n' : Nat) (I' : xM) (R' : xR), Post v n' I' R' → n' = n ∧ G X n (cs + mc) (sl + ms) I' R' (pc + 3) L (v.toList ++ st)) : G X n cs sl I R pc L stk := by
  subst hst
  have hcb := fun h => xcb (X := X) (lvc := lvc) (mc := mc) (ms := ms) (index := index) hX hy h hlv
  have hcn := fun host h => xcn (X := X) (lvc := lvc) (mc := mc) (ms := ms) (index := index) (host := host) hX hy h hlv
  obtain ⟨⟨p, l, e, Rm, s, m, args, below, meth, c'⟩, Q, D, cy, A, B, n0, nL'⟩ := X
  obtain ⟨hx, hb, hml, rfl, hown, hts, hK, hA, hE, hfr, hlo, hce, hsl2⟩ := hX
  intro ad H locs ls hS hl
  have hp : PreS s H (va_Pc (as.map (xcv ad)) (xPre D cy ad n I R H.size)) (as.map (xcv ad)) :=
    ⟨xPre_blind, fun U hU hW => ⟨rfl, xPre_of hK hE hA hS hU hW⟩⟩
  have hstk : ((as.reverse ++ st).map (xcv ad)) = (as.map (xcv ad)).reverse ++ st.map (xcv ad) := by simp
  have hrm : ((st.map (xcv ad)).map fun v => v.category).sum ≤ 8 := by
    rw [List.map_map]
    exact Nat.le_trans (Nat.le_of_eq (by congr 1; apply List.map_congr_left; intro v _; exact xcv_cat ad v)) hroom
  have hrun : va_Run p l e Rm s m args below meth c' H locs cs sl mc ms (F0 m pc ls (List.map (xcv ad) (as.reverse ++ st))) (st.map (xcv ad)) (xQ D cy (va_A (xws cy ad I R n) H.size) n ad Post (as.map (xcv ad)).toArray) (va_A (xws cy ad I R n) H.size) := by
    rcases hlk with h | ⟨host, h⟩
    · exact va_runS (As := as.map (xcv ad)) (rest := st.map (xcv ad)) ⟨hx, hb, hml, hown, hts⟩ (hM l D cy ad H.size) ⟨hcb h, hts _ hv⟩ hp rfl (by rw [List.length_map]; exact hlen) hl.1 hstk (lv_room hrm) hd ⟨by omega, by omega⟩
    · exact va_runSN (As := as.map (xcv ad)) (rest := st.map (xcv ad)) ⟨hx, hb, hml, hown, hts⟩ (hM l D cy ad H.size) ⟨hcn host h, hts _ hv, trivial⟩ hp rfl (by rw [List.length_map]; exact hlen) hl.1 hstk (lv_room hrm) hd ⟨by omega, by omega⟩
  have hfree := xA_free hS.2.1 hS.2.2.1 hA
  refine x_call hrun hS.2.2.1 (fun q _ h => hfree q h) hfree (fun v ad' n' I' R' H1 locs1 hpost hP1 hD1 hag hz hS1 => ?_)
  obtain ⟨e1, w⟩ := kk v n' I' R' hpost
  subst e1
  have e2 : ad' = ad := hag.2.2 rfl
  subst e2
  have w2 := w ad' H1 locs1 ls ⟨hP1, xD_same hS.2.1, hS1, hS.2.2.2⟩ hl
  cases v <;> exact w2
end
end
section
theorem xws_app {cy : Nat → ClassId} {ad : Nat → Nat} {I : xM} {R : xR} {n q : Nat} {e : va_E} (he : e = xe cy (va_up ad n q) I R n) (hw : ∀ i, i < n → xe cy (va_up ad n q) I R i = xe cy ad I R i) : xws cy ad I R n ++ [(q, e)] = xws cy (va_up ad n q) I R (n + 1) := by
  unfold xws
  rw [List.range_succ, List.map_append]
  congr 1
  · apply List.map_congr_left
    intro i hi
    have h1 := List.mem_range.mp hi
    rw [hw i h1, va_up_ne _ _ (show i ≠ n by omega)]
  · simp [he, va_up_self]
/-- what is made already refers to what is made already -/
def xRok (n : Nat) (R : xR) : Prop := ∀ i k j, i < n → R i k = some j → j < n
theorem xe_up {cy : Nat → ClassId} {ad : Nat → Nat} {I : xM} {R : xR} {n q i : Nat} (h : xRok n R) (hi : i < n) : xe cy (va_up ad n q) I R i = xe cy ad I R i := by
  have e : ∀ k, (R i k).map (va_up ad n q) = (R i k).map ad := by
    intro k
    cases hk : R i k with
    | none => rfl
    | some j => simp [va_up_ne _ _ (show j ≠ n from fun z => by have := h i k j hi hk; omega)]
  unfold xe xek xfs xval xrf
  simp only [e]
section
variable {X : xX} {own : String} {cc : ByteArray} {nL lv kc ks n cs sl pc : Nat} {I : xM} {R : xR} {L : List (Nat × Value)} {st : List Value}
theorem g_imax (hX : xOK X own cc nL lv kc ks) {index : Nat} {x y v : Int32} (h1 : Cond.methodLink own index Lib.Math.max.name ∈ xgw) (h2 : Cond.static Lib.Math.max.name ∈ xgw) (h3 : Cond.initialized "java/lang/Math" ∈ xgw) (h4 : Cond.code Lib.Math.max.name Lib.Math.max.code 2 (some .int) ∈ xgw) (hlv : 1 ≤ lv) (hrm : (st.map fun v => v.category).sum ≤ 8) (hcs : cs ≤ kc) (hsl : sl ≤ ks) (hd : decode cc pc = .ok (.invokestatic index, 3)) (hv : (if x < y then y else x) = v)
    (kk : G X n cs sl I R (pc + 3) L (.int v :: st)) : G X n cs sl I R pc L (.int y :: .int x :: st) := by
  obtain ⟨⟨p, l, e, Rm, s, m, args, below, meth, c'⟩, Q, D, cy, A, B, n0, nL'⟩ := X
  obtain ⟨hx, hb, hml, hnl, hown, hts, hK, hA, hE, hfr, hlo, hce, hsl2⟩ := hX
  intro ad H locs ls hS hl
  have hrm2 : ((st.map (xcv ad)).map fun v => v.category).sum ≤ 8 := by
    rw [List.map_map]
    exact Nat.le_trans (Nat.le_of_eq (by congr 1; apply List.map_congr_left; intro v _; exact xcv_cat ad v)) hrm
  subst hv
  exact va_mmax hx hb (by rw [hml, ← hnl]; exact hl.1.symm) hown (hts _ h1) (hts _ h2) (hts _ h3) (hts _ h4) (by omega) (by omega) (by omega) (by omega) hd (kk ad H locs ls hS hl)
theorem g_imin (hX : xOK X own cc nL lv kc ks) {index : Nat} {x y v : Int32} (h1 : Cond.methodLink own index Lib.Math.min.name ∈ xgw) (h2 : Cond.static Lib.Math.min.name ∈ xgw) (h3 : Cond.initialized "java/lang/Math" ∈ xgw) (h4 : Cond.code Lib.Math.min.name Lib.Math.min.code 2 (some .int) ∈ xgw) (hlv : 1 ≤ lv) (hrm : (st.map fun v => v.category).sum ≤ 8) (hcs : cs ≤ kc) (hsl : sl ≤ ks) (hd : decode cc pc = .ok (.invokestatic index, 3)) (hv : (if y < x then y else x) = v)
    (kk : G X n cs sl I R (pc + 3) L (.int v :: st)) : G X n cs sl I R pc L (.int y :: .int x :: st) := by
  obtain ⟨⟨p, l, e, Rm, s, m, args, below, meth, c'⟩, Q, D, cy, A, B, n0, nL'⟩ := X
  obtain ⟨hx, hb, hml, hnl, hown, hts, hK, hA, hE, hfr, hlo, hce, hsl2⟩ := hX
  intro ad H locs ls hS hl
  have hrm2 : ((st.map (xcv ad)).map fun v => v.category).sum ≤ 8 := by
    rw [List.map_map]
    exact Nat.le_trans (Nat.le_of_eq (by congr 1; apply List.map_congr_left; intro v _; exact xcv_cat ad v)) hrm
  subst hv
  exact va_mmin hx hb (by rw [hml, ← hnl]; exact hl.1.symm) hown (hts _ h1) (hts _ h2) (hts _ h3) (hts _ h4) (by omega) (by omega) (by omega) (by omega) hd (kk ad H locs ls hS hl)
/-- System.arraycopy between rows of one kind: ints or booleans -/
theorem g_copy (hX : xOK X own cc nL lv kc ks) {index a0 a1 c : Nat} {sp dp z : Int32} (h1 : Cond.methodLink own index arraycopyName ∈ xgw) (h2 : Cond.native arraycopyName ∈ xgw) (h3 : Cond.static arraycopyName ∈ xgw) (h4 : Cond.initialized "java/lang/System" ∈ xgw) (hn0 : a0 < n) (hn1 : a1 < n) (hc0 : xK a0 = c) (hc1 : xK a1 = c) (hc : c = 8 ∨ c = 9) (i j k : Nat) (hi : sp = nI i) (hj : dp = nI j) (hk : z = nI k) (hik : i + k ≤ xN a0) (hjk : j + k ≤ xN a1)
    (hfit : c = 9 → ∀ q, q < k → fits .boolean (.int (I a0 (i + q))) = true) (hlv : 1 ≤ lv) (hrm : (st.map fun v => v.category).sum + (nativeFrameWords "java/lang/System" "arraycopy" 5 + 11) ≤ 64) (hd : decode cc pc = .ok (.invokestatic index, 3))
    (kk : G X n cs sl (xrow I a1 (va_cpy (I a0) (I a1) i j k)) R (pc + 3) L st) : G X n cs sl I R pc L (.int z :: .int dp :: .ref a1 :: .int sp :: .ref a0 :: st) := by
  obtain ⟨⟨p, l, e, Rm, s, m, args, below, meth, c'⟩, Q, D, cy, A, B, n0, nL'⟩ := X
  obtain ⟨hx, hb, hml, hnl, hown, hts, hK, hA, hE, hfr, hlo, hce, hsl2⟩ := hX
  intro ad H locs ls hS hl
  obtain ⟨hP, hD, hSS, hAg⟩ := hS
  have hrm2 : ((st.map (xcv ad)).map fun v => v.category).sum + (nativeFrameWords "java/lang/System" "arraycopy" 5 + 11) ≤ Rm.locals := by
    have e1 : ((st.map (xcv ad)).map fun v => v.category).sum = (st.map fun v => v.category).sum := by
      rw [List.map_map]
      congr 1; apply List.map_congr_left; intro v _; exact xcv_cat ad v
    omega
  have b0 := xN_lt a0
  have b1 := xN_lt a1
  have c1 : (nI i).toNatClampNeg = i := nI_clamp (by omega)
  have c2 : (nI j).toNatClampNeg = j := nI_clamp (by omega)
  have c3 : (nI k).toNatClampNeg = k := nI_clamp (by omega)
  have he0 : (xws cy ad I R n)[a0]? = some (ad a0, .inl (cy c, xN a0, .inl (I a0))) := by rw [xws_get hn0, xe_arr hc0 (by omega) (by omega)]
  have he1 : (xws cy ad I R n)[a1]? = some (ad a1, .inl (cy c, xN a1, .inl (I a1))) := by rw [xws_get hn1, xe_arr hc1 (by omega) (by omega)]
  subst hi; subst hj; subst hk
  rcases hc with rfl | rfl
  · refine va_copyi hx hb (by rw [hml, ← hnl]; exact hl.1.symm) hown (hts _ h1) (hts _ h2) (hts _ h3) (hts _ h4) hK hP hD hSS a0 a1 1 1 he0 he1 (xty_at cy).2.1 (xty_at cy).2.1 rfl (nI_pos (by omega)) (nI_pos (by omega)) (nI_pos (by omega)) (by rw [c1, c3]; exact hik) (by rw [c2, c3]; exact hjk) (fun q _ => rfl) (by omega) hrm2 hd (fun H1 locs1 g1 g2 g3 => ?_)
    rw [c1, c2, c3, xws_row hn1 hc1 (by decide) (by decide)] at g1 g2
    exact kk ad H1 locs1 ls ⟨g1, g2, g3, hAg⟩ hl
  · refine va_copyi hx hb (by rw [hml, ← hnl]; exact hl.1.symm) hown (hts _ h1) (hts _ h2) (hts _ h3) (hts _ h4) hK hP hD hSS a0 a1 2 2 he0 he1 (xty_at cy).2.2.1 (xty_at cy).2.2.1 rfl (nI_pos (by omega)) (nI_pos (by omega)) (nI_pos (by omega)) (by rw [c1, c3]; exact hik) (by rw [c2, c3]; exact hjk) (fun q hq => by rw [c1]; rw [c3] at hq; exact hfit rfl q hq) (by omega) hrm2 hd (fun H1 locs1 g1 g2 g3 => ?_)
    rw [c1, c2, c3, xws_row hn1 hc1 (by decide) (by decide)] at g1 g2
    exact kk ad H1 locs1 ls ⟨g1, g2, g3, hAg⟩ hl
/-- a final field, in the constructor -/
theorem g_putF (hX : xOK X own cc nL lv kc ks) {y : MethodName} {ret : Option FieldType} {n0 mc ms : Nat} {Post : xP} (hRt : xRt X y ret n0 Post mc ms) (hy : y.name = "<init>") {i c N index : Nat} {C : String} {T : u_T} {ty : Nat → FieldType} {j : Nat} (hn : i < n) (hc : xK i = c) (hC : xCl c C T N ty) (hCo : C = own) (k : Nat) (hk : k < N) (hir : xir c k = true) (hfin : (T k).2.2.2 = true) (hlk : Cond.fieldLink own index (T k).1 (T k).2.1 (T k).2.2.1 ∈ xgw) (hd : decode cc pc = .ok (.putfield index, 3)) (hf1 : ∀ a : Nat, narrow (ty k) (.ref a) = .ref a) (hf2 : ∀ a : Nat, fits (ty k) (.ref a) = true)
    (kk : G X n cs sl I (xputR R i k (some j)) (pc + 3) L st) : G X n cs sl I R pc L (.ref j :: .ref i :: st) := by
  obtain ⟨⟨p, l, e, Rm, s, m, args, below, meth, c'⟩, Q, D, cy, A, B, n0', nL'⟩ := X
  obtain ⟨hx, hb, hml, hnl, hown, hts, hK, hA, hE, -⟩ := hX
  obtain ⟨q1, q2, q3, q4, q5, q6, q7⟩ := hC
  obtain ⟨hr, hlocks, hin, -, -⟩ := hRt
  intro ad H locs ls hS hl
  obtain ⟨hP, hD, hSS, hAg⟩ := hS
  have he : (xws cy ad I R n)[i]? = some (ad i, .inr (c, xfs ad (I i) (R i) c)) := by rw [xws_get hn, xe_obj hc q2]
  have hkk : ∀ (H1 : Heap) (locs1 : List Loc), va_P D vwCl ((xws cy ad I R n).set i (ad i, .inr (c, (xfs ad (I i) (R i) c).set k (.ref (ad j))))) H1 → va_D A ((xws cy ad I R n).set i (ad i, .inr (c, (xfs ad (I i) (R i) c).set k (.ref (ad j))))) → va_S A s.heap H1 locs1 → W p l e Rm s m args below meth c' H1 locs1 cs sl Q (F0 m (pc + 3) ls (st.map (xcv ad))) := by
    intro H1 locs1 h1 h2 h3
    rw [xws_putR hn hc q2 (by omega) hir] at h1 h2
    exact kk ad H1 locs1 ls ⟨h1, h2, h3, hAg⟩ hl
  exact va_putF hx hb hts q4 ty q5 q6 hown hK hP hD hSS i he q1 k hk (hts _ hlk) (fun _ z => z) hfin (hin.trans hy) ((q7 k hk).trans hCo) (q5 k hk) (hf1 _) (hf2 _) (by rw [xfs_len]; omega) hd hkk
theorem g_objInit (hX : xOK X own cc nL lv kc ks) {index a : Nat} (h1 : Cond.methodLink own index objectInit ∈ xgw) (h2 : Cond.instanceMethod objectInit ∈ xgw) (h3 : Cond.code objectInit ⟨#[0xb1]⟩ 1 none ∈ xgw) (hlv : 1 ≤ lv) (hrm : (st.map fun v => v.category).sum ≤ 8) (hd : decode cc pc = .ok (.invokespecial index, 3))
    (kk : G X n cs sl I R (pc + 3) L st) : G X n cs sl I R pc L (.ref a :: st) := by
  obtain ⟨⟨p, l, e, Rm, s, m, args, below, meth, c'⟩, Q, D, cy, A, B, n0, nL'⟩ := X
  obtain ⟨hx, hb, hml, hnl, hown, hts, hK, hA, hE, hfr, hlo, hce, hsl2⟩ := hX
  intro ad H locs ls hS hl
  have hrm2 : ((st.map (xcv ad)).map fun v => v.category).sum ≤ 8 := by
    rw [List.map_map]
    exact Nat.le_trans (Nat.le_of_eq (by congr 1; apply List.map_congr_left; intro v _; exact xcv_cat ad v)) hrm
  exact W.objInit hx hb hown (hts _ h1) (hts _ h2) (hts _ h3) rfl (by rw [hml, ← hnl]; exact hl.1) rfl hd (by omega) (by show 2 * 0 + _ + 12 ≤ _; omega) (kk ad H locs ls hS hl)
theorem xAg_new {B ad : Nat → Nat} {n0 q : Nat} (h : xAg B n0 n ad) (hn : n < 1000000) : xAg B n0 (n + 1) (va_up ad n q) := by
  refine ⟨by have := h.1; omega, fun i hi => ?_, fun e => by have := h.1; omega⟩
  rw [va_up_ne _ _ (show i ≠ n by have := h.1; omega)]
  exact h.2.1 i hi
theorem xup_same {ad : Nat → Nat} {q : Nat} (hn : n < 1000000) : ∀ i, (i < n ∨ 1000000 ≤ i) → va_up ad n q i = ad i := fun i hi => va_up_ne _ _ (by omega)
theorem g_new (hX : xOK X own cc nL lv kc ks) {index c N : Nat} {C : String} {T : u_T} {ty : Nat → FieldType} (hC : xCl c C T N ty) (hdf : ∀ j, j < N → defaultValue (ty j) = if xir c j then .null else .int 0) (h1 : Cond.classLink own index C ∈ xgw) (h2 : Cond.instantiable C N ∈ xgw) (h3 : Cond.initialized C ∈ xgw) (hc : xK n = c) (hn : n < 1000000) (hI : I n = fun _ => 0) (hR : R n = fun _ => none) (hRk : xRok n R) (hL : ∀ q ∈ L, xvok n q.2) (hst : ∀ v ∈ st, xvok n v) (hcs : cs + 1 ≤ kc) (hsl : sl + N ≤ ks) (hd : decode cc pc = .ok (.new index, 3))
    (kk : G X (n + 1) (cs + 1) (sl + N) I R (pc + 3) L (.ref n :: st)) : G X n cs sl I R pc L st := by
  obtain ⟨⟨p, l, e, Rm, s, m, args, below, meth, c'⟩, Q, D, cy, A, B, n0, nL'⟩ := X
  obtain ⟨hx, hb, hml, hnl, hown, hts, hK, hA, hE, hfr, hlo, hce, hsl2⟩ := hX
  obtain ⟨q1, q2, q3, q4, q5, q6, q7⟩ := hC
  intro ad H locs ls hS hl
  obtain ⟨hP, hD, hSS, hAg⟩ := hS
  refine va_new (fs := xfs ad (fun _ => 0) (fun _ => none) c) hx hb hts q4 ty q5 hown (hts _ h1) (hts _ h2) (hts _ h3) hK hP hD hSS hA q1 (fun j hj => ?_) (by omega) (by omega) hd (fun q H1 g1 g2 g3 => ?_)
  · rw [hdf j hj]
    unfold vp_V
    rw [List.getD_eq_getElem?_getD, xfs_get (by omega)]
    by_cases h : xir c j = true <;> simp [xval, h, xrf, va_rf]
  · have e1 : xws cy ad I R n ++ [(q, .inr (c, xfs ad (fun _ => 0) (fun _ => none) c))] = xws cy (va_up ad n q) I R (n + 1) := by
      refine xws_app ?_ (fun i hi => xe_up hRk hi)
      rw [xe_obj hc q2, hI, hR]
      rfl
    rw [e1] at g1 g2
    have w := kk (va_up ad n q) H1 locs ls ⟨g1, g2, g3, xAg_new hAg hn⟩ (by rw [xcl_map hL (xup_same hn)]; exact hl)
    rw [List.map_cons, xcv_map hst (xup_same hn)] at w
    have e2 : xcv (va_up ad n q) (.ref n) = .ref q := by simp [xcv, va_up_self]
    rw [e2] at w
    exact w
theorem g_newa (hX : xOK X own cc nL lv kc ks) {c N : Nat} {z : Int32} (at' : ArrayType) (ty : FieldType) (hat : (at', ty, c) = (.byte, .byte, 7) ∨ (at', ty, c) = (.int, .int, 8) ∨ (at', ty, c) = (.boolean, .boolean, 9)) (h1 : Cond.arrayClass ty ∈ xgw) (hc : xK n = c) (hN : xN n = N) (hz : z = nI N) (hn : n < 1000000) (hI : I n = fun _ => 0) (hR : R n = fun _ => none) (hRk : xRok n R) (hL : ∀ q ∈ L, xvok n q.2) (hst : ∀ v ∈ st, xvok n v) (hcs : cs + 1 ≤ kc) (hsl : sl + N ≤ ks) (hd : decode cc pc = .ok (.newarray at', 2))
    (kk : G X (n + 1) (cs + 1) (sl + N) I R (pc + 2) L (.ref n :: st)) : G X n cs sl I R pc L (.int z :: st) := by
  obtain ⟨⟨p, l, e, Rm, s, m, args, below, meth, c'⟩, Q, D, cy, A, B, n0, nL'⟩ := X
  obtain ⟨hx, hb, hml, hnl, hown, hts, hK, hA, hE, hfr, hlo, hce, hsl2⟩ := hX
  intro ad H locs ls hS hl
  obtain ⟨hP, hD, hSS, hAg⟩ := hS
  have hNl := xN_le n
  subst hz
  have fin : ∀ (q : Nat) (cA : ClassId) (H1 : Heap) (_ : cA = cy c) (_ : ¬ c < 7) (_ : c < 10), va_P D vwCl (xws cy ad I R n ++ [(q, .inl (cA, N, .inl (fun _ => 0)))]) H1 → va_D A (xws cy ad I R n ++ [(q, .inl (cA, N, .inl (fun _ => 0)))]) → va_S A s.heap H1 locs → W p l e Rm s m args below meth c' H1 locs (cs + 1) (sl + N) Q (F0 m (pc + 2) ls (.ref q :: st.map (xcv ad))) := by
    intro q cA H1 hcA h7 h10 g1 g2 g3
    have e1 : xws cy ad I R n ++ [(q, .inl (cA, N, .inl (fun _ => 0)))] = xws cy (va_up ad n q) I R (n + 1) := by
      refine xws_app ?_ (fun i hi => xe_up hRk hi)
      rw [xe_arr hc h7 h10, hI, hcA, hN]
    rw [e1] at g1 g2
    have w := kk (va_up ad n q) H1 locs ls ⟨g1, g2, g3, xAg_new hAg hn⟩ (by rw [xcl_map hL (xup_same hn)]; exact hl)
    rw [List.map_cons, xcv_map hst (xup_same hn)] at w
    have e2 : xcv (va_up ad n q) (.ref n) = .ref q := by simp [xcv, va_up_self]
    rw [e2] at w
    exact w
  rcases hat with h | h | h <;> cases h
  · refine va_newa (atype := .byte) (ty := .byte) (a0 := (N, .inl (fun _ => 0))) (N' := N) hx hb (hts _ h1) rfl hK hP hD hSS hA (fun cA => by rw [vp_cell_i]; rfl) (nI_pos (by omega)) (nI_clamp (by omega)) (by simp [componentBytes]; omega) (by omega) (by omega) hd (fun q cA H1 gK g1 g2 g3 => fin q cA H1 ?_ (by decide) (by decide) g1 g2 g3)
    have r1 := (hK.2 0 _ (xty_at cy).1).2
    have r2 := (gK.2 5 (cA, .byte) rfl).2
    exact Option.some.inj (r2.symm.trans r1)
  · refine va_newa (atype := .int) (ty := .int) (a0 := (N, .inl (fun _ => 0))) (N' := N) hx hb (hts _ h1) rfl hK hP hD hSS hA (fun cA => by rw [vp_cell_i]; rfl) (nI_pos (by omega)) (nI_clamp (by omega)) (by simp [componentBytes]; omega) (by omega) (by omega) hd (fun q cA H1 gK g1 g2 g3 => fin q cA H1 ?_ (by decide) (by decide) g1 g2 g3)
    have r1 := (hK.2 1 _ (xty_at cy).2.1).2
    have r2 := (gK.2 5 (cA, .int) rfl).2
    exact Option.some.inj (r2.symm.trans r1)
  · refine va_newa (atype := .boolean) (ty := .boolean) (a0 := (N, .inl (fun _ => 0))) (N' := N) hx hb (hts _ h1) rfl hK hP hD hSS hA (fun cA => by rw [vp_cell_i]; rfl) (nI_pos (by omega)) (nI_clamp (by omega)) (by simp [componentBytes]; omega) (by omega) (by omega) hd (fun q cA H1 gK g1 g2 g3 => fin q cA H1 ?_ (by decide) (by decide) g1 g2 g3)
    have r1 := (hK.2 2 _ (xty_at cy).2.2.1).2
    have r2 := (gK.2 5 (cA, .boolean) rfl).2
    exact Option.some.inj (r2.symm.trans r1)
end
end
section
theorem kX0_9 : xLk RX0 9 TX0 0 := Or.inl (xgw_in (List.mem_append_right _ (List.mem_of_getElem? (i := 94) (by decide +kernel))) (by decide +kernel))
theorem kX0_15 : xLk RX0 15 TX0 1 := Or.inl (xgw_in (List.mem_append_right _ (List.mem_of_getElem? (i := 98) (by decide +kernel))) (by decide +kernel))
theorem cX0_19 : Cond.constant RX0 19 (-1000000) ∈ xgw := xgw_in (List.mem_append_right _ (List.mem_of_getElem? (i := 93) (by decide +kernel))) (by decide +kernel)
theorem kX0_20 : xLk RX0 20 TX0 2 := Or.inl (xgw_in (List.mem_append_right _ (List.mem_of_getElem? (i := 101) (by decide +kernel))) (by decide +kernel))
theorem kX0_23 : xLk RX0 23 TX0 3 := Or.inl (xgw_in (List.mem_append_right _ (List.mem_of_getElem? (i := 104) (by decide +kernel))) (by decide +kernel))
theorem kX0_26 : xLk RX0 26 TX0 4 := Or.inl (xgw_in (List.mem_append_right _ (List.mem_of_getElem? (i := 108) (by decide +kernel))) (by decide +kernel))
theorem kX0_29 : xLk RX0 29 TX0 5 := Or.inl (xgw_in (List.mem_append_right _ (List.mem_of_getElem? (i := 110) (by decide +kernel))) (by decide +kernel))
theorem kX0_32 : xLk RX0 32 TX0 6 := Or.inl (xgw_in (List.mem_append_right _ (List.mem_of_getElem? (i := 113) (by decide +kernel))) (by decide +kernel))
theorem kX0_35 : xLk RX0 35 TX0 7 := Or.inl (xgw_in (List.mem_append_right _ (List.mem_of_getElem? (i := 114) (by decide +kernel))) (by decide +kernel))
theorem kX0_38 : xLk RX0 38 TX0 8 := Or.inl (xgw_in (List.mem_append_right _ (List.mem_of_getElem? (i := 116) (by decide +kernel))) (by decide +kernel))
theorem kX0_41 : xLk RX0 41 TX0 9 := Or.inl (xgw_in (List.mem_append_right _ (List.mem_of_getElem? (i := 118) (by decide +kernel))) (by decide +kernel))
theorem kX0_44 : xLk RX0 44 TX0 10 := Or.inl (xgw_in (List.mem_append_right _ (List.mem_of_getElem? (i := 122) (by decide +kernel))) (by decide +kernel))
theorem kX0_47 : xLk RX0 47 TX0 11 := Or.inl (xgw_in (List.mem_append_right _ (List.mem_of_getElem? (i := 125) (by decide +kernel))) (by decide +kernel))
theorem kX0_50 : xLk RX0 50 TX0 12 := Or.inl (xgw_in (List.mem_append_right _ (List.mem_of_getElem? (i := 126) (by decide +kernel))) (by decide +kernel))
theorem kX0_54 : xLk RX0 54 TX0 13 := Or.inl (xgw_in (List.mem_append_right _ (List.mem_of_getElem? (i := 129) (by decide +kernel))) (by decide +kernel))
theorem kX0_57 : xLk RX0 57 TX0 14 := Or.inl (xgw_in (List.mem_append_right _ (List.mem_of_getElem? (i := 132) (by decide +kernel))) (by decide +kernel))
theorem lX0_67 : xLm RX0 67 yJ7_fill_53178 := Or.inl (xgw_in (List.mem_append_right _ (List.mem_of_getElem? (i := 301) (by decide +kernel))) (by decide +kernel))
theorem lX0_73 : xLm RX0 73 yX0_hasTree := Or.inl (xgw_in (List.mem_append_right _ (List.mem_of_getElem? (i := 477) (by decide +kernel))) (by decide +kernel))
theorem lX0_77 : xLm RX0 77 yX0_heightIn := Or.inl (xgw_in (List.mem_append_right _ (List.mem_of_getElem? (i := 482) (by decide +kernel))) (by decide +kernel))
theorem lX0_81 : xLm RX0 81 yJ9_min_7cf53 := Or.inl (xgw_in (List.mem_append_right _ (List.mem_of_getElem? (i := 486) (by decide +kernel))) (by decide +kernel))
theorem lX0_87 : xLm RX0 87 yJ9_max_7cf53 := Or.inl (xgw_in (List.mem_append_right _ (List.mem_of_getElem? (i := 487) (by decide +kernel))) (by decide +kernel))
theorem kX1_9 : xLk RX1 9 TX1 0 := Or.inl (xgw_in (List.mem_append_right _ (List.mem_of_getElem? (i := 31) (by decide +kernel))) (by decide +kernel))
theorem kX1_15 : xLk RX1 15 TX1 1 := Or.inl (xgw_in (List.mem_append_right _ (List.mem_of_getElem? (i := 32) (by decide +kernel))) (by decide +kernel))
theorem kX1_19 : xLk RX1 19 TX1 2 := Or.inl (xgw_in (List.mem_append_right _ (List.mem_of_getElem? (i := 34) (by decide +kernel))) (by decide +kernel))
theorem kX1_22 : xLk RX1 22 TX1 3 := Or.inl (xgw_in (List.mem_append_right _ (List.mem_of_getElem? (i := 35) (by decide +kernel))) (by decide +kernel))
theorem kX1_25 : xLk RX1 25 TX1 4 := Or.inl (xgw_in (List.mem_append_right _ (List.mem_of_getElem? (i := 36) (by decide +kernel))) (by decide +kernel))
theorem kX1_28 : xLk RX1 28 TX1 5 := Or.inl (xgw_in (List.mem_append_right _ (List.mem_of_getElem? (i := 37) (by decide +kernel))) (by decide +kernel))
theorem kX1_31 : xLk RX1 31 TX1 6 := Or.inl (xgw_in (List.mem_append_right _ (List.mem_of_getElem? (i := 38) (by decide +kernel))) (by decide +kernel))
theorem kX1_34 : xLk RX1 34 TX1 7 := Or.inl (xgw_in (List.mem_append_right _ (List.mem_of_getElem? (i := 40) (by decide +kernel))) (by decide +kernel))
theorem lX1_37 : xLm RX1 37 yX0_clear := Or.inr ⟨"OneBench", xnw_in (List.mem_append_right _ (List.mem_of_getElem? (i := 297) (by decide +kernel))) (by decide +kernel)⟩
theorem lX1_42 : xLm RX1 42 yX1_advance := Or.inl (xgw_in (List.mem_append_right _ (List.mem_of_getElem? (i := 302) (by decide +kernel))) (by decide +kernel))
theorem lX1_45 : xLm RX1 45 yX1_readGround := Or.inl (xgw_in (List.mem_append_right _ (List.mem_of_getElem? (i := 323) (by decide +kernel))) (by decide +kernel))
theorem lX1_51 : xLm RX1 51 yX1_isWord := Or.inl (xgw_in (List.mem_append_right _ (List.mem_of_getElem? (i := 332) (by decide +kernel))) (by decide +kernel))
theorem lX1_55 : xLm RX1 55 yX1_readLake := Or.inl (xgw_in (List.mem_append_right _ (List.mem_of_getElem? (i := 401) (by decide +kernel))) (by decide +kernel))
theorem lX1_60 : xLm RX1 60 yX1_readTree := Or.inl (xgw_in (List.mem_append_right _ (List.mem_of_getElem? (i := 406) (by decide +kernel))) (by decide +kernel))
theorem lX1_65 : xLm RX1 65 yX1_readThing := Or.inl (xgw_in (List.mem_append_right _ (List.mem_of_getElem? (i := 429) (by decide +kernel))) (by decide +kernel))
theorem lX1_68 : xLm RX1 68 yX1_refuse := Or.inl (xgw_in (List.mem_append_right _ (List.mem_of_getElem? (i := 384) (by decide +kernel))) (by decide +kernel))
theorem lX1_74 : xLm RX1 74 yX1_passWord := Or.inl (xgw_in (List.mem_append_right _ (List.mem_of_getElem? (i := 328) (by decide +kernel))) (by decide +kernel))
theorem lX1_77 : xLm RX1 77 yX1_isNumber := Or.inl (xgw_in (List.mem_append_right _ (List.mem_of_getElem? (i := 388) (by decide +kernel))) (by decide +kernel))
theorem kX1_81 : xLk RX1 81 TX0 0 := Or.inr ⟨"OneBench", xnw_in (List.mem_append_right _ (List.mem_of_getElem? (i := 96) (by decide +kernel))) (by decide +kernel)⟩
theorem lX1_84 : xLm RX1 84 yX1_pass := Or.inl (xgw_in (List.mem_append_right _ (List.mem_of_getElem? (i := 392) (by decide +kernel))) (by decide +kernel))
theorem lX1_88 : xLm RX1 88 yX1_passSign := Or.inl (xgw_in (List.mem_append_right _ (List.mem_of_getElem? (i := 396) (by decide +kernel))) (by decide +kernel))
theorem kX1_92 : xLk RX1 92 TX0 1 := Or.inr ⟨"OneBench", xnw_in (List.mem_append_right _ (List.mem_of_getElem? (i := 99) (by decide +kernel))) (by decide +kernel)⟩
theorem kX1_95 : xLk RX1 95 TX0 2 := Or.inr ⟨"OneBench", xnw_in (List.mem_append_right _ (List.mem_of_getElem? (i := 102) (by decide +kernel))) (by decide +kernel)⟩
theorem kX1_98 : xLk RX1 98 TX0 3 := Or.inr ⟨"OneBench", xnw_in (List.mem_append_right _ (List.mem_of_getElem? (i := 106) (by decide +kernel))) (by decide +kernel)⟩
theorem lX1_101 : xLm RX1 101 yX1_sortTold := Or.inl (xgw_in (List.mem_append_right _ (List.mem_of_getElem? (i := 410) (by decide +kernel))) (by decide +kernel))
theorem cX1_104 : Cond.constant RX1 104 (-1000000) ∈ xgw := xgw_in (List.mem_append_right _ (List.mem_of_getElem? (i := 419) (by decide +kernel))) (by decide +kernel)
theorem lX1_105 : xLm RX1 105 yX0_treeAt := Or.inr ⟨"OneBench", xnw_in (List.mem_append_right _ (List.mem_of_getElem? (i := 420) (by decide +kernel))) (by decide +kernel)⟩
theorem lX1_109 : xLm RX1 109 yX0_addTree := Or.inr ⟨"OneBench", xnw_in (List.mem_append_right _ (List.mem_of_getElem? (i := 424) (by decide +kernel))) (by decide +kernel)⟩
theorem kX1_113 : xLk RX1 113 TX0 9 := Or.inr ⟨"OneBench", xnw_in (List.mem_append_right _ (List.mem_of_getElem? (i := 119) (by decide +kernel))) (by decide +kernel)⟩
theorem lX1_120 : xLm RX1 120 yX0_addThing := Or.inr ⟨"OneBench", xnw_in (List.mem_append_right _ (List.mem_of_getElem? (i := 435) (by decide +kernel))) (by decide +kernel)⟩
theorem lX1_134 : xLm RX1 134 yJ0_length_8abf5 := Or.inl (xgw_in (List.mem_append_right _ (List.mem_of_getElem? (i := 336) (by decide +kernel))) (by decide +kernel))
theorem lX1_139 : xLm RX1 139 yJ0_charAt_5068e := Or.inl (xgw_in (List.mem_append_right _ (List.mem_of_getElem? (i := 346) (by decide +kernel))) (by decide +kernel))
theorem lX1_143 : xLm RX1 143 yX1_isBlank := Or.inl (xgw_in (List.mem_append_right _ (List.mem_of_getElem? (i := 306) (by decide +kernel))) (by decide +kernel))
theorem lX1_147 : xLm RX1 147 yX1_isLetter := Or.inl (xgw_in (List.mem_append_right _ (List.mem_of_getElem? (i := 309) (by decide +kernel))) (by decide +kernel))
theorem lX1_150 : xLm RX1 150 yX1_passLetters := Or.inl (xgw_in (List.mem_append_right _ (List.mem_of_getElem? (i := 312) (by decide +kernel))) (by decide +kernel))
theorem lX1_153 : xLm RX1 153 yX1_isFigure := Or.inl (xgw_in (List.mem_append_right _ (List.mem_of_getElem? (i := 316) (by decide +kernel))) (by decide +kernel))
theorem lX1_156 : xLm RX1 156 yX1_passFigures := Or.inl (xgw_in (List.mem_append_right _ (List.mem_of_getElem? (i := 319) (by decide +kernel))) (by decide +kernel))
theorem kX2_9 : xLk RX2 9 TX2 0 := Or.inl (xgw_in (List.mem_append_right _ (List.mem_of_getElem? (i := 173) (by decide +kernel))) (by decide +kernel))
theorem kX2_15 : xLk RX2 15 TX2 1 := Or.inl (xgw_in (List.mem_append_right _ (List.mem_of_getElem? (i := 175) (by decide +kernel))) (by decide +kernel))
theorem kX2_19 : xLk RX2 19 TX2 2 := Or.inl (xgw_in (List.mem_append_right _ (List.mem_of_getElem? (i := 177) (by decide +kernel))) (by decide +kernel))
theorem kX2_22 : xLk RX2 22 TX2 3 := Or.inl (xgw_in (List.mem_append_right _ (List.mem_of_getElem? (i := 179) (by decide +kernel))) (by decide +kernel))
theorem lX2_26 : xLm RX2 26 yJ7_fill_53178 := Or.inl (xgw_in (List.mem_append_right _ (List.mem_of_getElem? (i := 250) (by decide +kernel))) (by decide +kernel))
theorem kX3_9 : xLk RX3 9 TX3 0 := Or.inl (xgw_in (List.mem_append_right _ (List.mem_of_getElem? (i := 66) (by decide +kernel))) (by decide +kernel))
theorem kX3_15 : xLk RX3 15 TX0 13 := Or.inr ⟨"OneBench", xnw_in (List.mem_append_right _ (List.mem_of_getElem? (i := 130) (by decide +kernel))) (by decide +kernel)⟩
theorem kX3_21 : xLk RX3 21 TX0 14 := Or.inr ⟨"OneBench", xnw_in (List.mem_append_right _ (List.mem_of_getElem? (i := 133) (by decide +kernel))) (by decide +kernel)⟩
theorem lX3_25 : xLm RX3 25 yX3_look := Or.inl (xgw_in (List.mem_append_right _ (List.mem_of_getElem? (i := 519) (by decide +kernel))) (by decide +kernel))
theorem kX3_29 : xLk RX3 29 TX0 0 := Or.inr ⟨"OneBench", xnw_in (List.mem_append_right _ (List.mem_of_getElem? (i := 95) (by decide +kernel))) (by decide +kernel)⟩
theorem kX3_38 : xLk RX3 38 TX0 3 := Or.inr ⟨"OneBench", xnw_in (List.mem_append_right _ (List.mem_of_getElem? (i := 105) (by decide +kernel))) (by decide +kernel)⟩
theorem kX3_41 : xLk RX3 41 TX0 5 := Or.inr ⟨"OneBench", xnw_in (List.mem_append_right _ (List.mem_of_getElem? (i := 111) (by decide +kernel))) (by decide +kernel)⟩
theorem lX3_44 : xLm RX3 44 yX0_heightIn := Or.inr ⟨"OneBench", xnw_in (List.mem_append_right _ (List.mem_of_getElem? (i := 524) (by decide +kernel))) (by decide +kernel)⟩
theorem lX3_48 : xLm RX3 48 yX3_raise := Or.inl (xgw_in (List.mem_append_right _ (List.mem_of_getElem? (i := 525) (by decide +kernel))) (by decide +kernel))
theorem lX3_52 : xLm RX3 52 yJ9_max_7cf53 := Or.inl (xgw_in (List.mem_append_right _ (List.mem_of_getElem? (i := 552) (by decide +kernel))) (by decide +kernel))
theorem kX3_58 : xLk RX3 58 TX0 10 := Or.inr ⟨"OneBench", xnw_in (List.mem_append_right _ (List.mem_of_getElem? (i := 123) (by decide +kernel))) (by decide +kernel)⟩
theorem lX3_61 : xLm RX3 61 yX0_topOf := Or.inr ⟨"OneBench", xnw_in (List.mem_append_right _ (List.mem_of_getElem? (i := 544) (by decide +kernel))) (by decide +kernel)⟩
theorem lX3_65 : xLm RX3 65 yX3_isFree := Or.inl (xgw_in (List.mem_append_right _ (List.mem_of_getElem? (i := 548) (by decide +kernel))) (by decide +kernel))
theorem kX3_69 : xLk RX3 69 TX0 9 := Or.inr ⟨"OneBench", xnw_in (List.mem_append_right _ (List.mem_of_getElem? (i := 120) (by decide +kernel))) (by decide +kernel)⟩
theorem lX3_72 : xLm RX3 72 yX3_isSeen := Or.inl (xgw_in (List.mem_append_right _ (List.mem_of_getElem? (i := 540) (by decide +kernel))) (by decide +kernel))
theorem kX3_76 : xLk RX3 76 TX0 1 := Or.inr ⟨"OneBench", xnw_in (List.mem_append_right _ (List.mem_of_getElem? (i := 100) (by decide +kernel))) (by decide +kernel)⟩
theorem kX3_79 : xLk RX3 79 TX0 2 := Or.inr ⟨"OneBench", xnw_in (List.mem_append_right _ (List.mem_of_getElem? (i := 103) (by decide +kernel))) (by decide +kernel)⟩
theorem kX3_82 : xLk RX3 82 TX0 12 := Or.inr ⟨"OneBench", xnw_in (List.mem_append_right _ (List.mem_of_getElem? (i := 127) (by decide +kernel))) (by decide +kernel)⟩
theorem lX3_86 : xLm RX3 86 yX5_isIn := Or.inr ⟨"OneBench", xnw_in (List.mem_append_right _ (List.mem_of_getElem? (i := 590) (by decide +kernel))) (by decide +kernel)⟩
theorem lX3_90 : xLm RX3 90 yX3_wantsAreMet := Or.inl (xgw_in (List.mem_append_right _ (List.mem_of_getElem? (i := 591) (by decide +kernel))) (by decide +kernel))
theorem kX4_9 : xLk RX4 9 TX4 0 := Or.inl (xgw_in (List.mem_append_right _ (List.mem_of_getElem? (i := 78) (by decide +kernel))) (by decide +kernel))
theorem kX4_15 : xLk RX4 15 TX4 1 := Or.inl (xgw_in (List.mem_append_right _ (List.mem_of_getElem? (i := 80) (by decide +kernel))) (by decide +kernel))
theorem kX5_11 : xLk RX5 11 TX5 0 := Or.inl (xgw_in (List.mem_append_right _ (List.mem_of_getElem? (i := 190) (by decide +kernel))) (by decide +kernel))
theorem lX5_17 : xLm RX5 17 yX1_init := Or.inr ⟨"OneBench", xnw_in (List.mem_append_right _ (List.mem_of_getElem? (i := 27) (by decide +kernel))) (by decide +kernel)⟩
theorem kX5_18 : xLk RX5 18 TX5 1 := Or.inl (xgw_in (List.mem_append_right _ (List.mem_of_getElem? (i := 191) (by decide +kernel))) (by decide +kernel))
theorem lX5_24 : xLm RX5 24 yX3_init := Or.inr ⟨"OneBench", xnw_in (List.mem_append_right _ (List.mem_of_getElem? (i := 62) (by decide +kernel))) (by decide +kernel)⟩
theorem kX5_25 : xLk RX5 25 TX5 2 := Or.inl (xgw_in (List.mem_append_right _ (List.mem_of_getElem? (i := 192) (by decide +kernel))) (by decide +kernel))
theorem lX5_31 : xLm RX5 31 yX4_init := Or.inr ⟨"OneBench", xnw_in (List.mem_append_right _ (List.mem_of_getElem? (i := 74) (by decide +kernel))) (by decide +kernel)⟩
theorem kX5_32 : xLk RX5 32 TX5 3 := Or.inl (xgw_in (List.mem_append_right _ (List.mem_of_getElem? (i := 193) (by decide +kernel))) (by decide +kernel))
theorem lX5_38 : xLm RX5 38 yX0_init := Or.inr ⟨"OneBench", xnw_in (List.mem_append_right _ (List.mem_of_getElem? (i := 89) (by decide +kernel))) (by decide +kernel)⟩
theorem kX5_39 : xLk RX5 39 TX5 4 := Or.inl (xgw_in (List.mem_append_right _ (List.mem_of_getElem? (i := 194) (by decide +kernel))) (by decide +kernel))
theorem kX5_43 : xLk RX5 43 TX5 5 := Or.inl (xgw_in (List.mem_append_right _ (List.mem_of_getElem? (i := 195) (by decide +kernel))) (by decide +kernel))
theorem kX5_46 : xLk RX5 46 TX5 6 := Or.inl (xgw_in (List.mem_append_right _ (List.mem_of_getElem? (i := 196) (by decide +kernel))) (by decide +kernel))
theorem kX5_50 : xLk RX5 50 TX5 7 := Or.inl (xgw_in (List.mem_append_right _ (List.mem_of_getElem? (i := 197) (by decide +kernel))) (by decide +kernel))
theorem kX5_54 : xLk RX5 54 TX5 8 := Or.inl (xgw_in (List.mem_append_right _ (List.mem_of_getElem? (i := 198) (by decide +kernel))) (by decide +kernel))
theorem kX5_58 : xLk RX5 58 TX5 9 := Or.inl (xgw_in (List.mem_append_right _ (List.mem_of_getElem? (i := 199) (by decide +kernel))) (by decide +kernel))
theorem kX5_61 : xLk RX5 61 TX5 10 := Or.inl (xgw_in (List.mem_append_right _ (List.mem_of_getElem? (i := 200) (by decide +kernel))) (by decide +kernel))
theorem kX5_64 : xLk RX5 64 TX5 11 := Or.inl (xgw_in (List.mem_append_right _ (List.mem_of_getElem? (i := 201) (by decide +kernel))) (by decide +kernel))
theorem kX5_68 : xLk RX5 68 TX5 12 := Or.inl (xgw_in (List.mem_append_right _ (List.mem_of_getElem? (i := 202) (by decide +kernel))) (by decide +kernel))
theorem kX5_71 : xLk RX5 71 TX5 13 := Or.inl (xgw_in (List.mem_append_right _ (List.mem_of_getElem? (i := 203) (by decide +kernel))) (by decide +kernel))
theorem lX5_74 : xLm RX5 74 yX2_init := Or.inr ⟨"OneBench", xnw_in (List.mem_append_right _ (List.mem_of_getElem? (i := 169) (by decide +kernel))) (by decide +kernel)⟩
theorem lX5_75 : xLm RX5 75 yX5_isRow := Or.inl (xgw_in (List.mem_append_right _ (List.mem_of_getElem? (i := 237) (by decide +kernel))) (by decide +kernel))
theorem cX5_79 : Cond.constant RX5 79 (-1000001) ∈ xgw := xgw_in (List.mem_append_right _ (List.mem_of_getElem? (i := 240) (by decide +kernel))) (by decide +kernel)
theorem lX5_80 : xLm RX5 80 yX5_found := Or.inl (xgw_in (List.mem_append_right _ (List.mem_of_getElem? (i := 241) (by decide +kernel))) (by decide +kernel))
theorem lX5_84 : xLm RX5 84 yX2_begin := Or.inr ⟨"OneBench", xnw_in (List.mem_append_right _ (List.mem_of_getElem? (i := 246) (by decide +kernel))) (by decide +kernel)⟩
theorem lX5_88 : xLm RX5 88 yX5_unfound := Or.inl (xgw_in (List.mem_append_right _ (List.mem_of_getElem? (i := 253) (by decide +kernel))) (by decide +kernel))
theorem kX5_91 : xLk RX5 91 TX2 0 := Or.inr ⟨"OneBench", xnw_in (List.mem_append_right _ (List.mem_of_getElem? (i := 174) (by decide +kernel))) (by decide +kernel)⟩
theorem kX5_94 : xLk RX5 94 TX2 2 := Or.inr ⟨"OneBench", xnw_in (List.mem_append_right _ (List.mem_of_getElem? (i := 178) (by decide +kernel))) (by decide +kernel)⟩
theorem kX5_97 : xLk RX5 97 TX2 3 := Or.inr ⟨"OneBench", xnw_in (List.mem_append_right _ (List.mem_of_getElem? (i := 180) (by decide +kernel))) (by decide +kernel)⟩
theorem lX5_101 : xLm RX5 101 yX2_cutToLane := Or.inr ⟨"OneBench", xnw_in (List.mem_append_right _ (List.mem_of_getElem? (i := 261) (by decide +kernel))) (by decide +kernel)⟩
theorem kX5_104 : xLk RX5 104 TX2 1 := Or.inr ⟨"OneBench", xnw_in (List.mem_append_right _ (List.mem_of_getElem? (i := 176) (by decide +kernel))) (by decide +kernel)⟩
theorem lX5_107 : xLm RX5 107 yX2_has := Or.inr ⟨"OneBench", xnw_in (List.mem_append_right _ (List.mem_of_getElem? (i := 269) (by decide +kernel))) (by decide +kernel)⟩
theorem kX5_117 : xLk RX5 117 TX1 1 := Or.inr ⟨"OneBench", xnw_in (List.mem_append_right _ (List.mem_of_getElem? (i := 33) (by decide +kernel))) (by decide +kernel)⟩
theorem cX5_120 : Cond.constant RX5 120 (-1000003) ∈ xgw := xgw_in (List.mem_append_right _ (List.mem_of_getElem? (i := 284) (by decide +kernel))) (by decide +kernel)
theorem lX5_121 : xLm RX5 121 yX1_take := Or.inr ⟨"OneBench", xnw_in (List.mem_append_right _ (List.mem_of_getElem? (i := 285) (by decide +kernel))) (by decide +kernel)⟩
theorem lX5_125 : xLm RX5 125 yX1_readInto := Or.inr ⟨"OneBench", xnw_in (List.mem_append_right _ (List.mem_of_getElem? (i := 293) (by decide +kernel))) (by decide +kernel)⟩
theorem kX5_129 : xLk RX5 129 TX1 6 := Or.inr ⟨"OneBench", xnw_in (List.mem_append_right _ (List.mem_of_getElem? (i := 39) (by decide +kernel))) (by decide +kernel)⟩
theorem cX5_132 : Cond.constant RX5 132 (-1000100) ∈ xgw := xgw_in (List.mem_append_right _ (List.mem_of_getElem? (i := 439) (by decide +kernel))) (by decide +kernel)
theorem kX5_133 : xLk RX5 133 TX1 7 := Or.inr ⟨"OneBench", xnw_in (List.mem_append_right _ (List.mem_of_getElem? (i := 41) (by decide +kernel))) (by decide +kernel)⟩
theorem kX5_136 : xLk RX5 136 TX0 3 := Or.inr ⟨"OneBench", xnw_in (List.mem_append_right _ (List.mem_of_getElem? (i := 107) (by decide +kernel))) (by decide +kernel)⟩
theorem cX5_139 : Cond.constant RX5 139 (-1000002) ∈ xgw := xgw_in (List.mem_append_right _ (List.mem_of_getElem? (i := 448) (by decide +kernel))) (by decide +kernel)
theorem kX5_140 : xLk RX5 140 TX0 13 := Or.inr ⟨"OneBench", xnw_in (List.mem_append_right _ (List.mem_of_getElem? (i := 131) (by decide +kernel))) (by decide +kernel)⟩
theorem lX5_143 : xLm RX5 143 yX5_keepDay := Or.inl (xgw_in (List.mem_append_right _ (List.mem_of_getElem? (i := 449) (by decide +kernel))) (by decide +kernel))
theorem kX5_146 : xLk RX5 146 TX0 14 := Or.inr ⟨"OneBench", xnw_in (List.mem_append_right _ (List.mem_of_getElem? (i := 134) (by decide +kernel))) (by decide +kernel)⟩
theorem lX5_149 : xLm RX5 149 yX0_hasTree := Or.inr ⟨"OneBench", xnw_in (List.mem_append_right _ (List.mem_of_getElem? (i := 469) (by decide +kernel))) (by decide +kernel)⟩
theorem lX5_152 : xLm RX5 152 yX0_mayBeCut := Or.inr ⟨"OneBench", xnw_in (List.mem_append_right _ (List.mem_of_getElem? (i := 473) (by decide +kernel))) (by decide +kernel)⟩
theorem kX5_155 : xLk RX5 155 TX0 8 := Or.inr ⟨"OneBench", xnw_in (List.mem_append_right _ (List.mem_of_getElem? (i := 117) (by decide +kernel))) (by decide +kernel)⟩
theorem lX5_158 : xLm RX5 158 yX0_heightNow := Or.inr ⟨"OneBench", xnw_in (List.mem_append_right _ (List.mem_of_getElem? (i := 478) (by decide +kernel))) (by decide +kernel)⟩
theorem lX5_161 : xLm RX5 161 yX5_isInnerSite := Or.inl (xgw_in (List.mem_append_right _ (List.mem_of_getElem? (i := 494) (by decide +kernel))) (by decide +kernel))
theorem lX5_164 : xLm RX5 164 yX0_treeAt := Or.inr ⟨"OneBench", xnw_in (List.mem_append_right _ (List.mem_of_getElem? (i := 497) (by decide +kernel))) (by decide +kernel)⟩
theorem cX5_167 : Cond.constant RX5 167 (-1000000) ∈ xgw := xgw_in (List.mem_append_right _ (List.mem_of_getElem? (i := 498) (by decide +kernel))) (by decide +kernel)
theorem kX5_168 : xLk RX5 168 TX0 5 := Or.inr ⟨"OneBench", xnw_in (List.mem_append_right _ (List.mem_of_getElem? (i := 112) (by decide +kernel))) (by decide +kernel)⟩
theorem kX5_171 : xLk RX5 171 TX0 0 := Or.inr ⟨"OneBench", xnw_in (List.mem_append_right _ (List.mem_of_getElem? (i := 97) (by decide +kernel))) (by decide +kernel)⟩
theorem lX5_174 : xLm RX5 174 yX0_becomes := Or.inr ⟨"OneBench", xnw_in (List.mem_append_right _ (List.mem_of_getElem? (i := 453) (by decide +kernel))) (by decide +kernel)⟩
theorem kX5_178 : xLk RX5 178 TX0 7 := Or.inr ⟨"OneBench", xnw_in (List.mem_append_right _ (List.mem_of_getElem? (i := 115) (by decide +kernel))) (by decide +kernel)⟩
theorem lX5_181 : xLm RX5 181 yX3_lookNow := Or.inr ⟨"OneBench", xnw_in (List.mem_append_right _ (List.mem_of_getElem? (i := 515) (by decide +kernel))) (by decide +kernel)⟩
theorem kX5_184 : xLk RX5 184 TX3 0 := Or.inr ⟨"OneBench", xnw_in (List.mem_append_right _ (List.mem_of_getElem? (i := 67) (by decide +kernel))) (by decide +kernel)⟩
theorem lX5_187 : xLm RX5 187 yX5_isEye := Or.inl (xgw_in (List.mem_append_right _ (List.mem_of_getElem? (i := 533) (by decide +kernel))) (by decide +kernel))
theorem lX5_190 : xLm RX5 190 yX3_thingsFrom := Or.inr ⟨"OneBench", xnw_in (List.mem_append_right _ (List.mem_of_getElem? (i := 536) (by decide +kernel))) (by decide +kernel)⟩
theorem kX5_194 : xLk RX5 194 TX0 9 := Or.inr ⟨"OneBench", xnw_in (List.mem_append_right _ (List.mem_of_getElem? (i := 121) (by decide +kernel))) (by decide +kernel)⟩
theorem lX5_197 : xLm RX5 197 yX3_isDoubled := Or.inr ⟨"OneBench", xnw_in (List.mem_append_right _ (List.mem_of_getElem? (i := 557) (by decide +kernel))) (by decide +kernel)⟩
theorem lX5_201 : xLm RX5 201 yX5_isIn := Or.inl (xgw_in (List.mem_append_right _ (List.mem_of_getElem? (i := 565) (by decide +kernel))) (by decide +kernel))
theorem lX5_204 : xLm RX5 204 yX3_wantsAreMet := Or.inr ⟨"OneBench", xnw_in (List.mem_append_right _ (List.mem_of_getElem? (i := 568) (by decide +kernel))) (by decide +kernel)⟩
theorem lX5_208 : xLm RX5 208 yX5_leastCut := Or.inl (xgw_in (List.mem_append_right _ (List.mem_of_getElem? (i := 576) (by decide +kernel))) (by decide +kernel))
theorem lX5_212 : xLm RX5 212 yX3_raise := Or.inr ⟨"OneBench", xnw_in (List.mem_append_right _ (List.mem_of_getElem? (i := 585) (by decide +kernel))) (by decide +kernel)⟩
theorem lX5_215 : xLm RX5 215 yX3_wantsAreMetForAll := Or.inr ⟨"OneBench", xnw_in (List.mem_append_right _ (List.mem_of_getElem? (i := 586) (by decide +kernel))) (by decide +kernel)⟩
theorem lX5_218 : xLm RX5 218 yJ9_min_7cf53 := Or.inl (xgw_in (List.mem_append_right _ (List.mem_of_getElem? (i := 458) (by decide +kernel))) (by decide +kernel))
theorem lX5_223 : xLm RX5 223 yX3_look := Or.inr ⟨"OneBench", xnw_in (List.mem_append_right _ (List.mem_of_getElem? (i := 596) (by decide +kernel))) (by decide +kernel)⟩
theorem lX5_227 : xLm RX5 227 yX3_isFree := Or.inr ⟨"OneBench", xnw_in (List.mem_append_right _ (List.mem_of_getElem? (i := 601) (by decide +kernel))) (by decide +kernel)⟩
theorem lX5_231 : xLm RX5 231 yX0_hasThings := Or.inr ⟨"OneBench", xnw_in (List.mem_append_right _ (List.mem_of_getElem? (i := 606) (by decide +kernel))) (by decide +kernel)⟩
theorem lX5_234 : xLm RX5 234 yX5_placesSeeing := Or.inl (xgw_in (List.mem_append_right _ (List.mem_of_getElem? (i := 610) (by decide +kernel))) (by decide +kernel))
theorem lX5_238 : xLm RX5 238 yX5_leastHider := Or.inl (xgw_in (List.mem_append_right _ (List.mem_of_getElem? (i := 622) (by decide +kernel))) (by decide +kernel))
theorem lX5_241 : xLm RX5 241 yX5_hidingBy := Or.inl (xgw_in (List.mem_append_right _ (List.mem_of_getElem? (i := 626) (by decide +kernel))) (by decide +kernel))
theorem kX5_244 : xLk RX5 244 TX0 4 := Or.inr ⟨"OneBench", xnw_in (List.mem_append_right _ (List.mem_of_getElem? (i := 109) (by decide +kernel))) (by decide +kernel)⟩
theorem lX5_247 : xLm RX5 247 yX5_isOfKind := Or.inl (xgw_in (List.mem_append_right _ (List.mem_of_getElem? (i := 646) (by decide +kernel))) (by decide +kernel))
theorem kX5_250 : xLk RX5 250 TX4 1 := Or.inr ⟨"OneBench", xnw_in (List.mem_append_right _ (List.mem_of_getElem? (i := 81) (by decide +kernel))) (by decide +kernel)⟩
theorem lX5_253 : xLm RX5 253 yX5_bodyOfSize := Or.inl (xgw_in (List.mem_append_right _ (List.mem_of_getElem? (i := 653) (by decide +kernel))) (by decide +kernel))
theorem lX5_256 : xLm RX5 256 yX5_bodyOfMark := Or.inl (xgw_in (List.mem_append_right _ (List.mem_of_getElem? (i := 656) (by decide +kernel))) (by decide +kernel))
theorem lX5_259 : xLm RX5 259 yX5_bodyGives := Or.inl (xgw_in (List.mem_append_right _ (List.mem_of_getElem? (i := 659) (by decide +kernel))) (by decide +kernel))
theorem kX5_263 : xLk RX5 263 TX4 0 := Or.inr ⟨"OneBench", xnw_in (List.mem_append_right _ (List.mem_of_getElem? (i := 79) (by decide +kernel))) (by decide +kernel)⟩
theorem lX5_266 : xLm RX5 266 yX5_rowsThere := Or.inl (xgw_in (List.mem_append_right _ (List.mem_of_getElem? (i := 674) (by decide +kernel))) (by decide +kernel))
theorem cX5_270 : Cond.constant RX5 270 (-1000010) ∈ xgw := xgw_in (List.mem_append_right _ (List.mem_of_getElem? (i := 245) (by decide +kernel))) (by decide +kernel)
theorem kX5_271 : xLk RX5 271 TX0 10 := Or.inr ⟨"OneBench", xnw_in (List.mem_append_right _ (List.mem_of_getElem? (i := 124) (by decide +kernel))) (by decide +kernel)⟩
theorem kX5_274 : xLk RX5 274 TX0 12 := Or.inr ⟨"OneBench", xnw_in (List.mem_append_right _ (List.mem_of_getElem? (i := 128) (by decide +kernel))) (by decide +kernel)⟩
theorem lX5_277 : xLm RX5 277 yX0_topOf := Or.inr ⟨"OneBench", xnw_in (List.mem_append_right _ (List.mem_of_getElem? (i := 580) (by decide +kernel))) (by decide +kernel)⟩
theorem lX5_280 : xLm RX5 280 yX3_leastStop := Or.inr ⟨"OneBench", xnw_in (List.mem_append_right _ (List.mem_of_getElem? (i := 581) (by decide +kernel))) (by decide +kernel)⟩
theorem lX5_284 : xLm RX5 284 yJ9_max_7cf53 := Or.inl (xgw_in (List.mem_append_right _ (List.mem_of_getElem? (i := 584) (by decide +kernel))) (by decide +kernel))
theorem lX5_287 : xLm RX5 287 yX4_note := Or.inr ⟨"OneBench", xnw_in (List.mem_append_right _ (List.mem_of_getElem? (i := 662) (by decide +kernel))) (by decide +kernel)⟩
theorem kX6_7 : xLk RX6 7 TX6 2 := Or.inl (xgw_in (List.mem_append_right _ (List.mem_of_getElem? (i := 690) (by decide +kernel))) (by decide +kernel))
theorem kX6_13 : xLk RX6 13 TX6 3 := Or.inl (xgw_in (List.mem_append_right _ (List.mem_of_getElem? (i := 691) (by decide +kernel))) (by decide +kernel))
theorem kX6_16 : xLk RX6 16 TX6 4 := Or.inl (xgw_in (List.mem_append_right _ (List.mem_of_getElem? (i := 692) (by decide +kernel))) (by decide +kernel))
theorem kX6_19 : xLk RX6 19 TX6 5 := Or.inl (xgw_in (List.mem_append_right _ (List.mem_of_getElem? (i := 693) (by decide +kernel))) (by decide +kernel))
theorem kX6_22 : xLk RX6 22 TX6 6 := Or.inl (xgw_in (List.mem_append_right _ (List.mem_of_getElem? (i := 694) (by decide +kernel))) (by decide +kernel))
theorem kX6_25 : xLk RX6 25 TX6 8 := Or.inl (xgw_in (List.mem_append_right _ (List.mem_of_getElem? (i := 696) (by decide +kernel))) (by decide +kernel))
theorem kX6_28 : xLk RX6 28 TX6 10 := Or.inl (xgw_in (List.mem_append_right _ (List.mem_of_getElem? (i := 698) (by decide +kernel))) (by decide +kernel))
theorem kX6_31 : xLk RX6 31 TX6 20 := Or.inl (xgw_in (List.mem_append_right _ (List.mem_of_getElem? (i := 708) (by decide +kernel))) (by decide +kernel))
theorem kX6_34 : xLk RX6 34 TX6 21 := Or.inl (xgw_in (List.mem_append_right _ (List.mem_of_getElem? (i := 709) (by decide +kernel))) (by decide +kernel))
theorem kX6_38 : xLk RX6 38 TX6 22 := Or.inl (xgw_in (List.mem_append_right _ (List.mem_of_getElem? (i := 710) (by decide +kernel))) (by decide +kernel))
theorem kX6_41 : xLk RX6 41 TX6 23 := Or.inl (xgw_in (List.mem_append_right _ (List.mem_of_getElem? (i := 711) (by decide +kernel))) (by decide +kernel))
theorem kX6_48 : xLk RX6 48 TX6 1 := Or.inl (xgw_in (List.mem_append_right _ (List.mem_of_getElem? (i := 689) (by decide +kernel))) (by decide +kernel))
theorem cX6_51 : Cond.constant RX6 51 (-1000010) ∈ xgw := xgw_in (List.mem_append_right _ (List.mem_of_getElem? (i := 781) (by decide +kernel))) (by decide +kernel)
theorem cX6_52 : Cond.constantLong RX6 52 (7) ∈ xgw := xgw_in (List.mem_append_right _ (List.mem_of_getElem? (i := 771) (by decide +kernel))) (by decide +kernel)
theorem lX6_54 : xLm RX6 54 yX6_in := Or.inl (xgw_in (List.mem_append_right _ (List.mem_of_getElem? (i := 772) (by decide +kernel))) (by decide +kernel))
theorem kX6_44 : xLk RX6 44 TX6 0 := Or.inl (xgw_in (List.mem_append_right _ (List.mem_of_getElem? (i := 688) (by decide +kernel))) (by decide +kernel))
theorem lX6_58 : xLm RX6 58 yX6_isRow := Or.inl (xgw_in (List.mem_append_right _ (List.mem_of_getElem? (i := 768) (by decide +kernel))) (by decide +kernel))
theorem cX6_62 : Cond.constantLong RX6 62 (2) ∈ xgw := xgw_in (List.mem_append_right _ (List.mem_of_getElem? (i := 775) (by decide +kernel))) (by decide +kernel)
theorem cX6_64 : Cond.constant RX6 64 (-1000001) ∈ xgw := xgw_in (List.mem_append_right _ (List.mem_of_getElem? (i := 776) (by decide +kernel))) (by decide +kernel)
theorem lX6_65 : xLm RX6 65 yX6_finding := Or.inl (xgw_in (List.mem_append_right _ (List.mem_of_getElem? (i := 777) (by decide +kernel))) (by decide +kernel))
theorem cX6_69 : Cond.constantLong RX6 69 (8) ∈ xgw := xgw_in (List.mem_append_right _ (List.mem_of_getElem? (i := 798) (by decide +kernel))) (by decide +kernel)
theorem kX6_71 : xLk RX6 71 TX6 11 := Or.inl (xgw_in (List.mem_append_right _ (List.mem_of_getElem? (i := 699) (by decide +kernel))) (by decide +kernel))
theorem cX6_74 : Cond.constant RX6 74 (-1000003) ∈ xgw := xgw_in (List.mem_append_right _ (List.mem_of_getElem? (i := 799) (by decide +kernel))) (by decide +kernel)
theorem cX6_75 : Cond.constantLong RX6 75 (255) ∈ xgw := xgw_in (List.mem_append_right _ (List.mem_of_getElem? (i := 800) (by decide +kernel))) (by decide +kernel)
theorem kX6_77 : xLk RX6 77 TX6 13 := Or.inl (xgw_in (List.mem_append_right _ (List.mem_of_getElem? (i := 701) (by decide +kernel))) (by decide +kernel))
theorem cX6_80 : Cond.constant RX6 80 (-1000000) ∈ xgw := xgw_in (List.mem_append_right _ (List.mem_of_getElem? (i := 817) (by decide +kernel))) (by decide +kernel)
theorem kX6_81 : xLk RX6 81 TX6 14 := Or.inl (xgw_in (List.mem_append_right _ (List.mem_of_getElem? (i := 702) (by decide +kernel))) (by decide +kernel))
theorem lX6_84 : xLm RX6 84 yX6_byteAt := Or.inl (xgw_in (List.mem_append_right _ (List.mem_of_getElem? (i := 813) (by decide +kernel))) (by decide +kernel))
theorem kX6_87 : xLk RX6 87 TX6 16 := Or.inl (xgw_in (List.mem_append_right _ (List.mem_of_getElem? (i := 704) (by decide +kernel))) (by decide +kernel))
theorem kX6_90 : xLk RX6 90 TX6 15 := Or.inl (xgw_in (List.mem_append_right _ (List.mem_of_getElem? (i := 703) (by decide +kernel))) (by decide +kernel))
theorem lX6_93 : xLm RX6 93 yX6_isLetter := Or.inl (xgw_in (List.mem_append_right _ (List.mem_of_getElem? (i := 818) (by decide +kernel))) (by decide +kernel))
theorem lX6_96 : xLm RX6 96 yX6_isFigure := Or.inl (xgw_in (List.mem_append_right _ (List.mem_of_getElem? (i := 821) (by decide +kernel))) (by decide +kernel))
theorem kX6_99 : xLk RX6 99 TX6 17 := Or.inl (xgw_in (List.mem_append_right _ (List.mem_of_getElem? (i := 705) (by decide +kernel))) (by decide +kernel))
theorem kX6_102 : xLk RX6 102 TX6 18 := Or.inl (xgw_in (List.mem_append_right _ (List.mem_of_getElem? (i := 706) (by decide +kernel))) (by decide +kernel))
theorem lX6_105 : xLm RX6 105 yX6_next := Or.inl (xgw_in (List.mem_append_right _ (List.mem_of_getElem? (i := 809) (by decide +kernel))) (by decide +kernel))
theorem kX6_108 : xLk RX6 108 TX6 19 := Or.inl (xgw_in (List.mem_append_right _ (List.mem_of_getElem? (i := 707) (by decide +kernel))) (by decide +kernel))
theorem lX6_111 : xLm RX6 111 yX6_bad := Or.inl (xgw_in (List.mem_append_right _ (List.mem_of_getElem? (i := 837) (by decide +kernel))) (by decide +kernel))
theorem lX6_115 : xLm RX6 115 yX6_figures := Or.inl (xgw_in (List.mem_append_right _ (List.mem_of_getElem? (i := 845) (by decide +kernel))) (by decide +kernel))
theorem lX6_119 : xLm RX6 119 yX6_must := Or.inl (xgw_in (List.mem_append_right _ (List.mem_of_getElem? (i := 833) (by decide +kernel))) (by decide +kernel))
theorem cX6_123 : Cond.constantLong RX6 123 (6386536) ∈ xgw := xgw_in (List.mem_append_right _ (List.mem_of_getElem? (i := 870) (by decide +kernel))) (by decide +kernel)
theorem cX6_125 : Cond.constantLong RX6 125 (7955831) ∈ xgw := xgw_in (List.mem_append_right _ (List.mem_of_getElem? (i := 871) (by decide +kernel))) (by decide +kernel)
theorem cX6_127 : Cond.constantLong RX6 127 (7299435) ∈ xgw := xgw_in (List.mem_append_right _ (List.mem_of_getElem? (i := 872) (by decide +kernel))) (by decide +kernel)
theorem cX6_129 : Cond.constantLong RX6 129 (448377677669) ∈ xgw := xgw_in (List.mem_append_right _ (List.mem_of_getElem? (i := 873) (by decide +kernel))) (by decide +kernel)
theorem cX6_131 : Cond.constantLong RX6 131 (439721161573) ∈ xgw := xgw_in (List.mem_append_right _ (List.mem_of_getElem? (i := 874) (by decide +kernel))) (by decide +kernel)
theorem lX6_133 : xLm RX6 133 yX6_name := Or.inl (xgw_in (List.mem_append_right _ (List.mem_of_getElem? (i := 828) (by decide +kernel))) (by decide +kernel))
theorem cX6_137 : Cond.constantLong RX6 137 (113741193899620) ∈ xgw := xgw_in (List.mem_append_right _ (List.mem_of_getElem? (i := 832) (by decide +kernel))) (by decide +kernel)
theorem lX6_139 : xLm RX6 139 yX6_number := Or.inl (xgw_in (List.mem_append_right _ (List.mem_of_getElem? (i := 841) (by decide +kernel))) (by decide +kernel))
theorem lX6_143 : xLm RX6 143 yX6_mustEnd := Or.inl (xgw_in (List.mem_append_right _ (List.mem_of_getElem? (i := 849) (by decide +kernel))) (by decide +kernel))
theorem lX6_146 : xLm RX6 146 yX6_begins := Or.inl (xgw_in (List.mem_append_right _ (List.mem_of_getElem? (i := 863) (by decide +kernel))) (by decide +kernel))
theorem lX6_150 : xLm RX6 150 yX6_kindBy := Or.inl (xgw_in (List.mem_append_right _ (List.mem_of_getElem? (i := 867) (by decide +kernel))) (by decide +kernel))
theorem lX6_154 : xLm RX6 154 yX6_isTold := Or.inl (xgw_in (List.mem_append_right _ (List.mem_of_getElem? (i := 875) (by decide +kernel))) (by decide +kernel))
theorem cX6_157 : Cond.constantLong RX6 157 (1936224119) ∈ xgw := xgw_in (List.mem_append_right _ (List.mem_of_getElem? (i := 884) (by decide +kernel))) (by decide +kernel)
theorem cX6_159 : Cond.constantLong RX6 159 (1751737445) ∈ xgw := xgw_in (List.mem_append_right _ (List.mem_of_getElem? (i := 885) (by decide +kernel))) (by decide +kernel)
theorem lX6_161 : xLm RX6 161 yX6_begin := Or.inl (xgw_in (List.mem_append_right _ (List.mem_of_getElem? (i := 805) (by decide +kernel))) (by decide +kernel))
theorem lX6_164 : xLm RX6 164 yX6_readGround := Or.inl (xgw_in (List.mem_append_right _ (List.mem_of_getElem? (i := 824) (by decide +kernel))) (by decide +kernel))
theorem cX6_167 : Cond.constantLong RX6 167 (1818323813) ∈ xgw := xgw_in (List.mem_append_right _ (List.mem_of_getElem? (i := 853) (by decide +kernel))) (by decide +kernel)
theorem lX6_169 : xLm RX6 169 yX6_readLake := Or.inl (xgw_in (List.mem_append_right _ (List.mem_of_getElem? (i := 854) (by decide +kernel))) (by decide +kernel))
theorem cX6_172 : Cond.constantLong RX6 172 (1953654117) ∈ xgw := xgw_in (List.mem_append_right _ (List.mem_of_getElem? (i := 858) (by decide +kernel))) (by decide +kernel)
theorem lX6_174 : xLm RX6 174 yX6_readTree := Or.inl (xgw_in (List.mem_append_right _ (List.mem_of_getElem? (i := 859) (by decide +kernel))) (by decide +kernel))
theorem cX6_177 : Cond.constantLong RX6 177 (499967946343) ∈ xgw := xgw_in (List.mem_append_right _ (List.mem_of_getElem? (i := 879) (by decide +kernel))) (by decide +kernel)
theorem lX6_179 : xLm RX6 179 yX6_readThing := Or.inl (xgw_in (List.mem_append_right _ (List.mem_of_getElem? (i := 880) (by decide +kernel))) (by decide +kernel))
theorem kX6_182 : xLk RX6 182 TX6 12 := Or.inl (xgw_in (List.mem_append_right _ (List.mem_of_getElem? (i := 700) (by decide +kernel))) (by decide +kernel))
theorem cX6_185 : Cond.constant RX6 185 (-1000100) ∈ xgw := xgw_in (List.mem_append_right _ (List.mem_of_getElem? (i := 886) (by decide +kernel))) (by decide +kernel)
theorem kX6_186 : xLk RX6 186 TX6 7 := Or.inl (xgw_in (List.mem_append_right _ (List.mem_of_getElem? (i := 695) (by decide +kernel))) (by decide +kernel))
theorem kX6_190 : xLk RX6 190 TX6 9 := Or.inl (xgw_in (List.mem_append_right _ (List.mem_of_getElem? (i := 697) (by decide +kernel))) (by decide +kernel))
theorem lX6_193 : xLm RX6 193 yX6_of := Or.inl (xgw_in (List.mem_append_right _ (List.mem_of_getElem? (i := 917) (by decide +kernel))) (by decide +kernel))
theorem lX6_196 : xLm RX6 196 yX6_treeAt := Or.inl (xgw_in (List.mem_append_right _ (List.mem_of_getElem? (i := 930) (by decide +kernel))) (by decide +kernel))
theorem lX6_199 : xLm RX6 199 yX6_ground := Or.inl (xgw_in (List.mem_append_right _ (List.mem_of_getElem? (i := 954) (by decide +kernel))) (by decide +kernel))
theorem lX6_202 : xLm RX6 202 yX6_height := Or.inl (xgw_in (List.mem_append_right _ (List.mem_of_getElem? (i := 921) (by decide +kernel))) (by decide +kernel))
theorem cX6_205 : Cond.constant RX6 205 (-1000002) ∈ xgw := xgw_in (List.mem_append_right _ (List.mem_of_getElem? (i := 895) (by decide +kernel))) (by decide +kernel)
theorem cX6_206 : Cond.constantLong RX6 206 (99) ∈ xgw := xgw_in (List.mem_append_right _ (List.mem_of_getElem? (i := 896) (by decide +kernel))) (by decide +kernel)
theorem lX6_208 : xLm RX6 208 yX6_keep := Or.inl (xgw_in (List.mem_append_right _ (List.mem_of_getElem? (i := 897) (by decide +kernel))) (by decide +kernel))
theorem lX6_211 : xLm RX6 211 yX6_isTree := Or.inl (xgw_in (List.mem_append_right _ (List.mem_of_getElem? (i := 909) (by decide +kernel))) (by decide +kernel))
theorem lX6_214 : xLm RX6 214 yX6_mayBeCut := Or.inl (xgw_in (List.mem_append_right _ (List.mem_of_getElem? (i := 913) (by decide +kernel))) (by decide +kernel))
theorem cX6_217 : Cond.constantLong RX6 217 (18) ∈ xgw := xgw_in (List.mem_append_right _ (List.mem_of_getElem? (i := 929) (by decide +kernel))) (by decide +kernel)
theorem cX6_219 : Cond.constantLong RX6 219 (20) ∈ xgw := xgw_in (List.mem_append_right _ (List.mem_of_getElem? (i := 938) (by decide +kernel))) (by decide +kernel)
theorem cX6_221 : Cond.constantLong RX6 221 (60) ∈ xgw := xgw_in (List.mem_append_right _ (List.mem_of_getElem? (i := 939) (by decide +kernel))) (by decide +kernel)
theorem cX6_223 : Cond.constantLong RX6 223 (3) ∈ xgw := xgw_in (List.mem_append_right _ (List.mem_of_getElem? (i := 948) (by decide +kernel))) (by decide +kernel)
theorem cX6_225 : Cond.constantLong RX6 225 (19) ∈ xgw := xgw_in (List.mem_append_right _ (List.mem_of_getElem? (i := 953) (by decide +kernel))) (by decide +kernel)
theorem lX6_227 : xLm RX6 227 yX6_bar := Or.inl (xgw_in (List.mem_append_right _ (List.mem_of_getElem? (i := 958) (by decide +kernel))) (by decide +kernel))
theorem lX6_230 : xLm RX6 230 yX6_top := Or.inl (xgw_in (List.mem_append_right _ (List.mem_of_getElem? (i := 978) (by decide +kernel))) (by decide +kernel))
theorem lX6_233 : xLm RX6 233 yX6_isFree := Or.inl (xgw_in (List.mem_append_right _ (List.mem_of_getElem? (i := 982) (by decide +kernel))) (by decide +kernel))
theorem lX6_237 : xLm RX6 237 yX6_isSeen := Or.inl (xgw_in (List.mem_append_right _ (List.mem_of_getElem? (i := 974) (by decide +kernel))) (by decide +kernel))
theorem cX6_241 : Cond.constantLong RX6 241 (30) ∈ xgw := xgw_in (List.mem_append_right _ (List.mem_of_getElem? (i := 969) (by decide +kernel))) (by decide +kernel)
theorem lX6_243 : xLm RX6 243 yX6_isEye := Or.inl (xgw_in (List.mem_append_right _ (List.mem_of_getElem? (i := 966) (by decide +kernel))) (by decide +kernel))
theorem lX6_246 : xLm RX6 246 yX6_seenFrom := Or.inl (xgw_in (List.mem_append_right _ (List.mem_of_getElem? (i := 970) (by decide +kernel))) (by decide +kernel))
theorem lX6_249 : xLm RX6 249 yX6_isDoubled := Or.inl (xgw_in (List.mem_append_right _ (List.mem_of_getElem? (i := 990) (by decide +kernel))) (by decide +kernel))
theorem lX6_253 : xLm RX6 253 yX6_areMet := Or.inl (xgw_in (List.mem_append_right _ (List.mem_of_getElem? (i := 1002) (by decide +kernel))) (by decide +kernel))
theorem lX6_256 : xLm RX6 256 yX6_metBy := Or.inl (xgw_in (List.mem_append_right _ (List.mem_of_getElem? (i := 998) (by decide +kernel))) (by decide +kernel))
theorem cX6_259 : Cond.constantLong RX6 259 (4) ∈ xgw := xgw_in (List.mem_append_right _ (List.mem_of_getElem? (i := 1014) (by decide +kernel))) (by decide +kernel)
theorem cX6_261 : Cond.constantLong RX6 261 (9) ∈ xgw := xgw_in (List.mem_append_right _ (List.mem_of_getElem? (i := 1015) (by decide +kernel))) (by decide +kernel)
theorem lX6_263 : xLm RX6 263 yX6_kindOfSort := Or.inl (xgw_in (List.mem_append_right _ (List.mem_of_getElem? (i := 1016) (by decide +kernel))) (by decide +kernel))
theorem lX6_266 : xLm RX6 266 yX6_areThings := Or.inl (xgw_in (List.mem_append_right _ (List.mem_of_getElem? (i := 1027) (by decide +kernel))) (by decide +kernel))
theorem cX6_269 : Cond.constantLong RX6 269 (17) ∈ xgw := xgw_in (List.mem_append_right _ (List.mem_of_getElem? (i := 1043) (by decide +kernel))) (by decide +kernel)
theorem lX6_271 : xLm RX6 271 yX6_moreOf := Or.inl (xgw_in (List.mem_append_right _ (List.mem_of_getElem? (i := 1039) (by decide +kernel))) (by decide +kernel))
theorem cX6_275 : Cond.constantLong RX6 275 (5) ∈ xgw := xgw_in (List.mem_append_right _ (List.mem_of_getElem? (i := 1060) (by decide +kernel))) (by decide +kernel)
theorem lX6_277 : xLm RX6 277 yX6_isOf := Or.inl (xgw_in (List.mem_append_right _ (List.mem_of_getElem? (i := 1061) (by decide +kernel))) (by decide +kernel))
theorem kX6_280 : xLk RX6 280 TX6 24 := Or.inl (xgw_in (List.mem_append_right _ (List.mem_of_getElem? (i := 712) (by decide +kernel))) (by decide +kernel))
theorem lX6_283 : xLm RX6 283 yX6_began := Or.inl (xgw_in (List.mem_append_right _ (List.mem_of_getElem? (i := 1076) (by decide +kernel))) (by decide +kernel))
theorem lX6_286 : xLm RX6 286 yX6_plainSize := Or.inl (xgw_in (List.mem_append_right _ (List.mem_of_getElem? (i := 1072) (by decide +kernel))) (by decide +kernel))
theorem lX6_289 : xLm RX6 289 yX6_markOf := Or.inl (xgw_in (List.mem_append_right _ (List.mem_of_getElem? (i := 1080) (by decide +kernel))) (by decide +kernel))
theorem lX6_292 : xLm RX6 292 yX6_sizeOf := Or.inl (xgw_in (List.mem_append_right _ (List.mem_of_getElem? (i := 1068) (by decide +kernel))) (by decide +kernel))
theorem lJ0_335 : xLm RJ0 335 yJ0_coder_7d493 := Or.inl (xgw_in (List.mem_append_right _ (List.mem_of_getElem? (i := 340) (by decide +kernel))) (by decide +kernel))
theorem lJ0_492 : xLm RJ0 492 yJ0_isLatin1_aae02 := Or.inl (xgw_in (List.mem_append_right _ (List.mem_of_getElem? (i := 350) (by decide +kernel))) (by decide +kernel))
theorem lJ0_495 : xLm RJ0 495 yJ1_charAt_3b067 := Or.inl (xgw_in (List.mem_append_right _ (List.mem_of_getElem? (i := 354) (by decide +kernel))) (by decide +kernel))
theorem lJ0_1059 : xLm RJ0 1059 yJ3_checkIndex_8e157 := Or.inl (xgw_in (List.mem_append_right _ (List.mem_of_getElem? (i := 362) (by decide +kernel))) (by decide +kernel))
theorem lJ1_9 : xLm RJ1 9 yJ0_checkIndex_df160 := Or.inl (xgw_in (List.mem_append_right _ (List.mem_of_getElem? (i := 357) (by decide +kernel))) (by decide +kernel))
theorem lL_9 : xLm RL 9 yX5_init := Or.inl (xgw_in (List.mem_append_right _ (List.mem_of_getElem? (i := 17) (by decide +kernel))) (by decide +kernel))
theorem lL_12 : xLm RL 12 yX6_init := Or.inl (xgw_in (List.mem_append_right _ (List.mem_of_getElem? (i := 684) (by decide +kernel))) (by decide +kernel))
theorem lL_13 : xLm RL 13 yX5_row := Or.inl (xgw_in (List.mem_append_right _ (List.mem_of_getElem? (i := 233) (by decide +kernel))) (by decide +kernel))
theorem lL_17 : xLm RL 17 yX6_row := Or.inl (xgw_in (List.mem_append_right _ (List.mem_of_getElem? (i := 764) (by decide +kernel))) (by decide +kernel))
theorem lL_18 : xLm RL 18 yX5_set := Or.inl (xgw_in (List.mem_append_right _ (List.mem_of_getElem? (i := 257) (by decide +kernel))) (by decide +kernel))
theorem lL_21 : xLm RL 21 yX6_set := Or.inl (xgw_in (List.mem_append_right _ (List.mem_of_getElem? (i := 782) (by decide +kernel))) (by decide +kernel))
theorem lL_22 : xLm RL 22 yX5_copy := Or.inl (xgw_in (List.mem_append_right _ (List.mem_of_getElem? (i := 265) (by decide +kernel))) (by decide +kernel))
theorem lL_26 : xLm RL 26 yX6_copy := Or.inl (xgw_in (List.mem_append_right _ (List.mem_of_getElem? (i := 786) (by decide +kernel))) (by decide +kernel))
theorem lL_27 : xLm RL 27 yX5_drop := Or.inl (xgw_in (List.mem_append_right _ (List.mem_of_getElem? (i := 276) (by decide +kernel))) (by decide +kernel))
theorem lL_31 : xLm RL 31 yX6_drop := Or.inl (xgw_in (List.mem_append_right _ (List.mem_of_getElem? (i := 790) (by decide +kernel))) (by decide +kernel))
theorem cL_32 : Cond.constantLong RL 32 (4294967295) ∈ xgw := xgw_in (List.mem_append_right _ (List.mem_of_getElem? (i := 1096) (by decide +kernel))) (by decide +kernel)
theorem lL_34 : xLm RL 34 yX5_feed := Or.inl (xgw_in (List.mem_append_right _ (List.mem_of_getElem? (i := 280) (by decide +kernel))) (by decide +kernel))
theorem lL_38 : xLm RL 38 yX6_feed := Or.inl (xgw_in (List.mem_append_right _ (List.mem_of_getElem? (i := 794) (by decide +kernel))) (by decide +kernel))
theorem lL_39 : xLm RL 39 yX5_garden := Or.inl (xgw_in (List.mem_append_right _ (List.mem_of_getElem? (i := 289) (by decide +kernel))) (by decide +kernel))
theorem lL_43 : xLm RL 43 yX6_garden := Or.inl (xgw_in (List.mem_append_right _ (List.mem_of_getElem? (i := 801) (by decide +kernel))) (by decide +kernel))
theorem lL_44 : xLm RL 44 yX5_fault := Or.inl (xgw_in (List.mem_append_right _ (List.mem_of_getElem? (i := 440) (by decide +kernel))) (by decide +kernel))
theorem lL_47 : xLm RL 47 yX6_fault := Or.inl (xgw_in (List.mem_append_right _ (List.mem_of_getElem? (i := 887) (by decide +kernel))) (by decide +kernel))
theorem lL_48 : xLm RL 48 yX5_years := Or.inl (xgw_in (List.mem_append_right _ (List.mem_of_getElem? (i := 444) (by decide +kernel))) (by decide +kernel))
theorem lL_51 : xLm RL 51 yX6_years := Or.inl (xgw_in (List.mem_append_right _ (List.mem_of_getElem? (i := 891) (by decide +kernel))) (by decide +kernel))
theorem lL_52 : xLm RL 52 yX5_winter := Or.inl (xgw_in (List.mem_append_right _ (List.mem_of_getElem? (i := 461) (by decide +kernel))) (by decide +kernel))
theorem lL_55 : xLm RL 55 yX6_winter := Or.inl (xgw_in (List.mem_append_right _ (List.mem_of_getElem? (i := 901) (by decide +kernel))) (by decide +kernel))
theorem lL_56 : xLm RL 56 yX5_clip := Or.inl (xgw_in (List.mem_append_right _ (List.mem_of_getElem? (i := 465) (by decide +kernel))) (by decide +kernel))
theorem lL_60 : xLm RL 60 yX6_clip := Or.inl (xgw_in (List.mem_append_right _ (List.mem_of_getElem? (i := 905) (by decide +kernel))) (by decide +kernel))
theorem lL_61 : xLm RL 61 yX5_move := Or.inl (xgw_in (List.mem_append_right _ (List.mem_of_getElem? (i := 490) (by decide +kernel))) (by decide +kernel))
theorem lL_64 : xLm RL 64 yX6_move := Or.inl (xgw_in (List.mem_append_right _ (List.mem_of_getElem? (i := 925) (by decide +kernel))) (by decide +kernel))
theorem lL_65 : xLm RL 65 yX5_level := Or.inl (xgw_in (List.mem_append_right _ (List.mem_of_getElem? (i := 499) (by decide +kernel))) (by decide +kernel))
theorem lL_68 : xLm RL 68 yX6_level := Or.inl (xgw_in (List.mem_append_right _ (List.mem_of_getElem? (i := 934) (by decide +kernel))) (by decide +kernel))
theorem lL_69 : xLm RL 69 yX5_undo := Or.inl (xgw_in (List.mem_append_right _ (List.mem_of_getElem? (i := 503) (by decide +kernel))) (by decide +kernel))
theorem lL_72 : xLm RL 72 yX6_undo := Or.inl (xgw_in (List.mem_append_right _ (List.mem_of_getElem? (i := 940) (by decide +kernel))) (by decide +kernel))
theorem lL_73 : xLm RL 73 yX5_tree := Or.inl (xgw_in (List.mem_append_right _ (List.mem_of_getElem? (i := 507) (by decide +kernel))) (by decide +kernel))
theorem lL_76 : xLm RL 76 yX6_tree := Or.inl (xgw_in (List.mem_append_right _ (List.mem_of_getElem? (i := 944) (by decide +kernel))) (by decide +kernel))
theorem lL_77 : xLm RL 77 yX5_site := Or.inl (xgw_in (List.mem_append_right _ (List.mem_of_getElem? (i := 511) (by decide +kernel))) (by decide +kernel))
theorem lL_80 : xLm RL 80 yX6_site := Or.inl (xgw_in (List.mem_append_right _ (List.mem_of_getElem? (i := 949) (by decide +kernel))) (by decide +kernel))
theorem lL_81 : xLm RL 81 yX5_seen := Or.inl (xgw_in (List.mem_append_right _ (List.mem_of_getElem? (i := 529) (by decide +kernel))) (by decide +kernel))
theorem lL_84 : xLm RL 84 yX6_seen := Or.inl (xgw_in (List.mem_append_right _ (List.mem_of_getElem? (i := 962) (by decide +kernel))) (by decide +kernel))
theorem lL_85 : xLm RL 85 yX5_doubled := Or.inl (xgw_in (List.mem_append_right _ (List.mem_of_getElem? (i := 553) (by decide +kernel))) (by decide +kernel))
theorem lL_88 : xLm RL 88 yX6_doubled := Or.inl (xgw_in (List.mem_append_right _ (List.mem_of_getElem? (i := 986) (by decide +kernel))) (by decide +kernel))
theorem lL_89 : xLm RL 89 yX5_met := Or.inl (xgw_in (List.mem_append_right _ (List.mem_of_getElem? (i := 561) (by decide +kernel))) (by decide +kernel))
theorem lL_92 : xLm RL 92 yX6_met := Or.inl (xgw_in (List.mem_append_right _ (List.mem_of_getElem? (i := 994) (by decide +kernel))) (by decide +kernel))
theorem lL_93 : xLm RL 93 yX5_cut := Or.inl (xgw_in (List.mem_append_right _ (List.mem_of_getElem? (i := 572) (by decide +kernel))) (by decide +kernel))
theorem lL_97 : xLm RL 97 yX6_cut := Or.inl (xgw_in (List.mem_append_right _ (List.mem_of_getElem? (i := 1006) (by decide +kernel))) (by decide +kernel))
theorem lL_98 : xLm RL 98 yX5_plant := Or.inl (xgw_in (List.mem_append_right _ (List.mem_of_getElem? (i := 592) (by decide +kernel))) (by decide +kernel))
theorem lL_101 : xLm RL 101 yX6_plant := Or.inl (xgw_in (List.mem_append_right _ (List.mem_of_getElem? (i := 1010) (by decide +kernel))) (by decide +kernel))
theorem lL_102 : xLm RL 102 yX5_moon := Or.inl (xgw_in (List.mem_append_right _ (List.mem_of_getElem? (i := 597) (by decide +kernel))) (by decide +kernel))
theorem lL_105 : xLm RL 105 yX6_moon := Or.inl (xgw_in (List.mem_append_right _ (List.mem_of_getElem? (i := 1019) (by decide +kernel))) (by decide +kernel))
theorem lL_106 : xLm RL 106 yX5_path := Or.inl (xgw_in (List.mem_append_right _ (List.mem_of_getElem? (i := 602) (by decide +kernel))) (by decide +kernel))
theorem lL_109 : xLm RL 109 yX6_path := Or.inl (xgw_in (List.mem_append_right _ (List.mem_of_getElem? (i := 1023) (by decide +kernel))) (by decide +kernel))
theorem lL_110 : xLm RL 110 yX5_picture := Or.inl (xgw_in (List.mem_append_right _ (List.mem_of_getElem? (i := 614) (by decide +kernel))) (by decide +kernel))
theorem lL_113 : xLm RL 113 yX6_picture := Or.inl (xgw_in (List.mem_append_right _ (List.mem_of_getElem? (i := 1031) (by decide +kernel))) (by decide +kernel))
theorem lL_114 : xLm RL 114 yX5_rival := Or.inl (xgw_in (List.mem_append_right _ (List.mem_of_getElem? (i := 618) (by decide +kernel))) (by decide +kernel))
theorem lL_117 : xLm RL 117 yX6_rival := Or.inl (xgw_in (List.mem_append_right _ (List.mem_of_getElem? (i := 1035) (by decide +kernel))) (by decide +kernel))
theorem lL_118 : xLm RL 118 yX5_image := Or.inl (xgw_in (List.mem_append_right _ (List.mem_of_getElem? (i := 630) (by decide +kernel))) (by decide +kernel))
theorem lL_121 : xLm RL 121 yX6_image := Or.inl (xgw_in (List.mem_append_right _ (List.mem_of_getElem? (i := 1044) (by decide +kernel))) (by decide +kernel))
theorem lL_122 : xLm RL 122 yX5_restore := Or.inl (xgw_in (List.mem_append_right _ (List.mem_of_getElem? (i := 634) (by decide +kernel))) (by decide +kernel))
theorem lL_125 : xLm RL 125 yX6_restore := Or.inl (xgw_in (List.mem_append_right _ (List.mem_of_getElem? (i := 1048) (by decide +kernel))) (by decide +kernel))
theorem lL_126 : xLm RL 126 yX5_kind := Or.inl (xgw_in (List.mem_append_right _ (List.mem_of_getElem? (i := 638) (by decide +kernel))) (by decide +kernel))
theorem lL_129 : xLm RL 129 yX6_kind := Or.inl (xgw_in (List.mem_append_right _ (List.mem_of_getElem? (i := 1052) (by decide +kernel))) (by decide +kernel))
theorem lL_130 : xLm RL 130 yX5_as := Or.inl (xgw_in (List.mem_append_right _ (List.mem_of_getElem? (i := 642) (by decide +kernel))) (by decide +kernel))
theorem lL_133 : xLm RL 133 yX6_as := Or.inl (xgw_in (List.mem_append_right _ (List.mem_of_getElem? (i := 1056) (by decide +kernel))) (by decide +kernel))
theorem lL_134 : xLm RL 134 yX5_ask := Or.inl (xgw_in (List.mem_append_right _ (List.mem_of_getElem? (i := 649) (by decide +kernel))) (by decide +kernel))
theorem lL_137 : xLm RL 137 yX6_ask := Or.inl (xgw_in (List.mem_append_right _ (List.mem_of_getElem? (i := 1064) (by decide +kernel))) (by decide +kernel))
theorem lL_138 : xLm RL 138 yX5_trace := Or.inl (xgw_in (List.mem_append_right _ (List.mem_of_getElem? (i := 666) (by decide +kernel))) (by decide +kernel))
theorem lL_141 : xLm RL 141 yX6_trace := Or.inl (xgw_in (List.mem_append_right _ (List.mem_of_getElem? (i := 1084) (by decide +kernel))) (by decide +kernel))
theorem lL_142 : xLm RL 142 yX5_count := Or.inl (xgw_in (List.mem_append_right _ (List.mem_of_getElem? (i := 670) (by decide +kernel))) (by decide +kernel))
theorem lL_145 : xLm RL 145 yX6_count := Or.inl (xgw_in (List.mem_append_right _ (List.mem_of_getElem? (i := 1088) (by decide +kernel))) (by decide +kernel))
theorem lL_146 : xLm RL 146 yX5_status := Or.inl (xgw_in (List.mem_append_right _ (List.mem_of_getElem? (i := 678) (by decide +kernel))) (by decide +kernel))
theorem lL_149 : xLm RL 149 yX6_status := Or.inl (xgw_in (List.mem_append_right _ (List.mem_of_getElem? (i := 1092) (by decide +kernel))) (by decide +kernel))
theorem mX0_init : xMt yX0_init cX0_init 1 none 0 := ⟨xgw_in (List.mem_append_right _ (List.mem_of_getElem? (i := 91) (by decide +kernel))) (by decide +kernel), xgw_in (List.mem_append_right _ (List.mem_of_getElem? (i := 5) (by decide +kernel))) (by decide +kernel), by decide +kernel, by decide⟩
theorem vX0_init : Cond.instanceMethod yX0_init ∈ xgw := xgw_in (List.mem_append_right _ (List.mem_of_getElem? (i := 90) (by decide +kernel))) (by decide +kernel)
theorem mX0_becomes : xMt yX0_becomes cX0_becomes 2 none 1 := ⟨xgw_in (List.mem_append_right _ (List.mem_of_getElem? (i := 456) (by decide +kernel))) (by decide +kernel), xgw_in (List.mem_append_right _ (List.mem_of_getElem? (i := 5) (by decide +kernel))) (by decide +kernel), by decide +kernel, by decide⟩
theorem vX0_becomes : xMv yX0_becomes := ⟨xgw_in (List.mem_append_right _ (List.mem_of_getElem? (i := 455) (by decide +kernel))) (by decide +kernel), xgw_in (List.mem_append_left _ (List.mem_of_getElem? (i := 26) (by decide +kernel))) (by decide +kernel)⟩
theorem mX0_clear : xMt yX0_clear cX0_clear 1 none 0 := ⟨xgw_in (List.mem_append_right _ (List.mem_of_getElem? (i := 300) (by decide +kernel))) (by decide +kernel), xgw_in (List.mem_append_right _ (List.mem_of_getElem? (i := 5) (by decide +kernel))) (by decide +kernel), by decide +kernel, by decide⟩
theorem vX0_clear : xMv yX0_clear := ⟨xgw_in (List.mem_append_right _ (List.mem_of_getElem? (i := 299) (by decide +kernel))) (by decide +kernel), xgw_in (List.mem_append_left _ (List.mem_of_getElem? (i := 7) (by decide +kernel))) (by decide +kernel)⟩
theorem mX0_addTree : xMt yX0_addTree cX0_addTree 5 none 4 := ⟨xgw_in (List.mem_append_right _ (List.mem_of_getElem? (i := 427) (by decide +kernel))) (by decide +kernel), xgw_in (List.mem_append_right _ (List.mem_of_getElem? (i := 5) (by decide +kernel))) (by decide +kernel), by decide +kernel, by decide⟩
theorem vX0_addTree : xMv yX0_addTree := ⟨xgw_in (List.mem_append_right _ (List.mem_of_getElem? (i := 426) (by decide +kernel))) (by decide +kernel), xgw_in (List.mem_append_left _ (List.mem_of_getElem? (i := 22) (by decide +kernel))) (by decide +kernel)⟩
theorem mX0_addThing : xMt yX0_addThing cX0_addThing 4 none 3 := ⟨xgw_in (List.mem_append_right _ (List.mem_of_getElem? (i := 438) (by decide +kernel))) (by decide +kernel), xgw_in (List.mem_append_right _ (List.mem_of_getElem? (i := 5) (by decide +kernel))) (by decide +kernel), by decide +kernel, by decide⟩
theorem vX0_addThing : xMv yX0_addThing := ⟨xgw_in (List.mem_append_right _ (List.mem_of_getElem? (i := 437) (by decide +kernel))) (by decide +kernel), xgw_in (List.mem_append_left _ (List.mem_of_getElem? (i := 24) (by decide +kernel))) (by decide +kernel)⟩
theorem mX0_hasTree : xMt yX0_hasTree cX0_hasTree 2 (some .boolean) 1 := ⟨xgw_in (List.mem_append_right _ (List.mem_of_getElem? (i := 472) (by decide +kernel))) (by decide +kernel), xgw_in (List.mem_append_right _ (List.mem_of_getElem? (i := 5) (by decide +kernel))) (by decide +kernel), by decide +kernel, by decide⟩
theorem vX0_hasTree : xMv yX0_hasTree := ⟨xgw_in (List.mem_append_right _ (List.mem_of_getElem? (i := 471) (by decide +kernel))) (by decide +kernel), xgw_in (List.mem_append_left _ (List.mem_of_getElem? (i := 27) (by decide +kernel))) (by decide +kernel)⟩
theorem mX0_hasThings : xMt yX0_hasThings cX0_hasThings 2 (some .boolean) 1 := ⟨xgw_in (List.mem_append_right _ (List.mem_of_getElem? (i := 609) (by decide +kernel))) (by decide +kernel), xgw_in (List.mem_append_right _ (List.mem_of_getElem? (i := 5) (by decide +kernel))) (by decide +kernel), by decide +kernel, by decide⟩
theorem vX0_hasThings : xMv yX0_hasThings := ⟨xgw_in (List.mem_append_right _ (List.mem_of_getElem? (i := 608) (by decide +kernel))) (by decide +kernel), xgw_in (List.mem_append_left _ (List.mem_of_getElem? (i := 42) (by decide +kernel))) (by decide +kernel)⟩
theorem mX0_mayBeCut : xMt yX0_mayBeCut cX0_mayBeCut 2 (some .boolean) 1 := ⟨xgw_in (List.mem_append_right _ (List.mem_of_getElem? (i := 476) (by decide +kernel))) (by decide +kernel), xgw_in (List.mem_append_right _ (List.mem_of_getElem? (i := 5) (by decide +kernel))) (by decide +kernel), by decide +kernel, by decide⟩
theorem vX0_mayBeCut : xMv yX0_mayBeCut := ⟨xgw_in (List.mem_append_right _ (List.mem_of_getElem? (i := 475) (by decide +kernel))) (by decide +kernel), xgw_in (List.mem_append_left _ (List.mem_of_getElem? (i := 28) (by decide +kernel))) (by decide +kernel)⟩
theorem mX0_treeAt : xMt yX0_treeAt cX0_treeAt 3 (some .int) 1 := ⟨xgw_in (List.mem_append_right _ (List.mem_of_getElem? (i := 423) (by decide +kernel))) (by decide +kernel), xgw_in (List.mem_append_right _ (List.mem_of_getElem? (i := 5) (by decide +kernel))) (by decide +kernel), by decide +kernel, by decide⟩
theorem vX0_treeAt : xMv yX0_treeAt := ⟨xgw_in (List.mem_append_right _ (List.mem_of_getElem? (i := 422) (by decide +kernel))) (by decide +kernel), xgw_in (List.mem_append_left _ (List.mem_of_getElem? (i := 21) (by decide +kernel))) (by decide +kernel)⟩
theorem mX0_topOf : xMt yX0_topOf cX0_topOf 2 (some .int) 1 := ⟨xgw_in (List.mem_append_right _ (List.mem_of_getElem? (i := 547) (by decide +kernel))) (by decide +kernel), xgw_in (List.mem_append_right _ (List.mem_of_getElem? (i := 5) (by decide +kernel))) (by decide +kernel), by decide +kernel, by decide⟩
theorem vX0_topOf : xMv yX0_topOf := ⟨xgw_in (List.mem_append_right _ (List.mem_of_getElem? (i := 546) (by decide +kernel))) (by decide +kernel), xgw_in (List.mem_append_left _ (List.mem_of_getElem? (i := 36) (by decide +kernel))) (by decide +kernel)⟩
theorem mX0_heightNow : xMt yX0_heightNow cX0_heightNow 2 (some .int) 1 := ⟨xgw_in (List.mem_append_right _ (List.mem_of_getElem? (i := 481) (by decide +kernel))) (by decide +kernel), xgw_in (List.mem_append_right _ (List.mem_of_getElem? (i := 5) (by decide +kernel))) (by decide +kernel), by decide +kernel, by decide⟩
theorem vX0_heightNow : xMv yX0_heightNow := ⟨xgw_in (List.mem_append_right _ (List.mem_of_getElem? (i := 480) (by decide +kernel))) (by decide +kernel), xgw_in (List.mem_append_left _ (List.mem_of_getElem? (i := 29) (by decide +kernel))) (by decide +kernel)⟩
theorem mX0_heightIn : xMt yX0_heightIn cX0_heightIn 6 (some .int) 3 := ⟨xgw_in (List.mem_append_right _ (List.mem_of_getElem? (i := 485) (by decide +kernel))) (by decide +kernel), xgw_in (List.mem_append_right _ (List.mem_of_getElem? (i := 5) (by decide +kernel))) (by decide +kernel), by decide +kernel, by decide⟩
theorem vX0_heightIn : xMv yX0_heightIn := ⟨xgw_in (List.mem_append_right _ (List.mem_of_getElem? (i := 484) (by decide +kernel))) (by decide +kernel), xgw_in (List.mem_append_left _ (List.mem_of_getElem? (i := 30) (by decide +kernel))) (by decide +kernel)⟩
theorem mX1_init : xMt yX1_init cX1_init 1 none 0 := ⟨xgw_in (List.mem_append_right _ (List.mem_of_getElem? (i := 29) (by decide +kernel))) (by decide +kernel), xgw_in (List.mem_append_right _ (List.mem_of_getElem? (i := 2) (by decide +kernel))) (by decide +kernel), by decide +kernel, by decide⟩
theorem vX1_init : Cond.instanceMethod yX1_init ∈ xgw := xgw_in (List.mem_append_right _ (List.mem_of_getElem? (i := 28) (by decide +kernel))) (by decide +kernel)
theorem mX1_take : xMt yX1_take cX1_take 2 none 1 := ⟨xgw_in (List.mem_append_right _ (List.mem_of_getElem? (i := 288) (by decide +kernel))) (by decide +kernel), xgw_in (List.mem_append_right _ (List.mem_of_getElem? (i := 2) (by decide +kernel))) (by decide +kernel), by decide +kernel, by decide⟩
theorem vX1_take : xMv yX1_take := ⟨xgw_in (List.mem_append_right _ (List.mem_of_getElem? (i := 287) (by decide +kernel))) (by decide +kernel), xgw_in (List.mem_append_left _ (List.mem_of_getElem? (i := 5) (by decide +kernel))) (by decide +kernel)⟩
theorem mX1_readInto : xMt yX1_readInto cX1_readInto 3 (some .boolean) 1 := ⟨xgw_in (List.mem_append_right _ (List.mem_of_getElem? (i := 296) (by decide +kernel))) (by decide +kernel), xgw_in (List.mem_append_right _ (List.mem_of_getElem? (i := 2) (by decide +kernel))) (by decide +kernel), by decide +kernel, by decide⟩
theorem vX1_readInto : xMv yX1_readInto := ⟨xgw_in (List.mem_append_right _ (List.mem_of_getElem? (i := 295) (by decide +kernel))) (by decide +kernel), xgw_in (List.mem_append_left _ (List.mem_of_getElem? (i := 6) (by decide +kernel))) (by decide +kernel)⟩
theorem mX1_readGround : xMt yX1_readGround cX1_readGround 3 (some .boolean) 1 := ⟨xgw_in (List.mem_append_right _ (List.mem_of_getElem? (i := 326) (by decide +kernel))) (by decide +kernel), xgw_in (List.mem_append_right _ (List.mem_of_getElem? (i := 2) (by decide +kernel))) (by decide +kernel), by decide +kernel, by decide⟩
theorem vX1_readGround : xMv yX1_readGround := ⟨xgw_in (List.mem_append_right _ (List.mem_of_getElem? (i := 325) (by decide +kernel))) (by decide +kernel), xgw_in (List.mem_append_left _ (List.mem_of_getElem? (i := 11) (by decide +kernel))) (by decide +kernel)⟩
theorem mX1_readLake : xMt yX1_readLake cX1_readLake 2 (some .boolean) 1 := ⟨xgw_in (List.mem_append_right _ (List.mem_of_getElem? (i := 404) (by decide +kernel))) (by decide +kernel), xgw_in (List.mem_append_right _ (List.mem_of_getElem? (i := 2) (by decide +kernel))) (by decide +kernel), by decide +kernel, by decide⟩
theorem vX1_readLake : xMv yX1_readLake := ⟨xgw_in (List.mem_append_right _ (List.mem_of_getElem? (i := 403) (by decide +kernel))) (by decide +kernel), xgw_in (List.mem_append_left _ (List.mem_of_getElem? (i := 18) (by decide +kernel))) (by decide +kernel)⟩
theorem mX1_readTree : xMt yX1_readTree cX1_readTree 5 (some .boolean) 1 := ⟨xgw_in (List.mem_append_right _ (List.mem_of_getElem? (i := 409) (by decide +kernel))) (by decide +kernel), xgw_in (List.mem_append_right _ (List.mem_of_getElem? (i := 2) (by decide +kernel))) (by decide +kernel), by decide +kernel, by decide⟩
theorem vX1_readTree : xMv yX1_readTree := ⟨xgw_in (List.mem_append_right _ (List.mem_of_getElem? (i := 408) (by decide +kernel))) (by decide +kernel), xgw_in (List.mem_append_left _ (List.mem_of_getElem? (i := 19) (by decide +kernel))) (by decide +kernel)⟩
theorem mX1_readThing : xMt yX1_readThing cX1_readThing 5 (some .boolean) 1 := ⟨xgw_in (List.mem_append_right _ (List.mem_of_getElem? (i := 432) (by decide +kernel))) (by decide +kernel), xgw_in (List.mem_append_right _ (List.mem_of_getElem? (i := 2) (by decide +kernel))) (by decide +kernel), by decide +kernel, by decide⟩
theorem vX1_readThing : xMv yX1_readThing := ⟨xgw_in (List.mem_append_right _ (List.mem_of_getElem? (i := 431) (by decide +kernel))) (by decide +kernel), xgw_in (List.mem_append_left _ (List.mem_of_getElem? (i := 23) (by decide +kernel))) (by decide +kernel)⟩
theorem mX1_sortTold : xMt yX1_sortTold cX1_sortTold 1 (some .int) 0 := ⟨xgw_in (List.mem_append_right _ (List.mem_of_getElem? (i := 413) (by decide +kernel))) (by decide +kernel), xgw_in (List.mem_append_right _ (List.mem_of_getElem? (i := 2) (by decide +kernel))) (by decide +kernel), by decide +kernel, by decide⟩
theorem vX1_sortTold : xMv yX1_sortTold := ⟨xgw_in (List.mem_append_right _ (List.mem_of_getElem? (i := 412) (by decide +kernel))) (by decide +kernel), xgw_in (List.mem_append_left _ (List.mem_of_getElem? (i := 20) (by decide +kernel))) (by decide +kernel)⟩
theorem mX1_refuse : xMt yX1_refuse cX1_refuse 2 (some .boolean) 1 := ⟨xgw_in (List.mem_append_right _ (List.mem_of_getElem? (i := 387) (by decide +kernel))) (by decide +kernel), xgw_in (List.mem_append_right _ (List.mem_of_getElem? (i := 2) (by decide +kernel))) (by decide +kernel), by decide +kernel, by decide⟩
theorem vX1_refuse : xMv yX1_refuse := ⟨xgw_in (List.mem_append_right _ (List.mem_of_getElem? (i := 386) (by decide +kernel))) (by decide +kernel), xgw_in (List.mem_append_left _ (List.mem_of_getElem? (i := 14) (by decide +kernel))) (by decide +kernel)⟩
theorem mX1_isNumber : xMt yX1_isNumber cX1_isNumber 3 (some .boolean) 2 := ⟨xgw_in (List.mem_append_right _ (List.mem_of_getElem? (i := 391) (by decide +kernel))) (by decide +kernel), xgw_in (List.mem_append_right _ (List.mem_of_getElem? (i := 2) (by decide +kernel))) (by decide +kernel), by decide +kernel, by decide⟩
theorem vX1_isNumber : xMv yX1_isNumber := ⟨xgw_in (List.mem_append_right _ (List.mem_of_getElem? (i := 390) (by decide +kernel))) (by decide +kernel), xgw_in (List.mem_append_left _ (List.mem_of_getElem? (i := 15) (by decide +kernel))) (by decide +kernel)⟩
theorem mX1_passSign : xMt yX1_passSign cX1_passSign 1 (some .boolean) 0 := ⟨xgw_in (List.mem_append_right _ (List.mem_of_getElem? (i := 399) (by decide +kernel))) (by decide +kernel), xgw_in (List.mem_append_right _ (List.mem_of_getElem? (i := 2) (by decide +kernel))) (by decide +kernel), by decide +kernel, by decide⟩
theorem vX1_passSign : xMv yX1_passSign := ⟨xgw_in (List.mem_append_right _ (List.mem_of_getElem? (i := 398) (by decide +kernel))) (by decide +kernel), xgw_in (List.mem_append_left _ (List.mem_of_getElem? (i := 17) (by decide +kernel))) (by decide +kernel)⟩
theorem mX1_passWord : xMt yX1_passWord cX1_passWord 2 (some .boolean) 1 := ⟨xgw_in (List.mem_append_right _ (List.mem_of_getElem? (i := 331) (by decide +kernel))) (by decide +kernel), xgw_in (List.mem_append_right _ (List.mem_of_getElem? (i := 2) (by decide +kernel))) (by decide +kernel), by decide +kernel, by decide⟩
theorem vX1_passWord : xMv yX1_passWord := ⟨xgw_in (List.mem_append_right _ (List.mem_of_getElem? (i := 330) (by decide +kernel))) (by decide +kernel), xgw_in (List.mem_append_left _ (List.mem_of_getElem? (i := 12) (by decide +kernel))) (by decide +kernel)⟩
theorem mX1_pass : xMt yX1_pass cX1_pass 2 (some .int) 0 := ⟨xgw_in (List.mem_append_right _ (List.mem_of_getElem? (i := 395) (by decide +kernel))) (by decide +kernel), xgw_in (List.mem_append_right _ (List.mem_of_getElem? (i := 2) (by decide +kernel))) (by decide +kernel), by decide +kernel, by decide⟩
theorem vX1_pass : xMv yX1_pass := ⟨xgw_in (List.mem_append_right _ (List.mem_of_getElem? (i := 394) (by decide +kernel))) (by decide +kernel), xgw_in (List.mem_append_left _ (List.mem_of_getElem? (i := 16) (by decide +kernel))) (by decide +kernel)⟩
theorem mX1_isWord : xMt yX1_isWord cX1_isWord 3 (some .boolean) 1 := ⟨xgw_in (List.mem_append_right _ (List.mem_of_getElem? (i := 335) (by decide +kernel))) (by decide +kernel), xgw_in (List.mem_append_right _ (List.mem_of_getElem? (i := 2) (by decide +kernel))) (by decide +kernel), by decide +kernel, by decide⟩
theorem vX1_isWord : xMv yX1_isWord := ⟨xgw_in (List.mem_append_right _ (List.mem_of_getElem? (i := 334) (by decide +kernel))) (by decide +kernel), xgw_in (List.mem_append_left _ (List.mem_of_getElem? (i := 13) (by decide +kernel))) (by decide +kernel)⟩
theorem mX1_advance : xMt yX1_advance cX1_advance 1 none 0 := ⟨xgw_in (List.mem_append_right _ (List.mem_of_getElem? (i := 305) (by decide +kernel))) (by decide +kernel), xgw_in (List.mem_append_right _ (List.mem_of_getElem? (i := 2) (by decide +kernel))) (by decide +kernel), by decide +kernel, by decide⟩
theorem vX1_advance : xMv yX1_advance := ⟨xgw_in (List.mem_append_right _ (List.mem_of_getElem? (i := 304) (by decide +kernel))) (by decide +kernel), xgw_in (List.mem_append_left _ (List.mem_of_getElem? (i := 8) (by decide +kernel))) (by decide +kernel)⟩
theorem mX1_passLetters : xMt yX1_passLetters cX1_passLetters 1 none 0 := ⟨xgw_in (List.mem_append_right _ (List.mem_of_getElem? (i := 315) (by decide +kernel))) (by decide +kernel), xgw_in (List.mem_append_right _ (List.mem_of_getElem? (i := 2) (by decide +kernel))) (by decide +kernel), by decide +kernel, by decide⟩
theorem vX1_passLetters : xMv yX1_passLetters := ⟨xgw_in (List.mem_append_right _ (List.mem_of_getElem? (i := 314) (by decide +kernel))) (by decide +kernel), xgw_in (List.mem_append_left _ (List.mem_of_getElem? (i := 9) (by decide +kernel))) (by decide +kernel)⟩
theorem mX1_passFigures : xMt yX1_passFigures cX1_passFigures 1 none 0 := ⟨xgw_in (List.mem_append_right _ (List.mem_of_getElem? (i := 322) (by decide +kernel))) (by decide +kernel), xgw_in (List.mem_append_right _ (List.mem_of_getElem? (i := 2) (by decide +kernel))) (by decide +kernel), by decide +kernel, by decide⟩
theorem vX1_passFigures : xMv yX1_passFigures := ⟨xgw_in (List.mem_append_right _ (List.mem_of_getElem? (i := 321) (by decide +kernel))) (by decide +kernel), xgw_in (List.mem_append_left _ (List.mem_of_getElem? (i := 10) (by decide +kernel))) (by decide +kernel)⟩
theorem mX1_isBlank : xMt yX1_isBlank cX1_isBlank 1 (some .boolean) 1 := ⟨xgw_in (List.mem_append_right _ (List.mem_of_getElem? (i := 308) (by decide +kernel))) (by decide +kernel), xgw_in (List.mem_append_right _ (List.mem_of_getElem? (i := 2) (by decide +kernel))) (by decide +kernel), by decide +kernel, by decide⟩
theorem sX1_isBlank : Cond.static yX1_isBlank ∈ xgw := xgw_in (List.mem_append_right _ (List.mem_of_getElem? (i := 307) (by decide +kernel))) (by decide +kernel)
theorem mX1_isLetter : xMt yX1_isLetter cX1_isLetter 1 (some .boolean) 1 := ⟨xgw_in (List.mem_append_right _ (List.mem_of_getElem? (i := 311) (by decide +kernel))) (by decide +kernel), xgw_in (List.mem_append_right _ (List.mem_of_getElem? (i := 2) (by decide +kernel))) (by decide +kernel), by decide +kernel, by decide⟩
theorem sX1_isLetter : Cond.static yX1_isLetter ∈ xgw := xgw_in (List.mem_append_right _ (List.mem_of_getElem? (i := 310) (by decide +kernel))) (by decide +kernel)
theorem mX1_isFigure : xMt yX1_isFigure cX1_isFigure 1 (some .boolean) 1 := ⟨xgw_in (List.mem_append_right _ (List.mem_of_getElem? (i := 318) (by decide +kernel))) (by decide +kernel), xgw_in (List.mem_append_right _ (List.mem_of_getElem? (i := 2) (by decide +kernel))) (by decide +kernel), by decide +kernel, by decide⟩
theorem sX1_isFigure : Cond.static yX1_isFigure ∈ xgw := xgw_in (List.mem_append_right _ (List.mem_of_getElem? (i := 317) (by decide +kernel))) (by decide +kernel)
theorem mX2_init : xMt yX2_init cX2_init 1 none 0 := ⟨xgw_in (List.mem_append_right _ (List.mem_of_getElem? (i := 171) (by decide +kernel))) (by decide +kernel), xgw_in (List.mem_append_right _ (List.mem_of_getElem? (i := 6) (by decide +kernel))) (by decide +kernel), by decide +kernel, by decide⟩
theorem vX2_init : Cond.instanceMethod yX2_init ∈ xgw := xgw_in (List.mem_append_right _ (List.mem_of_getElem? (i := 170) (by decide +kernel))) (by decide +kernel)
theorem mX2_begin : xMt yX2_begin cX2_begin 3 none 2 := ⟨xgw_in (List.mem_append_right _ (List.mem_of_getElem? (i := 249) (by decide +kernel))) (by decide +kernel), xgw_in (List.mem_append_right _ (List.mem_of_getElem? (i := 6) (by decide +kernel))) (by decide +kernel), by decide +kernel, by decide⟩
theorem vX2_begin : xMv yX2_begin := ⟨xgw_in (List.mem_append_right _ (List.mem_of_getElem? (i := 248) (by decide +kernel))) (by decide +kernel), xgw_in (List.mem_append_left _ (List.mem_of_getElem? (i := 1) (by decide +kernel))) (by decide +kernel)⟩
theorem mX2_cutToLane : xMt yX2_cutToLane cX2_cutToLane 2 (some .int) 1 := ⟨xgw_in (List.mem_append_right _ (List.mem_of_getElem? (i := 264) (by decide +kernel))) (by decide +kernel), xgw_in (List.mem_append_right _ (List.mem_of_getElem? (i := 6) (by decide +kernel))) (by decide +kernel), by decide +kernel, by decide⟩
theorem vX2_cutToLane : xMv yX2_cutToLane := ⟨xgw_in (List.mem_append_right _ (List.mem_of_getElem? (i := 263) (by decide +kernel))) (by decide +kernel), xgw_in (List.mem_append_left _ (List.mem_of_getElem? (i := 3) (by decide +kernel))) (by decide +kernel)⟩
theorem mX2_has : xMt yX2_has cX2_has 3 (some .boolean) 2 := ⟨xgw_in (List.mem_append_right _ (List.mem_of_getElem? (i := 272) (by decide +kernel))) (by decide +kernel), xgw_in (List.mem_append_right _ (List.mem_of_getElem? (i := 6) (by decide +kernel))) (by decide +kernel), by decide +kernel, by decide⟩
theorem vX2_has : xMv yX2_has := ⟨xgw_in (List.mem_append_right _ (List.mem_of_getElem? (i := 271) (by decide +kernel))) (by decide +kernel), xgw_in (List.mem_append_left _ (List.mem_of_getElem? (i := 4) (by decide +kernel))) (by decide +kernel)⟩
theorem mX3_init : xMt yX3_init cX3_init 1 none 0 := ⟨xgw_in (List.mem_append_right _ (List.mem_of_getElem? (i := 64) (by decide +kernel))) (by decide +kernel), xgw_in (List.mem_append_right _ (List.mem_of_getElem? (i := 3) (by decide +kernel))) (by decide +kernel), by decide +kernel, by decide⟩
theorem vX3_init : Cond.instanceMethod yX3_init ∈ xgw := xgw_in (List.mem_append_right _ (List.mem_of_getElem? (i := 63) (by decide +kernel))) (by decide +kernel)
theorem mX3_lookNow : xMt yX3_lookNow cX3_lookNow 2 none 1 := ⟨xgw_in (List.mem_append_right _ (List.mem_of_getElem? (i := 518) (by decide +kernel))) (by decide +kernel), xgw_in (List.mem_append_right _ (List.mem_of_getElem? (i := 3) (by decide +kernel))) (by decide +kernel), by decide +kernel, by decide⟩
theorem vX3_lookNow : xMv yX3_lookNow := ⟨xgw_in (List.mem_append_right _ (List.mem_of_getElem? (i := 517) (by decide +kernel))) (by decide +kernel), xgw_in (List.mem_append_left _ (List.mem_of_getElem? (i := 31) (by decide +kernel))) (by decide +kernel)⟩
theorem mX3_look : xMt yX3_look cX3_look 5 none 3 := ⟨xgw_in (List.mem_append_right _ (List.mem_of_getElem? (i := 522) (by decide +kernel))) (by decide +kernel), xgw_in (List.mem_append_right _ (List.mem_of_getElem? (i := 3) (by decide +kernel))) (by decide +kernel), by decide +kernel, by decide⟩
theorem vX3_look : xMv yX3_look := ⟨xgw_in (List.mem_append_right _ (List.mem_of_getElem? (i := 521) (by decide +kernel))) (by decide +kernel), xgw_in (List.mem_append_left _ (List.mem_of_getElem? (i := 32) (by decide +kernel))) (by decide +kernel)⟩
theorem mX3_raise : xMt yX3_raise cX3_raise 3 none 2 := ⟨xgw_in (List.mem_append_right _ (List.mem_of_getElem? (i := 528) (by decide +kernel))) (by decide +kernel), xgw_in (List.mem_append_right _ (List.mem_of_getElem? (i := 3) (by decide +kernel))) (by decide +kernel), by decide +kernel, by decide⟩
theorem vX3_raise : xMv yX3_raise := ⟨xgw_in (List.mem_append_right _ (List.mem_of_getElem? (i := 527) (by decide +kernel))) (by decide +kernel), xgw_in (List.mem_append_left _ (List.mem_of_getElem? (i := 33) (by decide +kernel))) (by decide +kernel)⟩
theorem mX3_isFree : xMt yX3_isFree cX3_isFree 6 (some .boolean) 4 := ⟨xgw_in (List.mem_append_right _ (List.mem_of_getElem? (i := 551) (by decide +kernel))) (by decide +kernel), xgw_in (List.mem_append_right _ (List.mem_of_getElem? (i := 3) (by decide +kernel))) (by decide +kernel), by decide +kernel, by decide⟩
theorem vX3_isFree : xMv yX3_isFree := ⟨xgw_in (List.mem_append_right _ (List.mem_of_getElem? (i := 550) (by decide +kernel))) (by decide +kernel), xgw_in (List.mem_append_left _ (List.mem_of_getElem? (i := 37) (by decide +kernel))) (by decide +kernel)⟩
theorem mX3_leastStop : xMt yX3_leastStop cX3_leastStop 4 (some .int) 4 := ⟨xgw_in (List.mem_append_right _ (List.mem_of_getElem? (i := 583) (by decide +kernel))) (by decide +kernel), xgw_in (List.mem_append_right _ (List.mem_of_getElem? (i := 3) (by decide +kernel))) (by decide +kernel), by decide +kernel, by decide⟩
theorem sX3_leastStop : Cond.static yX3_leastStop ∈ xgw := xgw_in (List.mem_append_right _ (List.mem_of_getElem? (i := 582) (by decide +kernel))) (by decide +kernel)
theorem mX3_isSeen : xMt yX3_isSeen cX3_isSeen 6 (some .boolean) 4 := ⟨xgw_in (List.mem_append_right _ (List.mem_of_getElem? (i := 543) (by decide +kernel))) (by decide +kernel), xgw_in (List.mem_append_right _ (List.mem_of_getElem? (i := 3) (by decide +kernel))) (by decide +kernel), by decide +kernel, by decide⟩
theorem vX3_isSeen : xMv yX3_isSeen := ⟨xgw_in (List.mem_append_right _ (List.mem_of_getElem? (i := 542) (by decide +kernel))) (by decide +kernel), xgw_in (List.mem_append_left _ (List.mem_of_getElem? (i := 35) (by decide +kernel))) (by decide +kernel)⟩
theorem mX3_thingsFrom : xMt yX3_thingsFrom cX3_thingsFrom 6 (some .int) 3 := ⟨xgw_in (List.mem_append_right _ (List.mem_of_getElem? (i := 539) (by decide +kernel))) (by decide +kernel), xgw_in (List.mem_append_right _ (List.mem_of_getElem? (i := 3) (by decide +kernel))) (by decide +kernel), by decide +kernel, by decide⟩
theorem vX3_thingsFrom : xMv yX3_thingsFrom := ⟨xgw_in (List.mem_append_right _ (List.mem_of_getElem? (i := 538) (by decide +kernel))) (by decide +kernel), xgw_in (List.mem_append_left _ (List.mem_of_getElem? (i := 34) (by decide +kernel))) (by decide +kernel)⟩
theorem mX3_isDoubled : xMt yX3_isDoubled cX3_isDoubled 6 (some .boolean) 3 := ⟨xgw_in (List.mem_append_right _ (List.mem_of_getElem? (i := 560) (by decide +kernel))) (by decide +kernel), xgw_in (List.mem_append_right _ (List.mem_of_getElem? (i := 3) (by decide +kernel))) (by decide +kernel), by decide +kernel, by decide⟩
theorem vX3_isDoubled : xMv yX3_isDoubled := ⟨xgw_in (List.mem_append_right _ (List.mem_of_getElem? (i := 559) (by decide +kernel))) (by decide +kernel), xgw_in (List.mem_append_left _ (List.mem_of_getElem? (i := 38) (by decide +kernel))) (by decide +kernel)⟩
theorem mX3_wantsAreMet : xMt yX3_wantsAreMet cX3_wantsAreMet 4 (some .boolean) 2 := ⟨xgw_in (List.mem_append_right _ (List.mem_of_getElem? (i := 571) (by decide +kernel))) (by decide +kernel), xgw_in (List.mem_append_right _ (List.mem_of_getElem? (i := 3) (by decide +kernel))) (by decide +kernel), by decide +kernel, by decide⟩
theorem vX3_wantsAreMet : xMv yX3_wantsAreMet := ⟨xgw_in (List.mem_append_right _ (List.mem_of_getElem? (i := 570) (by decide +kernel))) (by decide +kernel), xgw_in (List.mem_append_left _ (List.mem_of_getElem? (i := 39) (by decide +kernel))) (by decide +kernel)⟩
theorem mX3_wantsAreMetForAll : xMt yX3_wantsAreMetForAll cX3_wantsAreMetForAll 4 (some .boolean) 2 := ⟨xgw_in (List.mem_append_right _ (List.mem_of_getElem? (i := 589) (by decide +kernel))) (by decide +kernel), xgw_in (List.mem_append_right _ (List.mem_of_getElem? (i := 3) (by decide +kernel))) (by decide +kernel), by decide +kernel, by decide⟩
theorem vX3_wantsAreMetForAll : xMv yX3_wantsAreMetForAll := ⟨xgw_in (List.mem_append_right _ (List.mem_of_getElem? (i := 588) (by decide +kernel))) (by decide +kernel), xgw_in (List.mem_append_left _ (List.mem_of_getElem? (i := 41) (by decide +kernel))) (by decide +kernel)⟩
theorem mX4_init : xMt yX4_init cX4_init 1 none 0 := ⟨xgw_in (List.mem_append_right _ (List.mem_of_getElem? (i := 76) (by decide +kernel))) (by decide +kernel), xgw_in (List.mem_append_right _ (List.mem_of_getElem? (i := 4) (by decide +kernel))) (by decide +kernel), by decide +kernel, by decide⟩
theorem vX4_init : Cond.instanceMethod yX4_init ∈ xgw := xgw_in (List.mem_append_right _ (List.mem_of_getElem? (i := 75) (by decide +kernel))) (by decide +kernel)
theorem mX4_note : xMt yX4_note cX4_note 2 none 1 := ⟨xgw_in (List.mem_append_right _ (List.mem_of_getElem? (i := 665) (by decide +kernel))) (by decide +kernel), xgw_in (List.mem_append_right _ (List.mem_of_getElem? (i := 4) (by decide +kernel))) (by decide +kernel), by decide +kernel, by decide⟩
theorem vX4_note : xMv yX4_note := ⟨xgw_in (List.mem_append_right _ (List.mem_of_getElem? (i := 664) (by decide +kernel))) (by decide +kernel), xgw_in (List.mem_append_left _ (List.mem_of_getElem? (i := 46) (by decide +kernel))) (by decide +kernel)⟩
theorem mX5_init : xMt yX5_init cX5_init 2 none 0 := ⟨xgw_in (List.mem_append_right _ (List.mem_of_getElem? (i := 19) (by decide +kernel))) (by decide +kernel), xgw_in (List.mem_append_right _ (List.mem_of_getElem? (i := 1) (by decide +kernel))) (by decide +kernel), by decide +kernel, by decide⟩
theorem vX5_init : Cond.instanceMethod yX5_init ∈ xgw := xgw_in (List.mem_append_right _ (List.mem_of_getElem? (i := 18) (by decide +kernel))) (by decide +kernel)
theorem mX5_row : xMt yX5_row cX5_row 4 (some .int) 3 := ⟨xgw_in (List.mem_append_right _ (List.mem_of_getElem? (i := 236) (by decide +kernel))) (by decide +kernel), xgw_in (List.mem_append_right _ (List.mem_of_getElem? (i := 1) (by decide +kernel))) (by decide +kernel), by decide +kernel, by decide⟩
theorem vX5_row : xMv yX5_row := ⟨xgw_in (List.mem_append_right _ (List.mem_of_getElem? (i := 234) (by decide +kernel))) (by decide +kernel), xgw_in (List.mem_append_right _ (List.mem_of_getElem? (i := 235) (by decide +kernel))) (by decide +kernel)⟩
theorem mX5_set : xMt yX5_set cX5_set 5 (some .int) 3 := ⟨xgw_in (List.mem_append_right _ (List.mem_of_getElem? (i := 260) (by decide +kernel))) (by decide +kernel), xgw_in (List.mem_append_right _ (List.mem_of_getElem? (i := 1) (by decide +kernel))) (by decide +kernel), by decide +kernel, by decide⟩
theorem vX5_set : xMv yX5_set := ⟨xgw_in (List.mem_append_right _ (List.mem_of_getElem? (i := 258) (by decide +kernel))) (by decide +kernel), xgw_in (List.mem_append_right _ (List.mem_of_getElem? (i := 259) (by decide +kernel))) (by decide +kernel)⟩
theorem mX5_copy : xMt yX5_copy cX5_copy 8 (some .int) 5 := ⟨xgw_in (List.mem_append_right _ (List.mem_of_getElem? (i := 268) (by decide +kernel))) (by decide +kernel), xgw_in (List.mem_append_right _ (List.mem_of_getElem? (i := 1) (by decide +kernel))) (by decide +kernel), by decide +kernel, by decide⟩
theorem vX5_copy : xMv yX5_copy := ⟨xgw_in (List.mem_append_right _ (List.mem_of_getElem? (i := 266) (by decide +kernel))) (by decide +kernel), xgw_in (List.mem_append_right _ (List.mem_of_getElem? (i := 267) (by decide +kernel))) (by decide +kernel)⟩
theorem mX5_drop : xMt yX5_drop cX5_drop 3 (some .int) 1 := ⟨xgw_in (List.mem_append_right _ (List.mem_of_getElem? (i := 279) (by decide +kernel))) (by decide +kernel), xgw_in (List.mem_append_right _ (List.mem_of_getElem? (i := 1) (by decide +kernel))) (by decide +kernel), by decide +kernel, by decide⟩
theorem vX5_drop : xMv yX5_drop := ⟨xgw_in (List.mem_append_right _ (List.mem_of_getElem? (i := 277) (by decide +kernel))) (by decide +kernel), xgw_in (List.mem_append_right _ (List.mem_of_getElem? (i := 278) (by decide +kernel))) (by decide +kernel)⟩
theorem mX5_feed : xMt yX5_feed cX5_feed 5 (some .int) 2 := ⟨xgw_in (List.mem_append_right _ (List.mem_of_getElem? (i := 283) (by decide +kernel))) (by decide +kernel), xgw_in (List.mem_append_right _ (List.mem_of_getElem? (i := 1) (by decide +kernel))) (by decide +kernel), by decide +kernel, by decide⟩
theorem vX5_feed : xMv yX5_feed := ⟨xgw_in (List.mem_append_right _ (List.mem_of_getElem? (i := 281) (by decide +kernel))) (by decide +kernel), xgw_in (List.mem_append_right _ (List.mem_of_getElem? (i := 282) (by decide +kernel))) (by decide +kernel)⟩
theorem mX5_garden : xMt yX5_garden cX5_garden 3 (some .int) 0 := ⟨xgw_in (List.mem_append_right _ (List.mem_of_getElem? (i := 292) (by decide +kernel))) (by decide +kernel), xgw_in (List.mem_append_right _ (List.mem_of_getElem? (i := 1) (by decide +kernel))) (by decide +kernel), by decide +kernel, by decide⟩
theorem vX5_garden : xMv yX5_garden := ⟨xgw_in (List.mem_append_right _ (List.mem_of_getElem? (i := 290) (by decide +kernel))) (by decide +kernel), xgw_in (List.mem_append_right _ (List.mem_of_getElem? (i := 291) (by decide +kernel))) (by decide +kernel)⟩
theorem mX5_fault : xMt yX5_fault cX5_fault 1 (some .int) 0 := ⟨xgw_in (List.mem_append_right _ (List.mem_of_getElem? (i := 443) (by decide +kernel))) (by decide +kernel), xgw_in (List.mem_append_right _ (List.mem_of_getElem? (i := 1) (by decide +kernel))) (by decide +kernel), by decide +kernel, by decide⟩
theorem vX5_fault : xMv yX5_fault := ⟨xgw_in (List.mem_append_right _ (List.mem_of_getElem? (i := 441) (by decide +kernel))) (by decide +kernel), xgw_in (List.mem_append_right _ (List.mem_of_getElem? (i := 442) (by decide +kernel))) (by decide +kernel)⟩
theorem mX5_years : xMt yX5_years cX5_years 2 (some .int) 1 := ⟨xgw_in (List.mem_append_right _ (List.mem_of_getElem? (i := 447) (by decide +kernel))) (by decide +kernel), xgw_in (List.mem_append_right _ (List.mem_of_getElem? (i := 1) (by decide +kernel))) (by decide +kernel), by decide +kernel, by decide⟩
theorem vX5_years : xMv yX5_years := ⟨xgw_in (List.mem_append_right _ (List.mem_of_getElem? (i := 445) (by decide +kernel))) (by decide +kernel), xgw_in (List.mem_append_right _ (List.mem_of_getElem? (i := 446) (by decide +kernel))) (by decide +kernel)⟩
theorem mX5_winter : xMt yX5_winter cX5_winter 3 (some .int) 1 := ⟨xgw_in (List.mem_append_right _ (List.mem_of_getElem? (i := 464) (by decide +kernel))) (by decide +kernel), xgw_in (List.mem_append_right _ (List.mem_of_getElem? (i := 1) (by decide +kernel))) (by decide +kernel), by decide +kernel, by decide⟩
theorem vX5_winter : xMv yX5_winter := ⟨xgw_in (List.mem_append_right _ (List.mem_of_getElem? (i := 462) (by decide +kernel))) (by decide +kernel), xgw_in (List.mem_append_right _ (List.mem_of_getElem? (i := 463) (by decide +kernel))) (by decide +kernel)⟩
theorem mX5_clip : xMt yX5_clip cX5_clip 3 (some .int) 2 := ⟨xgw_in (List.mem_append_right _ (List.mem_of_getElem? (i := 468) (by decide +kernel))) (by decide +kernel), xgw_in (List.mem_append_right _ (List.mem_of_getElem? (i := 1) (by decide +kernel))) (by decide +kernel), by decide +kernel, by decide⟩
theorem vX5_clip : xMv yX5_clip := ⟨xgw_in (List.mem_append_right _ (List.mem_of_getElem? (i := 466) (by decide +kernel))) (by decide +kernel), xgw_in (List.mem_append_right _ (List.mem_of_getElem? (i := 467) (by decide +kernel))) (by decide +kernel)⟩
theorem mX5_move : xMt yX5_move cX5_move 4 (some .int) 2 := ⟨xgw_in (List.mem_append_right _ (List.mem_of_getElem? (i := 493) (by decide +kernel))) (by decide +kernel), xgw_in (List.mem_append_right _ (List.mem_of_getElem? (i := 1) (by decide +kernel))) (by decide +kernel), by decide +kernel, by decide⟩
theorem vX5_move : xMv yX5_move := ⟨xgw_in (List.mem_append_right _ (List.mem_of_getElem? (i := 491) (by decide +kernel))) (by decide +kernel), xgw_in (List.mem_append_right _ (List.mem_of_getElem? (i := 492) (by decide +kernel))) (by decide +kernel)⟩
theorem mX5_level : xMt yX5_level cX5_level 5 (some .int) 2 := ⟨xgw_in (List.mem_append_right _ (List.mem_of_getElem? (i := 502) (by decide +kernel))) (by decide +kernel), xgw_in (List.mem_append_right _ (List.mem_of_getElem? (i := 1) (by decide +kernel))) (by decide +kernel), by decide +kernel, by decide⟩
theorem vX5_level : xMv yX5_level := ⟨xgw_in (List.mem_append_right _ (List.mem_of_getElem? (i := 500) (by decide +kernel))) (by decide +kernel), xgw_in (List.mem_append_right _ (List.mem_of_getElem? (i := 501) (by decide +kernel))) (by decide +kernel)⟩
theorem mX5_undo : xMt yX5_undo cX5_undo 1 (some .int) 0 := ⟨xgw_in (List.mem_append_right _ (List.mem_of_getElem? (i := 506) (by decide +kernel))) (by decide +kernel), xgw_in (List.mem_append_right _ (List.mem_of_getElem? (i := 1) (by decide +kernel))) (by decide +kernel), by decide +kernel, by decide⟩
theorem vX5_undo : xMv yX5_undo := ⟨xgw_in (List.mem_append_right _ (List.mem_of_getElem? (i := 504) (by decide +kernel))) (by decide +kernel), xgw_in (List.mem_append_right _ (List.mem_of_getElem? (i := 505) (by decide +kernel))) (by decide +kernel)⟩
theorem mX5_tree : xMt yX5_tree cX5_tree 3 (some .int) 2 := ⟨xgw_in (List.mem_append_right _ (List.mem_of_getElem? (i := 510) (by decide +kernel))) (by decide +kernel), xgw_in (List.mem_append_right _ (List.mem_of_getElem? (i := 1) (by decide +kernel))) (by decide +kernel), by decide +kernel, by decide⟩
theorem vX5_tree : xMv yX5_tree := ⟨xgw_in (List.mem_append_right _ (List.mem_of_getElem? (i := 508) (by decide +kernel))) (by decide +kernel), xgw_in (List.mem_append_right _ (List.mem_of_getElem? (i := 509) (by decide +kernel))) (by decide +kernel)⟩
theorem mX5_site : xMt yX5_site cX5_site 3 (some .int) 2 := ⟨xgw_in (List.mem_append_right _ (List.mem_of_getElem? (i := 514) (by decide +kernel))) (by decide +kernel), xgw_in (List.mem_append_right _ (List.mem_of_getElem? (i := 1) (by decide +kernel))) (by decide +kernel), by decide +kernel, by decide⟩
theorem vX5_site : xMv yX5_site := ⟨xgw_in (List.mem_append_right _ (List.mem_of_getElem? (i := 512) (by decide +kernel))) (by decide +kernel), xgw_in (List.mem_append_right _ (List.mem_of_getElem? (i := 513) (by decide +kernel))) (by decide +kernel)⟩
theorem mX5_seen : xMt yX5_seen cX5_seen 3 (some .int) 2 := ⟨xgw_in (List.mem_append_right _ (List.mem_of_getElem? (i := 532) (by decide +kernel))) (by decide +kernel), xgw_in (List.mem_append_right _ (List.mem_of_getElem? (i := 1) (by decide +kernel))) (by decide +kernel), by decide +kernel, by decide⟩
theorem vX5_seen : xMv yX5_seen := ⟨xgw_in (List.mem_append_right _ (List.mem_of_getElem? (i := 530) (by decide +kernel))) (by decide +kernel), xgw_in (List.mem_append_right _ (List.mem_of_getElem? (i := 531) (by decide +kernel))) (by decide +kernel)⟩
theorem mX5_doubled : xMt yX5_doubled cX5_doubled 4 (some .int) 1 := ⟨xgw_in (List.mem_append_right _ (List.mem_of_getElem? (i := 556) (by decide +kernel))) (by decide +kernel), xgw_in (List.mem_append_right _ (List.mem_of_getElem? (i := 1) (by decide +kernel))) (by decide +kernel), by decide +kernel, by decide⟩
theorem vX5_doubled : xMv yX5_doubled := ⟨xgw_in (List.mem_append_right _ (List.mem_of_getElem? (i := 554) (by decide +kernel))) (by decide +kernel), xgw_in (List.mem_append_right _ (List.mem_of_getElem? (i := 555) (by decide +kernel))) (by decide +kernel)⟩
theorem mX5_met : xMt yX5_met cX5_met 4 (some .int) 1 := ⟨xgw_in (List.mem_append_right _ (List.mem_of_getElem? (i := 564) (by decide +kernel))) (by decide +kernel), xgw_in (List.mem_append_right _ (List.mem_of_getElem? (i := 1) (by decide +kernel))) (by decide +kernel), by decide +kernel, by decide⟩
theorem vX5_met : xMv yX5_met := ⟨xgw_in (List.mem_append_right _ (List.mem_of_getElem? (i := 562) (by decide +kernel))) (by decide +kernel), xgw_in (List.mem_append_right _ (List.mem_of_getElem? (i := 563) (by decide +kernel))) (by decide +kernel)⟩
theorem mX5_cut : xMt yX5_cut cX5_cut 7 (some .int) 4 := ⟨xgw_in (List.mem_append_right _ (List.mem_of_getElem? (i := 575) (by decide +kernel))) (by decide +kernel), xgw_in (List.mem_append_right _ (List.mem_of_getElem? (i := 1) (by decide +kernel))) (by decide +kernel), by decide +kernel, by decide⟩
theorem vX5_cut : xMv yX5_cut := ⟨xgw_in (List.mem_append_right _ (List.mem_of_getElem? (i := 573) (by decide +kernel))) (by decide +kernel), xgw_in (List.mem_append_right _ (List.mem_of_getElem? (i := 574) (by decide +kernel))) (by decide +kernel)⟩
theorem mX5_plant : xMt yX5_plant cX5_plant 9 (some .int) 4 := ⟨xgw_in (List.mem_append_right _ (List.mem_of_getElem? (i := 595) (by decide +kernel))) (by decide +kernel), xgw_in (List.mem_append_right _ (List.mem_of_getElem? (i := 1) (by decide +kernel))) (by decide +kernel), by decide +kernel, by decide⟩
theorem vX5_plant : xMv yX5_plant := ⟨xgw_in (List.mem_append_right _ (List.mem_of_getElem? (i := 593) (by decide +kernel))) (by decide +kernel), xgw_in (List.mem_append_right _ (List.mem_of_getElem? (i := 594) (by decide +kernel))) (by decide +kernel)⟩
theorem mX5_moon : xMt yX5_moon cX5_moon 6 (some .int) 1 := ⟨xgw_in (List.mem_append_right _ (List.mem_of_getElem? (i := 600) (by decide +kernel))) (by decide +kernel), xgw_in (List.mem_append_right _ (List.mem_of_getElem? (i := 1) (by decide +kernel))) (by decide +kernel), by decide +kernel, by decide⟩
theorem vX5_moon : xMv yX5_moon := ⟨xgw_in (List.mem_append_right _ (List.mem_of_getElem? (i := 598) (by decide +kernel))) (by decide +kernel), xgw_in (List.mem_append_right _ (List.mem_of_getElem? (i := 599) (by decide +kernel))) (by decide +kernel)⟩
theorem mX5_path : xMt yX5_path cX5_path 3 (some .int) 2 := ⟨xgw_in (List.mem_append_right _ (List.mem_of_getElem? (i := 605) (by decide +kernel))) (by decide +kernel), xgw_in (List.mem_append_right _ (List.mem_of_getElem? (i := 1) (by decide +kernel))) (by decide +kernel), by decide +kernel, by decide⟩
theorem vX5_path : xMv yX5_path := ⟨xgw_in (List.mem_append_right _ (List.mem_of_getElem? (i := 603) (by decide +kernel))) (by decide +kernel), xgw_in (List.mem_append_right _ (List.mem_of_getElem? (i := 604) (by decide +kernel))) (by decide +kernel)⟩
theorem mX5_picture : xMt yX5_picture cX5_picture 3 (some .int) 2 := ⟨xgw_in (List.mem_append_right _ (List.mem_of_getElem? (i := 617) (by decide +kernel))) (by decide +kernel), xgw_in (List.mem_append_right _ (List.mem_of_getElem? (i := 1) (by decide +kernel))) (by decide +kernel), by decide +kernel, by decide⟩
theorem vX5_picture : xMv yX5_picture := ⟨xgw_in (List.mem_append_right _ (List.mem_of_getElem? (i := 615) (by decide +kernel))) (by decide +kernel), xgw_in (List.mem_append_right _ (List.mem_of_getElem? (i := 616) (by decide +kernel))) (by decide +kernel)⟩
theorem mX5_rival : xMt yX5_rival cX5_rival 9 (some .int) 2 := ⟨xgw_in (List.mem_append_right _ (List.mem_of_getElem? (i := 621) (by decide +kernel))) (by decide +kernel), xgw_in (List.mem_append_right _ (List.mem_of_getElem? (i := 1) (by decide +kernel))) (by decide +kernel), by decide +kernel, by decide⟩
theorem vX5_rival : xMv yX5_rival := ⟨xgw_in (List.mem_append_right _ (List.mem_of_getElem? (i := 619) (by decide +kernel))) (by decide +kernel), xgw_in (List.mem_append_right _ (List.mem_of_getElem? (i := 620) (by decide +kernel))) (by decide +kernel)⟩
theorem mX5_image : xMt yX5_image cX5_image 2 (some .int) 1 := ⟨xgw_in (List.mem_append_right _ (List.mem_of_getElem? (i := 633) (by decide +kernel))) (by decide +kernel), xgw_in (List.mem_append_right _ (List.mem_of_getElem? (i := 1) (by decide +kernel))) (by decide +kernel), by decide +kernel, by decide⟩
theorem vX5_image : xMv yX5_image := ⟨xgw_in (List.mem_append_right _ (List.mem_of_getElem? (i := 631) (by decide +kernel))) (by decide +kernel), xgw_in (List.mem_append_right _ (List.mem_of_getElem? (i := 632) (by decide +kernel))) (by decide +kernel)⟩
theorem mX5_restore : xMt yX5_restore cX5_restore 2 (some .int) 1 := ⟨xgw_in (List.mem_append_right _ (List.mem_of_getElem? (i := 637) (by decide +kernel))) (by decide +kernel), xgw_in (List.mem_append_right _ (List.mem_of_getElem? (i := 1) (by decide +kernel))) (by decide +kernel), by decide +kernel, by decide⟩
theorem vX5_restore : xMv yX5_restore := ⟨xgw_in (List.mem_append_right _ (List.mem_of_getElem? (i := 635) (by decide +kernel))) (by decide +kernel), xgw_in (List.mem_append_right _ (List.mem_of_getElem? (i := 636) (by decide +kernel))) (by decide +kernel)⟩
theorem mX5_kind : xMt yX5_kind cX5_kind 2 (some .int) 1 := ⟨xgw_in (List.mem_append_right _ (List.mem_of_getElem? (i := 641) (by decide +kernel))) (by decide +kernel), xgw_in (List.mem_append_right _ (List.mem_of_getElem? (i := 1) (by decide +kernel))) (by decide +kernel), by decide +kernel, by decide⟩
theorem vX5_kind : xMv yX5_kind := ⟨xgw_in (List.mem_append_right _ (List.mem_of_getElem? (i := 639) (by decide +kernel))) (by decide +kernel), xgw_in (List.mem_append_right _ (List.mem_of_getElem? (i := 640) (by decide +kernel))) (by decide +kernel)⟩
theorem mX5_as : xMt yX5_as cX5_as 3 (some .int) 2 := ⟨xgw_in (List.mem_append_right _ (List.mem_of_getElem? (i := 645) (by decide +kernel))) (by decide +kernel), xgw_in (List.mem_append_right _ (List.mem_of_getElem? (i := 1) (by decide +kernel))) (by decide +kernel), by decide +kernel, by decide⟩
theorem vX5_as : xMv yX5_as := ⟨xgw_in (List.mem_append_right _ (List.mem_of_getElem? (i := 643) (by decide +kernel))) (by decide +kernel), xgw_in (List.mem_append_right _ (List.mem_of_getElem? (i := 644) (by decide +kernel))) (by decide +kernel)⟩
theorem mX5_ask : xMt yX5_ask cX5_ask 4 (some .int) 2 := ⟨xgw_in (List.mem_append_right _ (List.mem_of_getElem? (i := 652) (by decide +kernel))) (by decide +kernel), xgw_in (List.mem_append_right _ (List.mem_of_getElem? (i := 1) (by decide +kernel))) (by decide +kernel), by decide +kernel, by decide⟩
theorem vX5_ask : xMv yX5_ask := ⟨xgw_in (List.mem_append_right _ (List.mem_of_getElem? (i := 650) (by decide +kernel))) (by decide +kernel), xgw_in (List.mem_append_right _ (List.mem_of_getElem? (i := 651) (by decide +kernel))) (by decide +kernel)⟩
theorem mX5_trace : xMt yX5_trace cX5_trace 2 (some .int) 1 := ⟨xgw_in (List.mem_append_right _ (List.mem_of_getElem? (i := 669) (by decide +kernel))) (by decide +kernel), xgw_in (List.mem_append_right _ (List.mem_of_getElem? (i := 1) (by decide +kernel))) (by decide +kernel), by decide +kernel, by decide⟩
theorem vX5_trace : xMv yX5_trace := ⟨xgw_in (List.mem_append_right _ (List.mem_of_getElem? (i := 667) (by decide +kernel))) (by decide +kernel), xgw_in (List.mem_append_right _ (List.mem_of_getElem? (i := 668) (by decide +kernel))) (by decide +kernel)⟩
theorem mX5_count : xMt yX5_count cX5_count 2 (some .int) 1 := ⟨xgw_in (List.mem_append_right _ (List.mem_of_getElem? (i := 673) (by decide +kernel))) (by decide +kernel), xgw_in (List.mem_append_right _ (List.mem_of_getElem? (i := 1) (by decide +kernel))) (by decide +kernel), by decide +kernel, by decide⟩
theorem vX5_count : xMv yX5_count := ⟨xgw_in (List.mem_append_right _ (List.mem_of_getElem? (i := 671) (by decide +kernel))) (by decide +kernel), xgw_in (List.mem_append_right _ (List.mem_of_getElem? (i := 672) (by decide +kernel))) (by decide +kernel)⟩
theorem mX5_status : xMt yX5_status cX5_status 1 (some .int) 0 := ⟨xgw_in (List.mem_append_right _ (List.mem_of_getElem? (i := 681) (by decide +kernel))) (by decide +kernel), xgw_in (List.mem_append_right _ (List.mem_of_getElem? (i := 1) (by decide +kernel))) (by decide +kernel), by decide +kernel, by decide⟩
theorem vX5_status : xMv yX5_status := ⟨xgw_in (List.mem_append_right _ (List.mem_of_getElem? (i := 679) (by decide +kernel))) (by decide +kernel), xgw_in (List.mem_append_right _ (List.mem_of_getElem? (i := 680) (by decide +kernel))) (by decide +kernel)⟩
theorem mX5_found : xMt yX5_found cX5_found 2 (some .int) 1 := ⟨xgw_in (List.mem_append_right _ (List.mem_of_getElem? (i := 244) (by decide +kernel))) (by decide +kernel), xgw_in (List.mem_append_right _ (List.mem_of_getElem? (i := 1) (by decide +kernel))) (by decide +kernel), by decide +kernel, by decide⟩
theorem vX5_found : xMv yX5_found := ⟨xgw_in (List.mem_append_right _ (List.mem_of_getElem? (i := 243) (by decide +kernel))) (by decide +kernel), xgw_in (List.mem_append_left _ (List.mem_of_getElem? (i := 0) (by decide +kernel))) (by decide +kernel)⟩
theorem mX5_unfound : xMt yX5_unfound cX5_unfound 2 (some .int) 1 := ⟨xgw_in (List.mem_append_right _ (List.mem_of_getElem? (i := 256) (by decide +kernel))) (by decide +kernel), xgw_in (List.mem_append_right _ (List.mem_of_getElem? (i := 1) (by decide +kernel))) (by decide +kernel), by decide +kernel, by decide⟩
theorem vX5_unfound : xMv yX5_unfound := ⟨xgw_in (List.mem_append_right _ (List.mem_of_getElem? (i := 255) (by decide +kernel))) (by decide +kernel), xgw_in (List.mem_append_left _ (List.mem_of_getElem? (i := 2) (by decide +kernel))) (by decide +kernel)⟩
theorem mX5_isRow : xMt yX5_isRow cX5_isRow 1 (some .boolean) 1 := ⟨xgw_in (List.mem_append_right _ (List.mem_of_getElem? (i := 239) (by decide +kernel))) (by decide +kernel), xgw_in (List.mem_append_right _ (List.mem_of_getElem? (i := 1) (by decide +kernel))) (by decide +kernel), by decide +kernel, by decide⟩
theorem sX5_isRow : Cond.static yX5_isRow ∈ xgw := xgw_in (List.mem_append_right _ (List.mem_of_getElem? (i := 238) (by decide +kernel))) (by decide +kernel)
theorem mX5_isEye : xMt yX5_isEye cX5_isEye 1 (some .boolean) 1 := ⟨xgw_in (List.mem_append_right _ (List.mem_of_getElem? (i := 535) (by decide +kernel))) (by decide +kernel), xgw_in (List.mem_append_right _ (List.mem_of_getElem? (i := 1) (by decide +kernel))) (by decide +kernel), by decide +kernel, by decide⟩
theorem sX5_isEye : Cond.static yX5_isEye ∈ xgw := xgw_in (List.mem_append_right _ (List.mem_of_getElem? (i := 534) (by decide +kernel))) (by decide +kernel)
theorem mX5_isInnerSite : xMt yX5_isInnerSite cX5_isInnerSite 1 (some .boolean) 1 := ⟨xgw_in (List.mem_append_right _ (List.mem_of_getElem? (i := 496) (by decide +kernel))) (by decide +kernel), xgw_in (List.mem_append_right _ (List.mem_of_getElem? (i := 1) (by decide +kernel))) (by decide +kernel), by decide +kernel, by decide⟩
theorem sX5_isInnerSite : Cond.static yX5_isInnerSite ∈ xgw := xgw_in (List.mem_append_right _ (List.mem_of_getElem? (i := 495) (by decide +kernel))) (by decide +kernel)
theorem mX5_isIn : xMt yX5_isIn cX5_isIn 2 (some .boolean) 2 := ⟨xgw_in (List.mem_append_right _ (List.mem_of_getElem? (i := 567) (by decide +kernel))) (by decide +kernel), xgw_in (List.mem_append_right _ (List.mem_of_getElem? (i := 1) (by decide +kernel))) (by decide +kernel), by decide +kernel, by decide⟩
theorem sX5_isIn : Cond.static yX5_isIn ∈ xgw := xgw_in (List.mem_append_right _ (List.mem_of_getElem? (i := 566) (by decide +kernel))) (by decide +kernel)
theorem mX5_rowsThere : xMt yX5_rowsThere cX5_rowsThere 3 (some .int) 0 := ⟨xgw_in (List.mem_append_right _ (List.mem_of_getElem? (i := 677) (by decide +kernel))) (by decide +kernel), xgw_in (List.mem_append_right _ (List.mem_of_getElem? (i := 1) (by decide +kernel))) (by decide +kernel), by decide +kernel, by decide⟩
theorem vX5_rowsThere : xMv yX5_rowsThere := ⟨xgw_in (List.mem_append_right _ (List.mem_of_getElem? (i := 676) (by decide +kernel))) (by decide +kernel), xgw_in (List.mem_append_left _ (List.mem_of_getElem? (i := 47) (by decide +kernel))) (by decide +kernel)⟩
theorem mX5_keepDay : xMt yX5_keepDay cX5_keepDay 1 none 0 := ⟨xgw_in (List.mem_append_right _ (List.mem_of_getElem? (i := 452) (by decide +kernel))) (by decide +kernel), xgw_in (List.mem_append_right _ (List.mem_of_getElem? (i := 1) (by decide +kernel))) (by decide +kernel), by decide +kernel, by decide⟩
theorem vX5_keepDay : xMv yX5_keepDay := ⟨xgw_in (List.mem_append_right _ (List.mem_of_getElem? (i := 451) (by decide +kernel))) (by decide +kernel), xgw_in (List.mem_append_left _ (List.mem_of_getElem? (i := 25) (by decide +kernel))) (by decide +kernel)⟩
theorem mX5_placesSeeing : xMt yX5_placesSeeing cX5_placesSeeing 6 (some .int) 3 := ⟨xgw_in (List.mem_append_right _ (List.mem_of_getElem? (i := 613) (by decide +kernel))) (by decide +kernel), xgw_in (List.mem_append_right _ (List.mem_of_getElem? (i := 1) (by decide +kernel))) (by decide +kernel), by decide +kernel, by decide⟩
theorem vX5_placesSeeing : xMv yX5_placesSeeing := ⟨xgw_in (List.mem_append_right _ (List.mem_of_getElem? (i := 612) (by decide +kernel))) (by decide +kernel), xgw_in (List.mem_append_left _ (List.mem_of_getElem? (i := 43) (by decide +kernel))) (by decide +kernel)⟩
theorem mX5_leastCut : xMt yX5_leastCut cX5_leastCut 9 (some .int) 2 := ⟨xgw_in (List.mem_append_right _ (List.mem_of_getElem? (i := 579) (by decide +kernel))) (by decide +kernel), xgw_in (List.mem_append_right _ (List.mem_of_getElem? (i := 1) (by decide +kernel))) (by decide +kernel), by decide +kernel, by decide⟩
theorem vX5_leastCut : xMv yX5_leastCut := ⟨xgw_in (List.mem_append_right _ (List.mem_of_getElem? (i := 578) (by decide +kernel))) (by decide +kernel), xgw_in (List.mem_append_left _ (List.mem_of_getElem? (i := 40) (by decide +kernel))) (by decide +kernel)⟩
theorem mX5_leastHider : xMt yX5_leastHider cX5_leastHider 7 (some .int) 2 := ⟨xgw_in (List.mem_append_right _ (List.mem_of_getElem? (i := 625) (by decide +kernel))) (by decide +kernel), xgw_in (List.mem_append_right _ (List.mem_of_getElem? (i := 1) (by decide +kernel))) (by decide +kernel), by decide +kernel, by decide⟩
theorem vX5_leastHider : xMv yX5_leastHider := ⟨xgw_in (List.mem_append_right _ (List.mem_of_getElem? (i := 624) (by decide +kernel))) (by decide +kernel), xgw_in (List.mem_append_left _ (List.mem_of_getElem? (i := 44) (by decide +kernel))) (by decide +kernel)⟩
theorem mX5_hidingBy : xMt yX5_hidingBy cX5_hidingBy 7 (some .int) 3 := ⟨xgw_in (List.mem_append_right _ (List.mem_of_getElem? (i := 629) (by decide +kernel))) (by decide +kernel), xgw_in (List.mem_append_right _ (List.mem_of_getElem? (i := 1) (by decide +kernel))) (by decide +kernel), by decide +kernel, by decide⟩
theorem vX5_hidingBy : xMv yX5_hidingBy := ⟨xgw_in (List.mem_append_right _ (List.mem_of_getElem? (i := 628) (by decide +kernel))) (by decide +kernel), xgw_in (List.mem_append_left _ (List.mem_of_getElem? (i := 45) (by decide +kernel))) (by decide +kernel)⟩
theorem mX5_isOfKind : xMt yX5_isOfKind cX5_isOfKind 2 (some .boolean) 2 := ⟨xgw_in (List.mem_append_right _ (List.mem_of_getElem? (i := 648) (by decide +kernel))) (by decide +kernel), xgw_in (List.mem_append_right _ (List.mem_of_getElem? (i := 1) (by decide +kernel))) (by decide +kernel), by decide +kernel, by decide⟩
theorem sX5_isOfKind : Cond.static yX5_isOfKind ∈ xgw := xgw_in (List.mem_append_right _ (List.mem_of_getElem? (i := 647) (by decide +kernel))) (by decide +kernel)
theorem mX5_bodyOfSize : xMt yX5_bodyOfSize cX5_bodyOfSize 1 (some .int) 1 := ⟨xgw_in (List.mem_append_right _ (List.mem_of_getElem? (i := 655) (by decide +kernel))) (by decide +kernel), xgw_in (List.mem_append_right _ (List.mem_of_getElem? (i := 1) (by decide +kernel))) (by decide +kernel), by decide +kernel, by decide⟩
theorem sX5_bodyOfSize : Cond.static yX5_bodyOfSize ∈ xgw := xgw_in (List.mem_append_right _ (List.mem_of_getElem? (i := 654) (by decide +kernel))) (by decide +kernel)
theorem mX5_bodyOfMark : xMt yX5_bodyOfMark cX5_bodyOfMark 1 (some .int) 1 := ⟨xgw_in (List.mem_append_right _ (List.mem_of_getElem? (i := 658) (by decide +kernel))) (by decide +kernel), xgw_in (List.mem_append_right _ (List.mem_of_getElem? (i := 1) (by decide +kernel))) (by decide +kernel), by decide +kernel, by decide⟩
theorem sX5_bodyOfMark : Cond.static yX5_bodyOfMark ∈ xgw := xgw_in (List.mem_append_right _ (List.mem_of_getElem? (i := 657) (by decide +kernel))) (by decide +kernel)
theorem mX5_bodyGives : xMt yX5_bodyGives cX5_bodyGives 6 (some .int) 5 := ⟨xgw_in (List.mem_append_right _ (List.mem_of_getElem? (i := 661) (by decide +kernel))) (by decide +kernel), xgw_in (List.mem_append_right _ (List.mem_of_getElem? (i := 1) (by decide +kernel))) (by decide +kernel), by decide +kernel, by decide⟩
theorem sX5_bodyGives : Cond.static yX5_bodyGives ∈ xgw := xgw_in (List.mem_append_right _ (List.mem_of_getElem? (i := 660) (by decide +kernel))) (by decide +kernel)
theorem mX6_init : xMt yX6_init cX6_init 1 none 0 := ⟨xgw_in (List.mem_append_right _ (List.mem_of_getElem? (i := 686) (by decide +kernel))) (by decide +kernel), xgw_in (List.mem_append_right _ (List.mem_of_getElem? (i := 7) (by decide +kernel))) (by decide +kernel), by decide +kernel, by decide⟩
theorem vX6_init : Cond.instanceMethod yX6_init ∈ xgw := xgw_in (List.mem_append_right _ (List.mem_of_getElem? (i := 685) (by decide +kernel))) (by decide +kernel)
theorem mX6_in : xMt yX6_in cX6_in 6 (some .boolean) 3 := ⟨xgw_in (List.mem_append_right _ (List.mem_of_getElem? (i := 774) (by decide +kernel))) (by decide +kernel), xgw_in (List.mem_append_right _ (List.mem_of_getElem? (i := 7) (by decide +kernel))) (by decide +kernel), by decide +kernel, by decide⟩
theorem sX6_in : Cond.static yX6_in ∈ xgw := xgw_in (List.mem_append_right _ (List.mem_of_getElem? (i := 773) (by decide +kernel))) (by decide +kernel)
theorem mX6_finding : xMt yX6_finding cX6_finding 2 (some .int) 1 := ⟨xgw_in (List.mem_append_right _ (List.mem_of_getElem? (i := 780) (by decide +kernel))) (by decide +kernel), xgw_in (List.mem_append_right _ (List.mem_of_getElem? (i := 7) (by decide +kernel))) (by decide +kernel), by decide +kernel, by decide⟩
theorem vX6_finding : xMv yX6_finding := ⟨xgw_in (List.mem_append_right _ (List.mem_of_getElem? (i := 779) (by decide +kernel))) (by decide +kernel), xgw_in (List.mem_append_left _ (List.mem_of_getElem? (i := 48) (by decide +kernel))) (by decide +kernel)⟩
theorem mX6_isRow : xMt yX6_isRow cX6_isRow 1 (some .boolean) 1 := ⟨xgw_in (List.mem_append_right _ (List.mem_of_getElem? (i := 770) (by decide +kernel))) (by decide +kernel), xgw_in (List.mem_append_right _ (List.mem_of_getElem? (i := 7) (by decide +kernel))) (by decide +kernel), by decide +kernel, by decide⟩
theorem sX6_isRow : Cond.static yX6_isRow ∈ xgw := xgw_in (List.mem_append_right _ (List.mem_of_getElem? (i := 769) (by decide +kernel))) (by decide +kernel)
theorem mX6_row : xMt yX6_row cX6_row 5 (some .int) 3 := ⟨xgw_in (List.mem_append_right _ (List.mem_of_getElem? (i := 767) (by decide +kernel))) (by decide +kernel), xgw_in (List.mem_append_right _ (List.mem_of_getElem? (i := 7) (by decide +kernel))) (by decide +kernel), by decide +kernel, by decide⟩
theorem vX6_row : xMv yX6_row := ⟨xgw_in (List.mem_append_right _ (List.mem_of_getElem? (i := 765) (by decide +kernel))) (by decide +kernel), xgw_in (List.mem_append_right _ (List.mem_of_getElem? (i := 766) (by decide +kernel))) (by decide +kernel)⟩
theorem mX6_set : xMt yX6_set cX6_set 4 (some .int) 3 := ⟨xgw_in (List.mem_append_right _ (List.mem_of_getElem? (i := 785) (by decide +kernel))) (by decide +kernel), xgw_in (List.mem_append_right _ (List.mem_of_getElem? (i := 7) (by decide +kernel))) (by decide +kernel), by decide +kernel, by decide⟩
theorem vX6_set : xMv yX6_set := ⟨xgw_in (List.mem_append_right _ (List.mem_of_getElem? (i := 783) (by decide +kernel))) (by decide +kernel), xgw_in (List.mem_append_right _ (List.mem_of_getElem? (i := 784) (by decide +kernel))) (by decide +kernel)⟩
theorem mX6_copy : xMt yX6_copy cX6_copy 9 (some .int) 5 := ⟨xgw_in (List.mem_append_right _ (List.mem_of_getElem? (i := 789) (by decide +kernel))) (by decide +kernel), xgw_in (List.mem_append_right _ (List.mem_of_getElem? (i := 7) (by decide +kernel))) (by decide +kernel), by decide +kernel, by decide⟩
theorem vX6_copy : xMv yX6_copy := ⟨xgw_in (List.mem_append_right _ (List.mem_of_getElem? (i := 787) (by decide +kernel))) (by decide +kernel), xgw_in (List.mem_append_right _ (List.mem_of_getElem? (i := 788) (by decide +kernel))) (by decide +kernel)⟩
theorem mX6_drop : xMt yX6_drop cX6_drop 2 (some .int) 1 := ⟨xgw_in (List.mem_append_right _ (List.mem_of_getElem? (i := 793) (by decide +kernel))) (by decide +kernel), xgw_in (List.mem_append_right _ (List.mem_of_getElem? (i := 7) (by decide +kernel))) (by decide +kernel), by decide +kernel, by decide⟩
theorem vX6_drop : xMv yX6_drop := ⟨xgw_in (List.mem_append_right _ (List.mem_of_getElem? (i := 791) (by decide +kernel))) (by decide +kernel), xgw_in (List.mem_append_right _ (List.mem_of_getElem? (i := 792) (by decide +kernel))) (by decide +kernel)⟩
theorem mX6_feed : xMt yX6_feed cX6_feed 5 (some .int) 2 := ⟨xgw_in (List.mem_append_right _ (List.mem_of_getElem? (i := 797) (by decide +kernel))) (by decide +kernel), xgw_in (List.mem_append_right _ (List.mem_of_getElem? (i := 7) (by decide +kernel))) (by decide +kernel), by decide +kernel, by decide⟩
theorem vX6_feed : xMv yX6_feed := ⟨xgw_in (List.mem_append_right _ (List.mem_of_getElem? (i := 795) (by decide +kernel))) (by decide +kernel), xgw_in (List.mem_append_right _ (List.mem_of_getElem? (i := 796) (by decide +kernel))) (by decide +kernel)⟩
theorem mX6_byteAt : xMt yX6_byteAt cX6_byteAt 2 (some .int) 1 := ⟨xgw_in (List.mem_append_right _ (List.mem_of_getElem? (i := 816) (by decide +kernel))) (by decide +kernel), xgw_in (List.mem_append_right _ (List.mem_of_getElem? (i := 7) (by decide +kernel))) (by decide +kernel), by decide +kernel, by decide⟩
theorem vX6_byteAt : xMv yX6_byteAt := ⟨xgw_in (List.mem_append_right _ (List.mem_of_getElem? (i := 815) (by decide +kernel))) (by decide +kernel), xgw_in (List.mem_append_left _ (List.mem_of_getElem? (i := 51) (by decide +kernel))) (by decide +kernel)⟩
theorem mX6_isLetter : xMt yX6_isLetter cX6_isLetter 1 (some .boolean) 1 := ⟨xgw_in (List.mem_append_right _ (List.mem_of_getElem? (i := 820) (by decide +kernel))) (by decide +kernel), xgw_in (List.mem_append_right _ (List.mem_of_getElem? (i := 7) (by decide +kernel))) (by decide +kernel), by decide +kernel, by decide⟩
theorem sX6_isLetter : Cond.static yX6_isLetter ∈ xgw := xgw_in (List.mem_append_right _ (List.mem_of_getElem? (i := 819) (by decide +kernel))) (by decide +kernel)
theorem mX6_isFigure : xMt yX6_isFigure cX6_isFigure 1 (some .boolean) 1 := ⟨xgw_in (List.mem_append_right _ (List.mem_of_getElem? (i := 823) (by decide +kernel))) (by decide +kernel), xgw_in (List.mem_append_right _ (List.mem_of_getElem? (i := 7) (by decide +kernel))) (by decide +kernel), by decide +kernel, by decide⟩
theorem sX6_isFigure : Cond.static yX6_isFigure ∈ xgw := xgw_in (List.mem_append_right _ (List.mem_of_getElem? (i := 822) (by decide +kernel))) (by decide +kernel)
theorem mX6_next : xMt yX6_next cX6_next 2 none 0 := ⟨xgw_in (List.mem_append_right _ (List.mem_of_getElem? (i := 812) (by decide +kernel))) (by decide +kernel), xgw_in (List.mem_append_right _ (List.mem_of_getElem? (i := 7) (by decide +kernel))) (by decide +kernel), by decide +kernel, by decide⟩
theorem vX6_next : xMv yX6_next := ⟨xgw_in (List.mem_append_right _ (List.mem_of_getElem? (i := 811) (by decide +kernel))) (by decide +kernel), xgw_in (List.mem_append_left _ (List.mem_of_getElem? (i := 50) (by decide +kernel))) (by decide +kernel)⟩
theorem mX6_begin : xMt yX6_begin cX6_begin 1 none 0 := ⟨xgw_in (List.mem_append_right _ (List.mem_of_getElem? (i := 808) (by decide +kernel))) (by decide +kernel), xgw_in (List.mem_append_right _ (List.mem_of_getElem? (i := 7) (by decide +kernel))) (by decide +kernel), by decide +kernel, by decide⟩
theorem vX6_begin : xMv yX6_begin := ⟨xgw_in (List.mem_append_right _ (List.mem_of_getElem? (i := 807) (by decide +kernel))) (by decide +kernel), xgw_in (List.mem_append_left _ (List.mem_of_getElem? (i := 49) (by decide +kernel))) (by decide +kernel)⟩
theorem mX6_bad : xMt yX6_bad cX6_bad 2 none 1 := ⟨xgw_in (List.mem_append_right _ (List.mem_of_getElem? (i := 840) (by decide +kernel))) (by decide +kernel), xgw_in (List.mem_append_right _ (List.mem_of_getElem? (i := 7) (by decide +kernel))) (by decide +kernel), by decide +kernel, by decide⟩
theorem vX6_bad : xMv yX6_bad := ⟨xgw_in (List.mem_append_right _ (List.mem_of_getElem? (i := 839) (by decide +kernel))) (by decide +kernel), xgw_in (List.mem_append_left _ (List.mem_of_getElem? (i := 55) (by decide +kernel))) (by decide +kernel)⟩
theorem mX6_must : xMt yX6_must cX6_must 2 none 1 := ⟨xgw_in (List.mem_append_right _ (List.mem_of_getElem? (i := 836) (by decide +kernel))) (by decide +kernel), xgw_in (List.mem_append_right _ (List.mem_of_getElem? (i := 7) (by decide +kernel))) (by decide +kernel), by decide +kernel, by decide⟩
theorem vX6_must : xMv yX6_must := ⟨xgw_in (List.mem_append_right _ (List.mem_of_getElem? (i := 835) (by decide +kernel))) (by decide +kernel), xgw_in (List.mem_append_left _ (List.mem_of_getElem? (i := 54) (by decide +kernel))) (by decide +kernel)⟩
theorem mX6_name : xMt yX6_name cX6_name 4 (some .long) 0 := ⟨xgw_in (List.mem_append_right _ (List.mem_of_getElem? (i := 831) (by decide +kernel))) (by decide +kernel), xgw_in (List.mem_append_right _ (List.mem_of_getElem? (i := 7) (by decide +kernel))) (by decide +kernel), by decide +kernel, by decide⟩
theorem vX6_name : xMv yX6_name := ⟨xgw_in (List.mem_append_right _ (List.mem_of_getElem? (i := 830) (by decide +kernel))) (by decide +kernel), xgw_in (List.mem_append_left _ (List.mem_of_getElem? (i := 53) (by decide +kernel))) (by decide +kernel)⟩
theorem mX6_figures : xMt yX6_figures cX6_figures 3 (some .int) 0 := ⟨xgw_in (List.mem_append_right _ (List.mem_of_getElem? (i := 848) (by decide +kernel))) (by decide +kernel), xgw_in (List.mem_append_right _ (List.mem_of_getElem? (i := 7) (by decide +kernel))) (by decide +kernel), by decide +kernel, by decide⟩
theorem vX6_figures : xMv yX6_figures := ⟨xgw_in (List.mem_append_right _ (List.mem_of_getElem? (i := 847) (by decide +kernel))) (by decide +kernel), xgw_in (List.mem_append_left _ (List.mem_of_getElem? (i := 57) (by decide +kernel))) (by decide +kernel)⟩
theorem mX6_number : xMt yX6_number cX6_number 4 (some .int) 2 := ⟨xgw_in (List.mem_append_right _ (List.mem_of_getElem? (i := 844) (by decide +kernel))) (by decide +kernel), xgw_in (List.mem_append_right _ (List.mem_of_getElem? (i := 7) (by decide +kernel))) (by decide +kernel), by decide +kernel, by decide⟩
theorem vX6_number : xMv yX6_number := ⟨xgw_in (List.mem_append_right _ (List.mem_of_getElem? (i := 843) (by decide +kernel))) (by decide +kernel), xgw_in (List.mem_append_left _ (List.mem_of_getElem? (i := 56) (by decide +kernel))) (by decide +kernel)⟩
theorem mX6_kindBy : xMt yX6_kindBy cX6_kindBy 2 (some .int) 1 := ⟨xgw_in (List.mem_append_right _ (List.mem_of_getElem? (i := 869) (by decide +kernel))) (by decide +kernel), xgw_in (List.mem_append_right _ (List.mem_of_getElem? (i := 7) (by decide +kernel))) (by decide +kernel), by decide +kernel, by decide⟩
theorem sX6_kindBy : Cond.static yX6_kindBy ∈ xgw := xgw_in (List.mem_append_right _ (List.mem_of_getElem? (i := 868) (by decide +kernel))) (by decide +kernel)
theorem mX6_mustEnd : xMt yX6_mustEnd cX6_mustEnd 1 none 0 := ⟨xgw_in (List.mem_append_right _ (List.mem_of_getElem? (i := 852) (by decide +kernel))) (by decide +kernel), xgw_in (List.mem_append_right _ (List.mem_of_getElem? (i := 7) (by decide +kernel))) (by decide +kernel), by decide +kernel, by decide⟩
theorem vX6_mustEnd : xMv yX6_mustEnd := ⟨xgw_in (List.mem_append_right _ (List.mem_of_getElem? (i := 851) (by decide +kernel))) (by decide +kernel), xgw_in (List.mem_append_left _ (List.mem_of_getElem? (i := 58) (by decide +kernel))) (by decide +kernel)⟩
theorem mX6_begins : xMt yX6_begins cX6_begins 3 none 2 := ⟨xgw_in (List.mem_append_right _ (List.mem_of_getElem? (i := 866) (by decide +kernel))) (by decide +kernel), xgw_in (List.mem_append_right _ (List.mem_of_getElem? (i := 7) (by decide +kernel))) (by decide +kernel), by decide +kernel, by decide⟩
theorem vX6_begins : xMv yX6_begins := ⟨xgw_in (List.mem_append_right _ (List.mem_of_getElem? (i := 865) (by decide +kernel))) (by decide +kernel), xgw_in (List.mem_append_left _ (List.mem_of_getElem? (i := 61) (by decide +kernel))) (by decide +kernel)⟩
theorem mX6_readGround : xMt yX6_readGround cX6_readGround 2 none 0 := ⟨xgw_in (List.mem_append_right _ (List.mem_of_getElem? (i := 827) (by decide +kernel))) (by decide +kernel), xgw_in (List.mem_append_right _ (List.mem_of_getElem? (i := 7) (by decide +kernel))) (by decide +kernel), by decide +kernel, by decide⟩
theorem vX6_readGround : xMv yX6_readGround := ⟨xgw_in (List.mem_append_right _ (List.mem_of_getElem? (i := 826) (by decide +kernel))) (by decide +kernel), xgw_in (List.mem_append_left _ (List.mem_of_getElem? (i := 52) (by decide +kernel))) (by decide +kernel)⟩
theorem mX6_readLake : xMt yX6_readLake cX6_readLake 3 none 0 := ⟨xgw_in (List.mem_append_right _ (List.mem_of_getElem? (i := 857) (by decide +kernel))) (by decide +kernel), xgw_in (List.mem_append_right _ (List.mem_of_getElem? (i := 7) (by decide +kernel))) (by decide +kernel), by decide +kernel, by decide⟩
theorem vX6_readLake : xMv yX6_readLake := ⟨xgw_in (List.mem_append_right _ (List.mem_of_getElem? (i := 856) (by decide +kernel))) (by decide +kernel), xgw_in (List.mem_append_left _ (List.mem_of_getElem? (i := 59) (by decide +kernel))) (by decide +kernel)⟩
theorem mX6_isTold : xMt yX6_isTold cX6_isTold 4 (some .boolean) 1 := ⟨xgw_in (List.mem_append_right _ (List.mem_of_getElem? (i := 878) (by decide +kernel))) (by decide +kernel), xgw_in (List.mem_append_right _ (List.mem_of_getElem? (i := 7) (by decide +kernel))) (by decide +kernel), by decide +kernel, by decide⟩
theorem vX6_isTold : xMv yX6_isTold := ⟨xgw_in (List.mem_append_right _ (List.mem_of_getElem? (i := 877) (by decide +kernel))) (by decide +kernel), xgw_in (List.mem_append_left _ (List.mem_of_getElem? (i := 62) (by decide +kernel))) (by decide +kernel)⟩
theorem mX6_readTree : xMt yX6_readTree cX6_readTree 6 none 0 := ⟨xgw_in (List.mem_append_right _ (List.mem_of_getElem? (i := 862) (by decide +kernel))) (by decide +kernel), xgw_in (List.mem_append_right _ (List.mem_of_getElem? (i := 7) (by decide +kernel))) (by decide +kernel), by decide +kernel, by decide⟩
theorem vX6_readTree : xMv yX6_readTree := ⟨xgw_in (List.mem_append_right _ (List.mem_of_getElem? (i := 861) (by decide +kernel))) (by decide +kernel), xgw_in (List.mem_append_left _ (List.mem_of_getElem? (i := 60) (by decide +kernel))) (by decide +kernel)⟩
theorem mX6_readThing : xMt yX6_readThing cX6_readThing 5 none 0 := ⟨xgw_in (List.mem_append_right _ (List.mem_of_getElem? (i := 883) (by decide +kernel))) (by decide +kernel), xgw_in (List.mem_append_right _ (List.mem_of_getElem? (i := 7) (by decide +kernel))) (by decide +kernel), by decide +kernel, by decide⟩
theorem vX6_readThing : xMv yX6_readThing := ⟨xgw_in (List.mem_append_right _ (List.mem_of_getElem? (i := 882) (by decide +kernel))) (by decide +kernel), xgw_in (List.mem_append_left _ (List.mem_of_getElem? (i := 63) (by decide +kernel))) (by decide +kernel)⟩
theorem mX6_garden : xMt yX6_garden cX6_garden 2 (some .int) 0 := ⟨xgw_in (List.mem_append_right _ (List.mem_of_getElem? (i := 804) (by decide +kernel))) (by decide +kernel), xgw_in (List.mem_append_right _ (List.mem_of_getElem? (i := 7) (by decide +kernel))) (by decide +kernel), by decide +kernel, by decide⟩
theorem vX6_garden : xMv yX6_garden := ⟨xgw_in (List.mem_append_right _ (List.mem_of_getElem? (i := 802) (by decide +kernel))) (by decide +kernel), xgw_in (List.mem_append_right _ (List.mem_of_getElem? (i := 803) (by decide +kernel))) (by decide +kernel)⟩
theorem mX6_fault : xMt yX6_fault cX6_fault 1 (some .int) 0 := ⟨xgw_in (List.mem_append_right _ (List.mem_of_getElem? (i := 890) (by decide +kernel))) (by decide +kernel), xgw_in (List.mem_append_right _ (List.mem_of_getElem? (i := 7) (by decide +kernel))) (by decide +kernel), by decide +kernel, by decide⟩
theorem vX6_fault : xMv yX6_fault := ⟨xgw_in (List.mem_append_right _ (List.mem_of_getElem? (i := 888) (by decide +kernel))) (by decide +kernel), xgw_in (List.mem_append_right _ (List.mem_of_getElem? (i := 889) (by decide +kernel))) (by decide +kernel)⟩
theorem mX6_isTree : xMt yX6_isTree cX6_isTree 2 (some .boolean) 1 := ⟨xgw_in (List.mem_append_right _ (List.mem_of_getElem? (i := 912) (by decide +kernel))) (by decide +kernel), xgw_in (List.mem_append_right _ (List.mem_of_getElem? (i := 7) (by decide +kernel))) (by decide +kernel), by decide +kernel, by decide⟩
theorem vX6_isTree : xMv yX6_isTree := ⟨xgw_in (List.mem_append_right _ (List.mem_of_getElem? (i := 911) (by decide +kernel))) (by decide +kernel), xgw_in (List.mem_append_left _ (List.mem_of_getElem? (i := 65) (by decide +kernel))) (by decide +kernel)⟩
theorem mX6_of : xMt yX6_of cX6_of 3 (some .int) 2 := ⟨xgw_in (List.mem_append_right _ (List.mem_of_getElem? (i := 920) (by decide +kernel))) (by decide +kernel), xgw_in (List.mem_append_right _ (List.mem_of_getElem? (i := 7) (by decide +kernel))) (by decide +kernel), by decide +kernel, by decide⟩
theorem vX6_of : xMv yX6_of := ⟨xgw_in (List.mem_append_right _ (List.mem_of_getElem? (i := 919) (by decide +kernel))) (by decide +kernel), xgw_in (List.mem_append_left _ (List.mem_of_getElem? (i := 67) (by decide +kernel))) (by decide +kernel)⟩
theorem mX6_mayBeCut : xMt yX6_mayBeCut cX6_mayBeCut 2 (some .boolean) 1 := ⟨xgw_in (List.mem_append_right _ (List.mem_of_getElem? (i := 916) (by decide +kernel))) (by decide +kernel), xgw_in (List.mem_append_right _ (List.mem_of_getElem? (i := 7) (by decide +kernel))) (by decide +kernel), by decide +kernel, by decide⟩
theorem vX6_mayBeCut : xMv yX6_mayBeCut := ⟨xgw_in (List.mem_append_right _ (List.mem_of_getElem? (i := 915) (by decide +kernel))) (by decide +kernel), xgw_in (List.mem_append_left _ (List.mem_of_getElem? (i := 66) (by decide +kernel))) (by decide +kernel)⟩
theorem mX6_treeAt : xMt yX6_treeAt cX6_treeAt 3 (some .int) 1 := ⟨xgw_in (List.mem_append_right _ (List.mem_of_getElem? (i := 933) (by decide +kernel))) (by decide +kernel), xgw_in (List.mem_append_right _ (List.mem_of_getElem? (i := 7) (by decide +kernel))) (by decide +kernel), by decide +kernel, by decide⟩
theorem vX6_treeAt : xMv yX6_treeAt := ⟨xgw_in (List.mem_append_right _ (List.mem_of_getElem? (i := 932) (by decide +kernel))) (by decide +kernel), xgw_in (List.mem_append_left _ (List.mem_of_getElem? (i := 69) (by decide +kernel))) (by decide +kernel)⟩
theorem mX6_height : xMt yX6_height cX6_height 4 (some .int) 1 := ⟨xgw_in (List.mem_append_right _ (List.mem_of_getElem? (i := 924) (by decide +kernel))) (by decide +kernel), xgw_in (List.mem_append_right _ (List.mem_of_getElem? (i := 7) (by decide +kernel))) (by decide +kernel), by decide +kernel, by decide⟩
theorem vX6_height : xMv yX6_height := ⟨xgw_in (List.mem_append_right _ (List.mem_of_getElem? (i := 923) (by decide +kernel))) (by decide +kernel), xgw_in (List.mem_append_left _ (List.mem_of_getElem? (i := 68) (by decide +kernel))) (by decide +kernel)⟩
theorem mX6_ground : xMt yX6_ground cX6_ground 2 (some .int) 1 := ⟨xgw_in (List.mem_append_right _ (List.mem_of_getElem? (i := 957) (by decide +kernel))) (by decide +kernel), xgw_in (List.mem_append_right _ (List.mem_of_getElem? (i := 7) (by decide +kernel))) (by decide +kernel), by decide +kernel, by decide⟩
theorem vX6_ground : xMv yX6_ground := ⟨xgw_in (List.mem_append_right _ (List.mem_of_getElem? (i := 956) (by decide +kernel))) (by decide +kernel), xgw_in (List.mem_append_left _ (List.mem_of_getElem? (i := 70) (by decide +kernel))) (by decide +kernel)⟩
theorem mX6_bar : xMt yX6_bar cX6_bar 3 (some .int) 1 := ⟨xgw_in (List.mem_append_right _ (List.mem_of_getElem? (i := 961) (by decide +kernel))) (by decide +kernel), xgw_in (List.mem_append_right _ (List.mem_of_getElem? (i := 7) (by decide +kernel))) (by decide +kernel), by decide +kernel, by decide⟩
theorem vX6_bar : xMv yX6_bar := ⟨xgw_in (List.mem_append_right _ (List.mem_of_getElem? (i := 960) (by decide +kernel))) (by decide +kernel), xgw_in (List.mem_append_left _ (List.mem_of_getElem? (i := 71) (by decide +kernel))) (by decide +kernel)⟩
theorem mX6_keep : xMt yX6_keep cX6_keep 2 none 0 := ⟨xgw_in (List.mem_append_right _ (List.mem_of_getElem? (i := 900) (by decide +kernel))) (by decide +kernel), xgw_in (List.mem_append_right _ (List.mem_of_getElem? (i := 7) (by decide +kernel))) (by decide +kernel), by decide +kernel, by decide⟩
theorem vX6_keep : xMv yX6_keep := ⟨xgw_in (List.mem_append_right _ (List.mem_of_getElem? (i := 899) (by decide +kernel))) (by decide +kernel), xgw_in (List.mem_append_left _ (List.mem_of_getElem? (i := 64) (by decide +kernel))) (by decide +kernel)⟩
theorem mX6_years : xMt yX6_years cX6_years 2 (some .int) 1 := ⟨xgw_in (List.mem_append_right _ (List.mem_of_getElem? (i := 894) (by decide +kernel))) (by decide +kernel), xgw_in (List.mem_append_right _ (List.mem_of_getElem? (i := 7) (by decide +kernel))) (by decide +kernel), by decide +kernel, by decide⟩
theorem vX6_years : xMv yX6_years := ⟨xgw_in (List.mem_append_right _ (List.mem_of_getElem? (i := 892) (by decide +kernel))) (by decide +kernel), xgw_in (List.mem_append_right _ (List.mem_of_getElem? (i := 893) (by decide +kernel))) (by decide +kernel)⟩
theorem mX6_winter : xMt yX6_winter cX6_winter 3 (some .int) 1 := ⟨xgw_in (List.mem_append_right _ (List.mem_of_getElem? (i := 904) (by decide +kernel))) (by decide +kernel), xgw_in (List.mem_append_right _ (List.mem_of_getElem? (i := 7) (by decide +kernel))) (by decide +kernel), by decide +kernel, by decide⟩
theorem vX6_winter : xMv yX6_winter := ⟨xgw_in (List.mem_append_right _ (List.mem_of_getElem? (i := 902) (by decide +kernel))) (by decide +kernel), xgw_in (List.mem_append_right _ (List.mem_of_getElem? (i := 903) (by decide +kernel))) (by decide +kernel)⟩
theorem mX6_clip : xMt yX6_clip cX6_clip 3 (some .int) 2 := ⟨xgw_in (List.mem_append_right _ (List.mem_of_getElem? (i := 908) (by decide +kernel))) (by decide +kernel), xgw_in (List.mem_append_right _ (List.mem_of_getElem? (i := 7) (by decide +kernel))) (by decide +kernel), by decide +kernel, by decide⟩
theorem vX6_clip : xMv yX6_clip := ⟨xgw_in (List.mem_append_right _ (List.mem_of_getElem? (i := 906) (by decide +kernel))) (by decide +kernel), xgw_in (List.mem_append_right _ (List.mem_of_getElem? (i := 907) (by decide +kernel))) (by decide +kernel)⟩
theorem mX6_move : xMt yX6_move cX6_move 4 (some .int) 2 := ⟨xgw_in (List.mem_append_right _ (List.mem_of_getElem? (i := 928) (by decide +kernel))) (by decide +kernel), xgw_in (List.mem_append_right _ (List.mem_of_getElem? (i := 7) (by decide +kernel))) (by decide +kernel), by decide +kernel, by decide⟩
theorem vX6_move : xMv yX6_move := ⟨xgw_in (List.mem_append_right _ (List.mem_of_getElem? (i := 926) (by decide +kernel))) (by decide +kernel), xgw_in (List.mem_append_right _ (List.mem_of_getElem? (i := 927) (by decide +kernel))) (by decide +kernel)⟩
theorem mX6_level : xMt yX6_level cX6_level 4 (some .int) 2 := ⟨xgw_in (List.mem_append_right _ (List.mem_of_getElem? (i := 937) (by decide +kernel))) (by decide +kernel), xgw_in (List.mem_append_right _ (List.mem_of_getElem? (i := 7) (by decide +kernel))) (by decide +kernel), by decide +kernel, by decide⟩
theorem vX6_level : xMv yX6_level := ⟨xgw_in (List.mem_append_right _ (List.mem_of_getElem? (i := 935) (by decide +kernel))) (by decide +kernel), xgw_in (List.mem_append_right _ (List.mem_of_getElem? (i := 936) (by decide +kernel))) (by decide +kernel)⟩
theorem mX6_undo : xMt yX6_undo cX6_undo 2 (some .int) 0 := ⟨xgw_in (List.mem_append_right _ (List.mem_of_getElem? (i := 943) (by decide +kernel))) (by decide +kernel), xgw_in (List.mem_append_right _ (List.mem_of_getElem? (i := 7) (by decide +kernel))) (by decide +kernel), by decide +kernel, by decide⟩
theorem vX6_undo : xMv yX6_undo := ⟨xgw_in (List.mem_append_right _ (List.mem_of_getElem? (i := 941) (by decide +kernel))) (by decide +kernel), xgw_in (List.mem_append_right _ (List.mem_of_getElem? (i := 942) (by decide +kernel))) (by decide +kernel)⟩
theorem mX6_tree : xMt yX6_tree cX6_tree 3 (some .int) 2 := ⟨xgw_in (List.mem_append_right _ (List.mem_of_getElem? (i := 947) (by decide +kernel))) (by decide +kernel), xgw_in (List.mem_append_right _ (List.mem_of_getElem? (i := 7) (by decide +kernel))) (by decide +kernel), by decide +kernel, by decide⟩
theorem vX6_tree : xMv yX6_tree := ⟨xgw_in (List.mem_append_right _ (List.mem_of_getElem? (i := 945) (by decide +kernel))) (by decide +kernel), xgw_in (List.mem_append_right _ (List.mem_of_getElem? (i := 946) (by decide +kernel))) (by decide +kernel)⟩
theorem mX6_site : xMt yX6_site cX6_site 3 (some .int) 2 := ⟨xgw_in (List.mem_append_right _ (List.mem_of_getElem? (i := 952) (by decide +kernel))) (by decide +kernel), xgw_in (List.mem_append_right _ (List.mem_of_getElem? (i := 7) (by decide +kernel))) (by decide +kernel), by decide +kernel, by decide⟩
theorem vX6_site : xMv yX6_site := ⟨xgw_in (List.mem_append_right _ (List.mem_of_getElem? (i := 950) (by decide +kernel))) (by decide +kernel), xgw_in (List.mem_append_right _ (List.mem_of_getElem? (i := 951) (by decide +kernel))) (by decide +kernel)⟩
theorem mX6_isFree : xMt yX6_isFree cX6_isFree 6 (some .boolean) 4 := ⟨xgw_in (List.mem_append_right _ (List.mem_of_getElem? (i := 985) (by decide +kernel))) (by decide +kernel), xgw_in (List.mem_append_right _ (List.mem_of_getElem? (i := 7) (by decide +kernel))) (by decide +kernel), by decide +kernel, by decide⟩
theorem vX6_isFree : xMv yX6_isFree := ⟨xgw_in (List.mem_append_right _ (List.mem_of_getElem? (i := 984) (by decide +kernel))) (by decide +kernel), xgw_in (List.mem_append_left _ (List.mem_of_getElem? (i := 75) (by decide +kernel))) (by decide +kernel)⟩
theorem mX6_top : xMt yX6_top cX6_top 2 (some .int) 1 := ⟨xgw_in (List.mem_append_right _ (List.mem_of_getElem? (i := 981) (by decide +kernel))) (by decide +kernel), xgw_in (List.mem_append_right _ (List.mem_of_getElem? (i := 7) (by decide +kernel))) (by decide +kernel), by decide +kernel, by decide⟩
theorem vX6_top : xMv yX6_top := ⟨xgw_in (List.mem_append_right _ (List.mem_of_getElem? (i := 980) (by decide +kernel))) (by decide +kernel), xgw_in (List.mem_append_left _ (List.mem_of_getElem? (i := 74) (by decide +kernel))) (by decide +kernel)⟩
theorem mX6_isSeen : xMt yX6_isSeen cX6_isSeen 5 (some .boolean) 3 := ⟨xgw_in (List.mem_append_right _ (List.mem_of_getElem? (i := 977) (by decide +kernel))) (by decide +kernel), xgw_in (List.mem_append_right _ (List.mem_of_getElem? (i := 7) (by decide +kernel))) (by decide +kernel), by decide +kernel, by decide⟩
theorem vX6_isSeen : xMv yX6_isSeen := ⟨xgw_in (List.mem_append_right _ (List.mem_of_getElem? (i := 976) (by decide +kernel))) (by decide +kernel), xgw_in (List.mem_append_left _ (List.mem_of_getElem? (i := 73) (by decide +kernel))) (by decide +kernel)⟩
theorem mX6_seenFrom : xMt yX6_seenFrom cX6_seenFrom 5 (some .int) 2 := ⟨xgw_in (List.mem_append_right _ (List.mem_of_getElem? (i := 973) (by decide +kernel))) (by decide +kernel), xgw_in (List.mem_append_right _ (List.mem_of_getElem? (i := 7) (by decide +kernel))) (by decide +kernel), by decide +kernel, by decide⟩
theorem vX6_seenFrom : xMv yX6_seenFrom := ⟨xgw_in (List.mem_append_right _ (List.mem_of_getElem? (i := 972) (by decide +kernel))) (by decide +kernel), xgw_in (List.mem_append_left _ (List.mem_of_getElem? (i := 72) (by decide +kernel))) (by decide +kernel)⟩
theorem mX6_isEye : xMt yX6_isEye cX6_isEye 1 (some .boolean) 1 := ⟨xgw_in (List.mem_append_right _ (List.mem_of_getElem? (i := 968) (by decide +kernel))) (by decide +kernel), xgw_in (List.mem_append_right _ (List.mem_of_getElem? (i := 7) (by decide +kernel))) (by decide +kernel), by decide +kernel, by decide⟩
theorem sX6_isEye : Cond.static yX6_isEye ∈ xgw := xgw_in (List.mem_append_right _ (List.mem_of_getElem? (i := 967) (by decide +kernel))) (by decide +kernel)
theorem mX6_seen : xMt yX6_seen cX6_seen 3 (some .int) 2 := ⟨xgw_in (List.mem_append_right _ (List.mem_of_getElem? (i := 965) (by decide +kernel))) (by decide +kernel), xgw_in (List.mem_append_right _ (List.mem_of_getElem? (i := 7) (by decide +kernel))) (by decide +kernel), by decide +kernel, by decide⟩
theorem vX6_seen : xMv yX6_seen := ⟨xgw_in (List.mem_append_right _ (List.mem_of_getElem? (i := 963) (by decide +kernel))) (by decide +kernel), xgw_in (List.mem_append_right _ (List.mem_of_getElem? (i := 964) (by decide +kernel))) (by decide +kernel)⟩
theorem mX6_isDoubled : xMt yX6_isDoubled cX6_isDoubled 6 (some .boolean) 2 := ⟨xgw_in (List.mem_append_right _ (List.mem_of_getElem? (i := 993) (by decide +kernel))) (by decide +kernel), xgw_in (List.mem_append_right _ (List.mem_of_getElem? (i := 7) (by decide +kernel))) (by decide +kernel), by decide +kernel, by decide⟩
theorem vX6_isDoubled : xMv yX6_isDoubled := ⟨xgw_in (List.mem_append_right _ (List.mem_of_getElem? (i := 992) (by decide +kernel))) (by decide +kernel), xgw_in (List.mem_append_left _ (List.mem_of_getElem? (i := 76) (by decide +kernel))) (by decide +kernel)⟩
theorem mX6_doubled : xMt yX6_doubled cX6_doubled 4 (some .int) 1 := ⟨xgw_in (List.mem_append_right _ (List.mem_of_getElem? (i := 989) (by decide +kernel))) (by decide +kernel), xgw_in (List.mem_append_right _ (List.mem_of_getElem? (i := 7) (by decide +kernel))) (by decide +kernel), by decide +kernel, by decide⟩
theorem vX6_doubled : xMv yX6_doubled := ⟨xgw_in (List.mem_append_right _ (List.mem_of_getElem? (i := 987) (by decide +kernel))) (by decide +kernel), xgw_in (List.mem_append_right _ (List.mem_of_getElem? (i := 988) (by decide +kernel))) (by decide +kernel)⟩
theorem mX6_areMet : xMt yX6_areMet cX6_areMet 4 (some .boolean) 1 := ⟨xgw_in (List.mem_append_right _ (List.mem_of_getElem? (i := 1005) (by decide +kernel))) (by decide +kernel), xgw_in (List.mem_append_right _ (List.mem_of_getElem? (i := 7) (by decide +kernel))) (by decide +kernel), by decide +kernel, by decide⟩
theorem vX6_areMet : xMv yX6_areMet := ⟨xgw_in (List.mem_append_right _ (List.mem_of_getElem? (i := 1004) (by decide +kernel))) (by decide +kernel), xgw_in (List.mem_append_left _ (List.mem_of_getElem? (i := 78) (by decide +kernel))) (by decide +kernel)⟩
theorem mX6_metBy : xMt yX6_metBy cX6_metBy 4 (some .int) 1 := ⟨xgw_in (List.mem_append_right _ (List.mem_of_getElem? (i := 1001) (by decide +kernel))) (by decide +kernel), xgw_in (List.mem_append_right _ (List.mem_of_getElem? (i := 7) (by decide +kernel))) (by decide +kernel), by decide +kernel, by decide⟩
theorem vX6_metBy : xMv yX6_metBy := ⟨xgw_in (List.mem_append_right _ (List.mem_of_getElem? (i := 1000) (by decide +kernel))) (by decide +kernel), xgw_in (List.mem_append_left _ (List.mem_of_getElem? (i := 77) (by decide +kernel))) (by decide +kernel)⟩
theorem mX6_met : xMt yX6_met cX6_met 2 (some .int) 1 := ⟨xgw_in (List.mem_append_right _ (List.mem_of_getElem? (i := 997) (by decide +kernel))) (by decide +kernel), xgw_in (List.mem_append_right _ (List.mem_of_getElem? (i := 7) (by decide +kernel))) (by decide +kernel), by decide +kernel, by decide⟩
theorem vX6_met : xMv yX6_met := ⟨xgw_in (List.mem_append_right _ (List.mem_of_getElem? (i := 995) (by decide +kernel))) (by decide +kernel), xgw_in (List.mem_append_right _ (List.mem_of_getElem? (i := 996) (by decide +kernel))) (by decide +kernel)⟩
theorem mX6_cut : xMt yX6_cut cX6_cut 11 (some .int) 4 := ⟨xgw_in (List.mem_append_right _ (List.mem_of_getElem? (i := 1009) (by decide +kernel))) (by decide +kernel), xgw_in (List.mem_append_right _ (List.mem_of_getElem? (i := 7) (by decide +kernel))) (by decide +kernel), by decide +kernel, by decide⟩
theorem vX6_cut : xMv yX6_cut := ⟨xgw_in (List.mem_append_right _ (List.mem_of_getElem? (i := 1007) (by decide +kernel))) (by decide +kernel), xgw_in (List.mem_append_right _ (List.mem_of_getElem? (i := 1008) (by decide +kernel))) (by decide +kernel)⟩
theorem mX6_kindOfSort : xMt yX6_kindOfSort cX6_kindOfSort 1 (some .int) 1 := ⟨xgw_in (List.mem_append_right _ (List.mem_of_getElem? (i := 1018) (by decide +kernel))) (by decide +kernel), xgw_in (List.mem_append_right _ (List.mem_of_getElem? (i := 7) (by decide +kernel))) (by decide +kernel), by decide +kernel, by decide⟩
theorem sX6_kindOfSort : Cond.static yX6_kindOfSort ∈ xgw := xgw_in (List.mem_append_right _ (List.mem_of_getElem? (i := 1017) (by decide +kernel))) (by decide +kernel)
theorem mX6_plant : xMt yX6_plant cX6_plant 9 (some .int) 4 := ⟨xgw_in (List.mem_append_right _ (List.mem_of_getElem? (i := 1013) (by decide +kernel))) (by decide +kernel), xgw_in (List.mem_append_right _ (List.mem_of_getElem? (i := 7) (by decide +kernel))) (by decide +kernel), by decide +kernel, by decide⟩
theorem vX6_plant : xMv yX6_plant := ⟨xgw_in (List.mem_append_right _ (List.mem_of_getElem? (i := 1011) (by decide +kernel))) (by decide +kernel), xgw_in (List.mem_append_right _ (List.mem_of_getElem? (i := 1012) (by decide +kernel))) (by decide +kernel)⟩
theorem mX6_moon : xMt yX6_moon cX6_moon 4 (some .int) 1 := ⟨xgw_in (List.mem_append_right _ (List.mem_of_getElem? (i := 1022) (by decide +kernel))) (by decide +kernel), xgw_in (List.mem_append_right _ (List.mem_of_getElem? (i := 7) (by decide +kernel))) (by decide +kernel), by decide +kernel, by decide⟩
theorem vX6_moon : xMv yX6_moon := ⟨xgw_in (List.mem_append_right _ (List.mem_of_getElem? (i := 1020) (by decide +kernel))) (by decide +kernel), xgw_in (List.mem_append_right _ (List.mem_of_getElem? (i := 1021) (by decide +kernel))) (by decide +kernel)⟩
theorem mX6_areThings : xMt yX6_areThings cX6_areThings 2 (some .boolean) 1 := ⟨xgw_in (List.mem_append_right _ (List.mem_of_getElem? (i := 1030) (by decide +kernel))) (by decide +kernel), xgw_in (List.mem_append_right _ (List.mem_of_getElem? (i := 7) (by decide +kernel))) (by decide +kernel), by decide +kernel, by decide⟩
theorem vX6_areThings : xMv yX6_areThings := ⟨xgw_in (List.mem_append_right _ (List.mem_of_getElem? (i := 1029) (by decide +kernel))) (by decide +kernel), xgw_in (List.mem_append_left _ (List.mem_of_getElem? (i := 79) (by decide +kernel))) (by decide +kernel)⟩
theorem mX6_path : xMt yX6_path cX6_path 5 (some .int) 2 := ⟨xgw_in (List.mem_append_right _ (List.mem_of_getElem? (i := 1026) (by decide +kernel))) (by decide +kernel), xgw_in (List.mem_append_right _ (List.mem_of_getElem? (i := 7) (by decide +kernel))) (by decide +kernel), by decide +kernel, by decide⟩
theorem vX6_path : xMv yX6_path := ⟨xgw_in (List.mem_append_right _ (List.mem_of_getElem? (i := 1024) (by decide +kernel))) (by decide +kernel), xgw_in (List.mem_append_right _ (List.mem_of_getElem? (i := 1025) (by decide +kernel))) (by decide +kernel)⟩
theorem mX6_picture : xMt yX6_picture cX6_picture 5 (some .int) 2 := ⟨xgw_in (List.mem_append_right _ (List.mem_of_getElem? (i := 1034) (by decide +kernel))) (by decide +kernel), xgw_in (List.mem_append_right _ (List.mem_of_getElem? (i := 7) (by decide +kernel))) (by decide +kernel), by decide +kernel, by decide⟩
theorem vX6_picture : xMv yX6_picture := ⟨xgw_in (List.mem_append_right _ (List.mem_of_getElem? (i := 1032) (by decide +kernel))) (by decide +kernel), xgw_in (List.mem_append_right _ (List.mem_of_getElem? (i := 1033) (by decide +kernel))) (by decide +kernel)⟩
theorem mX6_moreOf : xMt yX6_moreOf cX6_moreOf 8 (some .int) 3 := ⟨xgw_in (List.mem_append_right _ (List.mem_of_getElem? (i := 1042) (by decide +kernel))) (by decide +kernel), xgw_in (List.mem_append_right _ (List.mem_of_getElem? (i := 7) (by decide +kernel))) (by decide +kernel), by decide +kernel, by decide⟩
theorem vX6_moreOf : xMv yX6_moreOf := ⟨xgw_in (List.mem_append_right _ (List.mem_of_getElem? (i := 1041) (by decide +kernel))) (by decide +kernel), xgw_in (List.mem_append_left _ (List.mem_of_getElem? (i := 80) (by decide +kernel))) (by decide +kernel)⟩
theorem mX6_rival : xMt yX6_rival cX6_rival 10 (some .int) 2 := ⟨xgw_in (List.mem_append_right _ (List.mem_of_getElem? (i := 1038) (by decide +kernel))) (by decide +kernel), xgw_in (List.mem_append_right _ (List.mem_of_getElem? (i := 7) (by decide +kernel))) (by decide +kernel), by decide +kernel, by decide⟩
theorem vX6_rival : xMv yX6_rival := ⟨xgw_in (List.mem_append_right _ (List.mem_of_getElem? (i := 1036) (by decide +kernel))) (by decide +kernel), xgw_in (List.mem_append_right _ (List.mem_of_getElem? (i := 1037) (by decide +kernel))) (by decide +kernel)⟩
theorem mX6_image : xMt yX6_image cX6_image 3 (some .int) 1 := ⟨xgw_in (List.mem_append_right _ (List.mem_of_getElem? (i := 1047) (by decide +kernel))) (by decide +kernel), xgw_in (List.mem_append_right _ (List.mem_of_getElem? (i := 7) (by decide +kernel))) (by decide +kernel), by decide +kernel, by decide⟩
theorem vX6_image : xMv yX6_image := ⟨xgw_in (List.mem_append_right _ (List.mem_of_getElem? (i := 1045) (by decide +kernel))) (by decide +kernel), xgw_in (List.mem_append_right _ (List.mem_of_getElem? (i := 1046) (by decide +kernel))) (by decide +kernel)⟩
theorem mX6_restore : xMt yX6_restore cX6_restore 3 (some .int) 1 := ⟨xgw_in (List.mem_append_right _ (List.mem_of_getElem? (i := 1051) (by decide +kernel))) (by decide +kernel), xgw_in (List.mem_append_right _ (List.mem_of_getElem? (i := 7) (by decide +kernel))) (by decide +kernel), by decide +kernel, by decide⟩
theorem vX6_restore : xMv yX6_restore := ⟨xgw_in (List.mem_append_right _ (List.mem_of_getElem? (i := 1049) (by decide +kernel))) (by decide +kernel), xgw_in (List.mem_append_right _ (List.mem_of_getElem? (i := 1050) (by decide +kernel))) (by decide +kernel)⟩
theorem mX6_isOf : xMt yX6_isOf cX6_isOf 2 (some .boolean) 2 := ⟨xgw_in (List.mem_append_right _ (List.mem_of_getElem? (i := 1063) (by decide +kernel))) (by decide +kernel), xgw_in (List.mem_append_right _ (List.mem_of_getElem? (i := 7) (by decide +kernel))) (by decide +kernel), by decide +kernel, by decide⟩
theorem sX6_isOf : Cond.static yX6_isOf ∈ xgw := xgw_in (List.mem_append_right _ (List.mem_of_getElem? (i := 1062) (by decide +kernel))) (by decide +kernel)
theorem mX6_kind : xMt yX6_kind cX6_kind 2 (some .int) 1 := ⟨xgw_in (List.mem_append_right _ (List.mem_of_getElem? (i := 1055) (by decide +kernel))) (by decide +kernel), xgw_in (List.mem_append_right _ (List.mem_of_getElem? (i := 7) (by decide +kernel))) (by decide +kernel), by decide +kernel, by decide⟩
theorem vX6_kind : xMv yX6_kind := ⟨xgw_in (List.mem_append_right _ (List.mem_of_getElem? (i := 1053) (by decide +kernel))) (by decide +kernel), xgw_in (List.mem_append_right _ (List.mem_of_getElem? (i := 1054) (by decide +kernel))) (by decide +kernel)⟩
theorem mX6_as : xMt yX6_as cX6_as 3 (some .int) 2 := ⟨xgw_in (List.mem_append_right _ (List.mem_of_getElem? (i := 1059) (by decide +kernel))) (by decide +kernel), xgw_in (List.mem_append_right _ (List.mem_of_getElem? (i := 7) (by decide +kernel))) (by decide +kernel), by decide +kernel, by decide⟩
theorem vX6_as : xMv yX6_as := ⟨xgw_in (List.mem_append_right _ (List.mem_of_getElem? (i := 1057) (by decide +kernel))) (by decide +kernel), xgw_in (List.mem_append_right _ (List.mem_of_getElem? (i := 1058) (by decide +kernel))) (by decide +kernel)⟩
theorem mX6_began : xMt yX6_began cX6_began 2 none 1 := ⟨xgw_in (List.mem_append_right _ (List.mem_of_getElem? (i := 1079) (by decide +kernel))) (by decide +kernel), xgw_in (List.mem_append_right _ (List.mem_of_getElem? (i := 7) (by decide +kernel))) (by decide +kernel), by decide +kernel, by decide⟩
theorem vX6_began : xMv yX6_began := ⟨xgw_in (List.mem_append_right _ (List.mem_of_getElem? (i := 1078) (by decide +kernel))) (by decide +kernel), xgw_in (List.mem_append_left _ (List.mem_of_getElem? (i := 83) (by decide +kernel))) (by decide +kernel)⟩
theorem mX6_plainSize : xMt yX6_plainSize cX6_plainSize 2 (some .int) 1 := ⟨xgw_in (List.mem_append_right _ (List.mem_of_getElem? (i := 1075) (by decide +kernel))) (by decide +kernel), xgw_in (List.mem_append_right _ (List.mem_of_getElem? (i := 7) (by decide +kernel))) (by decide +kernel), by decide +kernel, by decide⟩
theorem vX6_plainSize : xMv yX6_plainSize := ⟨xgw_in (List.mem_append_right _ (List.mem_of_getElem? (i := 1074) (by decide +kernel))) (by decide +kernel), xgw_in (List.mem_append_left _ (List.mem_of_getElem? (i := 82) (by decide +kernel))) (by decide +kernel)⟩
theorem mX6_markOf : xMt yX6_markOf cX6_markOf 3 (some .int) 1 := ⟨xgw_in (List.mem_append_right _ (List.mem_of_getElem? (i := 1083) (by decide +kernel))) (by decide +kernel), xgw_in (List.mem_append_right _ (List.mem_of_getElem? (i := 7) (by decide +kernel))) (by decide +kernel), by decide +kernel, by decide⟩
theorem vX6_markOf : xMv yX6_markOf := ⟨xgw_in (List.mem_append_right _ (List.mem_of_getElem? (i := 1082) (by decide +kernel))) (by decide +kernel), xgw_in (List.mem_append_left _ (List.mem_of_getElem? (i := 84) (by decide +kernel))) (by decide +kernel)⟩
theorem mX6_sizeOf : xMt yX6_sizeOf cX6_sizeOf 4 (some .int) 1 := ⟨xgw_in (List.mem_append_right _ (List.mem_of_getElem? (i := 1071) (by decide +kernel))) (by decide +kernel), xgw_in (List.mem_append_right _ (List.mem_of_getElem? (i := 7) (by decide +kernel))) (by decide +kernel), by decide +kernel, by decide⟩
theorem vX6_sizeOf : xMv yX6_sizeOf := ⟨xgw_in (List.mem_append_right _ (List.mem_of_getElem? (i := 1070) (by decide +kernel))) (by decide +kernel), xgw_in (List.mem_append_left _ (List.mem_of_getElem? (i := 81) (by decide +kernel))) (by decide +kernel)⟩
theorem mX6_ask : xMt yX6_ask cX6_ask 3 (some .int) 2 := ⟨xgw_in (List.mem_append_right _ (List.mem_of_getElem? (i := 1067) (by decide +kernel))) (by decide +kernel), xgw_in (List.mem_append_right _ (List.mem_of_getElem? (i := 7) (by decide +kernel))) (by decide +kernel), by decide +kernel, by decide⟩
theorem vX6_ask : xMv yX6_ask := ⟨xgw_in (List.mem_append_right _ (List.mem_of_getElem? (i := 1065) (by decide +kernel))) (by decide +kernel), xgw_in (List.mem_append_right _ (List.mem_of_getElem? (i := 1066) (by decide +kernel))) (by decide +kernel)⟩
theorem mX6_trace : xMt yX6_trace cX6_trace 2 (some .int) 1 := ⟨xgw_in (List.mem_append_right _ (List.mem_of_getElem? (i := 1087) (by decide +kernel))) (by decide +kernel), xgw_in (List.mem_append_right _ (List.mem_of_getElem? (i := 7) (by decide +kernel))) (by decide +kernel), by decide +kernel, by decide⟩
theorem vX6_trace : xMv yX6_trace := ⟨xgw_in (List.mem_append_right _ (List.mem_of_getElem? (i := 1085) (by decide +kernel))) (by decide +kernel), xgw_in (List.mem_append_right _ (List.mem_of_getElem? (i := 1086) (by decide +kernel))) (by decide +kernel)⟩
theorem mX6_count : xMt yX6_count cX6_count 4 (some .int) 1 := ⟨xgw_in (List.mem_append_right _ (List.mem_of_getElem? (i := 1091) (by decide +kernel))) (by decide +kernel), xgw_in (List.mem_append_right _ (List.mem_of_getElem? (i := 7) (by decide +kernel))) (by decide +kernel), by decide +kernel, by decide⟩
theorem vX6_count : xMv yX6_count := ⟨xgw_in (List.mem_append_right _ (List.mem_of_getElem? (i := 1089) (by decide +kernel))) (by decide +kernel), xgw_in (List.mem_append_right _ (List.mem_of_getElem? (i := 1090) (by decide +kernel))) (by decide +kernel)⟩
theorem mX6_status : xMt yX6_status cX6_status 1 (some .int) 0 := ⟨xgw_in (List.mem_append_right _ (List.mem_of_getElem? (i := 1095) (by decide +kernel))) (by decide +kernel), xgw_in (List.mem_append_right _ (List.mem_of_getElem? (i := 7) (by decide +kernel))) (by decide +kernel), by decide +kernel, by decide⟩
theorem vX6_status : xMv yX6_status := ⟨xgw_in (List.mem_append_right _ (List.mem_of_getElem? (i := 1093) (by decide +kernel))) (by decide +kernel), xgw_in (List.mem_append_right _ (List.mem_of_getElem? (i := 1094) (by decide +kernel))) (by decide +kernel)⟩
theorem mJ9_max_7cf53 : xMt yJ9_max_7cf53 cJ9_max_7cf53 2 (some .int) 2 := ⟨xgw_in (List.mem_append_right _ (List.mem_of_getElem? (i := 489) (by decide +kernel))) (by decide +kernel), xgw_in (List.mem_append_right _ (List.mem_of_getElem? (i := 14) (by decide +kernel))) (by decide +kernel), by decide +kernel, by decide⟩
theorem sJ9_max_7cf53 : Cond.static yJ9_max_7cf53 ∈ xgw := xgw_in (List.mem_append_right _ (List.mem_of_getElem? (i := 488) (by decide +kernel))) (by decide +kernel)
theorem mJ9_min_7cf53 : xMt yJ9_min_7cf53 cJ9_min_7cf53 2 (some .int) 2 := ⟨xgw_in (List.mem_append_right _ (List.mem_of_getElem? (i := 460) (by decide +kernel))) (by decide +kernel), xgw_in (List.mem_append_right _ (List.mem_of_getElem? (i := 14) (by decide +kernel))) (by decide +kernel), by decide +kernel, by decide⟩
theorem sJ9_min_7cf53 : Cond.static yJ9_min_7cf53 ∈ xgw := xgw_in (List.mem_append_right _ (List.mem_of_getElem? (i := 459) (by decide +kernel))) (by decide +kernel)
theorem mJ0_length_8abf5 : xMt yJ0_length_8abf5 cJ0_length_8abf5 1 (some .int) 0 := ⟨xgw_in (List.mem_append_right _ (List.mem_of_getElem? (i := 339) (by decide +kernel))) (by decide +kernel), xgw_in (List.mem_append_right _ (List.mem_of_getElem? (i := 10) (by decide +kernel))) (by decide +kernel), by decide +kernel, by decide⟩
theorem vJ0_length_8abf5 : xMv yJ0_length_8abf5 := ⟨xgw_in (List.mem_append_right _ (List.mem_of_getElem? (i := 337) (by decide +kernel))) (by decide +kernel), xgw_in (List.mem_append_right _ (List.mem_of_getElem? (i := 338) (by decide +kernel))) (by decide +kernel)⟩
theorem mJ0_charAt_5068e : xMt yJ0_charAt_5068e cJ0_charAt_5068e 2 (some .char) 1 := ⟨xgw_in (List.mem_append_right _ (List.mem_of_getElem? (i := 349) (by decide +kernel))) (by decide +kernel), xgw_in (List.mem_append_right _ (List.mem_of_getElem? (i := 10) (by decide +kernel))) (by decide +kernel), by decide +kernel, by decide⟩
theorem vJ0_charAt_5068e : xMv yJ0_charAt_5068e := ⟨xgw_in (List.mem_append_right _ (List.mem_of_getElem? (i := 347) (by decide +kernel))) (by decide +kernel), xgw_in (List.mem_append_right _ (List.mem_of_getElem? (i := 348) (by decide +kernel))) (by decide +kernel)⟩
theorem mJ0_coder_7d493 : xMt yJ0_coder_7d493 cJ0_coder_7d493 1 (some .byte) 0 := ⟨xgw_in (List.mem_append_right _ (List.mem_of_getElem? (i := 343) (by decide +kernel))) (by decide +kernel), xgw_in (List.mem_append_right _ (List.mem_of_getElem? (i := 10) (by decide +kernel))) (by decide +kernel), by decide +kernel, by decide⟩
theorem vJ0_coder_7d493 : xMv yJ0_coder_7d493 := ⟨xgw_in (List.mem_append_right _ (List.mem_of_getElem? (i := 341) (by decide +kernel))) (by decide +kernel), xgw_in (List.mem_append_right _ (List.mem_of_getElem? (i := 342) (by decide +kernel))) (by decide +kernel)⟩
theorem mJ0_isLatin1_aae02 : xMt yJ0_isLatin1_aae02 cJ0_isLatin1_aae02 1 (some .boolean) 0 := ⟨xgw_in (List.mem_append_right _ (List.mem_of_getElem? (i := 353) (by decide +kernel))) (by decide +kernel), xgw_in (List.mem_append_right _ (List.mem_of_getElem? (i := 10) (by decide +kernel))) (by decide +kernel), by decide +kernel, by decide⟩
theorem vJ0_isLatin1_aae02 : xMv yJ0_isLatin1_aae02 := ⟨xgw_in (List.mem_append_right _ (List.mem_of_getElem? (i := 351) (by decide +kernel))) (by decide +kernel), xgw_in (List.mem_append_right _ (List.mem_of_getElem? (i := 352) (by decide +kernel))) (by decide +kernel)⟩
theorem mJ0_checkIndex_df160 : xMt yJ0_checkIndex_df160 cJ0_checkIndex_df160 2 none 2 := ⟨xgw_in (List.mem_append_right _ (List.mem_of_getElem? (i := 359) (by decide +kernel))) (by decide +kernel), xgw_in (List.mem_append_right _ (List.mem_of_getElem? (i := 10) (by decide +kernel))) (by decide +kernel), by decide +kernel, by decide⟩
theorem sJ0_checkIndex_df160 : Cond.static yJ0_checkIndex_df160 ∈ xgw := xgw_in (List.mem_append_right _ (List.mem_of_getElem? (i := 358) (by decide +kernel))) (by decide +kernel)
theorem mJ1_charAt_3b067 : xMt yJ1_charAt_3b067 cJ1_charAt_3b067 2 (some .char) 2 := ⟨xgw_in (List.mem_append_right _ (List.mem_of_getElem? (i := 356) (by decide +kernel))) (by decide +kernel), xgw_in (List.mem_append_right _ (List.mem_of_getElem? (i := 11) (by decide +kernel))) (by decide +kernel), by decide +kernel, by decide⟩
theorem sJ1_charAt_3b067 : Cond.static yJ1_charAt_3b067 ∈ xgw := xgw_in (List.mem_append_right _ (List.mem_of_getElem? (i := 355) (by decide +kernel))) (by decide +kernel)
theorem mJ7_fill_53178 : xMt yJ7_fill_53178 cJ7_fill_53178 4 none 2 := ⟨xgw_in (List.mem_append_right _ (List.mem_of_getElem? (i := 252) (by decide +kernel))) (by decide +kernel), xgw_in (List.mem_append_right _ (List.mem_of_getElem? (i := 8) (by decide +kernel))) (by decide +kernel), by decide +kernel, by decide⟩
theorem sJ7_fill_53178 : Cond.static yJ7_fill_53178 ∈ xgw := xgw_in (List.mem_append_right _ (List.mem_of_getElem? (i := 251) (by decide +kernel))) (by decide +kernel)
theorem mJ3_checkIndex_8e157 : xMt yJ3_checkIndex_8e157 cJ3_checkIndex_8e157 3 (some .int) 3 := ⟨xgw_in (List.mem_append_right _ (List.mem_of_getElem? (i := 364) (by decide +kernel))) (by decide +kernel), xgw_in (List.mem_append_right _ (List.mem_of_getElem? (i := 12) (by decide +kernel))) (by decide +kernel), by decide +kernel, by decide⟩
theorem sJ3_checkIndex_8e157 : Cond.static yJ3_checkIndex_8e157 ∈ xgw := xgw_in (List.mem_append_right _ (List.mem_of_getElem? (i := 363) (by decide +kernel))) (by decide +kernel)
end
section
theorem dX0_init_0 : decode cX0_init 0 = .ok (.aload_n 0, 1) := by decide +kernel
theorem dX0_init_1 : decode cX0_init 1 = .ok (.invokespecial 3, 3) := by decide +kernel
theorem dX0_init_4 : decode cX0_init 4 = .ok (.aload_n 0, 1) := by decide +kernel
theorem dX0_init_5 : decode cX0_init 5 = .ok (.bipush 20, 2) := by decide +kernel
theorem dX0_init_7 : decode cX0_init 7 = .ok (.newarray .int, 2) := by decide +kernel
theorem dX0_init_9 : decode cX0_init 9 = .ok (.putfield 9, 3) := by decide +kernel
theorem dX0_init_12 : decode cX0_init 12 = .ok (.aload_n 0, 1) := by decide +kernel
theorem dX0_init_13 : decode cX0_init 13 = .ok (.iconst 0, 1) := by decide +kernel
theorem dX0_init_14 : decode cX0_init 14 = .ok (.putfield 15, 3) := by decide +kernel
theorem dX0_init_17 : decode cX0_init 17 = .ok (.aload_n 0, 1) := by decide +kernel
theorem dX0_init_18 : decode cX0_init 18 = .ok (.ldc 19, 2) := by decide +kernel
theorem dX0_init_20 : decode cX0_init 20 = .ok (.putfield 20, 3) := by decide +kernel
theorem dX0_init_23 : decode cX0_init 23 = .ok (.aload_n 0, 1) := by decide +kernel
theorem dX0_init_24 : decode cX0_init 24 = .ok (.iconst 0, 1) := by decide +kernel
theorem dX0_init_25 : decode cX0_init 25 = .ok (.putfield 23, 3) := by decide +kernel
theorem dX0_init_28 : decode cX0_init 28 = .ok (.aload_n 0, 1) := by decide +kernel
theorem dX0_init_29 : decode cX0_init 29 = .ok (.bipush 6, 2) := by decide +kernel
theorem dX0_init_31 : decode cX0_init 31 = .ok (.newarray .int, 2) := by decide +kernel
theorem dX0_init_33 : decode cX0_init 33 = .ok (.putfield 26, 3) := by decide +kernel
theorem dX0_init_36 : decode cX0_init 36 = .ok (.aload_n 0, 1) := by decide +kernel
theorem dX0_init_37 : decode cX0_init 37 = .ok (.bipush 6, 2) := by decide +kernel
theorem dX0_init_39 : decode cX0_init 39 = .ok (.newarray .int, 2) := by decide +kernel
theorem dX0_init_41 : decode cX0_init 41 = .ok (.putfield 29, 3) := by decide +kernel
theorem dX0_init_44 : decode cX0_init 44 = .ok (.aload_n 0, 1) := by decide +kernel
theorem dX0_init_45 : decode cX0_init 45 = .ok (.bipush 6, 2) := by decide +kernel
theorem dX0_init_47 : decode cX0_init 47 = .ok (.newarray .int, 2) := by decide +kernel
theorem dX0_init_49 : decode cX0_init 49 = .ok (.putfield 32, 3) := by decide +kernel
theorem dX0_init_52 : decode cX0_init 52 = .ok (.aload_n 0, 1) := by decide +kernel
theorem dX0_init_53 : decode cX0_init 53 = .ok (.bipush 6, 2) := by decide +kernel
theorem dX0_init_55 : decode cX0_init 55 = .ok (.newarray .int, 2) := by decide +kernel
theorem dX0_init_57 : decode cX0_init 57 = .ok (.putfield 35, 3) := by decide +kernel
theorem dX0_init_60 : decode cX0_init 60 = .ok (.aload_n 0, 1) := by decide +kernel
theorem dX0_init_61 : decode cX0_init 61 = .ok (.bipush 6, 2) := by decide +kernel
theorem dX0_init_63 : decode cX0_init 63 = .ok (.newarray .int, 2) := by decide +kernel
theorem dX0_init_65 : decode cX0_init 65 = .ok (.putfield 38, 3) := by decide +kernel
theorem dX0_init_68 : decode cX0_init 68 = .ok (.aload_n 0, 1) := by decide +kernel
theorem dX0_init_69 : decode cX0_init 69 = .ok (.iconst 0, 1) := by decide +kernel
theorem dX0_init_70 : decode cX0_init 70 = .ok (.putfield 41, 3) := by decide +kernel
theorem dX0_init_73 : decode cX0_init 73 = .ok (.aload_n 0, 1) := by decide +kernel
theorem dX0_init_74 : decode cX0_init 74 = .ok (.bipush 6, 2) := by decide +kernel
theorem dX0_init_76 : decode cX0_init 76 = .ok (.newarray .int, 2) := by decide +kernel
theorem dX0_init_78 : decode cX0_init 78 = .ok (.putfield 44, 3) := by decide +kernel
theorem dX0_init_81 : decode cX0_init 81 = .ok (.aload_n 0, 1) := by decide +kernel
theorem dX0_init_82 : decode cX0_init 82 = .ok (.bipush 6, 2) := by decide +kernel
theorem dX0_init_84 : decode cX0_init 84 = .ok (.newarray .int, 2) := by decide +kernel
theorem dX0_init_86 : decode cX0_init 86 = .ok (.putfield 47, 3) := by decide +kernel
theorem dX0_init_89 : decode cX0_init 89 = .ok (.aload_n 0, 1) := by decide +kernel
theorem dX0_init_90 : decode cX0_init 90 = .ok (.bipush 6, 2) := by decide +kernel
theorem dX0_init_92 : decode cX0_init 92 = .ok (.newarray .boolean, 2) := by decide +kernel
theorem dX0_init_94 : decode cX0_init 94 = .ok (.putfield 50, 3) := by decide +kernel
theorem dX0_init_97 : decode cX0_init 97 = .ok (.aload_n 0, 1) := by decide +kernel
theorem dX0_init_98 : decode cX0_init 98 = .ok (.iconst 0, 1) := by decide +kernel
theorem dX0_init_99 : decode cX0_init 99 = .ok (.putfield 54, 3) := by decide +kernel
theorem dX0_init_102 : decode cX0_init 102 = .ok (.aload_n 0, 1) := by decide +kernel
theorem dX0_init_103 : decode cX0_init 103 = .ok (.iconst 0, 1) := by decide +kernel
theorem dX0_init_104 : decode cX0_init 104 = .ok (.putfield 57, 3) := by decide +kernel
theorem dX0_init_107 : decode cX0_init 107 = .ok (.return_, 1) := by decide +kernel
theorem dX0_becomes_0 : decode cX0_becomes 0 = .ok (.aload_n 1, 1) := by decide +kernel
theorem dX0_becomes_1 : decode cX0_becomes 1 = .ok (.getfield 9, 3) := by decide +kernel
theorem dX0_becomes_4 : decode cX0_becomes 4 = .ok (.iconst 0, 1) := by decide +kernel
theorem dX0_becomes_5 : decode cX0_becomes 5 = .ok (.aload_n 0, 1) := by decide +kernel
theorem dX0_becomes_6 : decode cX0_becomes 6 = .ok (.getfield 9, 3) := by decide +kernel
theorem dX0_becomes_9 : decode cX0_becomes 9 = .ok (.iconst 0, 1) := by decide +kernel
theorem dX0_becomes_10 : decode cX0_becomes 10 = .ok (.bipush 20, 2) := by decide +kernel
theorem dX0_becomes_12 : decode cX0_becomes 12 = .ok (.invokestatic 61, 3) := by decide +kernel
theorem dX0_becomes_15 : decode cX0_becomes 15 = .ok (.aload_n 0, 1) := by decide +kernel
theorem dX0_becomes_16 : decode cX0_becomes 16 = .ok (.aload_n 1, 1) := by decide +kernel
theorem dX0_becomes_17 : decode cX0_becomes 17 = .ok (.getfield 15, 3) := by decide +kernel
theorem dX0_becomes_20 : decode cX0_becomes 20 = .ok (.putfield 15, 3) := by decide +kernel
theorem dX0_becomes_23 : decode cX0_becomes 23 = .ok (.aload_n 0, 1) := by decide +kernel
theorem dX0_becomes_24 : decode cX0_becomes 24 = .ok (.aload_n 1, 1) := by decide +kernel
theorem dX0_becomes_25 : decode cX0_becomes 25 = .ok (.getfield 20, 3) := by decide +kernel
theorem dX0_becomes_28 : decode cX0_becomes 28 = .ok (.putfield 20, 3) := by decide +kernel
theorem dX0_becomes_31 : decode cX0_becomes 31 = .ok (.aload_n 0, 1) := by decide +kernel
theorem dX0_becomes_32 : decode cX0_becomes 32 = .ok (.aload_n 1, 1) := by decide +kernel
theorem dX0_becomes_33 : decode cX0_becomes 33 = .ok (.getfield 23, 3) := by decide +kernel
theorem dX0_becomes_36 : decode cX0_becomes 36 = .ok (.putfield 23, 3) := by decide +kernel
theorem dX0_becomes_39 : decode cX0_becomes 39 = .ok (.aload_n 1, 1) := by decide +kernel
theorem dX0_becomes_40 : decode cX0_becomes 40 = .ok (.getfield 26, 3) := by decide +kernel
theorem dX0_becomes_43 : decode cX0_becomes 43 = .ok (.iconst 0, 1) := by decide +kernel
theorem dX0_becomes_44 : decode cX0_becomes 44 = .ok (.aload_n 0, 1) := by decide +kernel
theorem dX0_becomes_45 : decode cX0_becomes 45 = .ok (.getfield 26, 3) := by decide +kernel
theorem dX0_becomes_48 : decode cX0_becomes 48 = .ok (.iconst 0, 1) := by decide +kernel
theorem dX0_becomes_49 : decode cX0_becomes 49 = .ok (.bipush 6, 2) := by decide +kernel
theorem dX0_becomes_51 : decode cX0_becomes 51 = .ok (.invokestatic 61, 3) := by decide +kernel
theorem dX0_becomes_54 : decode cX0_becomes 54 = .ok (.aload_n 1, 1) := by decide +kernel
theorem dX0_becomes_55 : decode cX0_becomes 55 = .ok (.getfield 29, 3) := by decide +kernel
theorem dX0_becomes_58 : decode cX0_becomes 58 = .ok (.iconst 0, 1) := by decide +kernel
theorem dX0_becomes_59 : decode cX0_becomes 59 = .ok (.aload_n 0, 1) := by decide +kernel
theorem dX0_becomes_60 : decode cX0_becomes 60 = .ok (.getfield 29, 3) := by decide +kernel
theorem dX0_becomes_63 : decode cX0_becomes 63 = .ok (.iconst 0, 1) := by decide +kernel
theorem dX0_becomes_64 : decode cX0_becomes 64 = .ok (.bipush 6, 2) := by decide +kernel
theorem dX0_becomes_66 : decode cX0_becomes 66 = .ok (.invokestatic 61, 3) := by decide +kernel
theorem dX0_becomes_69 : decode cX0_becomes 69 = .ok (.aload_n 1, 1) := by decide +kernel
theorem dX0_becomes_70 : decode cX0_becomes 70 = .ok (.getfield 32, 3) := by decide +kernel
theorem dX0_becomes_73 : decode cX0_becomes 73 = .ok (.iconst 0, 1) := by decide +kernel
theorem dX0_becomes_74 : decode cX0_becomes 74 = .ok (.aload_n 0, 1) := by decide +kernel
theorem dX0_becomes_75 : decode cX0_becomes 75 = .ok (.getfield 32, 3) := by decide +kernel
theorem dX0_becomes_78 : decode cX0_becomes 78 = .ok (.iconst 0, 1) := by decide +kernel
theorem dX0_becomes_79 : decode cX0_becomes 79 = .ok (.bipush 6, 2) := by decide +kernel
theorem dX0_becomes_81 : decode cX0_becomes 81 = .ok (.invokestatic 61, 3) := by decide +kernel
theorem dX0_becomes_84 : decode cX0_becomes 84 = .ok (.aload_n 1, 1) := by decide +kernel
theorem dX0_becomes_85 : decode cX0_becomes 85 = .ok (.getfield 35, 3) := by decide +kernel
theorem dX0_becomes_88 : decode cX0_becomes 88 = .ok (.iconst 0, 1) := by decide +kernel
theorem dX0_becomes_89 : decode cX0_becomes 89 = .ok (.aload_n 0, 1) := by decide +kernel
theorem dX0_becomes_90 : decode cX0_becomes 90 = .ok (.getfield 35, 3) := by decide +kernel
theorem dX0_becomes_93 : decode cX0_becomes 93 = .ok (.iconst 0, 1) := by decide +kernel
theorem dX0_becomes_94 : decode cX0_becomes 94 = .ok (.bipush 6, 2) := by decide +kernel
theorem dX0_becomes_96 : decode cX0_becomes 96 = .ok (.invokestatic 61, 3) := by decide +kernel
theorem dX0_becomes_99 : decode cX0_becomes 99 = .ok (.aload_n 1, 1) := by decide +kernel
theorem dX0_becomes_100 : decode cX0_becomes 100 = .ok (.getfield 38, 3) := by decide +kernel
theorem dX0_becomes_103 : decode cX0_becomes 103 = .ok (.iconst 0, 1) := by decide +kernel
theorem dX0_becomes_104 : decode cX0_becomes 104 = .ok (.aload_n 0, 1) := by decide +kernel
theorem dX0_becomes_105 : decode cX0_becomes 105 = .ok (.getfield 38, 3) := by decide +kernel
theorem dX0_becomes_108 : decode cX0_becomes 108 = .ok (.iconst 0, 1) := by decide +kernel
theorem dX0_becomes_109 : decode cX0_becomes 109 = .ok (.bipush 6, 2) := by decide +kernel
theorem dX0_becomes_111 : decode cX0_becomes 111 = .ok (.invokestatic 61, 3) := by decide +kernel
theorem dX0_becomes_114 : decode cX0_becomes 114 = .ok (.aload_n 0, 1) := by decide +kernel
theorem dX0_becomes_115 : decode cX0_becomes 115 = .ok (.aload_n 1, 1) := by decide +kernel
theorem dX0_becomes_116 : decode cX0_becomes 116 = .ok (.getfield 41, 3) := by decide +kernel
theorem dX0_becomes_119 : decode cX0_becomes 119 = .ok (.putfield 41, 3) := by decide +kernel
theorem dX0_becomes_122 : decode cX0_becomes 122 = .ok (.aload_n 1, 1) := by decide +kernel
theorem dX0_becomes_123 : decode cX0_becomes 123 = .ok (.getfield 44, 3) := by decide +kernel
theorem dX0_becomes_126 : decode cX0_becomes 126 = .ok (.iconst 0, 1) := by decide +kernel
theorem dX0_becomes_127 : decode cX0_becomes 127 = .ok (.aload_n 0, 1) := by decide +kernel
theorem dX0_becomes_128 : decode cX0_becomes 128 = .ok (.getfield 44, 3) := by decide +kernel
theorem dX0_becomes_131 : decode cX0_becomes 131 = .ok (.iconst 0, 1) := by decide +kernel
theorem dX0_becomes_132 : decode cX0_becomes 132 = .ok (.bipush 6, 2) := by decide +kernel
theorem dX0_becomes_134 : decode cX0_becomes 134 = .ok (.invokestatic 61, 3) := by decide +kernel
theorem dX0_becomes_137 : decode cX0_becomes 137 = .ok (.aload_n 1, 1) := by decide +kernel
theorem dX0_becomes_138 : decode cX0_becomes 138 = .ok (.getfield 47, 3) := by decide +kernel
theorem dX0_becomes_141 : decode cX0_becomes 141 = .ok (.iconst 0, 1) := by decide +kernel
theorem dX0_becomes_142 : decode cX0_becomes 142 = .ok (.aload_n 0, 1) := by decide +kernel
theorem dX0_becomes_143 : decode cX0_becomes 143 = .ok (.getfield 47, 3) := by decide +kernel
theorem dX0_becomes_146 : decode cX0_becomes 146 = .ok (.iconst 0, 1) := by decide +kernel
theorem dX0_becomes_147 : decode cX0_becomes 147 = .ok (.bipush 6, 2) := by decide +kernel
theorem dX0_becomes_149 : decode cX0_becomes 149 = .ok (.invokestatic 61, 3) := by decide +kernel
theorem dX0_becomes_152 : decode cX0_becomes 152 = .ok (.aload_n 1, 1) := by decide +kernel
theorem dX0_becomes_153 : decode cX0_becomes 153 = .ok (.getfield 50, 3) := by decide +kernel
theorem dX0_becomes_156 : decode cX0_becomes 156 = .ok (.iconst 0, 1) := by decide +kernel
theorem dX0_becomes_157 : decode cX0_becomes 157 = .ok (.aload_n 0, 1) := by decide +kernel
theorem dX0_becomes_158 : decode cX0_becomes 158 = .ok (.getfield 50, 3) := by decide +kernel
theorem dX0_becomes_161 : decode cX0_becomes 161 = .ok (.iconst 0, 1) := by decide +kernel
theorem dX0_becomes_162 : decode cX0_becomes 162 = .ok (.bipush 6, 2) := by decide +kernel
theorem dX0_becomes_164 : decode cX0_becomes 164 = .ok (.invokestatic 61, 3) := by decide +kernel
theorem dX0_becomes_167 : decode cX0_becomes 167 = .ok (.aload_n 0, 1) := by decide +kernel
theorem dX0_becomes_168 : decode cX0_becomes 168 = .ok (.aload_n 1, 1) := by decide +kernel
theorem dX0_becomes_169 : decode cX0_becomes 169 = .ok (.getfield 54, 3) := by decide +kernel
theorem dX0_becomes_172 : decode cX0_becomes 172 = .ok (.putfield 54, 3) := by decide +kernel
theorem dX0_becomes_175 : decode cX0_becomes 175 = .ok (.aload_n 0, 1) := by decide +kernel
theorem dX0_becomes_176 : decode cX0_becomes 176 = .ok (.aload_n 1, 1) := by decide +kernel
theorem dX0_becomes_177 : decode cX0_becomes 177 = .ok (.getfield 57, 3) := by decide +kernel
theorem dX0_becomes_180 : decode cX0_becomes 180 = .ok (.putfield 57, 3) := by decide +kernel
theorem dX0_becomes_183 : decode cX0_becomes 183 = .ok (.return_, 1) := by decide +kernel
theorem dX0_clear_0 : decode cX0_clear 0 = .ok (.aload_n 0, 1) := by decide +kernel
theorem dX0_clear_1 : decode cX0_clear 1 = .ok (.getfield 9, 3) := by decide +kernel
theorem dX0_clear_4 : decode cX0_clear 4 = .ok (.iconst 0, 1) := by decide +kernel
theorem dX0_clear_5 : decode cX0_clear 5 = .ok (.invokestatic 67, 3) := by decide +kernel
theorem dX0_clear_8 : decode cX0_clear 8 = .ok (.aload_n 0, 1) := by decide +kernel
theorem dX0_clear_9 : decode cX0_clear 9 = .ok (.iconst 0, 1) := by decide +kernel
theorem dX0_clear_10 : decode cX0_clear 10 = .ok (.putfield 15, 3) := by decide +kernel
theorem dX0_clear_13 : decode cX0_clear 13 = .ok (.aload_n 0, 1) := by decide +kernel
theorem dX0_clear_14 : decode cX0_clear 14 = .ok (.ldc 19, 2) := by decide +kernel
theorem dX0_clear_16 : decode cX0_clear 16 = .ok (.putfield 20, 3) := by decide +kernel
theorem dX0_clear_19 : decode cX0_clear 19 = .ok (.aload_n 0, 1) := by decide +kernel
theorem dX0_clear_20 : decode cX0_clear 20 = .ok (.iconst 0, 1) := by decide +kernel
theorem dX0_clear_21 : decode cX0_clear 21 = .ok (.putfield 23, 3) := by decide +kernel
theorem dX0_clear_24 : decode cX0_clear 24 = .ok (.aload_n 0, 1) := by decide +kernel
theorem dX0_clear_25 : decode cX0_clear 25 = .ok (.iconst 0, 1) := by decide +kernel
theorem dX0_clear_26 : decode cX0_clear 26 = .ok (.putfield 41, 3) := by decide +kernel
theorem dX0_clear_29 : decode cX0_clear 29 = .ok (.aload_n 0, 1) := by decide +kernel
theorem dX0_clear_30 : decode cX0_clear 30 = .ok (.iconst 0, 1) := by decide +kernel
theorem dX0_clear_31 : decode cX0_clear 31 = .ok (.putfield 54, 3) := by decide +kernel
theorem dX0_clear_34 : decode cX0_clear 34 = .ok (.aload_n 0, 1) := by decide +kernel
theorem dX0_clear_35 : decode cX0_clear 35 = .ok (.iconst 0, 1) := by decide +kernel
theorem dX0_clear_36 : decode cX0_clear 36 = .ok (.putfield 57, 3) := by decide +kernel
theorem dX0_clear_39 : decode cX0_clear 39 = .ok (.return_, 1) := by decide +kernel
theorem dX0_addTree_0 : decode cX0_addTree 0 = .ok (.aload_n 0, 1) := by decide +kernel
theorem dX0_addTree_1 : decode cX0_addTree 1 = .ok (.getfield 23, 3) := by decide +kernel
theorem dX0_addTree_4 : decode cX0_addTree 4 = .ok (.bipush 6, 2) := by decide +kernel
theorem dX0_addTree_6 : decode cX0_addTree 6 = .ok (.if_icmp .ge 64, 3) := by decide +kernel
theorem dX0_addTree_9 : decode cX0_addTree 9 = .ok (.aload_n 0, 1) := by decide +kernel
theorem dX0_addTree_10 : decode cX0_addTree 10 = .ok (.getfield 26, 3) := by decide +kernel
theorem dX0_addTree_13 : decode cX0_addTree 13 = .ok (.aload_n 0, 1) := by decide +kernel
theorem dX0_addTree_14 : decode cX0_addTree 14 = .ok (.getfield 23, 3) := by decide +kernel
theorem dX0_addTree_17 : decode cX0_addTree 17 = .ok (.iload_n 1, 1) := by decide +kernel
theorem dX0_addTree_18 : decode cX0_addTree 18 = .ok (.iastore, 1) := by decide +kernel
theorem dX0_addTree_19 : decode cX0_addTree 19 = .ok (.aload_n 0, 1) := by decide +kernel
theorem dX0_addTree_20 : decode cX0_addTree 20 = .ok (.getfield 29, 3) := by decide +kernel
theorem dX0_addTree_23 : decode cX0_addTree 23 = .ok (.aload_n 0, 1) := by decide +kernel
theorem dX0_addTree_24 : decode cX0_addTree 24 = .ok (.getfield 23, 3) := by decide +kernel
theorem dX0_addTree_27 : decode cX0_addTree 27 = .ok (.iload_n 2, 1) := by decide +kernel
theorem dX0_addTree_28 : decode cX0_addTree 28 = .ok (.iastore, 1) := by decide +kernel
theorem dX0_addTree_29 : decode cX0_addTree 29 = .ok (.aload_n 0, 1) := by decide +kernel
theorem dX0_addTree_30 : decode cX0_addTree 30 = .ok (.getfield 32, 3) := by decide +kernel
theorem dX0_addTree_33 : decode cX0_addTree 33 = .ok (.aload_n 0, 1) := by decide +kernel
theorem dX0_addTree_34 : decode cX0_addTree 34 = .ok (.getfield 23, 3) := by decide +kernel
theorem dX0_addTree_37 : decode cX0_addTree 37 = .ok (.iload_n 3, 1) := by decide +kernel
theorem dX0_addTree_38 : decode cX0_addTree 38 = .ok (.iastore, 1) := by decide +kernel
theorem dX0_addTree_39 : decode cX0_addTree 39 = .ok (.aload_n 0, 1) := by decide +kernel
theorem dX0_addTree_40 : decode cX0_addTree 40 = .ok (.getfield 35, 3) := by decide +kernel
theorem dX0_addTree_43 : decode cX0_addTree 43 = .ok (.aload_n 0, 1) := by decide +kernel
theorem dX0_addTree_44 : decode cX0_addTree 44 = .ok (.getfield 23, 3) := by decide +kernel
theorem dX0_addTree_47 : decode cX0_addTree 47 = .ok (.iload 4, 2) := by decide +kernel
theorem dX0_addTree_49 : decode cX0_addTree 49 = .ok (.iastore, 1) := by decide +kernel
theorem dX0_addTree_50 : decode cX0_addTree 50 = .ok (.aload_n 0, 1) := by decide +kernel
theorem dX0_addTree_51 : decode cX0_addTree 51 = .ok (.getfield 38, 3) := by decide +kernel
theorem dX0_addTree_54 : decode cX0_addTree 54 = .ok (.aload_n 0, 1) := by decide +kernel
theorem dX0_addTree_55 : decode cX0_addTree 55 = .ok (.getfield 23, 3) := by decide +kernel
theorem dX0_addTree_58 : decode cX0_addTree 58 = .ok (.iconst 0, 1) := by decide +kernel
theorem dX0_addTree_59 : decode cX0_addTree 59 = .ok (.iastore, 1) := by decide +kernel
theorem dX0_addTree_60 : decode cX0_addTree 60 = .ok (.aload_n 0, 1) := by decide +kernel
theorem dX0_addTree_61 : decode cX0_addTree 61 = .ok (.dup, 1) := by decide +kernel
theorem dX0_addTree_62 : decode cX0_addTree 62 = .ok (.getfield 23, 3) := by decide +kernel
theorem dX0_addTree_65 : decode cX0_addTree 65 = .ok (.iconst 1, 1) := by decide +kernel
theorem dX0_addTree_66 : decode cX0_addTree 66 = .ok (.iadd, 1) := by decide +kernel
theorem dX0_addTree_67 : decode cX0_addTree 67 = .ok (.putfield 23, 3) := by decide +kernel
theorem dX0_addTree_70 : decode cX0_addTree 70 = .ok (.return_, 1) := by decide +kernel
theorem dX0_addThing_0 : decode cX0_addThing 0 = .ok (.aload_n 0, 1) := by decide +kernel
theorem dX0_addThing_1 : decode cX0_addThing 1 = .ok (.getfield 41, 3) := by decide +kernel
theorem dX0_addThing_4 : decode cX0_addThing 4 = .ok (.bipush 6, 2) := by decide +kernel
theorem dX0_addThing_6 : decode cX0_addThing 6 = .ok (.if_icmp .ge 43, 3) := by decide +kernel
theorem dX0_addThing_9 : decode cX0_addThing 9 = .ok (.aload_n 0, 1) := by decide +kernel
theorem dX0_addThing_10 : decode cX0_addThing 10 = .ok (.getfield 44, 3) := by decide +kernel
theorem dX0_addThing_13 : decode cX0_addThing 13 = .ok (.aload_n 0, 1) := by decide +kernel
theorem dX0_addThing_14 : decode cX0_addThing 14 = .ok (.getfield 41, 3) := by decide +kernel
theorem dX0_addThing_17 : decode cX0_addThing 17 = .ok (.iload_n 1, 1) := by decide +kernel
theorem dX0_addThing_18 : decode cX0_addThing 18 = .ok (.iastore, 1) := by decide +kernel
theorem dX0_addThing_19 : decode cX0_addThing 19 = .ok (.aload_n 0, 1) := by decide +kernel
theorem dX0_addThing_20 : decode cX0_addThing 20 = .ok (.getfield 47, 3) := by decide +kernel
theorem dX0_addThing_23 : decode cX0_addThing 23 = .ok (.aload_n 0, 1) := by decide +kernel
theorem dX0_addThing_24 : decode cX0_addThing 24 = .ok (.getfield 41, 3) := by decide +kernel
theorem dX0_addThing_27 : decode cX0_addThing 27 = .ok (.iload_n 2, 1) := by decide +kernel
theorem dX0_addThing_28 : decode cX0_addThing 28 = .ok (.iastore, 1) := by decide +kernel
theorem dX0_addThing_29 : decode cX0_addThing 29 = .ok (.aload_n 0, 1) := by decide +kernel
theorem dX0_addThing_30 : decode cX0_addThing 30 = .ok (.getfield 50, 3) := by decide +kernel
theorem dX0_addThing_33 : decode cX0_addThing 33 = .ok (.aload_n 0, 1) := by decide +kernel
theorem dX0_addThing_34 : decode cX0_addThing 34 = .ok (.getfield 41, 3) := by decide +kernel
theorem dX0_addThing_37 : decode cX0_addThing 37 = .ok (.iload_n 3, 1) := by decide +kernel
theorem dX0_addThing_38 : decode cX0_addThing 38 = .ok (.bastore, 1) := by decide +kernel
theorem dX0_addThing_39 : decode cX0_addThing 39 = .ok (.aload_n 0, 1) := by decide +kernel
theorem dX0_addThing_40 : decode cX0_addThing 40 = .ok (.dup, 1) := by decide +kernel
theorem dX0_addThing_41 : decode cX0_addThing 41 = .ok (.getfield 41, 3) := by decide +kernel
theorem dX0_addThing_44 : decode cX0_addThing 44 = .ok (.iconst 1, 1) := by decide +kernel
theorem dX0_addThing_45 : decode cX0_addThing 45 = .ok (.iadd, 1) := by decide +kernel
theorem dX0_addThing_46 : decode cX0_addThing 46 = .ok (.putfield 41, 3) := by decide +kernel
theorem dX0_addThing_49 : decode cX0_addThing 49 = .ok (.return_, 1) := by decide +kernel
theorem dX0_hasTree_0 : decode cX0_hasTree 0 = .ok (.iload_n 1, 1) := by decide +kernel
theorem dX0_hasTree_1 : decode cX0_hasTree 1 = .ok (.ifCond .lt 15, 3) := by decide +kernel
theorem dX0_hasTree_4 : decode cX0_hasTree 4 = .ok (.iload_n 1, 1) := by decide +kernel
theorem dX0_hasTree_5 : decode cX0_hasTree 5 = .ok (.aload_n 0, 1) := by decide +kernel
theorem dX0_hasTree_6 : decode cX0_hasTree 6 = .ok (.getfield 23, 3) := by decide +kernel
theorem dX0_hasTree_9 : decode cX0_hasTree 9 = .ok (.if_icmp .ge 7, 3) := by decide +kernel
theorem dX0_hasTree_12 : decode cX0_hasTree 12 = .ok (.iconst 1, 1) := by decide +kernel
theorem dX0_hasTree_13 : decode cX0_hasTree 13 = .ok (.goto 4, 3) := by decide +kernel
theorem dX0_hasTree_16 : decode cX0_hasTree 16 = .ok (.iconst 0, 1) := by decide +kernel
theorem dX0_hasTree_17 : decode cX0_hasTree 17 = .ok (.ireturn, 1) := by decide +kernel
theorem dX0_hasThings_0 : decode cX0_hasThings 0 = .ok (.iload_n 1, 1) := by decide +kernel
theorem dX0_hasThings_1 : decode cX0_hasThings 1 = .ok (.ifCond .lt 17, 3) := by decide +kernel
theorem dX0_hasThings_4 : decode cX0_hasThings 4 = .ok (.iload_n 1, 1) := by decide +kernel
theorem dX0_hasThings_5 : decode cX0_hasThings 5 = .ok (.iconst 1, 1) := by decide +kernel
theorem dX0_hasThings_6 : decode cX0_hasThings 6 = .ok (.aload_n 0, 1) := by decide +kernel
theorem dX0_hasThings_7 : decode cX0_hasThings 7 = .ok (.getfield 41, 3) := by decide +kernel
theorem dX0_hasThings_10 : decode cX0_hasThings 10 = .ok (.ishl, 1) := by decide +kernel
theorem dX0_hasThings_11 : decode cX0_hasThings 11 = .ok (.if_icmp .ge 7, 3) := by decide +kernel
theorem dX0_hasThings_14 : decode cX0_hasThings 14 = .ok (.iconst 1, 1) := by decide +kernel
theorem dX0_hasThings_15 : decode cX0_hasThings 15 = .ok (.goto 4, 3) := by decide +kernel
theorem dX0_hasThings_18 : decode cX0_hasThings 18 = .ok (.iconst 0, 1) := by decide +kernel
theorem dX0_hasThings_19 : decode cX0_hasThings 19 = .ok (.ireturn, 1) := by decide +kernel
theorem dX0_mayBeCut_0 : decode cX0_mayBeCut 0 = .ok (.aload_n 0, 1) := by decide +kernel
theorem dX0_mayBeCut_1 : decode cX0_mayBeCut 1 = .ok (.iload_n 1, 1) := by decide +kernel
theorem dX0_mayBeCut_2 : decode cX0_mayBeCut 2 = .ok (.invokevirtual 73, 3) := by decide +kernel
theorem dX0_mayBeCut_5 : decode cX0_mayBeCut 5 = .ok (.ifCond .eq 27, 3) := by decide +kernel
theorem dX0_mayBeCut_8 : decode cX0_mayBeCut 8 = .ok (.aload_n 0, 1) := by decide +kernel
theorem dX0_mayBeCut_9 : decode cX0_mayBeCut 9 = .ok (.getfield 26, 3) := by decide +kernel
theorem dX0_mayBeCut_12 : decode cX0_mayBeCut 12 = .ok (.iload_n 1, 1) := by decide +kernel
theorem dX0_mayBeCut_13 : decode cX0_mayBeCut 13 = .ok (.iaload, 1) := by decide +kernel
theorem dX0_mayBeCut_14 : decode cX0_mayBeCut 14 = .ok (.iconst 3, 1) := by decide +kernel
theorem dX0_mayBeCut_15 : decode cX0_mayBeCut 15 = .ok (.if_icmp .eq 17, 3) := by decide +kernel
theorem dX0_mayBeCut_18 : decode cX0_mayBeCut 18 = .ok (.aload_n 0, 1) := by decide +kernel
theorem dX0_mayBeCut_19 : decode cX0_mayBeCut 19 = .ok (.getfield 26, 3) := by decide +kernel
theorem dX0_mayBeCut_22 : decode cX0_mayBeCut 22 = .ok (.iload_n 1, 1) := by decide +kernel
theorem dX0_mayBeCut_23 : decode cX0_mayBeCut 23 = .ok (.iaload, 1) := by decide +kernel
theorem dX0_mayBeCut_24 : decode cX0_mayBeCut 24 = .ok (.iconst 5, 1) := by decide +kernel
theorem dX0_mayBeCut_25 : decode cX0_mayBeCut 25 = .ok (.if_icmp .eq 7, 3) := by decide +kernel
theorem dX0_mayBeCut_28 : decode cX0_mayBeCut 28 = .ok (.iconst 1, 1) := by decide +kernel
theorem dX0_mayBeCut_29 : decode cX0_mayBeCut 29 = .ok (.goto 4, 3) := by decide +kernel
theorem dX0_mayBeCut_32 : decode cX0_mayBeCut 32 = .ok (.iconst 0, 1) := by decide +kernel
theorem dX0_mayBeCut_33 : decode cX0_mayBeCut 33 = .ok (.ireturn, 1) := by decide +kernel
theorem dX0_treeAt_0 : decode cX0_treeAt 0 = .ok (.iconst 0, 1) := by decide +kernel
theorem dX0_treeAt_1 : decode cX0_treeAt 1 = .ok (.istore_n 2, 1) := by decide +kernel
theorem dX0_treeAt_2 : decode cX0_treeAt 2 = .ok (.iload_n 2, 1) := by decide +kernel
theorem dX0_treeAt_3 : decode cX0_treeAt 3 = .ok (.aload_n 0, 1) := by decide +kernel
theorem dX0_treeAt_4 : decode cX0_treeAt 4 = .ok (.getfield 23, 3) := by decide +kernel
theorem dX0_treeAt_7 : decode cX0_treeAt 7 = .ok (.if_icmp .ge 21, 3) := by decide +kernel
theorem dX0_treeAt_10 : decode cX0_treeAt 10 = .ok (.aload_n 0, 1) := by decide +kernel
theorem dX0_treeAt_11 : decode cX0_treeAt 11 = .ok (.getfield 29, 3) := by decide +kernel
theorem dX0_treeAt_14 : decode cX0_treeAt 14 = .ok (.iload_n 2, 1) := by decide +kernel
theorem dX0_treeAt_15 : decode cX0_treeAt 15 = .ok (.iaload, 1) := by decide +kernel
theorem dX0_treeAt_16 : decode cX0_treeAt 16 = .ok (.iload_n 1, 1) := by decide +kernel
theorem dX0_treeAt_17 : decode cX0_treeAt 17 = .ok (.if_icmp .ne 5, 3) := by decide +kernel
theorem dX0_treeAt_20 : decode cX0_treeAt 20 = .ok (.iload_n 2, 1) := by decide +kernel
theorem dX0_treeAt_21 : decode cX0_treeAt 21 = .ok (.ireturn, 1) := by decide +kernel
theorem dX0_treeAt_22 : decode cX0_treeAt 22 = .ok (.iinc 2 1, 3) := by decide +kernel
theorem dX0_treeAt_25 : decode cX0_treeAt 25 = .ok (.goto (-23), 3) := by decide +kernel
theorem dX0_treeAt_28 : decode cX0_treeAt 28 = .ok (.ldc 19, 2) := by decide +kernel
theorem dX0_treeAt_30 : decode cX0_treeAt 30 = .ok (.ireturn, 1) := by decide +kernel
theorem dX0_topOf_0 : decode cX0_topOf 0 = .ok (.aload_n 0, 1) := by decide +kernel
theorem dX0_topOf_1 : decode cX0_topOf 1 = .ok (.getfield 9, 3) := by decide +kernel
theorem dX0_topOf_4 : decode cX0_topOf 4 = .ok (.aload_n 0, 1) := by decide +kernel
theorem dX0_topOf_5 : decode cX0_topOf 5 = .ok (.getfield 44, 3) := by decide +kernel
theorem dX0_topOf_8 : decode cX0_topOf 8 = .ok (.iload_n 1, 1) := by decide +kernel
theorem dX0_topOf_9 : decode cX0_topOf 9 = .ok (.iaload, 1) := by decide +kernel
theorem dX0_topOf_10 : decode cX0_topOf 10 = .ok (.iaload, 1) := by decide +kernel
theorem dX0_topOf_11 : decode cX0_topOf 11 = .ok (.aload_n 0, 1) := by decide +kernel
theorem dX0_topOf_12 : decode cX0_topOf 12 = .ok (.getfield 47, 3) := by decide +kernel
theorem dX0_topOf_15 : decode cX0_topOf 15 = .ok (.iload_n 1, 1) := by decide +kernel
theorem dX0_topOf_16 : decode cX0_topOf 16 = .ok (.iaload, 1) := by decide +kernel
theorem dX0_topOf_17 : decode cX0_topOf 17 = .ok (.iadd, 1) := by decide +kernel
theorem dX0_topOf_18 : decode cX0_topOf 18 = .ok (.ireturn, 1) := by decide +kernel
theorem dX0_heightNow_0 : decode cX0_heightNow 0 = .ok (.aload_n 0, 1) := by decide +kernel
theorem dX0_heightNow_1 : decode cX0_heightNow 1 = .ok (.iload_n 1, 1) := by decide +kernel
theorem dX0_heightNow_2 : decode cX0_heightNow 2 = .ok (.aload_n 0, 1) := by decide +kernel
theorem dX0_heightNow_3 : decode cX0_heightNow 3 = .ok (.getfield 54, 3) := by decide +kernel
theorem dX0_heightNow_6 : decode cX0_heightNow 6 = .ok (.aload_n 0, 1) := by decide +kernel
theorem dX0_heightNow_7 : decode cX0_heightNow 7 = .ok (.getfield 57, 3) := by decide +kernel
theorem dX0_heightNow_10 : decode cX0_heightNow 10 = .ok (.invokevirtual 77, 3) := by decide +kernel
theorem dX0_heightNow_13 : decode cX0_heightNow 13 = .ok (.ireturn, 1) := by decide +kernel
theorem dX0_heightIn_0 : decode cX0_heightIn 0 = .ok (.aload_n 0, 1) := by decide +kernel
theorem dX0_heightIn_1 : decode cX0_heightIn 1 = .ok (.iload_n 1, 1) := by decide +kernel
theorem dX0_heightIn_2 : decode cX0_heightIn 2 = .ok (.invokevirtual 73, 3) := by decide +kernel
theorem dX0_heightIn_5 : decode cX0_heightIn 5 = .ok (.ifCond .eq 17, 3) := by decide +kernel
theorem dX0_heightIn_8 : decode cX0_heightIn 8 = .ok (.iload_n 3, 1) := by decide +kernel
theorem dX0_heightIn_9 : decode cX0_heightIn 9 = .ok (.ifCond .eq 15, 3) := by decide +kernel
theorem dX0_heightIn_12 : decode cX0_heightIn 12 = .ok (.aload_n 0, 1) := by decide +kernel
theorem dX0_heightIn_13 : decode cX0_heightIn 13 = .ok (.getfield 26, 3) := by decide +kernel
theorem dX0_heightIn_16 : decode cX0_heightIn 16 = .ok (.iload_n 1, 1) := by decide +kernel
theorem dX0_heightIn_17 : decode cX0_heightIn 17 = .ok (.iaload, 1) := by decide +kernel
theorem dX0_heightIn_18 : decode cX0_heightIn 18 = .ok (.iconst 1, 1) := by decide +kernel
theorem dX0_heightIn_19 : decode cX0_heightIn 19 = .ok (.if_icmp .ne 5, 3) := by decide +kernel
theorem dX0_heightIn_22 : decode cX0_heightIn 22 = .ok (.iconst 0, 1) := by decide +kernel
theorem dX0_heightIn_23 : decode cX0_heightIn 23 = .ok (.ireturn, 1) := by decide +kernel
theorem dX0_heightIn_24 : decode cX0_heightIn 24 = .ok (.aload_n 0, 1) := by decide +kernel
theorem dX0_heightIn_25 : decode cX0_heightIn 25 = .ok (.getfield 26, 3) := by decide +kernel
theorem dX0_heightIn_28 : decode cX0_heightIn 28 = .ok (.iload_n 1, 1) := by decide +kernel
theorem dX0_heightIn_29 : decode cX0_heightIn 29 = .ok (.iaload, 1) := by decide +kernel
theorem dX0_heightIn_30 : decode cX0_heightIn 30 = .ok (.iconst 4, 1) := by decide +kernel
theorem dX0_heightIn_31 : decode cX0_heightIn 31 = .ok (.if_icmp .eq 13, 3) := by decide +kernel
theorem dX0_heightIn_34 : decode cX0_heightIn 34 = .ok (.aload_n 0, 1) := by decide +kernel
theorem dX0_heightIn_35 : decode cX0_heightIn 35 = .ok (.getfield 26, 3) := by decide +kernel
theorem dX0_heightIn_38 : decode cX0_heightIn 38 = .ok (.iload_n 1, 1) := by decide +kernel
theorem dX0_heightIn_39 : decode cX0_heightIn 39 = .ok (.iaload, 1) := by decide +kernel
theorem dX0_heightIn_40 : decode cX0_heightIn 40 = .ok (.iconst 5, 1) := by decide +kernel
theorem dX0_heightIn_41 : decode cX0_heightIn 41 = .ok (.if_icmp .ne 7, 3) := by decide +kernel
theorem dX0_heightIn_44 : decode cX0_heightIn 44 = .ok (.iconst 1, 1) := by decide +kernel
theorem dX0_heightIn_45 : decode cX0_heightIn 45 = .ok (.goto 4, 3) := by decide +kernel
theorem dX0_heightIn_48 : decode cX0_heightIn 48 = .ok (.iconst 0, 1) := by decide +kernel
theorem dX0_heightIn_49 : decode cX0_heightIn 49 = .ok (.istore 4, 2) := by decide +kernel
theorem dX0_heightIn_51 : decode cX0_heightIn 51 = .ok (.iload 4, 2) := by decide +kernel
theorem dX0_heightIn_53 : decode cX0_heightIn 53 = .ok (.ifCond .eq 12, 3) := by decide +kernel
theorem dX0_heightIn_56 : decode cX0_heightIn 56 = .ok (.aload_n 0, 1) := by decide +kernel
theorem dX0_heightIn_57 : decode cX0_heightIn 57 = .ok (.getfield 32, 3) := by decide +kernel
theorem dX0_heightIn_60 : decode cX0_heightIn 60 = .ok (.iload_n 1, 1) := by decide +kernel
theorem dX0_heightIn_61 : decode cX0_heightIn 61 = .ok (.iaload, 1) := by decide +kernel
theorem dX0_heightIn_62 : decode cX0_heightIn 62 = .ok (.goto 18, 3) := by decide +kernel
theorem dX0_heightIn_65 : decode cX0_heightIn 65 = .ok (.aload_n 0, 1) := by decide +kernel
theorem dX0_heightIn_66 : decode cX0_heightIn 66 = .ok (.getfield 32, 3) := by decide +kernel
theorem dX0_heightIn_69 : decode cX0_heightIn 69 = .ok (.iload_n 1, 1) := by decide +kernel
theorem dX0_heightIn_70 : decode cX0_heightIn 70 = .ok (.iaload, 1) := by decide +kernel
theorem dX0_heightIn_71 : decode cX0_heightIn 71 = .ok (.aload_n 0, 1) := by decide +kernel
theorem dX0_heightIn_72 : decode cX0_heightIn 72 = .ok (.getfield 35, 3) := by decide +kernel
theorem dX0_heightIn_75 : decode cX0_heightIn 75 = .ok (.iload_n 1, 1) := by decide +kernel
theorem dX0_heightIn_76 : decode cX0_heightIn 76 = .ok (.iaload, 1) := by decide +kernel
theorem dX0_heightIn_77 : decode cX0_heightIn 77 = .ok (.iload_n 2, 1) := by decide +kernel
theorem dX0_heightIn_78 : decode cX0_heightIn 78 = .ok (.imul, 1) := by decide +kernel
theorem dX0_heightIn_79 : decode cX0_heightIn 79 = .ok (.iadd, 1) := by decide +kernel
theorem dX0_heightIn_80 : decode cX0_heightIn 80 = .ok (.istore 5, 2) := by decide +kernel
theorem dX0_heightIn_82 : decode cX0_heightIn 82 = .ok (.iconst 0, 1) := by decide +kernel
theorem dX0_heightIn_83 : decode cX0_heightIn 83 = .ok (.bipush 99, 2) := by decide +kernel
theorem dX0_heightIn_85 : decode cX0_heightIn 85 = .ok (.iload 5, 2) := by decide +kernel
theorem dX0_heightIn_87 : decode cX0_heightIn 87 = .ok (.invokestatic 81, 3) := by decide +kernel
theorem dX0_heightIn_90 : decode cX0_heightIn 90 = .ok (.aload_n 0, 1) := by decide +kernel
theorem dX0_heightIn_91 : decode cX0_heightIn 91 = .ok (.getfield 38, 3) := by decide +kernel
theorem dX0_heightIn_94 : decode cX0_heightIn 94 = .ok (.iload_n 1, 1) := by decide +kernel
theorem dX0_heightIn_95 : decode cX0_heightIn 95 = .ok (.iaload, 1) := by decide +kernel
theorem dX0_heightIn_96 : decode cX0_heightIn 96 = .ok (.isub, 1) := by decide +kernel
theorem dX0_heightIn_97 : decode cX0_heightIn 97 = .ok (.invokestatic 87, 3) := by decide +kernel
theorem dX0_heightIn_100 : decode cX0_heightIn 100 = .ok (.ireturn, 1) := by decide +kernel
theorem dX1_init_0 : decode cX1_init 0 = .ok (.aload_n 0, 1) := by decide +kernel
theorem dX1_init_1 : decode cX1_init 1 = .ok (.invokespecial 3, 3) := by decide +kernel
theorem dX1_init_4 : decode cX1_init 4 = .ok (.aload_n 0, 1) := by decide +kernel
theorem dX1_init_5 : decode cX1_init 5 = .ok (.sipush 400, 3) := by decide +kernel
theorem dX1_init_8 : decode cX1_init 8 = .ok (.newarray .byte, 2) := by decide +kernel
theorem dX1_init_10 : decode cX1_init 10 = .ok (.putfield 9, 3) := by decide +kernel
theorem dX1_init_13 : decode cX1_init 13 = .ok (.aload_n 0, 1) := by decide +kernel
theorem dX1_init_14 : decode cX1_init 14 = .ok (.iconst 0, 1) := by decide +kernel
theorem dX1_init_15 : decode cX1_init 15 = .ok (.putfield 15, 3) := by decide +kernel
theorem dX1_init_18 : decode cX1_init 18 = .ok (.aload_n 0, 1) := by decide +kernel
theorem dX1_init_19 : decode cX1_init 19 = .ok (.iconst 0, 1) := by decide +kernel
theorem dX1_init_20 : decode cX1_init 20 = .ok (.putfield 19, 3) := by decide +kernel
theorem dX1_init_23 : decode cX1_init 23 = .ok (.aload_n 0, 1) := by decide +kernel
theorem dX1_init_24 : decode cX1_init 24 = .ok (.iconst 0, 1) := by decide +kernel
theorem dX1_init_25 : decode cX1_init 25 = .ok (.putfield 22, 3) := by decide +kernel
theorem dX1_init_28 : decode cX1_init 28 = .ok (.aload_n 0, 1) := by decide +kernel
theorem dX1_init_29 : decode cX1_init 29 = .ok (.iconst 0, 1) := by decide +kernel
theorem dX1_init_30 : decode cX1_init 30 = .ok (.putfield 25, 3) := by decide +kernel
theorem dX1_init_33 : decode cX1_init 33 = .ok (.aload_n 0, 1) := by decide +kernel
theorem dX1_init_34 : decode cX1_init 34 = .ok (.iconst 0, 1) := by decide +kernel
theorem dX1_init_35 : decode cX1_init 35 = .ok (.putfield 28, 3) := by decide +kernel
theorem dX1_init_38 : decode cX1_init 38 = .ok (.aload_n 0, 1) := by decide +kernel
theorem dX1_init_39 : decode cX1_init 39 = .ok (.iconst 0, 1) := by decide +kernel
theorem dX1_init_40 : decode cX1_init 40 = .ok (.putfield 31, 3) := by decide +kernel
theorem dX1_init_43 : decode cX1_init 43 = .ok (.aload_n 0, 1) := by decide +kernel
theorem dX1_init_44 : decode cX1_init 44 = .ok (.iconst 0, 1) := by decide +kernel
theorem dX1_init_45 : decode cX1_init 45 = .ok (.putfield 34, 3) := by decide +kernel
theorem dX1_init_48 : decode cX1_init 48 = .ok (.return_, 1) := by decide +kernel
theorem dX1_take_0 : decode cX1_take 0 = .ok (.aload_n 0, 1) := by decide +kernel
theorem dX1_take_1 : decode cX1_take 1 = .ok (.getfield 15, 3) := by decide +kernel
theorem dX1_take_4 : decode cX1_take 4 = .ok (.sipush 400, 3) := by decide +kernel
theorem dX1_take_7 : decode cX1_take 7 = .ok (.if_icmp .ge 23, 3) := by decide +kernel
theorem dX1_take_10 : decode cX1_take 10 = .ok (.aload_n 0, 1) := by decide +kernel
theorem dX1_take_11 : decode cX1_take 11 = .ok (.getfield 9, 3) := by decide +kernel
theorem dX1_take_14 : decode cX1_take 14 = .ok (.aload_n 0, 1) := by decide +kernel
theorem dX1_take_15 : decode cX1_take 15 = .ok (.getfield 15, 3) := by decide +kernel
theorem dX1_take_18 : decode cX1_take 18 = .ok (.iload_n 1, 1) := by decide +kernel
theorem dX1_take_19 : decode cX1_take 19 = .ok (.bastore, 1) := by decide +kernel
theorem dX1_take_20 : decode cX1_take 20 = .ok (.aload_n 0, 1) := by decide +kernel
theorem dX1_take_21 : decode cX1_take 21 = .ok (.dup, 1) := by decide +kernel
theorem dX1_take_22 : decode cX1_take 22 = .ok (.getfield 15, 3) := by decide +kernel
theorem dX1_take_25 : decode cX1_take 25 = .ok (.iconst 1, 1) := by decide +kernel
theorem dX1_take_26 : decode cX1_take 26 = .ok (.iadd, 1) := by decide +kernel
theorem dX1_take_27 : decode cX1_take 27 = .ok (.putfield 15, 3) := by decide +kernel
theorem dX1_take_30 : decode cX1_take 30 = .ok (.return_, 1) := by decide +kernel
theorem dX1_readInto_0 : decode cX1_readInto 0 = .ok (.aload_n 1, 1) := by decide +kernel
theorem dX1_readInto_1 : decode cX1_readInto 1 = .ok (.invokevirtual 37, 3) := by decide +kernel
theorem dX1_readInto_4 : decode cX1_readInto 4 = .ok (.aload_n 0, 1) := by decide +kernel
theorem dX1_readInto_5 : decode cX1_readInto 5 = .ok (.iconst 0, 1) := by decide +kernel
theorem dX1_readInto_6 : decode cX1_readInto 6 = .ok (.putfield 22, 3) := by decide +kernel
theorem dX1_readInto_9 : decode cX1_readInto 9 = .ok (.aload_n 0, 1) := by decide +kernel
theorem dX1_readInto_10 : decode cX1_readInto 10 = .ok (.invokevirtual 42, 3) := by decide +kernel
theorem dX1_readInto_13 : decode cX1_readInto 13 = .ok (.aload_n 0, 1) := by decide +kernel
theorem dX1_readInto_14 : decode cX1_readInto 14 = .ok (.aload_n 1, 1) := by decide +kernel
theorem dX1_readInto_15 : decode cX1_readInto 15 = .ok (.invokevirtual 45, 3) := by decide +kernel
theorem dX1_readInto_18 : decode cX1_readInto 18 = .ok (.ifCond .ne 5, 3) := by decide +kernel
theorem dX1_readInto_21 : decode cX1_readInto 21 = .ok (.iconst 0, 1) := by decide +kernel
theorem dX1_readInto_22 : decode cX1_readInto 22 = .ok (.ireturn, 1) := by decide +kernel
theorem dX1_readInto_23 : decode cX1_readInto 23 = .ok (.aload_n 0, 1) := by decide +kernel
theorem dX1_readInto_24 : decode cX1_readInto 24 = .ok (.ldc 49, 2) := by decide +kernel
theorem dX1_readInto_26 : decode cX1_readInto 26 = .ok (.invokevirtual 51, 3) := by decide +kernel
theorem dX1_readInto_29 : decode cX1_readInto 29 = .ok (.ifCond .eq 13, 3) := by decide +kernel
theorem dX1_readInto_32 : decode cX1_readInto 32 = .ok (.aload_n 0, 1) := by decide +kernel
theorem dX1_readInto_33 : decode cX1_readInto 33 = .ok (.aload_n 1, 1) := by decide +kernel
theorem dX1_readInto_34 : decode cX1_readInto 34 = .ok (.invokevirtual 55, 3) := by decide +kernel
theorem dX1_readInto_37 : decode cX1_readInto 37 = .ok (.ifCond .ne 5, 3) := by decide +kernel
theorem dX1_readInto_40 : decode cX1_readInto 40 = .ok (.iconst 0, 1) := by decide +kernel
theorem dX1_readInto_41 : decode cX1_readInto 41 = .ok (.ireturn, 1) := by decide +kernel
theorem dX1_readInto_42 : decode cX1_readInto 42 = .ok (.iconst 0, 1) := by decide +kernel
theorem dX1_readInto_43 : decode cX1_readInto 43 = .ok (.istore_n 2, 1) := by decide +kernel
theorem dX1_readInto_44 : decode cX1_readInto 44 = .ok (.iload_n 2, 1) := by decide +kernel
theorem dX1_readInto_45 : decode cX1_readInto 45 = .ok (.bipush 6, 2) := by decide +kernel
theorem dX1_readInto_47 : decode cX1_readInto 47 = .ok (.if_icmp .gt 28, 3) := by decide +kernel
theorem dX1_readInto_50 : decode cX1_readInto 50 = .ok (.aload_n 0, 1) := by decide +kernel
theorem dX1_readInto_51 : decode cX1_readInto 51 = .ok (.ldc 58, 2) := by decide +kernel
theorem dX1_readInto_53 : decode cX1_readInto 53 = .ok (.invokevirtual 51, 3) := by decide +kernel
theorem dX1_readInto_56 : decode cX1_readInto 56 = .ok (.ifCond .eq 19, 3) := by decide +kernel
theorem dX1_readInto_59 : decode cX1_readInto 59 = .ok (.aload_n 0, 1) := by decide +kernel
theorem dX1_readInto_60 : decode cX1_readInto 60 = .ok (.aload_n 1, 1) := by decide +kernel
theorem dX1_readInto_61 : decode cX1_readInto 61 = .ok (.invokevirtual 60, 3) := by decide +kernel
theorem dX1_readInto_64 : decode cX1_readInto 64 = .ok (.ifCond .ne 5, 3) := by decide +kernel
theorem dX1_readInto_67 : decode cX1_readInto 67 = .ok (.iconst 0, 1) := by decide +kernel
theorem dX1_readInto_68 : decode cX1_readInto 68 = .ok (.ireturn, 1) := by decide +kernel
theorem dX1_readInto_69 : decode cX1_readInto 69 = .ok (.iinc 2 1, 3) := by decide +kernel
theorem dX1_readInto_72 : decode cX1_readInto 72 = .ok (.goto (-28), 3) := by decide +kernel
theorem dX1_readInto_75 : decode cX1_readInto 75 = .ok (.iconst 0, 1) := by decide +kernel
theorem dX1_readInto_76 : decode cX1_readInto 76 = .ok (.istore_n 2, 1) := by decide +kernel
theorem dX1_readInto_77 : decode cX1_readInto 77 = .ok (.iload_n 2, 1) := by decide +kernel
theorem dX1_readInto_78 : decode cX1_readInto 78 = .ok (.bipush 6, 2) := by decide +kernel
theorem dX1_readInto_80 : decode cX1_readInto 80 = .ok (.if_icmp .gt 28, 3) := by decide +kernel
theorem dX1_readInto_83 : decode cX1_readInto 83 = .ok (.aload_n 0, 1) := by decide +kernel
theorem dX1_readInto_84 : decode cX1_readInto 84 = .ok (.ldc 63, 2) := by decide +kernel
theorem dX1_readInto_86 : decode cX1_readInto 86 = .ok (.invokevirtual 51, 3) := by decide +kernel
theorem dX1_readInto_89 : decode cX1_readInto 89 = .ok (.ifCond .eq 19, 3) := by decide +kernel
theorem dX1_readInto_92 : decode cX1_readInto 92 = .ok (.aload_n 0, 1) := by decide +kernel
theorem dX1_readInto_93 : decode cX1_readInto 93 = .ok (.aload_n 1, 1) := by decide +kernel
theorem dX1_readInto_94 : decode cX1_readInto 94 = .ok (.invokevirtual 65, 3) := by decide +kernel
theorem dX1_readInto_97 : decode cX1_readInto 97 = .ok (.ifCond .ne 5, 3) := by decide +kernel
theorem dX1_readInto_100 : decode cX1_readInto 100 = .ok (.iconst 0, 1) := by decide +kernel
theorem dX1_readInto_101 : decode cX1_readInto 101 = .ok (.ireturn, 1) := by decide +kernel
theorem dX1_readInto_102 : decode cX1_readInto 102 = .ok (.iinc 2 1, 3) := by decide +kernel
theorem dX1_readInto_105 : decode cX1_readInto 105 = .ok (.goto (-28), 3) := by decide +kernel
theorem dX1_readInto_108 : decode cX1_readInto 108 = .ok (.aload_n 0, 1) := by decide +kernel
theorem dX1_readInto_109 : decode cX1_readInto 109 = .ok (.getfield 25, 3) := by decide +kernel
theorem dX1_readInto_112 : decode cX1_readInto 112 = .ok (.ifCond .eq 11, 3) := by decide +kernel
theorem dX1_readInto_115 : decode cX1_readInto 115 = .ok (.aload_n 0, 1) := by decide +kernel
theorem dX1_readInto_116 : decode cX1_readInto 116 = .ok (.iconst 1, 1) := by decide +kernel
theorem dX1_readInto_117 : decode cX1_readInto 117 = .ok (.invokevirtual 68, 3) := by decide +kernel
theorem dX1_readInto_120 : decode cX1_readInto 120 = .ok (.ifCond .eq 7, 3) := by decide +kernel
theorem dX1_readInto_123 : decode cX1_readInto 123 = .ok (.iconst 1, 1) := by decide +kernel
theorem dX1_readInto_124 : decode cX1_readInto 124 = .ok (.goto 4, 3) := by decide +kernel
theorem dX1_readInto_127 : decode cX1_readInto 127 = .ok (.iconst 0, 1) := by decide +kernel
theorem dX1_readInto_128 : decode cX1_readInto 128 = .ok (.ireturn, 1) := by decide +kernel
theorem dX1_readGround_0 : decode cX1_readGround 0 = .ok (.aload_n 0, 1) := by decide +kernel
theorem dX1_readGround_1 : decode cX1_readGround 1 = .ok (.ldc 72, 2) := by decide +kernel
theorem dX1_readGround_3 : decode cX1_readGround 3 = .ok (.invokevirtual 74, 3) := by decide +kernel
theorem dX1_readGround_6 : decode cX1_readGround 6 = .ok (.ifCond .ne 5, 3) := by decide +kernel
theorem dX1_readGround_9 : decode cX1_readGround 9 = .ok (.iconst 0, 1) := by decide +kernel
theorem dX1_readGround_10 : decode cX1_readGround 10 = .ok (.ireturn, 1) := by decide +kernel
theorem dX1_readGround_11 : decode cX1_readGround 11 = .ok (.iconst 0, 1) := by decide +kernel
theorem dX1_readGround_12 : decode cX1_readGround 12 = .ok (.istore_n 2, 1) := by decide +kernel
theorem dX1_readGround_13 : decode cX1_readGround 13 = .ok (.iload_n 2, 1) := by decide +kernel
theorem dX1_readGround_14 : decode cX1_readGround 14 = .ok (.bipush 20, 2) := by decide +kernel
theorem dX1_readGround_16 : decode cX1_readGround 16 = .ok (.if_icmp .ge 31, 3) := by decide +kernel
theorem dX1_readGround_19 : decode cX1_readGround 19 = .ok (.aload_n 0, 1) := by decide +kernel
theorem dX1_readGround_20 : decode cX1_readGround 20 = .ok (.iconst 0, 1) := by decide +kernel
theorem dX1_readGround_21 : decode cX1_readGround 21 = .ok (.bipush 60, 2) := by decide +kernel
theorem dX1_readGround_23 : decode cX1_readGround 23 = .ok (.invokevirtual 77, 3) := by decide +kernel
theorem dX1_readGround_26 : decode cX1_readGround 26 = .ok (.ifCond .ne 5, 3) := by decide +kernel
theorem dX1_readGround_29 : decode cX1_readGround 29 = .ok (.iconst 0, 1) := by decide +kernel
theorem dX1_readGround_30 : decode cX1_readGround 30 = .ok (.ireturn, 1) := by decide +kernel
theorem dX1_readGround_31 : decode cX1_readGround 31 = .ok (.aload_n 1, 1) := by decide +kernel
theorem dX1_readGround_32 : decode cX1_readGround 32 = .ok (.getfield 81, 3) := by decide +kernel
theorem dX1_readGround_35 : decode cX1_readGround 35 = .ok (.iload_n 2, 1) := by decide +kernel
theorem dX1_readGround_36 : decode cX1_readGround 36 = .ok (.aload_n 0, 1) := by decide +kernel
theorem dX1_readGround_37 : decode cX1_readGround 37 = .ok (.invokevirtual 84, 3) := by decide +kernel
theorem dX1_readGround_40 : decode cX1_readGround 40 = .ok (.iastore, 1) := by decide +kernel
theorem dX1_readGround_41 : decode cX1_readGround 41 = .ok (.iinc 2 1, 3) := by decide +kernel
theorem dX1_readGround_44 : decode cX1_readGround 44 = .ok (.goto (-31), 3) := by decide +kernel
theorem dX1_readGround_47 : decode cX1_readGround 47 = .ok (.aload_n 0, 1) := by decide +kernel
theorem dX1_readGround_48 : decode cX1_readGround 48 = .ok (.invokevirtual 88, 3) := by decide +kernel
theorem dX1_readGround_51 : decode cX1_readGround 51 = .ok (.ireturn, 1) := by decide +kernel
theorem dX1_readLake_0 : decode cX1_readLake 0 = .ok (.aload_n 0, 1) := by decide +kernel
theorem dX1_readLake_1 : decode cX1_readLake 1 = .ok (.invokevirtual 42, 3) := by decide +kernel
theorem dX1_readLake_4 : decode cX1_readLake 4 = .ok (.aload_n 0, 1) := by decide +kernel
theorem dX1_readLake_5 : decode cX1_readLake 5 = .ok (.iconst 0, 1) := by decide +kernel
theorem dX1_readLake_6 : decode cX1_readLake 6 = .ok (.bipush 19, 2) := by decide +kernel
theorem dX1_readLake_8 : decode cX1_readLake 8 = .ok (.invokevirtual 77, 3) := by decide +kernel
theorem dX1_readLake_11 : decode cX1_readLake 11 = .ok (.ifCond .ne 5, 3) := by decide +kernel
theorem dX1_readLake_14 : decode cX1_readLake 14 = .ok (.iconst 0, 1) := by decide +kernel
theorem dX1_readLake_15 : decode cX1_readLake 15 = .ok (.ireturn, 1) := by decide +kernel
theorem dX1_readLake_16 : decode cX1_readLake 16 = .ok (.aload_n 1, 1) := by decide +kernel
theorem dX1_readLake_17 : decode cX1_readLake 17 = .ok (.aload_n 0, 1) := by decide +kernel
theorem dX1_readLake_18 : decode cX1_readLake 18 = .ok (.invokevirtual 84, 3) := by decide +kernel
theorem dX1_readLake_21 : decode cX1_readLake 21 = .ok (.putfield 92, 3) := by decide +kernel
theorem dX1_readLake_24 : decode cX1_readLake 24 = .ok (.aload_n 0, 1) := by decide +kernel
theorem dX1_readLake_25 : decode cX1_readLake 25 = .ok (.aload_n 1, 1) := by decide +kernel
theorem dX1_readLake_26 : decode cX1_readLake 26 = .ok (.getfield 92, 3) := by decide +kernel
theorem dX1_readLake_29 : decode cX1_readLake 29 = .ok (.bipush 19, 2) := by decide +kernel
theorem dX1_readLake_31 : decode cX1_readLake 31 = .ok (.invokevirtual 77, 3) := by decide +kernel
theorem dX1_readLake_34 : decode cX1_readLake 34 = .ok (.ifCond .ne 5, 3) := by decide +kernel
theorem dX1_readLake_37 : decode cX1_readLake 37 = .ok (.iconst 0, 1) := by decide +kernel
theorem dX1_readLake_38 : decode cX1_readLake 38 = .ok (.ireturn, 1) := by decide +kernel
theorem dX1_readLake_39 : decode cX1_readLake 39 = .ok (.aload_n 1, 1) := by decide +kernel
theorem dX1_readLake_40 : decode cX1_readLake 40 = .ok (.aload_n 0, 1) := by decide +kernel
theorem dX1_readLake_41 : decode cX1_readLake 41 = .ok (.invokevirtual 84, 3) := by decide +kernel
theorem dX1_readLake_44 : decode cX1_readLake 44 = .ok (.putfield 95, 3) := by decide +kernel
theorem dX1_readLake_47 : decode cX1_readLake 47 = .ok (.aload_n 0, 1) := by decide +kernel
theorem dX1_readLake_48 : decode cX1_readLake 48 = .ok (.invokevirtual 88, 3) := by decide +kernel
theorem dX1_readLake_51 : decode cX1_readLake 51 = .ok (.ireturn, 1) := by decide +kernel
theorem dX1_readTree_0 : decode cX1_readTree 0 = .ok (.aload_n 1, 1) := by decide +kernel
theorem dX1_readTree_1 : decode cX1_readTree 1 = .ok (.getfield 98, 3) := by decide +kernel
theorem dX1_readTree_4 : decode cX1_readTree 4 = .ok (.bipush 6, 2) := by decide +kernel
theorem dX1_readTree_6 : decode cX1_readTree 6 = .ok (.if_icmp .lt 9, 3) := by decide +kernel
theorem dX1_readTree_9 : decode cX1_readTree 9 = .ok (.aload_n 0, 1) := by decide +kernel
theorem dX1_readTree_10 : decode cX1_readTree 10 = .ok (.iconst 3, 1) := by decide +kernel
theorem dX1_readTree_11 : decode cX1_readTree 11 = .ok (.invokevirtual 68, 3) := by decide +kernel
theorem dX1_readTree_14 : decode cX1_readTree 14 = .ok (.ireturn, 1) := by decide +kernel
theorem dX1_readTree_15 : decode cX1_readTree 15 = .ok (.aload_n 0, 1) := by decide +kernel
theorem dX1_readTree_16 : decode cX1_readTree 16 = .ok (.invokevirtual 42, 3) := by decide +kernel
theorem dX1_readTree_19 : decode cX1_readTree 19 = .ok (.aload_n 0, 1) := by decide +kernel
theorem dX1_readTree_20 : decode cX1_readTree 20 = .ok (.invokevirtual 101, 3) := by decide +kernel
theorem dX1_readTree_23 : decode cX1_readTree 23 = .ok (.istore_n 2, 1) := by decide +kernel
theorem dX1_readTree_24 : decode cX1_readTree 24 = .ok (.iload_n 2, 1) := by decide +kernel
theorem dX1_readTree_25 : decode cX1_readTree 25 = .ok (.ldc 104, 2) := by decide +kernel
theorem dX1_readTree_27 : decode cX1_readTree 27 = .ok (.if_icmp .ne 9, 3) := by decide +kernel
theorem dX1_readTree_30 : decode cX1_readTree 30 = .ok (.aload_n 0, 1) := by decide +kernel
theorem dX1_readTree_31 : decode cX1_readTree 31 = .ok (.iconst 1, 1) := by decide +kernel
theorem dX1_readTree_32 : decode cX1_readTree 32 = .ok (.invokevirtual 68, 3) := by decide +kernel
theorem dX1_readTree_35 : decode cX1_readTree 35 = .ok (.ireturn, 1) := by decide +kernel
theorem dX1_readTree_36 : decode cX1_readTree 36 = .ok (.aload_n 0, 1) := by decide +kernel
theorem dX1_readTree_37 : decode cX1_readTree 37 = .ok (.invokevirtual 42, 3) := by decide +kernel
theorem dX1_readTree_40 : decode cX1_readTree 40 = .ok (.aload_n 0, 1) := by decide +kernel
theorem dX1_readTree_41 : decode cX1_readTree 41 = .ok (.iconst 0, 1) := by decide +kernel
theorem dX1_readTree_42 : decode cX1_readTree 42 = .ok (.bipush 19, 2) := by decide +kernel
theorem dX1_readTree_44 : decode cX1_readTree 44 = .ok (.invokevirtual 77, 3) := by decide +kernel
theorem dX1_readTree_47 : decode cX1_readTree 47 = .ok (.ifCond .ne 5, 3) := by decide +kernel
theorem dX1_readTree_50 : decode cX1_readTree 50 = .ok (.iconst 0, 1) := by decide +kernel
theorem dX1_readTree_51 : decode cX1_readTree 51 = .ok (.ireturn, 1) := by decide +kernel
theorem dX1_readTree_52 : decode cX1_readTree 52 = .ok (.aload_n 1, 1) := by decide +kernel
theorem dX1_readTree_53 : decode cX1_readTree 53 = .ok (.aload_n 0, 1) := by decide +kernel
theorem dX1_readTree_54 : decode cX1_readTree 54 = .ok (.getfield 28, 3) := by decide +kernel
theorem dX1_readTree_57 : decode cX1_readTree 57 = .ok (.invokevirtual 105, 3) := by decide +kernel
theorem dX1_readTree_60 : decode cX1_readTree 60 = .ok (.ldc 104, 2) := by decide +kernel
theorem dX1_readTree_62 : decode cX1_readTree 62 = .ok (.if_icmp .eq 9, 3) := by decide +kernel
theorem dX1_readTree_65 : decode cX1_readTree 65 = .ok (.aload_n 0, 1) := by decide +kernel
theorem dX1_readTree_66 : decode cX1_readTree 66 = .ok (.iconst 2, 1) := by decide +kernel
theorem dX1_readTree_67 : decode cX1_readTree 67 = .ok (.invokevirtual 68, 3) := by decide +kernel
theorem dX1_readTree_70 : decode cX1_readTree 70 = .ok (.ireturn, 1) := by decide +kernel
theorem dX1_readTree_71 : decode cX1_readTree 71 = .ok (.aload_n 0, 1) := by decide +kernel
theorem dX1_readTree_72 : decode cX1_readTree 72 = .ok (.invokevirtual 84, 3) := by decide +kernel
theorem dX1_readTree_75 : decode cX1_readTree 75 = .ok (.istore_n 3, 1) := by decide +kernel
theorem dX1_readTree_76 : decode cX1_readTree 76 = .ok (.aload_n 0, 1) := by decide +kernel
theorem dX1_readTree_77 : decode cX1_readTree 77 = .ok (.iconst 1, 1) := by decide +kernel
theorem dX1_readTree_78 : decode cX1_readTree 78 = .ok (.bipush 99, 2) := by decide +kernel
theorem dX1_readTree_80 : decode cX1_readTree 80 = .ok (.invokevirtual 77, 3) := by decide +kernel
theorem dX1_readTree_83 : decode cX1_readTree 83 = .ok (.ifCond .ne 5, 3) := by decide +kernel
theorem dX1_readTree_86 : decode cX1_readTree 86 = .ok (.iconst 0, 1) := by decide +kernel
theorem dX1_readTree_87 : decode cX1_readTree 87 = .ok (.ireturn, 1) := by decide +kernel
theorem dX1_readTree_88 : decode cX1_readTree 88 = .ok (.aload_n 0, 1) := by decide +kernel
theorem dX1_readTree_89 : decode cX1_readTree 89 = .ok (.invokevirtual 84, 3) := by decide +kernel
theorem dX1_readTree_92 : decode cX1_readTree 92 = .ok (.istore 4, 2) := by decide +kernel
theorem dX1_readTree_94 : decode cX1_readTree 94 = .ok (.aload_n 0, 1) := by decide +kernel
theorem dX1_readTree_95 : decode cX1_readTree 95 = .ok (.iconst 0, 1) := by decide +kernel
theorem dX1_readTree_96 : decode cX1_readTree 96 = .ok (.bipush 9, 2) := by decide +kernel
theorem dX1_readTree_98 : decode cX1_readTree 98 = .ok (.invokevirtual 77, 3) := by decide +kernel
theorem dX1_readTree_101 : decode cX1_readTree 101 = .ok (.ifCond .ne 5, 3) := by decide +kernel
theorem dX1_readTree_104 : decode cX1_readTree 104 = .ok (.iconst 0, 1) := by decide +kernel
theorem dX1_readTree_105 : decode cX1_readTree 105 = .ok (.ireturn, 1) := by decide +kernel
theorem dX1_readTree_106 : decode cX1_readTree 106 = .ok (.aload_n 1, 1) := by decide +kernel
theorem dX1_readTree_107 : decode cX1_readTree 107 = .ok (.iload_n 2, 1) := by decide +kernel
theorem dX1_readTree_108 : decode cX1_readTree 108 = .ok (.iload_n 3, 1) := by decide +kernel
theorem dX1_readTree_109 : decode cX1_readTree 109 = .ok (.iload 4, 2) := by decide +kernel
theorem dX1_readTree_111 : decode cX1_readTree 111 = .ok (.aload_n 0, 1) := by decide +kernel
theorem dX1_readTree_112 : decode cX1_readTree 112 = .ok (.invokevirtual 84, 3) := by decide +kernel
theorem dX1_readTree_115 : decode cX1_readTree 115 = .ok (.invokevirtual 109, 3) := by decide +kernel
theorem dX1_readTree_118 : decode cX1_readTree 118 = .ok (.aload_n 0, 1) := by decide +kernel
theorem dX1_readTree_119 : decode cX1_readTree 119 = .ok (.invokevirtual 88, 3) := by decide +kernel
theorem dX1_readTree_122 : decode cX1_readTree 122 = .ok (.ireturn, 1) := by decide +kernel
theorem dX1_readThing_0 : decode cX1_readThing 0 = .ok (.aload_n 1, 1) := by decide +kernel
theorem dX1_readThing_1 : decode cX1_readThing 1 = .ok (.getfield 113, 3) := by decide +kernel
theorem dX1_readThing_4 : decode cX1_readThing 4 = .ok (.bipush 6, 2) := by decide +kernel
theorem dX1_readThing_6 : decode cX1_readThing 6 = .ok (.if_icmp .lt 9, 3) := by decide +kernel
theorem dX1_readThing_9 : decode cX1_readThing 9 = .ok (.aload_n 0, 1) := by decide +kernel
theorem dX1_readThing_10 : decode cX1_readThing 10 = .ok (.iconst 3, 1) := by decide +kernel
theorem dX1_readThing_11 : decode cX1_readThing 11 = .ok (.invokevirtual 68, 3) := by decide +kernel
theorem dX1_readThing_14 : decode cX1_readThing 14 = .ok (.ireturn, 1) := by decide +kernel
theorem dX1_readThing_15 : decode cX1_readThing 15 = .ok (.aload_n 0, 1) := by decide +kernel
theorem dX1_readThing_16 : decode cX1_readThing 16 = .ok (.invokevirtual 42, 3) := by decide +kernel
theorem dX1_readThing_19 : decode cX1_readThing 19 = .ok (.aload_n 0, 1) := by decide +kernel
theorem dX1_readThing_20 : decode cX1_readThing 20 = .ok (.iconst 0, 1) := by decide +kernel
theorem dX1_readThing_21 : decode cX1_readThing 21 = .ok (.bipush 19, 2) := by decide +kernel
theorem dX1_readThing_23 : decode cX1_readThing 23 = .ok (.invokevirtual 77, 3) := by decide +kernel
theorem dX1_readThing_26 : decode cX1_readThing 26 = .ok (.ifCond .ne 5, 3) := by decide +kernel
theorem dX1_readThing_29 : decode cX1_readThing 29 = .ok (.iconst 0, 1) := by decide +kernel
theorem dX1_readThing_30 : decode cX1_readThing 30 = .ok (.ireturn, 1) := by decide +kernel
theorem dX1_readThing_31 : decode cX1_readThing 31 = .ok (.aload_n 0, 1) := by decide +kernel
theorem dX1_readThing_32 : decode cX1_readThing 32 = .ok (.invokevirtual 84, 3) := by decide +kernel
theorem dX1_readThing_35 : decode cX1_readThing 35 = .ok (.istore_n 2, 1) := by decide +kernel
theorem dX1_readThing_36 : decode cX1_readThing 36 = .ok (.aload_n 0, 1) := by decide +kernel
theorem dX1_readThing_37 : decode cX1_readThing 37 = .ok (.iconst 1, 1) := by decide +kernel
theorem dX1_readThing_38 : decode cX1_readThing 38 = .ok (.bipush 99, 2) := by decide +kernel
theorem dX1_readThing_40 : decode cX1_readThing 40 = .ok (.invokevirtual 77, 3) := by decide +kernel
theorem dX1_readThing_43 : decode cX1_readThing 43 = .ok (.ifCond .ne 5, 3) := by decide +kernel
theorem dX1_readThing_46 : decode cX1_readThing 46 = .ok (.iconst 0, 1) := by decide +kernel
theorem dX1_readThing_47 : decode cX1_readThing 47 = .ok (.ireturn, 1) := by decide +kernel
theorem dX1_readThing_48 : decode cX1_readThing 48 = .ok (.aload_n 0, 1) := by decide +kernel
theorem dX1_readThing_49 : decode cX1_readThing 49 = .ok (.invokevirtual 84, 3) := by decide +kernel
theorem dX1_readThing_52 : decode cX1_readThing 52 = .ok (.istore_n 3, 1) := by decide +kernel
theorem dX1_readThing_53 : decode cX1_readThing 53 = .ok (.aload_n 0, 1) := by decide +kernel
theorem dX1_readThing_54 : decode cX1_readThing 54 = .ok (.ldc 116, 2) := by decide +kernel
theorem dX1_readThing_56 : decode cX1_readThing 56 = .ok (.invokevirtual 51, 3) := by decide +kernel
theorem dX1_readThing_59 : decode cX1_readThing 59 = .ok (.istore 4, 2) := by decide +kernel
theorem dX1_readThing_61 : decode cX1_readThing 61 = .ok (.iload 4, 2) := by decide +kernel
theorem dX1_readThing_63 : decode cX1_readThing 63 = .ok (.ifCond .ne 18, 3) := by decide +kernel
theorem dX1_readThing_66 : decode cX1_readThing 66 = .ok (.aload_n 0, 1) := by decide +kernel
theorem dX1_readThing_67 : decode cX1_readThing 67 = .ok (.ldc 118, 2) := by decide +kernel
theorem dX1_readThing_69 : decode cX1_readThing 69 = .ok (.invokevirtual 51, 3) := by decide +kernel
theorem dX1_readThing_72 : decode cX1_readThing 72 = .ok (.ifCond .ne 9, 3) := by decide +kernel
theorem dX1_readThing_75 : decode cX1_readThing 75 = .ok (.aload_n 0, 1) := by decide +kernel
theorem dX1_readThing_76 : decode cX1_readThing 76 = .ok (.iconst 1, 1) := by decide +kernel
theorem dX1_readThing_77 : decode cX1_readThing 77 = .ok (.invokevirtual 68, 3) := by decide +kernel
theorem dX1_readThing_80 : decode cX1_readThing 80 = .ok (.ireturn, 1) := by decide +kernel
theorem dX1_readThing_81 : decode cX1_readThing 81 = .ok (.aload_n 0, 1) := by decide +kernel
theorem dX1_readThing_82 : decode cX1_readThing 82 = .ok (.invokevirtual 42, 3) := by decide +kernel
theorem dX1_readThing_85 : decode cX1_readThing 85 = .ok (.aload_n 1, 1) := by decide +kernel
theorem dX1_readThing_86 : decode cX1_readThing 86 = .ok (.iload_n 2, 1) := by decide +kernel
theorem dX1_readThing_87 : decode cX1_readThing 87 = .ok (.iload_n 3, 1) := by decide +kernel
theorem dX1_readThing_88 : decode cX1_readThing 88 = .ok (.iload 4, 2) := by decide +kernel
theorem dX1_readThing_90 : decode cX1_readThing 90 = .ok (.invokevirtual 120, 3) := by decide +kernel
theorem dX1_readThing_93 : decode cX1_readThing 93 = .ok (.aload_n 0, 1) := by decide +kernel
theorem dX1_readThing_94 : decode cX1_readThing 94 = .ok (.invokevirtual 88, 3) := by decide +kernel
theorem dX1_readThing_97 : decode cX1_readThing 97 = .ok (.ireturn, 1) := by decide +kernel
theorem dX1_sortTold_0 : decode cX1_sortTold 0 = .ok (.aload_n 0, 1) := by decide +kernel
theorem dX1_sortTold_1 : decode cX1_sortTold 1 = .ok (.ldc 124, 2) := by decide +kernel
theorem dX1_sortTold_3 : decode cX1_sortTold 3 = .ok (.invokevirtual 51, 3) := by decide +kernel
theorem dX1_sortTold_6 : decode cX1_sortTold 6 = .ok (.ifCond .eq 5, 3) := by decide +kernel
theorem dX1_sortTold_9 : decode cX1_sortTold 9 = .ok (.iconst 1, 1) := by decide +kernel
theorem dX1_sortTold_10 : decode cX1_sortTold 10 = .ok (.ireturn, 1) := by decide +kernel
theorem dX1_sortTold_11 : decode cX1_sortTold 11 = .ok (.aload_n 0, 1) := by decide +kernel
theorem dX1_sortTold_12 : decode cX1_sortTold 12 = .ok (.ldc 126, 2) := by decide +kernel
theorem dX1_sortTold_14 : decode cX1_sortTold 14 = .ok (.invokevirtual 51, 3) := by decide +kernel
theorem dX1_sortTold_17 : decode cX1_sortTold 17 = .ok (.ifCond .eq 5, 3) := by decide +kernel
theorem dX1_sortTold_20 : decode cX1_sortTold 20 = .ok (.iconst 3, 1) := by decide +kernel
theorem dX1_sortTold_21 : decode cX1_sortTold 21 = .ok (.ireturn, 1) := by decide +kernel
theorem dX1_sortTold_22 : decode cX1_sortTold 22 = .ok (.aload_n 0, 1) := by decide +kernel
theorem dX1_sortTold_23 : decode cX1_sortTold 23 = .ok (.ldc 128, 2) := by decide +kernel
theorem dX1_sortTold_25 : decode cX1_sortTold 25 = .ok (.invokevirtual 51, 3) := by decide +kernel
theorem dX1_sortTold_28 : decode cX1_sortTold 28 = .ok (.ifCond .eq 5, 3) := by decide +kernel
theorem dX1_sortTold_31 : decode cX1_sortTold 31 = .ok (.iconst 2, 1) := by decide +kernel
theorem dX1_sortTold_32 : decode cX1_sortTold 32 = .ok (.ireturn, 1) := by decide +kernel
theorem dX1_sortTold_33 : decode cX1_sortTold 33 = .ok (.aload_n 0, 1) := by decide +kernel
theorem dX1_sortTold_34 : decode cX1_sortTold 34 = .ok (.ldc 130, 2) := by decide +kernel
theorem dX1_sortTold_36 : decode cX1_sortTold 36 = .ok (.invokevirtual 51, 3) := by decide +kernel
theorem dX1_sortTold_39 : decode cX1_sortTold 39 = .ok (.ifCond .eq 5, 3) := by decide +kernel
theorem dX1_sortTold_42 : decode cX1_sortTold 42 = .ok (.iconst 4, 1) := by decide +kernel
theorem dX1_sortTold_43 : decode cX1_sortTold 43 = .ok (.ireturn, 1) := by decide +kernel
theorem dX1_sortTold_44 : decode cX1_sortTold 44 = .ok (.aload_n 0, 1) := by decide +kernel
theorem dX1_sortTold_45 : decode cX1_sortTold 45 = .ok (.ldc 132, 2) := by decide +kernel
theorem dX1_sortTold_47 : decode cX1_sortTold 47 = .ok (.invokevirtual 51, 3) := by decide +kernel
theorem dX1_sortTold_50 : decode cX1_sortTold 50 = .ok (.ifCond .eq 7, 3) := by decide +kernel
theorem dX1_sortTold_53 : decode cX1_sortTold 53 = .ok (.iconst 5, 1) := by decide +kernel
theorem dX1_sortTold_54 : decode cX1_sortTold 54 = .ok (.goto 5, 3) := by decide +kernel
theorem dX1_sortTold_57 : decode cX1_sortTold 57 = .ok (.ldc 104, 2) := by decide +kernel
theorem dX1_sortTold_59 : decode cX1_sortTold 59 = .ok (.ireturn, 1) := by decide +kernel
theorem dX1_refuse_0 : decode cX1_refuse 0 = .ok (.aload_n 0, 1) := by decide +kernel
theorem dX1_refuse_1 : decode cX1_refuse 1 = .ok (.iload_n 1, 1) := by decide +kernel
theorem dX1_refuse_2 : decode cX1_refuse 2 = .ok (.putfield 31, 3) := by decide +kernel
theorem dX1_refuse_5 : decode cX1_refuse 5 = .ok (.aload_n 0, 1) := by decide +kernel
theorem dX1_refuse_6 : decode cX1_refuse 6 = .ok (.aload_n 0, 1) := by decide +kernel
theorem dX1_refuse_7 : decode cX1_refuse 7 = .ok (.getfield 19, 3) := by decide +kernel
theorem dX1_refuse_10 : decode cX1_refuse 10 = .ok (.putfield 34, 3) := by decide +kernel
theorem dX1_refuse_13 : decode cX1_refuse 13 = .ok (.iconst 0, 1) := by decide +kernel
theorem dX1_refuse_14 : decode cX1_refuse 14 = .ok (.ireturn, 1) := by decide +kernel
theorem dX1_isNumber_0 : decode cX1_isNumber 0 = .ok (.aload_n 0, 1) := by decide +kernel
theorem dX1_isNumber_1 : decode cX1_isNumber 1 = .ok (.getfield 25, 3) := by decide +kernel
theorem dX1_isNumber_4 : decode cX1_isNumber 4 = .ok (.iconst 2, 1) := by decide +kernel
theorem dX1_isNumber_5 : decode cX1_isNumber 5 = .ok (.if_icmp .eq 9, 3) := by decide +kernel
theorem dX1_isNumber_8 : decode cX1_isNumber 8 = .ok (.aload_n 0, 1) := by decide +kernel
theorem dX1_isNumber_9 : decode cX1_isNumber 9 = .ok (.iconst 1, 1) := by decide +kernel
theorem dX1_isNumber_10 : decode cX1_isNumber 10 = .ok (.invokevirtual 68, 3) := by decide +kernel
theorem dX1_isNumber_13 : decode cX1_isNumber 13 = .ok (.ireturn, 1) := by decide +kernel
theorem dX1_isNumber_14 : decode cX1_isNumber 14 = .ok (.aload_n 0, 1) := by decide +kernel
theorem dX1_isNumber_15 : decode cX1_isNumber 15 = .ok (.getfield 28, 3) := by decide +kernel
theorem dX1_isNumber_18 : decode cX1_isNumber 18 = .ok (.iload_n 1, 1) := by decide +kernel
theorem dX1_isNumber_19 : decode cX1_isNumber 19 = .ok (.if_icmp .lt 11, 3) := by decide +kernel
theorem dX1_isNumber_22 : decode cX1_isNumber 22 = .ok (.aload_n 0, 1) := by decide +kernel
theorem dX1_isNumber_23 : decode cX1_isNumber 23 = .ok (.getfield 28, 3) := by decide +kernel
theorem dX1_isNumber_26 : decode cX1_isNumber 26 = .ok (.iload_n 2, 1) := by decide +kernel
theorem dX1_isNumber_27 : decode cX1_isNumber 27 = .ok (.if_icmp .le 11, 3) := by decide +kernel
theorem dX1_isNumber_30 : decode cX1_isNumber 30 = .ok (.aload_n 0, 1) := by decide +kernel
theorem dX1_isNumber_31 : decode cX1_isNumber 31 = .ok (.iconst 2, 1) := by decide +kernel
theorem dX1_isNumber_32 : decode cX1_isNumber 32 = .ok (.invokevirtual 68, 3) := by decide +kernel
theorem dX1_isNumber_35 : decode cX1_isNumber 35 = .ok (.ifCond .eq 7, 3) := by decide +kernel
theorem dX1_isNumber_38 : decode cX1_isNumber 38 = .ok (.iconst 1, 1) := by decide +kernel
theorem dX1_isNumber_39 : decode cX1_isNumber 39 = .ok (.goto 4, 3) := by decide +kernel
theorem dX1_isNumber_42 : decode cX1_isNumber 42 = .ok (.iconst 0, 1) := by decide +kernel
theorem dX1_isNumber_43 : decode cX1_isNumber 43 = .ok (.ireturn, 1) := by decide +kernel
theorem dX1_passSign_0 : decode cX1_passSign 0 = .ok (.aload_n 0, 1) := by decide +kernel
theorem dX1_passSign_1 : decode cX1_passSign 1 = .ok (.getfield 25, 3) := by decide +kernel
theorem dX1_passSign_4 : decode cX1_passSign 4 = .ok (.iconst 3, 1) := by decide +kernel
theorem dX1_passSign_5 : decode cX1_passSign 5 = .ok (.if_icmp .eq 9, 3) := by decide +kernel
theorem dX1_passSign_8 : decode cX1_passSign 8 = .ok (.aload_n 0, 1) := by decide +kernel
theorem dX1_passSign_9 : decode cX1_passSign 9 = .ok (.iconst 1, 1) := by decide +kernel
theorem dX1_passSign_10 : decode cX1_passSign 10 = .ok (.invokevirtual 68, 3) := by decide +kernel
theorem dX1_passSign_13 : decode cX1_passSign 13 = .ok (.ireturn, 1) := by decide +kernel
theorem dX1_passSign_14 : decode cX1_passSign 14 = .ok (.aload_n 0, 1) := by decide +kernel
theorem dX1_passSign_15 : decode cX1_passSign 15 = .ok (.invokevirtual 42, 3) := by decide +kernel
theorem dX1_passSign_18 : decode cX1_passSign 18 = .ok (.iconst 1, 1) := by decide +kernel
theorem dX1_passSign_19 : decode cX1_passSign 19 = .ok (.ireturn, 1) := by decide +kernel
theorem dX1_passWord_0 : decode cX1_passWord 0 = .ok (.aload_n 0, 1) := by decide +kernel
theorem dX1_passWord_1 : decode cX1_passWord 1 = .ok (.aload_n 1, 1) := by decide +kernel
theorem dX1_passWord_2 : decode cX1_passWord 2 = .ok (.invokevirtual 51, 3) := by decide +kernel
theorem dX1_passWord_5 : decode cX1_passWord 5 = .ok (.ifCond .ne 9, 3) := by decide +kernel
theorem dX1_passWord_8 : decode cX1_passWord 8 = .ok (.aload_n 0, 1) := by decide +kernel
theorem dX1_passWord_9 : decode cX1_passWord 9 = .ok (.iconst 1, 1) := by decide +kernel
theorem dX1_passWord_10 : decode cX1_passWord 10 = .ok (.invokevirtual 68, 3) := by decide +kernel
theorem dX1_passWord_13 : decode cX1_passWord 13 = .ok (.ireturn, 1) := by decide +kernel
theorem dX1_passWord_14 : decode cX1_passWord 14 = .ok (.aload_n 0, 1) := by decide +kernel
theorem dX1_passWord_15 : decode cX1_passWord 15 = .ok (.invokevirtual 42, 3) := by decide +kernel
theorem dX1_passWord_18 : decode cX1_passWord 18 = .ok (.iconst 1, 1) := by decide +kernel
theorem dX1_passWord_19 : decode cX1_passWord 19 = .ok (.ireturn, 1) := by decide +kernel
theorem dX1_pass_0 : decode cX1_pass 0 = .ok (.aload_n 0, 1) := by decide +kernel
theorem dX1_pass_1 : decode cX1_pass 1 = .ok (.getfield 28, 3) := by decide +kernel
theorem dX1_pass_4 : decode cX1_pass 4 = .ok (.istore_n 1, 1) := by decide +kernel
theorem dX1_pass_5 : decode cX1_pass 5 = .ok (.aload_n 0, 1) := by decide +kernel
theorem dX1_pass_6 : decode cX1_pass 6 = .ok (.invokevirtual 42, 3) := by decide +kernel
theorem dX1_pass_9 : decode cX1_pass 9 = .ok (.iload_n 1, 1) := by decide +kernel
theorem dX1_pass_10 : decode cX1_pass 10 = .ok (.ireturn, 1) := by decide +kernel
theorem dX1_isWord_0 : decode cX1_isWord 0 = .ok (.aload_n 0, 1) := by decide +kernel
theorem dX1_isWord_1 : decode cX1_isWord 1 = .ok (.getfield 25, 3) := by decide +kernel
theorem dX1_isWord_4 : decode cX1_isWord 4 = .ok (.iconst 1, 1) := by decide +kernel
theorem dX1_isWord_5 : decode cX1_isWord 5 = .ok (.if_icmp .ne 19, 3) := by decide +kernel
theorem dX1_isWord_8 : decode cX1_isWord 8 = .ok (.aload_n 0, 1) := by decide +kernel
theorem dX1_isWord_9 : decode cX1_isWord 9 = .ok (.getfield 22, 3) := by decide +kernel
theorem dX1_isWord_12 : decode cX1_isWord 12 = .ok (.aload_n 0, 1) := by decide +kernel
theorem dX1_isWord_13 : decode cX1_isWord 13 = .ok (.getfield 19, 3) := by decide +kernel
theorem dX1_isWord_16 : decode cX1_isWord 16 = .ok (.isub, 1) := by decide +kernel
theorem dX1_isWord_17 : decode cX1_isWord 17 = .ok (.aload_n 1, 1) := by decide +kernel
theorem dX1_isWord_18 : decode cX1_isWord 18 = .ok (.invokevirtual 134, 3) := by decide +kernel
theorem dX1_isWord_21 : decode cX1_isWord 21 = .ok (.if_icmp .eq 5, 3) := by decide +kernel
theorem dX1_isWord_24 : decode cX1_isWord 24 = .ok (.iconst 0, 1) := by decide +kernel
theorem dX1_isWord_25 : decode cX1_isWord 25 = .ok (.ireturn, 1) := by decide +kernel
theorem dX1_isWord_26 : decode cX1_isWord 26 = .ok (.iconst 0, 1) := by decide +kernel
theorem dX1_isWord_27 : decode cX1_isWord 27 = .ok (.istore_n 2, 1) := by decide +kernel
theorem dX1_isWord_28 : decode cX1_isWord 28 = .ok (.iload_n 2, 1) := by decide +kernel
theorem dX1_isWord_29 : decode cX1_isWord 29 = .ok (.aload_n 1, 1) := by decide +kernel
theorem dX1_isWord_30 : decode cX1_isWord 30 = .ok (.invokevirtual 134, 3) := by decide +kernel
theorem dX1_isWord_33 : decode cX1_isWord 33 = .ok (.if_icmp .ge 30, 3) := by decide +kernel
theorem dX1_isWord_36 : decode cX1_isWord 36 = .ok (.aload_n 0, 1) := by decide +kernel
theorem dX1_isWord_37 : decode cX1_isWord 37 = .ok (.getfield 9, 3) := by decide +kernel
theorem dX1_isWord_40 : decode cX1_isWord 40 = .ok (.aload_n 0, 1) := by decide +kernel
theorem dX1_isWord_41 : decode cX1_isWord 41 = .ok (.getfield 19, 3) := by decide +kernel
theorem dX1_isWord_44 : decode cX1_isWord 44 = .ok (.iload_n 2, 1) := by decide +kernel
theorem dX1_isWord_45 : decode cX1_isWord 45 = .ok (.iadd, 1) := by decide +kernel
theorem dX1_isWord_46 : decode cX1_isWord 46 = .ok (.baload, 1) := by decide +kernel
theorem dX1_isWord_47 : decode cX1_isWord 47 = .ok (.aload_n 1, 1) := by decide +kernel
theorem dX1_isWord_48 : decode cX1_isWord 48 = .ok (.iload_n 2, 1) := by decide +kernel
theorem dX1_isWord_49 : decode cX1_isWord 49 = .ok (.invokevirtual 139, 3) := by decide +kernel
theorem dX1_isWord_52 : decode cX1_isWord 52 = .ok (.if_icmp .eq 5, 3) := by decide +kernel
theorem dX1_isWord_55 : decode cX1_isWord 55 = .ok (.iconst 0, 1) := by decide +kernel
theorem dX1_isWord_56 : decode cX1_isWord 56 = .ok (.ireturn, 1) := by decide +kernel
theorem dX1_isWord_57 : decode cX1_isWord 57 = .ok (.iinc 2 1, 3) := by decide +kernel
theorem dX1_isWord_60 : decode cX1_isWord 60 = .ok (.goto (-32), 3) := by decide +kernel
theorem dX1_isWord_63 : decode cX1_isWord 63 = .ok (.iconst 1, 1) := by decide +kernel
theorem dX1_isWord_64 : decode cX1_isWord 64 = .ok (.ireturn, 1) := by decide +kernel
theorem dX1_advance_0 : decode cX1_advance 0 = .ok (.aload_n 0, 1) := by decide +kernel
theorem dX1_advance_1 : decode cX1_advance 1 = .ok (.getfield 22, 3) := by decide +kernel
theorem dX1_advance_4 : decode cX1_advance 4 = .ok (.aload_n 0, 1) := by decide +kernel
theorem dX1_advance_5 : decode cX1_advance 5 = .ok (.getfield 15, 3) := by decide +kernel
theorem dX1_advance_8 : decode cX1_advance 8 = .ok (.if_icmp .ge 31, 3) := by decide +kernel
theorem dX1_advance_11 : decode cX1_advance 11 = .ok (.aload_n 0, 1) := by decide +kernel
theorem dX1_advance_12 : decode cX1_advance 12 = .ok (.getfield 9, 3) := by decide +kernel
theorem dX1_advance_15 : decode cX1_advance 15 = .ok (.aload_n 0, 1) := by decide +kernel
theorem dX1_advance_16 : decode cX1_advance 16 = .ok (.getfield 22, 3) := by decide +kernel
theorem dX1_advance_19 : decode cX1_advance 19 = .ok (.baload, 1) := by decide +kernel
theorem dX1_advance_20 : decode cX1_advance 20 = .ok (.invokestatic 143, 3) := by decide +kernel
theorem dX1_advance_23 : decode cX1_advance 23 = .ok (.ifCond .eq 16, 3) := by decide +kernel
theorem dX1_advance_26 : decode cX1_advance 26 = .ok (.aload_n 0, 1) := by decide +kernel
theorem dX1_advance_27 : decode cX1_advance 27 = .ok (.dup, 1) := by decide +kernel
theorem dX1_advance_28 : decode cX1_advance 28 = .ok (.getfield 22, 3) := by decide +kernel
theorem dX1_advance_31 : decode cX1_advance 31 = .ok (.iconst 1, 1) := by decide +kernel
theorem dX1_advance_32 : decode cX1_advance 32 = .ok (.iadd, 1) := by decide +kernel
theorem dX1_advance_33 : decode cX1_advance 33 = .ok (.putfield 22, 3) := by decide +kernel
theorem dX1_advance_36 : decode cX1_advance 36 = .ok (.goto (-36), 3) := by decide +kernel
theorem dX1_advance_39 : decode cX1_advance 39 = .ok (.aload_n 0, 1) := by decide +kernel
theorem dX1_advance_40 : decode cX1_advance 40 = .ok (.aload_n 0, 1) := by decide +kernel
theorem dX1_advance_41 : decode cX1_advance 41 = .ok (.getfield 22, 3) := by decide +kernel
theorem dX1_advance_44 : decode cX1_advance 44 = .ok (.putfield 19, 3) := by decide +kernel
theorem dX1_advance_47 : decode cX1_advance 47 = .ok (.aload_n 0, 1) := by decide +kernel
theorem dX1_advance_48 : decode cX1_advance 48 = .ok (.iconst 0, 1) := by decide +kernel
theorem dX1_advance_49 : decode cX1_advance 49 = .ok (.putfield 28, 3) := by decide +kernel
theorem dX1_advance_52 : decode cX1_advance 52 = .ok (.aload_n 0, 1) := by decide +kernel
theorem dX1_advance_53 : decode cX1_advance 53 = .ok (.getfield 22, 3) := by decide +kernel
theorem dX1_advance_56 : decode cX1_advance 56 = .ok (.aload_n 0, 1) := by decide +kernel
theorem dX1_advance_57 : decode cX1_advance 57 = .ok (.getfield 15, 3) := by decide +kernel
theorem dX1_advance_60 : decode cX1_advance 60 = .ok (.if_icmp .lt 11, 3) := by decide +kernel
theorem dX1_advance_63 : decode cX1_advance 63 = .ok (.aload_n 0, 1) := by decide +kernel
theorem dX1_advance_64 : decode cX1_advance 64 = .ok (.iconst 0, 1) := by decide +kernel
theorem dX1_advance_65 : decode cX1_advance 65 = .ok (.putfield 25, 3) := by decide +kernel
theorem dX1_advance_68 : decode cX1_advance 68 = .ok (.goto 80, 3) := by decide +kernel
theorem dX1_advance_71 : decode cX1_advance 71 = .ok (.aload_n 0, 1) := by decide +kernel
theorem dX1_advance_72 : decode cX1_advance 72 = .ok (.getfield 9, 3) := by decide +kernel
theorem dX1_advance_75 : decode cX1_advance 75 = .ok (.aload_n 0, 1) := by decide +kernel
theorem dX1_advance_76 : decode cX1_advance 76 = .ok (.getfield 22, 3) := by decide +kernel
theorem dX1_advance_79 : decode cX1_advance 79 = .ok (.baload, 1) := by decide +kernel
theorem dX1_advance_80 : decode cX1_advance 80 = .ok (.invokestatic 147, 3) := by decide +kernel
theorem dX1_advance_83 : decode cX1_advance 83 = .ok (.ifCond .eq 10, 3) := by decide +kernel
theorem dX1_advance_86 : decode cX1_advance 86 = .ok (.aload_n 0, 1) := by decide +kernel
theorem dX1_advance_87 : decode cX1_advance 87 = .ok (.invokevirtual 150, 3) := by decide +kernel
theorem dX1_advance_90 : decode cX1_advance 90 = .ok (.goto 58, 3) := by decide +kernel
theorem dX1_advance_93 : decode cX1_advance 93 = .ok (.aload_n 0, 1) := by decide +kernel
theorem dX1_advance_94 : decode cX1_advance 94 = .ok (.getfield 9, 3) := by decide +kernel
theorem dX1_advance_97 : decode cX1_advance 97 = .ok (.aload_n 0, 1) := by decide +kernel
theorem dX1_advance_98 : decode cX1_advance 98 = .ok (.getfield 22, 3) := by decide +kernel
theorem dX1_advance_101 : decode cX1_advance 101 = .ok (.baload, 1) := by decide +kernel
theorem dX1_advance_102 : decode cX1_advance 102 = .ok (.invokestatic 153, 3) := by decide +kernel
theorem dX1_advance_105 : decode cX1_advance 105 = .ok (.ifCond .eq 10, 3) := by decide +kernel
theorem dX1_advance_108 : decode cX1_advance 108 = .ok (.aload_n 0, 1) := by decide +kernel
theorem dX1_advance_109 : decode cX1_advance 109 = .ok (.invokevirtual 156, 3) := by decide +kernel
theorem dX1_advance_112 : decode cX1_advance 112 = .ok (.goto 36, 3) := by decide +kernel
theorem dX1_advance_115 : decode cX1_advance 115 = .ok (.aload_n 0, 1) := by decide +kernel
theorem dX1_advance_116 : decode cX1_advance 116 = .ok (.aload_n 0, 1) := by decide +kernel
theorem dX1_advance_117 : decode cX1_advance 117 = .ok (.getfield 9, 3) := by decide +kernel
theorem dX1_advance_120 : decode cX1_advance 120 = .ok (.aload_n 0, 1) := by decide +kernel
theorem dX1_advance_121 : decode cX1_advance 121 = .ok (.getfield 22, 3) := by decide +kernel
theorem dX1_advance_124 : decode cX1_advance 124 = .ok (.baload, 1) := by decide +kernel
theorem dX1_advance_125 : decode cX1_advance 125 = .ok (.bipush 59, 2) := by decide +kernel
theorem dX1_advance_127 : decode cX1_advance 127 = .ok (.if_icmp .ne 7, 3) := by decide +kernel
theorem dX1_advance_130 : decode cX1_advance 130 = .ok (.iconst 3, 1) := by decide +kernel
theorem dX1_advance_131 : decode cX1_advance 131 = .ok (.goto 4, 3) := by decide +kernel
theorem dX1_advance_134 : decode cX1_advance 134 = .ok (.iconst 4, 1) := by decide +kernel
theorem dX1_advance_135 : decode cX1_advance 135 = .ok (.putfield 25, 3) := by decide +kernel
theorem dX1_advance_138 : decode cX1_advance 138 = .ok (.aload_n 0, 1) := by decide +kernel
theorem dX1_advance_139 : decode cX1_advance 139 = .ok (.dup, 1) := by decide +kernel
theorem dX1_advance_140 : decode cX1_advance 140 = .ok (.getfield 22, 3) := by decide +kernel
theorem dX1_advance_143 : decode cX1_advance 143 = .ok (.iconst 1, 1) := by decide +kernel
theorem dX1_advance_144 : decode cX1_advance 144 = .ok (.iadd, 1) := by decide +kernel
theorem dX1_advance_145 : decode cX1_advance 145 = .ok (.putfield 22, 3) := by decide +kernel
theorem dX1_advance_148 : decode cX1_advance 148 = .ok (.return_, 1) := by decide +kernel
theorem dX1_passLetters_0 : decode cX1_passLetters 0 = .ok (.aload_n 0, 1) := by decide +kernel
theorem dX1_passLetters_1 : decode cX1_passLetters 1 = .ok (.iconst 1, 1) := by decide +kernel
theorem dX1_passLetters_2 : decode cX1_passLetters 2 = .ok (.putfield 25, 3) := by decide +kernel
theorem dX1_passLetters_5 : decode cX1_passLetters 5 = .ok (.aload_n 0, 1) := by decide +kernel
theorem dX1_passLetters_6 : decode cX1_passLetters 6 = .ok (.getfield 22, 3) := by decide +kernel
theorem dX1_passLetters_9 : decode cX1_passLetters 9 = .ok (.aload_n 0, 1) := by decide +kernel
theorem dX1_passLetters_10 : decode cX1_passLetters 10 = .ok (.getfield 15, 3) := by decide +kernel
theorem dX1_passLetters_13 : decode cX1_passLetters 13 = .ok (.if_icmp .ge 31, 3) := by decide +kernel
theorem dX1_passLetters_16 : decode cX1_passLetters 16 = .ok (.aload_n 0, 1) := by decide +kernel
theorem dX1_passLetters_17 : decode cX1_passLetters 17 = .ok (.getfield 9, 3) := by decide +kernel
theorem dX1_passLetters_20 : decode cX1_passLetters 20 = .ok (.aload_n 0, 1) := by decide +kernel
theorem dX1_passLetters_21 : decode cX1_passLetters 21 = .ok (.getfield 22, 3) := by decide +kernel
theorem dX1_passLetters_24 : decode cX1_passLetters 24 = .ok (.baload, 1) := by decide +kernel
theorem dX1_passLetters_25 : decode cX1_passLetters 25 = .ok (.invokestatic 147, 3) := by decide +kernel
theorem dX1_passLetters_28 : decode cX1_passLetters 28 = .ok (.ifCond .eq 16, 3) := by decide +kernel
theorem dX1_passLetters_31 : decode cX1_passLetters 31 = .ok (.aload_n 0, 1) := by decide +kernel
theorem dX1_passLetters_32 : decode cX1_passLetters 32 = .ok (.dup, 1) := by decide +kernel
theorem dX1_passLetters_33 : decode cX1_passLetters 33 = .ok (.getfield 22, 3) := by decide +kernel
theorem dX1_passLetters_36 : decode cX1_passLetters 36 = .ok (.iconst 1, 1) := by decide +kernel
theorem dX1_passLetters_37 : decode cX1_passLetters 37 = .ok (.iadd, 1) := by decide +kernel
theorem dX1_passLetters_38 : decode cX1_passLetters 38 = .ok (.putfield 22, 3) := by decide +kernel
theorem dX1_passLetters_41 : decode cX1_passLetters 41 = .ok (.goto (-36), 3) := by decide +kernel
theorem dX1_passLetters_44 : decode cX1_passLetters 44 = .ok (.return_, 1) := by decide +kernel
theorem dX1_passFigures_0 : decode cX1_passFigures 0 = .ok (.aload_n 0, 1) := by decide +kernel
theorem dX1_passFigures_1 : decode cX1_passFigures 1 = .ok (.getfield 22, 3) := by decide +kernel
theorem dX1_passFigures_4 : decode cX1_passFigures 4 = .ok (.aload_n 0, 1) := by decide +kernel
theorem dX1_passFigures_5 : decode cX1_passFigures 5 = .ok (.getfield 15, 3) := by decide +kernel
theorem dX1_passFigures_8 : decode cX1_passFigures 8 = .ok (.if_icmp .ge 68, 3) := by decide +kernel
theorem dX1_passFigures_11 : decode cX1_passFigures 11 = .ok (.aload_n 0, 1) := by decide +kernel
theorem dX1_passFigures_12 : decode cX1_passFigures 12 = .ok (.getfield 9, 3) := by decide +kernel
theorem dX1_passFigures_15 : decode cX1_passFigures 15 = .ok (.aload_n 0, 1) := by decide +kernel
theorem dX1_passFigures_16 : decode cX1_passFigures 16 = .ok (.getfield 22, 3) := by decide +kernel
theorem dX1_passFigures_19 : decode cX1_passFigures 19 = .ok (.baload, 1) := by decide +kernel
theorem dX1_passFigures_20 : decode cX1_passFigures 20 = .ok (.invokestatic 153, 3) := by decide +kernel
theorem dX1_passFigures_23 : decode cX1_passFigures 23 = .ok (.ifCond .eq 53, 3) := by decide +kernel
theorem dX1_passFigures_26 : decode cX1_passFigures 26 = .ok (.aload_n 0, 1) := by decide +kernel
theorem dX1_passFigures_27 : decode cX1_passFigures 27 = .ok (.getfield 22, 3) := by decide +kernel
theorem dX1_passFigures_30 : decode cX1_passFigures 30 = .ok (.aload_n 0, 1) := by decide +kernel
theorem dX1_passFigures_31 : decode cX1_passFigures 31 = .ok (.getfield 19, 3) := by decide +kernel
theorem dX1_passFigures_34 : decode cX1_passFigures 34 = .ok (.isub, 1) := by decide +kernel
theorem dX1_passFigures_35 : decode cX1_passFigures 35 = .ok (.iconst 3, 1) := by decide +kernel
theorem dX1_passFigures_36 : decode cX1_passFigures 36 = .ok (.if_icmp .ge 27, 3) := by decide +kernel
theorem dX1_passFigures_39 : decode cX1_passFigures 39 = .ok (.aload_n 0, 1) := by decide +kernel
theorem dX1_passFigures_40 : decode cX1_passFigures 40 = .ok (.aload_n 0, 1) := by decide +kernel
theorem dX1_passFigures_41 : decode cX1_passFigures 41 = .ok (.getfield 28, 3) := by decide +kernel
theorem dX1_passFigures_44 : decode cX1_passFigures 44 = .ok (.bipush 10, 2) := by decide +kernel
theorem dX1_passFigures_46 : decode cX1_passFigures 46 = .ok (.imul, 1) := by decide +kernel
theorem dX1_passFigures_47 : decode cX1_passFigures 47 = .ok (.aload_n 0, 1) := by decide +kernel
theorem dX1_passFigures_48 : decode cX1_passFigures 48 = .ok (.getfield 9, 3) := by decide +kernel
theorem dX1_passFigures_51 : decode cX1_passFigures 51 = .ok (.aload_n 0, 1) := by decide +kernel
theorem dX1_passFigures_52 : decode cX1_passFigures 52 = .ok (.getfield 22, 3) := by decide +kernel
theorem dX1_passFigures_55 : decode cX1_passFigures 55 = .ok (.baload, 1) := by decide +kernel
theorem dX1_passFigures_56 : decode cX1_passFigures 56 = .ok (.iadd, 1) := by decide +kernel
theorem dX1_passFigures_57 : decode cX1_passFigures 57 = .ok (.bipush 48, 2) := by decide +kernel
theorem dX1_passFigures_59 : decode cX1_passFigures 59 = .ok (.isub, 1) := by decide +kernel
theorem dX1_passFigures_60 : decode cX1_passFigures 60 = .ok (.putfield 28, 3) := by decide +kernel
theorem dX1_passFigures_63 : decode cX1_passFigures 63 = .ok (.aload_n 0, 1) := by decide +kernel
theorem dX1_passFigures_64 : decode cX1_passFigures 64 = .ok (.dup, 1) := by decide +kernel
theorem dX1_passFigures_65 : decode cX1_passFigures 65 = .ok (.getfield 22, 3) := by decide +kernel
theorem dX1_passFigures_68 : decode cX1_passFigures 68 = .ok (.iconst 1, 1) := by decide +kernel
theorem dX1_passFigures_69 : decode cX1_passFigures 69 = .ok (.iadd, 1) := by decide +kernel
theorem dX1_passFigures_70 : decode cX1_passFigures 70 = .ok (.putfield 22, 3) := by decide +kernel
theorem dX1_passFigures_73 : decode cX1_passFigures 73 = .ok (.goto (-73), 3) := by decide +kernel
theorem dX1_passFigures_76 : decode cX1_passFigures 76 = .ok (.aload_n 0, 1) := by decide +kernel
theorem dX1_passFigures_77 : decode cX1_passFigures 77 = .ok (.aload_n 0, 1) := by decide +kernel
theorem dX1_passFigures_78 : decode cX1_passFigures 78 = .ok (.getfield 22, 3) := by decide +kernel
theorem dX1_passFigures_81 : decode cX1_passFigures 81 = .ok (.aload_n 0, 1) := by decide +kernel
theorem dX1_passFigures_82 : decode cX1_passFigures 82 = .ok (.getfield 19, 3) := by decide +kernel
theorem dX1_passFigures_85 : decode cX1_passFigures 85 = .ok (.isub, 1) := by decide +kernel
theorem dX1_passFigures_86 : decode cX1_passFigures 86 = .ok (.iconst 3, 1) := by decide +kernel
theorem dX1_passFigures_87 : decode cX1_passFigures 87 = .ok (.if_icmp .le 7, 3) := by decide +kernel
theorem dX1_passFigures_90 : decode cX1_passFigures 90 = .ok (.iconst 4, 1) := by decide +kernel
theorem dX1_passFigures_91 : decode cX1_passFigures 91 = .ok (.goto 4, 3) := by decide +kernel
theorem dX1_passFigures_94 : decode cX1_passFigures 94 = .ok (.iconst 2, 1) := by decide +kernel
theorem dX1_passFigures_95 : decode cX1_passFigures 95 = .ok (.putfield 25, 3) := by decide +kernel
theorem dX1_passFigures_98 : decode cX1_passFigures 98 = .ok (.return_, 1) := by decide +kernel
theorem dX1_isBlank_0 : decode cX1_isBlank 0 = .ok (.iload_n 0, 1) := by decide +kernel
theorem dX1_isBlank_1 : decode cX1_isBlank 1 = .ok (.bipush 32, 2) := by decide +kernel
theorem dX1_isBlank_3 : decode cX1_isBlank 3 = .ok (.if_icmp .eq 9, 3) := by decide +kernel
theorem dX1_isBlank_6 : decode cX1_isBlank 6 = .ok (.iload_n 0, 1) := by decide +kernel
theorem dX1_isBlank_7 : decode cX1_isBlank 7 = .ok (.bipush 10, 2) := by decide +kernel
theorem dX1_isBlank_9 : decode cX1_isBlank 9 = .ok (.if_icmp .ne 7, 3) := by decide +kernel
theorem dX1_isBlank_12 : decode cX1_isBlank 12 = .ok (.iconst 1, 1) := by decide +kernel
theorem dX1_isBlank_13 : decode cX1_isBlank 13 = .ok (.goto 4, 3) := by decide +kernel
theorem dX1_isBlank_16 : decode cX1_isBlank 16 = .ok (.iconst 0, 1) := by decide +kernel
theorem dX1_isBlank_17 : decode cX1_isBlank 17 = .ok (.ireturn, 1) := by decide +kernel
theorem dX1_isLetter_0 : decode cX1_isLetter 0 = .ok (.iload_n 0, 1) := by decide +kernel
theorem dX1_isLetter_1 : decode cX1_isLetter 1 = .ok (.bipush 97, 2) := by decide +kernel
theorem dX1_isLetter_3 : decode cX1_isLetter 3 = .ok (.if_icmp .lt 13, 3) := by decide +kernel
theorem dX1_isLetter_6 : decode cX1_isLetter 6 = .ok (.iload_n 0, 1) := by decide +kernel
theorem dX1_isLetter_7 : decode cX1_isLetter 7 = .ok (.bipush 122, 2) := by decide +kernel
theorem dX1_isLetter_9 : decode cX1_isLetter 9 = .ok (.if_icmp .gt 7, 3) := by decide +kernel
theorem dX1_isLetter_12 : decode cX1_isLetter 12 = .ok (.iconst 1, 1) := by decide +kernel
theorem dX1_isLetter_13 : decode cX1_isLetter 13 = .ok (.goto 4, 3) := by decide +kernel
theorem dX1_isLetter_16 : decode cX1_isLetter 16 = .ok (.iconst 0, 1) := by decide +kernel
theorem dX1_isLetter_17 : decode cX1_isLetter 17 = .ok (.ireturn, 1) := by decide +kernel
theorem dX1_isFigure_0 : decode cX1_isFigure 0 = .ok (.iload_n 0, 1) := by decide +kernel
theorem dX1_isFigure_1 : decode cX1_isFigure 1 = .ok (.bipush 48, 2) := by decide +kernel
theorem dX1_isFigure_3 : decode cX1_isFigure 3 = .ok (.if_icmp .lt 13, 3) := by decide +kernel
theorem dX1_isFigure_6 : decode cX1_isFigure 6 = .ok (.iload_n 0, 1) := by decide +kernel
theorem dX1_isFigure_7 : decode cX1_isFigure 7 = .ok (.bipush 57, 2) := by decide +kernel
theorem dX1_isFigure_9 : decode cX1_isFigure 9 = .ok (.if_icmp .gt 7, 3) := by decide +kernel
theorem dX1_isFigure_12 : decode cX1_isFigure 12 = .ok (.iconst 1, 1) := by decide +kernel
theorem dX1_isFigure_13 : decode cX1_isFigure 13 = .ok (.goto 4, 3) := by decide +kernel
theorem dX1_isFigure_16 : decode cX1_isFigure 16 = .ok (.iconst 0, 1) := by decide +kernel
theorem dX1_isFigure_17 : decode cX1_isFigure 17 = .ok (.ireturn, 1) := by decide +kernel
theorem dX2_init_0 : decode cX2_init 0 = .ok (.aload_n 0, 1) := by decide +kernel
theorem dX2_init_1 : decode cX2_init 1 = .ok (.invokespecial 3, 3) := by decide +kernel
theorem dX2_init_4 : decode cX2_init 4 = .ok (.aload_n 0, 1) := by decide +kernel
theorem dX2_init_5 : decode cX2_init 5 = .ok (.iconst 0, 1) := by decide +kernel
theorem dX2_init_6 : decode cX2_init 6 = .ok (.putfield 9, 3) := by decide +kernel
theorem dX2_init_9 : decode cX2_init 9 = .ok (.aload_n 0, 1) := by decide +kernel
theorem dX2_init_10 : decode cX2_init 10 = .ok (.iconst 0, 1) := by decide +kernel
theorem dX2_init_11 : decode cX2_init 11 = .ok (.putfield 15, 3) := by decide +kernel
theorem dX2_init_14 : decode cX2_init 14 = .ok (.aload_n 0, 1) := by decide +kernel
theorem dX2_init_15 : decode cX2_init 15 = .ok (.iconst 0, 1) := by decide +kernel
theorem dX2_init_16 : decode cX2_init 16 = .ok (.putfield 19, 3) := by decide +kernel
theorem dX2_init_19 : decode cX2_init 19 = .ok (.aload_n 0, 1) := by decide +kernel
theorem dX2_init_20 : decode cX2_init 20 = .ok (.bipush 40, 2) := by decide +kernel
theorem dX2_init_22 : decode cX2_init 22 = .ok (.newarray .int, 2) := by decide +kernel
theorem dX2_init_24 : decode cX2_init 24 = .ok (.putfield 22, 3) := by decide +kernel
theorem dX2_init_27 : decode cX2_init 27 = .ok (.return_, 1) := by decide +kernel
theorem dX2_begin_0 : decode cX2_begin 0 = .ok (.aload_n 0, 1) := by decide +kernel
theorem dX2_begin_1 : decode cX2_begin 1 = .ok (.iconst 1, 1) := by decide +kernel
theorem dX2_begin_2 : decode cX2_begin 2 = .ok (.putfield 9, 3) := by decide +kernel
theorem dX2_begin_5 : decode cX2_begin 5 = .ok (.aload_n 0, 1) := by decide +kernel
theorem dX2_begin_6 : decode cX2_begin 6 = .ok (.iload_n 1, 1) := by decide +kernel
theorem dX2_begin_7 : decode cX2_begin 7 = .ok (.putfield 15, 3) := by decide +kernel
theorem dX2_begin_10 : decode cX2_begin 10 = .ok (.aload_n 0, 1) := by decide +kernel
theorem dX2_begin_11 : decode cX2_begin 11 = .ok (.iload_n 2, 1) := by decide +kernel
theorem dX2_begin_12 : decode cX2_begin 12 = .ok (.putfield 19, 3) := by decide +kernel
theorem dX2_begin_15 : decode cX2_begin 15 = .ok (.aload_n 0, 1) := by decide +kernel
theorem dX2_begin_16 : decode cX2_begin 16 = .ok (.getfield 22, 3) := by decide +kernel
theorem dX2_begin_19 : decode cX2_begin 19 = .ok (.iconst 0, 1) := by decide +kernel
theorem dX2_begin_20 : decode cX2_begin 20 = .ok (.invokestatic 26, 3) := by decide +kernel
theorem dX2_begin_23 : decode cX2_begin 23 = .ok (.return_, 1) := by decide +kernel
theorem dX2_cutToLane_0 : decode cX2_cutToLane 0 = .ok (.aload_n 0, 1) := by decide +kernel
theorem dX2_cutToLane_1 : decode cX2_cutToLane 1 = .ok (.getfield 15, 3) := by decide +kernel
theorem dX2_cutToLane_4 : decode cX2_cutToLane 4 = .ok (.ifCond .ne 6, 3) := by decide +kernel
theorem dX2_cutToLane_7 : decode cX2_cutToLane 7 = .ok (.iload_n 1, 1) := by decide +kernel
theorem dX2_cutToLane_8 : decode cX2_cutToLane 8 = .ok (.i2b, 1) := by decide +kernel
theorem dX2_cutToLane_9 : decode cX2_cutToLane 9 = .ok (.ireturn, 1) := by decide +kernel
theorem dX2_cutToLane_10 : decode cX2_cutToLane 10 = .ok (.aload_n 0, 1) := by decide +kernel
theorem dX2_cutToLane_11 : decode cX2_cutToLane 11 = .ok (.getfield 15, 3) := by decide +kernel
theorem dX2_cutToLane_14 : decode cX2_cutToLane 14 = .ok (.iconst 1, 1) := by decide +kernel
theorem dX2_cutToLane_15 : decode cX2_cutToLane 15 = .ok (.if_icmp .ne 8, 3) := by decide +kernel
theorem dX2_cutToLane_18 : decode cX2_cutToLane 18 = .ok (.iload_n 1, 1) := by decide +kernel
theorem dX2_cutToLane_19 : decode cX2_cutToLane 19 = .ok (.i2s, 1) := by decide +kernel
theorem dX2_cutToLane_20 : decode cX2_cutToLane 20 = .ok (.goto 4, 3) := by decide +kernel
theorem dX2_cutToLane_23 : decode cX2_cutToLane 23 = .ok (.iload_n 1, 1) := by decide +kernel
theorem dX2_cutToLane_24 : decode cX2_cutToLane 24 = .ok (.ireturn, 1) := by decide +kernel
theorem dX2_has_0 : decode cX2_has 0 = .ok (.iload_n 1, 1) := by decide +kernel
theorem dX2_has_1 : decode cX2_has 1 = .ok (.ifCond .lt 29, 3) := by decide +kernel
theorem dX2_has_4 : decode cX2_has 4 = .ok (.iload_n 2, 1) := by decide +kernel
theorem dX2_has_5 : decode cX2_has 5 = .ok (.ifCond .lt 25, 3) := by decide +kernel
theorem dX2_has_8 : decode cX2_has 8 = .ok (.iload_n 2, 1) := by decide +kernel
theorem dX2_has_9 : decode cX2_has 9 = .ok (.aload_n 0, 1) := by decide +kernel
theorem dX2_has_10 : decode cX2_has 10 = .ok (.getfield 19, 3) := by decide +kernel
theorem dX2_has_13 : decode cX2_has 13 = .ok (.if_icmp .gt 17, 3) := by decide +kernel
theorem dX2_has_16 : decode cX2_has 16 = .ok (.iload_n 1, 1) := by decide +kernel
theorem dX2_has_17 : decode cX2_has 17 = .ok (.aload_n 0, 1) := by decide +kernel
theorem dX2_has_18 : decode cX2_has 18 = .ok (.getfield 19, 3) := by decide +kernel
theorem dX2_has_21 : decode cX2_has 21 = .ok (.iload_n 2, 1) := by decide +kernel
theorem dX2_has_22 : decode cX2_has 22 = .ok (.isub, 1) := by decide +kernel
theorem dX2_has_23 : decode cX2_has 23 = .ok (.if_icmp .gt 7, 3) := by decide +kernel
theorem dX2_has_26 : decode cX2_has 26 = .ok (.iconst 1, 1) := by decide +kernel
theorem dX2_has_27 : decode cX2_has 27 = .ok (.goto 4, 3) := by decide +kernel
theorem dX2_has_30 : decode cX2_has 30 = .ok (.iconst 0, 1) := by decide +kernel
theorem dX2_has_31 : decode cX2_has 31 = .ok (.ireturn, 1) := by decide +kernel
theorem dX3_init_0 : decode cX3_init 0 = .ok (.aload_n 0, 1) := by decide +kernel
theorem dX3_init_1 : decode cX3_init 1 = .ok (.invokespecial 3, 3) := by decide +kernel
theorem dX3_init_4 : decode cX3_init 4 = .ok (.aload_n 0, 1) := by decide +kernel
theorem dX3_init_5 : decode cX3_init 5 = .ok (.bipush 20, 2) := by decide +kernel
theorem dX3_init_7 : decode cX3_init 7 = .ok (.newarray .int, 2) := by decide +kernel
theorem dX3_init_9 : decode cX3_init 9 = .ok (.putfield 9, 3) := by decide +kernel
theorem dX3_init_12 : decode cX3_init 12 = .ok (.return_, 1) := by decide +kernel
theorem dX3_lookNow_0 : decode cX3_lookNow 0 = .ok (.aload_n 0, 1) := by decide +kernel
theorem dX3_lookNow_1 : decode cX3_lookNow 1 = .ok (.aload_n 1, 1) := by decide +kernel
theorem dX3_lookNow_2 : decode cX3_lookNow 2 = .ok (.aload_n 1, 1) := by decide +kernel
theorem dX3_lookNow_3 : decode cX3_lookNow 3 = .ok (.getfield 15, 3) := by decide +kernel
theorem dX3_lookNow_6 : decode cX3_lookNow 6 = .ok (.aload_n 1, 1) := by decide +kernel
theorem dX3_lookNow_7 : decode cX3_lookNow 7 = .ok (.getfield 21, 3) := by decide +kernel
theorem dX3_lookNow_10 : decode cX3_lookNow 10 = .ok (.invokevirtual 25, 3) := by decide +kernel
theorem dX3_lookNow_13 : decode cX3_lookNow 13 = .ok (.return_, 1) := by decide +kernel
theorem dX3_look_0 : decode cX3_look 0 = .ok (.aload_n 1, 1) := by decide +kernel
theorem dX3_look_1 : decode cX3_look 1 = .ok (.getfield 29, 3) := by decide +kernel
theorem dX3_look_4 : decode cX3_look 4 = .ok (.iconst 0, 1) := by decide +kernel
theorem dX3_look_5 : decode cX3_look 5 = .ok (.aload_n 0, 1) := by decide +kernel
theorem dX3_look_6 : decode cX3_look 6 = .ok (.getfield 9, 3) := by decide +kernel
theorem dX3_look_9 : decode cX3_look 9 = .ok (.iconst 0, 1) := by decide +kernel
theorem dX3_look_10 : decode cX3_look 10 = .ok (.bipush 20, 2) := by decide +kernel
theorem dX3_look_12 : decode cX3_look 12 = .ok (.invokestatic 32, 3) := by decide +kernel
theorem dX3_look_15 : decode cX3_look 15 = .ok (.iconst 0, 1) := by decide +kernel
theorem dX3_look_16 : decode cX3_look 16 = .ok (.istore 4, 2) := by decide +kernel
theorem dX3_look_18 : decode cX3_look 18 = .ok (.iload 4, 2) := by decide +kernel
theorem dX3_look_20 : decode cX3_look 20 = .ok (.aload_n 1, 1) := by decide +kernel
theorem dX3_look_21 : decode cX3_look 21 = .ok (.getfield 38, 3) := by decide +kernel
theorem dX3_look_24 : decode cX3_look 24 = .ok (.if_icmp .ge 28, 3) := by decide +kernel
theorem dX3_look_27 : decode cX3_look 27 = .ok (.aload_n 0, 1) := by decide +kernel
theorem dX3_look_28 : decode cX3_look 28 = .ok (.aload_n 1, 1) := by decide +kernel
theorem dX3_look_29 : decode cX3_look 29 = .ok (.getfield 41, 3) := by decide +kernel
theorem dX3_look_32 : decode cX3_look 32 = .ok (.iload 4, 2) := by decide +kernel
theorem dX3_look_34 : decode cX3_look 34 = .ok (.iaload, 1) := by decide +kernel
theorem dX3_look_35 : decode cX3_look 35 = .ok (.aload_n 1, 1) := by decide +kernel
theorem dX3_look_36 : decode cX3_look 36 = .ok (.iload 4, 2) := by decide +kernel
theorem dX3_look_38 : decode cX3_look 38 = .ok (.iload_n 2, 1) := by decide +kernel
theorem dX3_look_39 : decode cX3_look 39 = .ok (.iload_n 3, 1) := by decide +kernel
theorem dX3_look_40 : decode cX3_look 40 = .ok (.invokevirtual 44, 3) := by decide +kernel
theorem dX3_look_43 : decode cX3_look 43 = .ok (.invokevirtual 48, 3) := by decide +kernel
theorem dX3_look_46 : decode cX3_look 46 = .ok (.iinc 4 1, 3) := by decide +kernel
theorem dX3_look_49 : decode cX3_look 49 = .ok (.goto (-31), 3) := by decide +kernel
theorem dX3_look_52 : decode cX3_look 52 = .ok (.return_, 1) := by decide +kernel
theorem dX3_raise_0 : decode cX3_raise 0 = .ok (.iload_n 1, 1) := by decide +kernel
theorem dX3_raise_1 : decode cX3_raise 1 = .ok (.ifCond .lt 19, 3) := by decide +kernel
theorem dX3_raise_4 : decode cX3_raise 4 = .ok (.iload_n 1, 1) := by decide +kernel
theorem dX3_raise_5 : decode cX3_raise 5 = .ok (.bipush 20, 2) := by decide +kernel
theorem dX3_raise_7 : decode cX3_raise 7 = .ok (.if_icmp .ge 13, 3) := by decide +kernel
theorem dX3_raise_10 : decode cX3_raise 10 = .ok (.aload_n 0, 1) := by decide +kernel
theorem dX3_raise_11 : decode cX3_raise 11 = .ok (.getfield 9, 3) := by decide +kernel
theorem dX3_raise_14 : decode cX3_raise 14 = .ok (.iload_n 1, 1) := by decide +kernel
theorem dX3_raise_15 : decode cX3_raise 15 = .ok (.dup2, 1) := by decide +kernel
theorem dX3_raise_16 : decode cX3_raise 16 = .ok (.iaload, 1) := by decide +kernel
theorem dX3_raise_17 : decode cX3_raise 17 = .ok (.iload_n 2, 1) := by decide +kernel
theorem dX3_raise_18 : decode cX3_raise 18 = .ok (.iadd, 1) := by decide +kernel
theorem dX3_raise_19 : decode cX3_raise 19 = .ok (.iastore, 1) := by decide +kernel
theorem dX3_raise_20 : decode cX3_raise 20 = .ok (.return_, 1) := by decide +kernel
theorem dX3_isFree_0 : decode cX3_isFree 0 = .ok (.iconst 0, 1) := by decide +kernel
theorem dX3_isFree_1 : decode cX3_isFree 1 = .ok (.iload_n 2, 1) := by decide +kernel
theorem dX3_isFree_2 : decode cX3_isFree 2 = .ok (.iconst 1, 1) := by decide +kernel
theorem dX3_isFree_3 : decode cX3_isFree 3 = .ok (.iadd, 1) := by decide +kernel
theorem dX3_isFree_4 : decode cX3_isFree 4 = .ok (.invokestatic 52, 3) := by decide +kernel
theorem dX3_isFree_7 : decode cX3_isFree 7 = .ok (.istore 5, 2) := by decide +kernel
theorem dX3_isFree_9 : decode cX3_isFree 9 = .ok (.iload 5, 2) := by decide +kernel
theorem dX3_isFree_11 : decode cX3_isFree 11 = .ok (.iload 4, 2) := by decide +kernel
theorem dX3_isFree_13 : decode cX3_isFree 13 = .ok (.if_icmp .ge 48, 3) := by decide +kernel
theorem dX3_isFree_16 : decode cX3_isFree 16 = .ok (.iload 5, 2) := by decide +kernel
theorem dX3_isFree_18 : decode cX3_isFree 18 = .ok (.bipush 20, 2) := by decide +kernel
theorem dX3_isFree_20 : decode cX3_isFree 20 = .ok (.if_icmp .ge 41, 3) := by decide +kernel
theorem dX3_isFree_23 : decode cX3_isFree 23 = .ok (.iload_n 3, 1) := by decide +kernel
theorem dX3_isFree_24 : decode cX3_isFree 24 = .ok (.iload_n 1, 1) := by decide +kernel
theorem dX3_isFree_25 : decode cX3_isFree 25 = .ok (.isub, 1) := by decide +kernel
theorem dX3_isFree_26 : decode cX3_isFree 26 = .ok (.iload 5, 2) := by decide +kernel
theorem dX3_isFree_28 : decode cX3_isFree 28 = .ok (.iload_n 2, 1) := by decide +kernel
theorem dX3_isFree_29 : decode cX3_isFree 29 = .ok (.isub, 1) := by decide +kernel
theorem dX3_isFree_30 : decode cX3_isFree 30 = .ok (.imul, 1) := by decide +kernel
theorem dX3_isFree_31 : decode cX3_isFree 31 = .ok (.iload_n 1, 1) := by decide +kernel
theorem dX3_isFree_32 : decode cX3_isFree 32 = .ok (.iload 4, 2) := by decide +kernel
theorem dX3_isFree_34 : decode cX3_isFree 34 = .ok (.iload_n 2, 1) := by decide +kernel
theorem dX3_isFree_35 : decode cX3_isFree 35 = .ok (.isub, 1) := by decide +kernel
theorem dX3_isFree_36 : decode cX3_isFree 36 = .ok (.imul, 1) := by decide +kernel
theorem dX3_isFree_37 : decode cX3_isFree 37 = .ok (.iadd, 1) := by decide +kernel
theorem dX3_isFree_38 : decode cX3_isFree 38 = .ok (.aload_n 0, 1) := by decide +kernel
theorem dX3_isFree_39 : decode cX3_isFree 39 = .ok (.getfield 9, 3) := by decide +kernel
theorem dX3_isFree_42 : decode cX3_isFree 42 = .ok (.iload 5, 2) := by decide +kernel
theorem dX3_isFree_44 : decode cX3_isFree 44 = .ok (.iaload, 1) := by decide +kernel
theorem dX3_isFree_45 : decode cX3_isFree 45 = .ok (.iload 4, 2) := by decide +kernel
theorem dX3_isFree_47 : decode cX3_isFree 47 = .ok (.iload_n 2, 1) := by decide +kernel
theorem dX3_isFree_48 : decode cX3_isFree 48 = .ok (.isub, 1) := by decide +kernel
theorem dX3_isFree_49 : decode cX3_isFree 49 = .ok (.imul, 1) := by decide +kernel
theorem dX3_isFree_50 : decode cX3_isFree 50 = .ok (.if_icmp .gt 5, 3) := by decide +kernel
theorem dX3_isFree_53 : decode cX3_isFree 53 = .ok (.iconst 0, 1) := by decide +kernel
theorem dX3_isFree_54 : decode cX3_isFree 54 = .ok (.ireturn, 1) := by decide +kernel
theorem dX3_isFree_55 : decode cX3_isFree 55 = .ok (.iinc 5 1, 3) := by decide +kernel
theorem dX3_isFree_58 : decode cX3_isFree 58 = .ok (.goto (-49), 3) := by decide +kernel
theorem dX3_isFree_61 : decode cX3_isFree 61 = .ok (.iconst 1, 1) := by decide +kernel
theorem dX3_isFree_62 : decode cX3_isFree 62 = .ok (.ireturn, 1) := by decide +kernel
theorem dX3_leastStop_0 : decode cX3_leastStop 0 = .ok (.iload_n 2, 1) := by decide +kernel
theorem dX3_leastStop_1 : decode cX3_leastStop 1 = .ok (.iconst 1, 1) := by decide +kernel
theorem dX3_leastStop_2 : decode cX3_leastStop 2 = .ok (.if_icmp .ge 5, 3) := by decide +kernel
theorem dX3_leastStop_5 : decode cX3_leastStop 5 = .ok (.iconst 0, 1) := by decide +kernel
theorem dX3_leastStop_6 : decode cX3_leastStop 6 = .ok (.ireturn, 1) := by decide +kernel
theorem dX3_leastStop_7 : decode cX3_leastStop 7 = .ok (.iload_n 1, 1) := by decide +kernel
theorem dX3_leastStop_8 : decode cX3_leastStop 8 = .ok (.iload_n 0, 1) := by decide +kernel
theorem dX3_leastStop_9 : decode cX3_leastStop 9 = .ok (.isub, 1) := by decide +kernel
theorem dX3_leastStop_10 : decode cX3_leastStop 10 = .ok (.iload_n 3, 1) := by decide +kernel
theorem dX3_leastStop_11 : decode cX3_leastStop 11 = .ok (.imul, 1) := by decide +kernel
theorem dX3_leastStop_12 : decode cX3_leastStop 12 = .ok (.iload_n 0, 1) := by decide +kernel
theorem dX3_leastStop_13 : decode cX3_leastStop 13 = .ok (.iload_n 2, 1) := by decide +kernel
theorem dX3_leastStop_14 : decode cX3_leastStop 14 = .ok (.imul, 1) := by decide +kernel
theorem dX3_leastStop_15 : decode cX3_leastStop 15 = .ok (.iadd, 1) := by decide +kernel
theorem dX3_leastStop_16 : decode cX3_leastStop 16 = .ok (.iload_n 2, 1) := by decide +kernel
theorem dX3_leastStop_17 : decode cX3_leastStop 17 = .ok (.iadd, 1) := by decide +kernel
theorem dX3_leastStop_18 : decode cX3_leastStop 18 = .ok (.iconst 1, 1) := by decide +kernel
theorem dX3_leastStop_19 : decode cX3_leastStop 19 = .ok (.isub, 1) := by decide +kernel
theorem dX3_leastStop_20 : decode cX3_leastStop 20 = .ok (.iload_n 2, 1) := by decide +kernel
theorem dX3_leastStop_21 : decode cX3_leastStop 21 = .ok (.idiv, 1) := by decide +kernel
theorem dX3_leastStop_22 : decode cX3_leastStop 22 = .ok (.ireturn, 1) := by decide +kernel
theorem dX3_isSeen_0 : decode cX3_isSeen 0 = .ok (.aload_n 1, 1) := by decide +kernel
theorem dX3_isSeen_1 : decode cX3_isSeen 1 = .ok (.getfield 58, 3) := by decide +kernel
theorem dX3_isSeen_4 : decode cX3_isSeen 4 = .ok (.iload_n 2, 1) := by decide +kernel
theorem dX3_isSeen_5 : decode cX3_isSeen 5 = .ok (.iaload, 1) := by decide +kernel
theorem dX3_isSeen_6 : decode cX3_isSeen 6 = .ok (.istore 5, 2) := by decide +kernel
theorem dX3_isSeen_8 : decode cX3_isSeen 8 = .ok (.iload_n 3, 1) := by decide +kernel
theorem dX3_isSeen_9 : decode cX3_isSeen 9 = .ok (.iload 5, 2) := by decide +kernel
theorem dX3_isSeen_11 : decode cX3_isSeen 11 = .ok (.if_icmp .ge 31, 3) := by decide +kernel
theorem dX3_isSeen_14 : decode cX3_isSeen 14 = .ok (.aload_n 0, 1) := by decide +kernel
theorem dX3_isSeen_15 : decode cX3_isSeen 15 = .ok (.aload_n 1, 1) := by decide +kernel
theorem dX3_isSeen_16 : decode cX3_isSeen 16 = .ok (.getfield 29, 3) := by decide +kernel
theorem dX3_isSeen_19 : decode cX3_isSeen 19 = .ok (.iload_n 3, 1) := by decide +kernel
theorem dX3_isSeen_20 : decode cX3_isSeen 20 = .ok (.iaload, 1) := by decide +kernel
theorem dX3_isSeen_21 : decode cX3_isSeen 21 = .ok (.iload 4, 2) := by decide +kernel
theorem dX3_isSeen_23 : decode cX3_isSeen 23 = .ok (.iadd, 1) := by decide +kernel
theorem dX3_isSeen_24 : decode cX3_isSeen 24 = .ok (.iload_n 3, 1) := by decide +kernel
theorem dX3_isSeen_25 : decode cX3_isSeen 25 = .ok (.aload_n 1, 1) := by decide +kernel
theorem dX3_isSeen_26 : decode cX3_isSeen 26 = .ok (.iload_n 2, 1) := by decide +kernel
theorem dX3_isSeen_27 : decode cX3_isSeen 27 = .ok (.invokevirtual 61, 3) := by decide +kernel
theorem dX3_isSeen_30 : decode cX3_isSeen 30 = .ok (.iload 5, 2) := by decide +kernel
theorem dX3_isSeen_32 : decode cX3_isSeen 32 = .ok (.invokevirtual 65, 3) := by decide +kernel
theorem dX3_isSeen_35 : decode cX3_isSeen 35 = .ok (.ifCond .eq 7, 3) := by decide +kernel
theorem dX3_isSeen_38 : decode cX3_isSeen 38 = .ok (.iconst 1, 1) := by decide +kernel
theorem dX3_isSeen_39 : decode cX3_isSeen 39 = .ok (.goto 4, 3) := by decide +kernel
theorem dX3_isSeen_42 : decode cX3_isSeen 42 = .ok (.iconst 0, 1) := by decide +kernel
theorem dX3_isSeen_43 : decode cX3_isSeen 43 = .ok (.ireturn, 1) := by decide +kernel
theorem dX3_thingsFrom_0 : decode cX3_thingsFrom 0 = .ok (.iconst 0, 1) := by decide +kernel
theorem dX3_thingsFrom_1 : decode cX3_thingsFrom 1 = .ok (.istore 4, 2) := by decide +kernel
theorem dX3_thingsFrom_3 : decode cX3_thingsFrom 3 = .ok (.iconst 0, 1) := by decide +kernel
theorem dX3_thingsFrom_4 : decode cX3_thingsFrom 4 = .ok (.istore 5, 2) := by decide +kernel
theorem dX3_thingsFrom_6 : decode cX3_thingsFrom 6 = .ok (.iload 5, 2) := by decide +kernel
theorem dX3_thingsFrom_8 : decode cX3_thingsFrom 8 = .ok (.aload_n 1, 1) := by decide +kernel
theorem dX3_thingsFrom_9 : decode cX3_thingsFrom 9 = .ok (.getfield 69, 3) := by decide +kernel
theorem dX3_thingsFrom_12 : decode cX3_thingsFrom 12 = .ok (.if_icmp .ge 30, 3) := by decide +kernel
theorem dX3_thingsFrom_15 : decode cX3_thingsFrom 15 = .ok (.aload_n 0, 1) := by decide +kernel
theorem dX3_thingsFrom_16 : decode cX3_thingsFrom 16 = .ok (.aload_n 1, 1) := by decide +kernel
theorem dX3_thingsFrom_17 : decode cX3_thingsFrom 17 = .ok (.iload 5, 2) := by decide +kernel
theorem dX3_thingsFrom_19 : decode cX3_thingsFrom 19 = .ok (.iload_n 2, 1) := by decide +kernel
theorem dX3_thingsFrom_20 : decode cX3_thingsFrom 20 = .ok (.iload_n 3, 1) := by decide +kernel
theorem dX3_thingsFrom_21 : decode cX3_thingsFrom 21 = .ok (.invokevirtual 72, 3) := by decide +kernel
theorem dX3_thingsFrom_24 : decode cX3_thingsFrom 24 = .ok (.ifCond .eq 12, 3) := by decide +kernel
theorem dX3_thingsFrom_27 : decode cX3_thingsFrom 27 = .ok (.iload 4, 2) := by decide +kernel
theorem dX3_thingsFrom_29 : decode cX3_thingsFrom 29 = .ok (.iconst 1, 1) := by decide +kernel
theorem dX3_thingsFrom_30 : decode cX3_thingsFrom 30 = .ok (.iload 5, 2) := by decide +kernel
theorem dX3_thingsFrom_32 : decode cX3_thingsFrom 32 = .ok (.ishl, 1) := by decide +kernel
theorem dX3_thingsFrom_33 : decode cX3_thingsFrom 33 = .ok (.ior, 1) := by decide +kernel
theorem dX3_thingsFrom_34 : decode cX3_thingsFrom 34 = .ok (.istore 4, 2) := by decide +kernel
theorem dX3_thingsFrom_36 : decode cX3_thingsFrom 36 = .ok (.iinc 5 1, 3) := by decide +kernel
theorem dX3_thingsFrom_39 : decode cX3_thingsFrom 39 = .ok (.goto (-33), 3) := by decide +kernel
theorem dX3_thingsFrom_42 : decode cX3_thingsFrom 42 = .ok (.iload 4, 2) := by decide +kernel
theorem dX3_thingsFrom_44 : decode cX3_thingsFrom 44 = .ok (.ireturn, 1) := by decide +kernel
theorem dX3_isDoubled_0 : decode cX3_isDoubled 0 = .ok (.aload_n 0, 1) := by decide +kernel
theorem dX3_isDoubled_1 : decode cX3_isDoubled 1 = .ok (.aload_n 1, 1) := by decide +kernel
theorem dX3_isDoubled_2 : decode cX3_isDoubled 2 = .ok (.iload_n 2, 1) := by decide +kernel
theorem dX3_isDoubled_3 : decode cX3_isDoubled 3 = .ok (.iconst 0, 1) := by decide +kernel
theorem dX3_isDoubled_4 : decode cX3_isDoubled 4 = .ok (.iload_n 3, 1) := by decide +kernel
theorem dX3_isDoubled_5 : decode cX3_isDoubled 5 = .ok (.invokevirtual 72, 3) := by decide +kernel
theorem dX3_isDoubled_8 : decode cX3_isDoubled 8 = .ok (.ifCond .ne 5, 3) := by decide +kernel
theorem dX3_isDoubled_11 : decode cX3_isDoubled 11 = .ok (.iconst 0, 1) := by decide +kernel
theorem dX3_isDoubled_12 : decode cX3_isDoubled 12 = .ok (.ireturn, 1) := by decide +kernel
theorem dX3_isDoubled_13 : decode cX3_isDoubled 13 = .ok (.aload_n 1, 1) := by decide +kernel
theorem dX3_isDoubled_14 : decode cX3_isDoubled 14 = .ok (.getfield 58, 3) := by decide +kernel
theorem dX3_isDoubled_17 : decode cX3_isDoubled 17 = .ok (.iload_n 2, 1) := by decide +kernel
theorem dX3_isDoubled_18 : decode cX3_isDoubled 18 = .ok (.iaload, 1) := by decide +kernel
theorem dX3_isDoubled_19 : decode cX3_isDoubled 19 = .ok (.istore 4, 2) := by decide +kernel
theorem dX3_isDoubled_21 : decode cX3_isDoubled 21 = .ok (.iconst 1, 1) := by decide +kernel
theorem dX3_isDoubled_22 : decode cX3_isDoubled 22 = .ok (.aload_n 1, 1) := by decide +kernel
theorem dX3_isDoubled_23 : decode cX3_isDoubled 23 = .ok (.getfield 76, 3) := by decide +kernel
theorem dX3_isDoubled_26 : decode cX3_isDoubled 26 = .ok (.invokestatic 52, 3) := by decide +kernel
theorem dX3_isDoubled_29 : decode cX3_isDoubled 29 = .ok (.istore 5, 2) := by decide +kernel
theorem dX3_isDoubled_31 : decode cX3_isDoubled 31 = .ok (.iload 5, 2) := by decide +kernel
theorem dX3_isDoubled_33 : decode cX3_isDoubled 33 = .ok (.aload_n 1, 1) := by decide +kernel
theorem dX3_isDoubled_34 : decode cX3_isDoubled 34 = .ok (.getfield 79, 3) := by decide +kernel
theorem dX3_isDoubled_37 : decode cX3_isDoubled 37 = .ok (.if_icmp .gt 66, 3) := by decide +kernel
theorem dX3_isDoubled_40 : decode cX3_isDoubled 40 = .ok (.iload 5, 2) := by decide +kernel
theorem dX3_isDoubled_42 : decode cX3_isDoubled 42 = .ok (.iload 4, 2) := by decide +kernel
theorem dX3_isDoubled_44 : decode cX3_isDoubled 44 = .ok (.if_icmp .ge 59, 3) := by decide +kernel
theorem dX3_isDoubled_47 : decode cX3_isDoubled 47 = .ok (.aload_n 0, 1) := by decide +kernel
theorem dX3_isDoubled_48 : decode cX3_isDoubled 48 = .ok (.aload_n 1, 1) := by decide +kernel
theorem dX3_isDoubled_49 : decode cX3_isDoubled 49 = .ok (.getfield 29, 3) := by decide +kernel
theorem dX3_isDoubled_52 : decode cX3_isDoubled 52 = .ok (.iconst 0, 1) := by decide +kernel
theorem dX3_isDoubled_53 : decode cX3_isDoubled 53 = .ok (.iaload, 1) := by decide +kernel
theorem dX3_isDoubled_54 : decode cX3_isDoubled 54 = .ok (.iload_n 3, 1) := by decide +kernel
theorem dX3_isDoubled_55 : decode cX3_isDoubled 55 = .ok (.iadd, 1) := by decide +kernel
theorem dX3_isDoubled_56 : decode cX3_isDoubled 56 = .ok (.iconst 0, 1) := by decide +kernel
theorem dX3_isDoubled_57 : decode cX3_isDoubled 57 = .ok (.aload_n 1, 1) := by decide +kernel
theorem dX3_isDoubled_58 : decode cX3_isDoubled 58 = .ok (.getfield 29, 3) := by decide +kernel
theorem dX3_isDoubled_61 : decode cX3_isDoubled 61 = .ok (.iload 5, 2) := by decide +kernel
theorem dX3_isDoubled_63 : decode cX3_isDoubled 63 = .ok (.iaload, 1) := by decide +kernel
theorem dX3_isDoubled_64 : decode cX3_isDoubled 64 = .ok (.iload 5, 2) := by decide +kernel
theorem dX3_isDoubled_66 : decode cX3_isDoubled 66 = .ok (.invokevirtual 65, 3) := by decide +kernel
theorem dX3_isDoubled_69 : decode cX3_isDoubled 69 = .ok (.ifCond .eq 28, 3) := by decide +kernel
theorem dX3_isDoubled_72 : decode cX3_isDoubled 72 = .ok (.aload_n 0, 1) := by decide +kernel
theorem dX3_isDoubled_73 : decode cX3_isDoubled 73 = .ok (.aload_n 1, 1) := by decide +kernel
theorem dX3_isDoubled_74 : decode cX3_isDoubled 74 = .ok (.getfield 29, 3) := by decide +kernel
theorem dX3_isDoubled_77 : decode cX3_isDoubled 77 = .ok (.iload 5, 2) := by decide +kernel
theorem dX3_isDoubled_79 : decode cX3_isDoubled 79 = .ok (.iaload, 1) := by decide +kernel
theorem dX3_isDoubled_80 : decode cX3_isDoubled 80 = .ok (.iload 5, 2) := by decide +kernel
theorem dX3_isDoubled_82 : decode cX3_isDoubled 82 = .ok (.aload_n 1, 1) := by decide +kernel
theorem dX3_isDoubled_83 : decode cX3_isDoubled 83 = .ok (.iload_n 2, 1) := by decide +kernel
theorem dX3_isDoubled_84 : decode cX3_isDoubled 84 = .ok (.invokevirtual 61, 3) := by decide +kernel
theorem dX3_isDoubled_87 : decode cX3_isDoubled 87 = .ok (.iload 4, 2) := by decide +kernel
theorem dX3_isDoubled_89 : decode cX3_isDoubled 89 = .ok (.invokevirtual 65, 3) := by decide +kernel
theorem dX3_isDoubled_92 : decode cX3_isDoubled 92 = .ok (.ifCond .eq 5, 3) := by decide +kernel
theorem dX3_isDoubled_95 : decode cX3_isDoubled 95 = .ok (.iconst 1, 1) := by decide +kernel
theorem dX3_isDoubled_96 : decode cX3_isDoubled 96 = .ok (.ireturn, 1) := by decide +kernel
theorem dX3_isDoubled_97 : decode cX3_isDoubled 97 = .ok (.iinc 5 1, 3) := by decide +kernel
theorem dX3_isDoubled_100 : decode cX3_isDoubled 100 = .ok (.goto (-69), 3) := by decide +kernel
theorem dX3_isDoubled_103 : decode cX3_isDoubled 103 = .ok (.iconst 0, 1) := by decide +kernel
theorem dX3_isDoubled_104 : decode cX3_isDoubled 104 = .ok (.ireturn, 1) := by decide +kernel
theorem dX3_wantsAreMet_0 : decode cX3_wantsAreMet 0 = .ok (.iconst 0, 1) := by decide +kernel
theorem dX3_wantsAreMet_1 : decode cX3_wantsAreMet 1 = .ok (.istore_n 3, 1) := by decide +kernel
theorem dX3_wantsAreMet_2 : decode cX3_wantsAreMet 2 = .ok (.iload_n 3, 1) := by decide +kernel
theorem dX3_wantsAreMet_3 : decode cX3_wantsAreMet 3 = .ok (.aload_n 1, 1) := by decide +kernel
theorem dX3_wantsAreMet_4 : decode cX3_wantsAreMet 4 = .ok (.getfield 69, 3) := by decide +kernel
theorem dX3_wantsAreMet_7 : decode cX3_wantsAreMet 7 = .ok (.if_icmp .ge 28, 3) := by decide +kernel
theorem dX3_wantsAreMet_10 : decode cX3_wantsAreMet 10 = .ok (.aload_n 0, 1) := by decide +kernel
theorem dX3_wantsAreMet_11 : decode cX3_wantsAreMet 11 = .ok (.aload_n 1, 1) := by decide +kernel
theorem dX3_wantsAreMet_12 : decode cX3_wantsAreMet 12 = .ok (.iload_n 3, 1) := by decide +kernel
theorem dX3_wantsAreMet_13 : decode cX3_wantsAreMet 13 = .ok (.iconst 0, 1) := by decide +kernel
theorem dX3_wantsAreMet_14 : decode cX3_wantsAreMet 14 = .ok (.iload_n 2, 1) := by decide +kernel
theorem dX3_wantsAreMet_15 : decode cX3_wantsAreMet 15 = .ok (.invokevirtual 72, 3) := by decide +kernel
theorem dX3_wantsAreMet_18 : decode cX3_wantsAreMet 18 = .ok (.aload_n 1, 1) := by decide +kernel
theorem dX3_wantsAreMet_19 : decode cX3_wantsAreMet 19 = .ok (.getfield 82, 3) := by decide +kernel
theorem dX3_wantsAreMet_22 : decode cX3_wantsAreMet 22 = .ok (.iload_n 3, 1) := by decide +kernel
theorem dX3_wantsAreMet_23 : decode cX3_wantsAreMet 23 = .ok (.baload, 1) := by decide +kernel
theorem dX3_wantsAreMet_24 : decode cX3_wantsAreMet 24 = .ok (.if_icmp .eq 5, 3) := by decide +kernel
theorem dX3_wantsAreMet_27 : decode cX3_wantsAreMet 27 = .ok (.iconst 0, 1) := by decide +kernel
theorem dX3_wantsAreMet_28 : decode cX3_wantsAreMet 28 = .ok (.ireturn, 1) := by decide +kernel
theorem dX3_wantsAreMet_29 : decode cX3_wantsAreMet 29 = .ok (.iinc 3 1, 3) := by decide +kernel
theorem dX3_wantsAreMet_32 : decode cX3_wantsAreMet 32 = .ok (.goto (-30), 3) := by decide +kernel
theorem dX3_wantsAreMet_35 : decode cX3_wantsAreMet 35 = .ok (.iconst 1, 1) := by decide +kernel
theorem dX3_wantsAreMet_36 : decode cX3_wantsAreMet 36 = .ok (.ireturn, 1) := by decide +kernel
theorem dX3_wantsAreMetForAll_0 : decode cX3_wantsAreMetForAll 0 = .ok (.iconst 0, 1) := by decide +kernel
theorem dX3_wantsAreMetForAll_1 : decode cX3_wantsAreMetForAll 1 = .ok (.istore_n 3, 1) := by decide +kernel
theorem dX3_wantsAreMetForAll_2 : decode cX3_wantsAreMetForAll 2 = .ok (.iload_n 3, 1) := by decide +kernel
theorem dX3_wantsAreMetForAll_3 : decode cX3_wantsAreMetForAll 3 = .ok (.bipush 31, 2) := by decide +kernel
theorem dX3_wantsAreMetForAll_5 : decode cX3_wantsAreMetForAll 5 = .ok (.if_icmp .ge 28, 3) := by decide +kernel
theorem dX3_wantsAreMetForAll_8 : decode cX3_wantsAreMetForAll 8 = .ok (.iload_n 2, 1) := by decide +kernel
theorem dX3_wantsAreMetForAll_9 : decode cX3_wantsAreMetForAll 9 = .ok (.iload_n 3, 1) := by decide +kernel
theorem dX3_wantsAreMetForAll_10 : decode cX3_wantsAreMetForAll 10 = .ok (.invokestatic 86, 3) := by decide +kernel
theorem dX3_wantsAreMetForAll_13 : decode cX3_wantsAreMetForAll 13 = .ok (.ifCond .eq 14, 3) := by decide +kernel
theorem dX3_wantsAreMetForAll_16 : decode cX3_wantsAreMetForAll 16 = .ok (.aload_n 0, 1) := by decide +kernel
theorem dX3_wantsAreMetForAll_17 : decode cX3_wantsAreMetForAll 17 = .ok (.aload_n 1, 1) := by decide +kernel
theorem dX3_wantsAreMetForAll_18 : decode cX3_wantsAreMetForAll 18 = .ok (.iload_n 3, 1) := by decide +kernel
theorem dX3_wantsAreMetForAll_19 : decode cX3_wantsAreMetForAll 19 = .ok (.invokevirtual 90, 3) := by decide +kernel
theorem dX3_wantsAreMetForAll_22 : decode cX3_wantsAreMetForAll 22 = .ok (.ifCond .ne 5, 3) := by decide +kernel
theorem dX3_wantsAreMetForAll_25 : decode cX3_wantsAreMetForAll 25 = .ok (.iconst 0, 1) := by decide +kernel
theorem dX3_wantsAreMetForAll_26 : decode cX3_wantsAreMetForAll 26 = .ok (.ireturn, 1) := by decide +kernel
theorem dX3_wantsAreMetForAll_27 : decode cX3_wantsAreMetForAll 27 = .ok (.iinc 3 1, 3) := by decide +kernel
theorem dX3_wantsAreMetForAll_30 : decode cX3_wantsAreMetForAll 30 = .ok (.goto (-28), 3) := by decide +kernel
theorem dX3_wantsAreMetForAll_33 : decode cX3_wantsAreMetForAll 33 = .ok (.iconst 1, 1) := by decide +kernel
theorem dX3_wantsAreMetForAll_34 : decode cX3_wantsAreMetForAll 34 = .ok (.ireturn, 1) := by decide +kernel
theorem dX4_init_0 : decode cX4_init 0 = .ok (.aload_n 0, 1) := by decide +kernel
theorem dX4_init_1 : decode cX4_init 1 = .ok (.invokespecial 3, 3) := by decide +kernel
theorem dX4_init_4 : decode cX4_init 4 = .ok (.aload_n 0, 1) := by decide +kernel
theorem dX4_init_5 : decode cX4_init 5 = .ok (.bipush 16, 2) := by decide +kernel
theorem dX4_init_7 : decode cX4_init 7 = .ok (.newarray .int, 2) := by decide +kernel
theorem dX4_init_9 : decode cX4_init 9 = .ok (.putfield 9, 3) := by decide +kernel
theorem dX4_init_12 : decode cX4_init 12 = .ok (.aload_n 0, 1) := by decide +kernel
theorem dX4_init_13 : decode cX4_init 13 = .ok (.iconst 0, 1) := by decide +kernel
theorem dX4_init_14 : decode cX4_init 14 = .ok (.putfield 15, 3) := by decide +kernel
theorem dX4_init_17 : decode cX4_init 17 = .ok (.return_, 1) := by decide +kernel
theorem dX4_note_0 : decode cX4_note 0 = .ok (.aload_n 0, 1) := by decide +kernel
theorem dX4_note_1 : decode cX4_note 1 = .ok (.getfield 15, 3) := by decide +kernel
theorem dX4_note_4 : decode cX4_note 4 = .ok (.bipush 16, 2) := by decide +kernel
theorem dX4_note_6 : decode cX4_note 6 = .ok (.if_icmp .ge 23, 3) := by decide +kernel
theorem dX4_note_9 : decode cX4_note 9 = .ok (.aload_n 0, 1) := by decide +kernel
theorem dX4_note_10 : decode cX4_note 10 = .ok (.getfield 9, 3) := by decide +kernel
theorem dX4_note_13 : decode cX4_note 13 = .ok (.aload_n 0, 1) := by decide +kernel
theorem dX4_note_14 : decode cX4_note 14 = .ok (.getfield 15, 3) := by decide +kernel
theorem dX4_note_17 : decode cX4_note 17 = .ok (.iload_n 1, 1) := by decide +kernel
theorem dX4_note_18 : decode cX4_note 18 = .ok (.iastore, 1) := by decide +kernel
theorem dX4_note_19 : decode cX4_note 19 = .ok (.aload_n 0, 1) := by decide +kernel
theorem dX4_note_20 : decode cX4_note 20 = .ok (.dup, 1) := by decide +kernel
theorem dX4_note_21 : decode cX4_note 21 = .ok (.getfield 15, 3) := by decide +kernel
theorem dX4_note_24 : decode cX4_note 24 = .ok (.iconst 1, 1) := by decide +kernel
theorem dX4_note_25 : decode cX4_note 25 = .ok (.iadd, 1) := by decide +kernel
theorem dX4_note_26 : decode cX4_note 26 = .ok (.putfield 15, 3) := by decide +kernel
theorem dX4_note_29 : decode cX4_note 29 = .ok (.return_, 1) := by decide +kernel
theorem dJ0_length_8abf5_0 : decode cJ0_length_8abf5 0 = .ok (.aload_n 0, 1) := by decide +kernel
theorem dJ0_length_8abf5_1 : decode cJ0_length_8abf5 1 = .ok (.getfield 9, 3) := by decide +kernel
theorem dJ0_length_8abf5_4 : decode cJ0_length_8abf5 4 = .ok (.arraylength, 1) := by decide +kernel
theorem dJ0_length_8abf5_5 : decode cJ0_length_8abf5 5 = .ok (.aload_n 0, 1) := by decide +kernel
theorem dJ0_length_8abf5_6 : decode cJ0_length_8abf5 6 = .ok (.invokevirtual 335, 3) := by decide +kernel
theorem dJ0_length_8abf5_9 : decode cJ0_length_8abf5 9 = .ok (.ishr, 1) := by decide +kernel
theorem dJ0_length_8abf5_10 : decode cJ0_length_8abf5 10 = .ok (.ireturn, 1) := by decide +kernel
theorem dJ0_charAt_5068e_0 : decode cJ0_charAt_5068e 0 = .ok (.aload_n 0, 1) := by decide +kernel
theorem dJ0_charAt_5068e_1 : decode cJ0_charAt_5068e 1 = .ok (.invokevirtual 492, 3) := by decide +kernel
theorem dJ0_charAt_5068e_4 : decode cJ0_charAt_5068e 4 = .ok (.ifCond .eq 12, 3) := by decide +kernel
theorem dJ0_charAt_5068e_7 : decode cJ0_charAt_5068e 7 = .ok (.aload_n 0, 1) := by decide +kernel
theorem dJ0_charAt_5068e_8 : decode cJ0_charAt_5068e 8 = .ok (.getfield 9, 3) := by decide +kernel
theorem dJ0_charAt_5068e_11 : decode cJ0_charAt_5068e 11 = .ok (.iload_n 1, 1) := by decide +kernel
theorem dJ0_charAt_5068e_12 : decode cJ0_charAt_5068e 12 = .ok (.invokestatic 495, 3) := by decide +kernel
theorem dJ0_charAt_5068e_15 : decode cJ0_charAt_5068e 15 = .ok (.ireturn, 1) := by decide +kernel
theorem dJ0_charAt_5068e_16 : decode cJ0_charAt_5068e 16 = .ok (.aload_n 0, 1) := by decide +kernel
theorem dJ0_charAt_5068e_17 : decode cJ0_charAt_5068e 17 = .ok (.getfield 9, 3) := by decide +kernel
theorem dJ0_charAt_5068e_20 : decode cJ0_charAt_5068e 20 = .ok (.iload_n 1, 1) := by decide +kernel
theorem dJ0_charAt_5068e_21 : decode cJ0_charAt_5068e 21 = .ok (.invokestatic 498, 3) := by decide +kernel
theorem dJ0_charAt_5068e_24 : decode cJ0_charAt_5068e 24 = .ok (.ireturn, 1) := by decide +kernel
theorem dJ0_coder_7d493_0 : decode cJ0_coder_7d493 0 = .ok (.getstatic 38, 3) := by decide +kernel
theorem dJ0_coder_7d493_3 : decode cJ0_coder_7d493 3 = .ok (.ifCond .eq 10, 3) := by decide +kernel
theorem dJ0_coder_7d493_6 : decode cJ0_coder_7d493 6 = .ok (.aload_n 0, 1) := by decide +kernel
theorem dJ0_coder_7d493_7 : decode cJ0_coder_7d493 7 = .ok (.getfield 15, 3) := by decide +kernel
theorem dJ0_coder_7d493_10 : decode cJ0_coder_7d493 10 = .ok (.goto 4, 3) := by decide +kernel
theorem dJ0_coder_7d493_13 : decode cJ0_coder_7d493 13 = .ok (.iconst 1, 1) := by decide +kernel
theorem dJ0_coder_7d493_14 : decode cJ0_coder_7d493 14 = .ok (.ireturn, 1) := by decide +kernel
theorem dJ0_isLatin1_aae02_0 : decode cJ0_isLatin1_aae02 0 = .ok (.getstatic 38, 3) := by decide +kernel
theorem dJ0_isLatin1_aae02_3 : decode cJ0_isLatin1_aae02 3 = .ok (.ifCond .eq 14, 3) := by decide +kernel
theorem dJ0_isLatin1_aae02_6 : decode cJ0_isLatin1_aae02 6 = .ok (.aload_n 0, 1) := by decide +kernel
theorem dJ0_isLatin1_aae02_7 : decode cJ0_isLatin1_aae02 7 = .ok (.getfield 15, 3) := by decide +kernel
theorem dJ0_isLatin1_aae02_10 : decode cJ0_isLatin1_aae02 10 = .ok (.ifCond .ne 7, 3) := by decide +kernel
theorem dJ0_isLatin1_aae02_13 : decode cJ0_isLatin1_aae02 13 = .ok (.iconst 1, 1) := by decide +kernel
theorem dJ0_isLatin1_aae02_14 : decode cJ0_isLatin1_aae02 14 = .ok (.goto 4, 3) := by decide +kernel
theorem dJ0_isLatin1_aae02_17 : decode cJ0_isLatin1_aae02 17 = .ok (.iconst 0, 1) := by decide +kernel
theorem dJ0_isLatin1_aae02_18 : decode cJ0_isLatin1_aae02 18 = .ok (.ireturn, 1) := by decide +kernel
theorem dJ0_checkIndex_df160_0 : decode cJ0_checkIndex_df160 0 = .ok (.iload_n 0, 1) := by decide +kernel
theorem dJ0_checkIndex_df160_1 : decode cJ0_checkIndex_df160 1 = .ok (.iload_n 1, 1) := by decide +kernel
theorem dJ0_checkIndex_df160_2 : decode cJ0_checkIndex_df160 2 = .ok (.getstatic 1053, 3) := by decide +kernel
theorem dJ0_checkIndex_df160_5 : decode cJ0_checkIndex_df160 5 = .ok (.invokestatic 1059, 3) := by decide +kernel
theorem dJ0_checkIndex_df160_8 : decode cJ0_checkIndex_df160 8 = .ok (.pop, 1) := by decide +kernel
theorem dJ0_checkIndex_df160_9 : decode cJ0_checkIndex_df160 9 = .ok (.return_, 1) := by decide +kernel
theorem dJ1_charAt_3b067_0 : decode cJ1_charAt_3b067 0 = .ok (.iload_n 1, 1) := by decide +kernel
theorem dJ1_charAt_3b067_1 : decode cJ1_charAt_3b067 1 = .ok (.aload_n 0, 1) := by decide +kernel
theorem dJ1_charAt_3b067_2 : decode cJ1_charAt_3b067 2 = .ok (.arraylength, 1) := by decide +kernel
theorem dJ1_charAt_3b067_3 : decode cJ1_charAt_3b067 3 = .ok (.invokestatic 9, 3) := by decide +kernel
theorem dJ1_charAt_3b067_6 : decode cJ1_charAt_3b067 6 = .ok (.aload_n 0, 1) := by decide +kernel
theorem dJ1_charAt_3b067_7 : decode cJ1_charAt_3b067 7 = .ok (.iload_n 1, 1) := by decide +kernel
theorem dJ1_charAt_3b067_8 : decode cJ1_charAt_3b067 8 = .ok (.baload, 1) := by decide +kernel
theorem dJ1_charAt_3b067_9 : decode cJ1_charAt_3b067 9 = .ok (.sipush 255, 3) := by decide +kernel
theorem dJ1_charAt_3b067_12 : decode cJ1_charAt_3b067 12 = .ok (.iand, 1) := by decide +kernel
theorem dJ1_charAt_3b067_13 : decode cJ1_charAt_3b067 13 = .ok (.i2c, 1) := by decide +kernel
theorem dJ1_charAt_3b067_14 : decode cJ1_charAt_3b067 14 = .ok (.ireturn, 1) := by decide +kernel
theorem dJ3_checkIndex_8e157_0 : decode cJ3_checkIndex_8e157 0 = .ok (.iload_n 0, 1) := by decide +kernel
theorem dJ3_checkIndex_8e157_1 : decode cJ3_checkIndex_8e157 1 = .ok (.ifCond .lt 8, 3) := by decide +kernel
theorem dJ3_checkIndex_8e157_4 : decode cJ3_checkIndex_8e157 4 = .ok (.iload_n 0, 1) := by decide +kernel
theorem dJ3_checkIndex_8e157_5 : decode cJ3_checkIndex_8e157 5 = .ok (.iload_n 1, 1) := by decide +kernel
theorem dJ3_checkIndex_8e157_6 : decode cJ3_checkIndex_8e157 6 = .ok (.if_icmp .lt 10, 3) := by decide +kernel
theorem dJ3_checkIndex_8e157_9 : decode cJ3_checkIndex_8e157 9 = .ok (.aload_n 2, 1) := by decide +kernel
theorem dJ3_checkIndex_8e157_10 : decode cJ3_checkIndex_8e157 10 = .ok (.iload_n 0, 1) := by decide +kernel
theorem dJ3_checkIndex_8e157_11 : decode cJ3_checkIndex_8e157 11 = .ok (.iload_n 1, 1) := by decide +kernel
theorem dJ3_checkIndex_8e157_12 : decode cJ3_checkIndex_8e157 12 = .ok (.invokestatic 95, 3) := by decide +kernel
theorem dJ3_checkIndex_8e157_15 : decode cJ3_checkIndex_8e157 15 = .ok (.athrow, 1) := by decide +kernel
theorem dJ3_checkIndex_8e157_16 : decode cJ3_checkIndex_8e157 16 = .ok (.iload_n 0, 1) := by decide +kernel
theorem dJ3_checkIndex_8e157_17 : decode cJ3_checkIndex_8e157 17 = .ok (.ireturn, 1) := by decide +kernel
theorem dJ7_fill_53178_0 : decode cJ7_fill_53178 0 = .ok (.iconst 0, 1) := by decide +kernel
theorem dJ7_fill_53178_1 : decode cJ7_fill_53178 1 = .ok (.istore_n 2, 1) := by decide +kernel
theorem dJ7_fill_53178_2 : decode cJ7_fill_53178 2 = .ok (.aload_n 0, 1) := by decide +kernel
theorem dJ7_fill_53178_3 : decode cJ7_fill_53178 3 = .ok (.arraylength, 1) := by decide +kernel
theorem dJ7_fill_53178_4 : decode cJ7_fill_53178 4 = .ok (.istore_n 3, 1) := by decide +kernel
theorem dJ7_fill_53178_5 : decode cJ7_fill_53178 5 = .ok (.iload_n 2, 1) := by decide +kernel
theorem dJ7_fill_53178_6 : decode cJ7_fill_53178 6 = .ok (.iload_n 3, 1) := by decide +kernel
theorem dJ7_fill_53178_7 : decode cJ7_fill_53178 7 = .ok (.if_icmp .ge 13, 3) := by decide +kernel
theorem dJ7_fill_53178_10 : decode cJ7_fill_53178 10 = .ok (.aload_n 0, 1) := by decide +kernel
theorem dJ7_fill_53178_11 : decode cJ7_fill_53178 11 = .ok (.iload_n 2, 1) := by decide +kernel
theorem dJ7_fill_53178_12 : decode cJ7_fill_53178 12 = .ok (.iload_n 1, 1) := by decide +kernel
theorem dJ7_fill_53178_13 : decode cJ7_fill_53178 13 = .ok (.iastore, 1) := by decide +kernel
theorem dJ7_fill_53178_14 : decode cJ7_fill_53178 14 = .ok (.iinc 2 1, 3) := by decide +kernel
theorem dJ7_fill_53178_17 : decode cJ7_fill_53178 17 = .ok (.goto (-12), 3) := by decide +kernel
theorem dJ7_fill_53178_20 : decode cJ7_fill_53178 20 = .ok (.return_, 1) := by decide +kernel
end
section
theorem dX5_init_0 : decode cX5_init 0 = .ok (.aload_n 0, 1) := by decide +kernel
theorem dX5_init_1 : decode cX5_init 1 = .ok (.invokespecial 1, 3) := by decide +kernel
theorem dX5_init_4 : decode cX5_init 4 = .ok (.aload_n 0, 1) := by decide +kernel
theorem dX5_init_5 : decode cX5_init 5 = .ok (.bipush 8, 2) := by decide +kernel
theorem dX5_init_7 : decode cX5_init 7 = .ok (.anewarray 9, 3) := by decide +kernel
theorem dX5_init_10 : decode cX5_init 10 = .ok (.putfield 11, 3) := by decide +kernel
theorem dX5_init_13 : decode cX5_init 13 = .ok (.aload_n 0, 1) := by decide +kernel
theorem dX5_init_14 : decode cX5_init 14 = .ok (.new 15, 3) := by decide +kernel
theorem dX5_init_17 : decode cX5_init 17 = .ok (.dup, 1) := by decide +kernel
theorem dX5_init_18 : decode cX5_init 18 = .ok (.invokespecial 17, 3) := by decide +kernel
theorem dX5_init_21 : decode cX5_init 21 = .ok (.putfield 18, 3) := by decide +kernel
theorem dX5_init_24 : decode cX5_init 24 = .ok (.aload_n 0, 1) := by decide +kernel
theorem dX5_init_25 : decode cX5_init 25 = .ok (.new 22, 3) := by decide +kernel
theorem dX5_init_28 : decode cX5_init 28 = .ok (.dup, 1) := by decide +kernel
theorem dX5_init_29 : decode cX5_init 29 = .ok (.invokespecial 24, 3) := by decide +kernel
theorem dX5_init_32 : decode cX5_init 32 = .ok (.putfield 25, 3) := by decide +kernel
theorem dX5_init_35 : decode cX5_init 35 = .ok (.aload_n 0, 1) := by decide +kernel
theorem dX5_init_36 : decode cX5_init 36 = .ok (.new 29, 3) := by decide +kernel
theorem dX5_init_39 : decode cX5_init 39 = .ok (.dup, 1) := by decide +kernel
theorem dX5_init_40 : decode cX5_init 40 = .ok (.invokespecial 31, 3) := by decide +kernel
theorem dX5_init_43 : decode cX5_init 43 = .ok (.putfield 32, 3) := by decide +kernel
theorem dX5_init_46 : decode cX5_init 46 = .ok (.aload_n 0, 1) := by decide +kernel
theorem dX5_init_47 : decode cX5_init 47 = .ok (.new 36, 3) := by decide +kernel
theorem dX5_init_50 : decode cX5_init 50 = .ok (.dup, 1) := by decide +kernel
theorem dX5_init_51 : decode cX5_init 51 = .ok (.invokespecial 38, 3) := by decide +kernel
theorem dX5_init_54 : decode cX5_init 54 = .ok (.putfield 39, 3) := by decide +kernel
theorem dX5_init_57 : decode cX5_init 57 = .ok (.aload_n 0, 1) := by decide +kernel
theorem dX5_init_58 : decode cX5_init 58 = .ok (.new 36, 3) := by decide +kernel
theorem dX5_init_61 : decode cX5_init 61 = .ok (.dup, 1) := by decide +kernel
theorem dX5_init_62 : decode cX5_init 62 = .ok (.invokespecial 38, 3) := by decide +kernel
theorem dX5_init_65 : decode cX5_init 65 = .ok (.putfield 43, 3) := by decide +kernel
theorem dX5_init_68 : decode cX5_init 68 = .ok (.aload_n 0, 1) := by decide +kernel
theorem dX5_init_69 : decode cX5_init 69 = .ok (.iconst 0, 1) := by decide +kernel
theorem dX5_init_70 : decode cX5_init 70 = .ok (.putfield 46, 3) := by decide +kernel
theorem dX5_init_73 : decode cX5_init 73 = .ok (.aload_n 0, 1) := by decide +kernel
theorem dX5_init_74 : decode cX5_init 74 = .ok (.bipush 24, 2) := by decide +kernel
theorem dX5_init_76 : decode cX5_init 76 = .ok (.anewarray 36, 3) := by decide +kernel
theorem dX5_init_79 : decode cX5_init 79 = .ok (.putfield 50, 3) := by decide +kernel
theorem dX5_init_82 : decode cX5_init 82 = .ok (.aload_n 0, 1) := by decide +kernel
theorem dX5_init_83 : decode cX5_init 83 = .ok (.iconst 0, 1) := by decide +kernel
theorem dX5_init_84 : decode cX5_init 84 = .ok (.putfield 54, 3) := by decide +kernel
theorem dX5_init_87 : decode cX5_init 87 = .ok (.aload_n 0, 1) := by decide +kernel
theorem dX5_init_88 : decode cX5_init 88 = .ok (.iconst 0, 1) := by decide +kernel
theorem dX5_init_89 : decode cX5_init 89 = .ok (.putfield 58, 3) := by decide +kernel
theorem dX5_init_92 : decode cX5_init 92 = .ok (.aload_n 0, 1) := by decide +kernel
theorem dX5_init_93 : decode cX5_init 93 = .ok (.iconst 2, 1) := by decide +kernel
theorem dX5_init_94 : decode cX5_init 94 = .ok (.anewarray 36, 3) := by decide +kernel
theorem dX5_init_97 : decode cX5_init 97 = .ok (.putfield 61, 3) := by decide +kernel
theorem dX5_init_100 : decode cX5_init 100 = .ok (.aload_n 0, 1) := by decide +kernel
theorem dX5_init_101 : decode cX5_init 101 = .ok (.iconst 2, 1) := by decide +kernel
theorem dX5_init_102 : decode cX5_init 102 = .ok (.newarray .boolean, 2) := by decide +kernel
theorem dX5_init_104 : decode cX5_init 104 = .ok (.putfield 64, 3) := by decide +kernel
theorem dX5_init_107 : decode cX5_init 107 = .ok (.aload_n 0, 1) := by decide +kernel
theorem dX5_init_108 : decode cX5_init 108 = .ok (.iconst 0, 1) := by decide +kernel
theorem dX5_init_109 : decode cX5_init 109 = .ok (.putfield 68, 3) := by decide +kernel
theorem dX5_init_112 : decode cX5_init 112 = .ok (.aload_n 0, 1) := by decide +kernel
theorem dX5_init_113 : decode cX5_init 113 = .ok (.iconst 0, 1) := by decide +kernel
theorem dX5_init_114 : decode cX5_init 114 = .ok (.putfield 71, 3) := by decide +kernel
theorem dX5_init_117 : decode cX5_init 117 = .ok (.iconst 0, 1) := by decide +kernel
theorem dX5_init_118 : decode cX5_init 118 = .ok (.istore_n 1, 1) := by decide +kernel
theorem dX5_init_119 : decode cX5_init 119 = .ok (.iload_n 1, 1) := by decide +kernel
theorem dX5_init_120 : decode cX5_init 120 = .ok (.bipush 8, 2) := by decide +kernel
theorem dX5_init_122 : decode cX5_init 122 = .ok (.if_icmp .ge 22, 3) := by decide +kernel
theorem dX5_init_125 : decode cX5_init 125 = .ok (.aload_n 0, 1) := by decide +kernel
theorem dX5_init_126 : decode cX5_init 126 = .ok (.getfield 11, 3) := by decide +kernel
theorem dX5_init_129 : decode cX5_init 129 = .ok (.iload_n 1, 1) := by decide +kernel
theorem dX5_init_130 : decode cX5_init 130 = .ok (.new 9, 3) := by decide +kernel
theorem dX5_init_133 : decode cX5_init 133 = .ok (.dup, 1) := by decide +kernel
theorem dX5_init_134 : decode cX5_init 134 = .ok (.invokespecial 74, 3) := by decide +kernel
theorem dX5_init_137 : decode cX5_init 137 = .ok (.aastore, 1) := by decide +kernel
theorem dX5_init_138 : decode cX5_init 138 = .ok (.iinc 1 1, 3) := by decide +kernel
theorem dX5_init_141 : decode cX5_init 141 = .ok (.goto (-22), 3) := by decide +kernel
theorem dX5_init_144 : decode cX5_init 144 = .ok (.iconst 0, 1) := by decide +kernel
theorem dX5_init_145 : decode cX5_init 145 = .ok (.istore_n 1, 1) := by decide +kernel
theorem dX5_init_146 : decode cX5_init 146 = .ok (.iload_n 1, 1) := by decide +kernel
theorem dX5_init_147 : decode cX5_init 147 = .ok (.bipush 24, 2) := by decide +kernel
theorem dX5_init_149 : decode cX5_init 149 = .ok (.if_icmp .ge 22, 3) := by decide +kernel
theorem dX5_init_152 : decode cX5_init 152 = .ok (.aload_n 0, 1) := by decide +kernel
theorem dX5_init_153 : decode cX5_init 153 = .ok (.getfield 50, 3) := by decide +kernel
theorem dX5_init_156 : decode cX5_init 156 = .ok (.iload_n 1, 1) := by decide +kernel
theorem dX5_init_157 : decode cX5_init 157 = .ok (.new 36, 3) := by decide +kernel
theorem dX5_init_160 : decode cX5_init 160 = .ok (.dup, 1) := by decide +kernel
theorem dX5_init_161 : decode cX5_init 161 = .ok (.invokespecial 38, 3) := by decide +kernel
theorem dX5_init_164 : decode cX5_init 164 = .ok (.aastore, 1) := by decide +kernel
theorem dX5_init_165 : decode cX5_init 165 = .ok (.iinc 1 1, 3) := by decide +kernel
theorem dX5_init_168 : decode cX5_init 168 = .ok (.goto (-22), 3) := by decide +kernel
theorem dX5_init_171 : decode cX5_init 171 = .ok (.iconst 0, 1) := by decide +kernel
theorem dX5_init_172 : decode cX5_init 172 = .ok (.istore_n 1, 1) := by decide +kernel
theorem dX5_init_173 : decode cX5_init 173 = .ok (.iload_n 1, 1) := by decide +kernel
theorem dX5_init_174 : decode cX5_init 174 = .ok (.iconst 2, 1) := by decide +kernel
theorem dX5_init_175 : decode cX5_init 175 = .ok (.if_icmp .ge 22, 3) := by decide +kernel
theorem dX5_init_178 : decode cX5_init 178 = .ok (.aload_n 0, 1) := by decide +kernel
theorem dX5_init_179 : decode cX5_init 179 = .ok (.getfield 61, 3) := by decide +kernel
theorem dX5_init_182 : decode cX5_init 182 = .ok (.iload_n 1, 1) := by decide +kernel
theorem dX5_init_183 : decode cX5_init 183 = .ok (.new 36, 3) := by decide +kernel
theorem dX5_init_186 : decode cX5_init 186 = .ok (.dup, 1) := by decide +kernel
theorem dX5_init_187 : decode cX5_init 187 = .ok (.invokespecial 38, 3) := by decide +kernel
theorem dX5_init_190 : decode cX5_init 190 = .ok (.aastore, 1) := by decide +kernel
theorem dX5_init_191 : decode cX5_init 191 = .ok (.iinc 1 1, 3) := by decide +kernel
theorem dX5_init_194 : decode cX5_init 194 = .ok (.goto (-21), 3) := by decide +kernel
theorem dX5_init_197 : decode cX5_init 197 = .ok (.return_, 1) := by decide +kernel
theorem dX5_row_0 : decode cX5_row 0 = .ok (.iload_n 1, 1) := by decide +kernel
theorem dX5_row_1 : decode cX5_row 1 = .ok (.invokestatic 75, 3) := by decide +kernel
theorem dX5_row_4 : decode cX5_row 4 = .ok (.ifCond .eq 18, 3) := by decide +kernel
theorem dX5_row_7 : decode cX5_row 7 = .ok (.iload_n 2, 1) := by decide +kernel
theorem dX5_row_8 : decode cX5_row 8 = .ok (.ifCond .lt 14, 3) := by decide +kernel
theorem dX5_row_11 : decode cX5_row 11 = .ok (.iload_n 2, 1) := by decide +kernel
theorem dX5_row_12 : decode cX5_row 12 = .ok (.iconst 2, 1) := by decide +kernel
theorem dX5_row_13 : decode cX5_row 13 = .ok (.if_icmp .gt 9, 3) := by decide +kernel
theorem dX5_row_16 : decode cX5_row 16 = .ok (.iload_n 3, 1) := by decide +kernel
theorem dX5_row_17 : decode cX5_row 17 = .ok (.bipush 40, 2) := by decide +kernel
theorem dX5_row_19 : decode cX5_row 19 = .ok (.if_icmp .le 6, 3) := by decide +kernel
theorem dX5_row_22 : decode cX5_row 22 = .ok (.ldc 79, 2) := by decide +kernel
theorem dX5_row_24 : decode cX5_row 24 = .ok (.ireturn, 1) := by decide +kernel
theorem dX5_row_25 : decode cX5_row 25 = .ok (.iload_n 3, 1) := by decide +kernel
theorem dX5_row_26 : decode cX5_row 26 = .ok (.ifCond .ge 9, 3) := by decide +kernel
theorem dX5_row_29 : decode cX5_row 29 = .ok (.aload_n 0, 1) := by decide +kernel
theorem dX5_row_30 : decode cX5_row 30 = .ok (.iconst 4, 1) := by decide +kernel
theorem dX5_row_31 : decode cX5_row 31 = .ok (.invokevirtual 80, 3) := by decide +kernel
theorem dX5_row_34 : decode cX5_row 34 = .ok (.ireturn, 1) := by decide +kernel
theorem dX5_row_35 : decode cX5_row 35 = .ok (.aload_n 0, 1) := by decide +kernel
theorem dX5_row_36 : decode cX5_row 36 = .ok (.getfield 11, 3) := by decide +kernel
theorem dX5_row_39 : decode cX5_row 39 = .ok (.iload_n 1, 1) := by decide +kernel
theorem dX5_row_40 : decode cX5_row 40 = .ok (.aaload, 1) := by decide +kernel
theorem dX5_row_41 : decode cX5_row 41 = .ok (.iload_n 2, 1) := by decide +kernel
theorem dX5_row_42 : decode cX5_row 42 = .ok (.iload_n 3, 1) := by decide +kernel
theorem dX5_row_43 : decode cX5_row 43 = .ok (.invokevirtual 84, 3) := by decide +kernel
theorem dX5_row_46 : decode cX5_row 46 = .ok (.aload_n 0, 1) := by decide +kernel
theorem dX5_row_47 : decode cX5_row 47 = .ok (.iload_n 3, 1) := by decide +kernel
theorem dX5_row_48 : decode cX5_row 48 = .ok (.invokevirtual 88, 3) := by decide +kernel
theorem dX5_row_51 : decode cX5_row 51 = .ok (.ireturn, 1) := by decide +kernel
theorem dX5_set_0 : decode cX5_set 0 = .ok (.iload_n 1, 1) := by decide +kernel
theorem dX5_set_1 : decode cX5_set 1 = .ok (.invokestatic 75, 3) := by decide +kernel
theorem dX5_set_4 : decode cX5_set 4 = .ok (.ifCond .ne 6, 3) := by decide +kernel
theorem dX5_set_7 : decode cX5_set 7 = .ok (.ldc 79, 2) := by decide +kernel
theorem dX5_set_9 : decode cX5_set 9 = .ok (.ireturn, 1) := by decide +kernel
theorem dX5_set_10 : decode cX5_set 10 = .ok (.aload_n 0, 1) := by decide +kernel
theorem dX5_set_11 : decode cX5_set 11 = .ok (.getfield 11, 3) := by decide +kernel
theorem dX5_set_14 : decode cX5_set 14 = .ok (.iload_n 1, 1) := by decide +kernel
theorem dX5_set_15 : decode cX5_set 15 = .ok (.aaload, 1) := by decide +kernel
theorem dX5_set_16 : decode cX5_set 16 = .ok (.astore 4, 2) := by decide +kernel
theorem dX5_set_18 : decode cX5_set 18 = .ok (.aload 4, 2) := by decide +kernel
theorem dX5_set_20 : decode cX5_set 20 = .ok (.getfield 91, 3) := by decide +kernel
theorem dX5_set_23 : decode cX5_set 23 = .ok (.ifCond .ne 9, 3) := by decide +kernel
theorem dX5_set_26 : decode cX5_set 26 = .ok (.aload_n 0, 1) := by decide +kernel
theorem dX5_set_27 : decode cX5_set 27 = .ok (.iconst 1, 1) := by decide +kernel
theorem dX5_set_28 : decode cX5_set 28 = .ok (.invokevirtual 80, 3) := by decide +kernel
theorem dX5_set_31 : decode cX5_set 31 = .ok (.ireturn, 1) := by decide +kernel
theorem dX5_set_32 : decode cX5_set 32 = .ok (.iload_n 2, 1) := by decide +kernel
theorem dX5_set_33 : decode cX5_set 33 = .ok (.ifCond .lt 12, 3) := by decide +kernel
theorem dX5_set_36 : decode cX5_set 36 = .ok (.iload_n 2, 1) := by decide +kernel
theorem dX5_set_37 : decode cX5_set 37 = .ok (.aload 4, 2) := by decide +kernel
theorem dX5_set_39 : decode cX5_set 39 = .ok (.getfield 94, 3) := by decide +kernel
theorem dX5_set_42 : decode cX5_set 42 = .ok (.if_icmp .lt 9, 3) := by decide +kernel
theorem dX5_set_45 : decode cX5_set 45 = .ok (.aload_n 0, 1) := by decide +kernel
theorem dX5_set_46 : decode cX5_set 46 = .ok (.iconst 2, 1) := by decide +kernel
theorem dX5_set_47 : decode cX5_set 47 = .ok (.invokevirtual 80, 3) := by decide +kernel
theorem dX5_set_50 : decode cX5_set 50 = .ok (.ireturn, 1) := by decide +kernel
theorem dX5_set_51 : decode cX5_set 51 = .ok (.aload 4, 2) := by decide +kernel
theorem dX5_set_53 : decode cX5_set 53 = .ok (.getfield 97, 3) := by decide +kernel
theorem dX5_set_56 : decode cX5_set 56 = .ok (.iload_n 2, 1) := by decide +kernel
theorem dX5_set_57 : decode cX5_set 57 = .ok (.aload 4, 2) := by decide +kernel
theorem dX5_set_59 : decode cX5_set 59 = .ok (.iload_n 3, 1) := by decide +kernel
theorem dX5_set_60 : decode cX5_set 60 = .ok (.invokevirtual 101, 3) := by decide +kernel
theorem dX5_set_63 : decode cX5_set 63 = .ok (.iastore, 1) := by decide +kernel
theorem dX5_set_64 : decode cX5_set 64 = .ok (.aload_n 0, 1) := by decide +kernel
theorem dX5_set_65 : decode cX5_set 65 = .ok (.aload 4, 2) := by decide +kernel
theorem dX5_set_67 : decode cX5_set 67 = .ok (.getfield 97, 3) := by decide +kernel
theorem dX5_set_70 : decode cX5_set 70 = .ok (.iload_n 2, 1) := by decide +kernel
theorem dX5_set_71 : decode cX5_set 71 = .ok (.iaload, 1) := by decide +kernel
theorem dX5_set_72 : decode cX5_set 72 = .ok (.invokevirtual 88, 3) := by decide +kernel
theorem dX5_set_75 : decode cX5_set 75 = .ok (.ireturn, 1) := by decide +kernel
theorem dX5_copy_0 : decode cX5_copy 0 = .ok (.iload_n 1, 1) := by decide +kernel
theorem dX5_copy_1 : decode cX5_copy 1 = .ok (.invokestatic 75, 3) := by decide +kernel
theorem dX5_copy_4 : decode cX5_copy 4 = .ok (.ifCond .eq 10, 3) := by decide +kernel
theorem dX5_copy_7 : decode cX5_copy 7 = .ok (.iload_n 3, 1) := by decide +kernel
theorem dX5_copy_8 : decode cX5_copy 8 = .ok (.invokestatic 75, 3) := by decide +kernel
theorem dX5_copy_11 : decode cX5_copy 11 = .ok (.ifCond .ne 6, 3) := by decide +kernel
theorem dX5_copy_14 : decode cX5_copy 14 = .ok (.ldc 79, 2) := by decide +kernel
theorem dX5_copy_16 : decode cX5_copy 16 = .ok (.ireturn, 1) := by decide +kernel
theorem dX5_copy_17 : decode cX5_copy 17 = .ok (.aload_n 0, 1) := by decide +kernel
theorem dX5_copy_18 : decode cX5_copy 18 = .ok (.getfield 11, 3) := by decide +kernel
theorem dX5_copy_21 : decode cX5_copy 21 = .ok (.iload_n 1, 1) := by decide +kernel
theorem dX5_copy_22 : decode cX5_copy 22 = .ok (.aaload, 1) := by decide +kernel
theorem dX5_copy_23 : decode cX5_copy 23 = .ok (.astore 6, 2) := by decide +kernel
theorem dX5_copy_25 : decode cX5_copy 25 = .ok (.aload_n 0, 1) := by decide +kernel
theorem dX5_copy_26 : decode cX5_copy 26 = .ok (.getfield 11, 3) := by decide +kernel
theorem dX5_copy_29 : decode cX5_copy 29 = .ok (.iload_n 3, 1) := by decide +kernel
theorem dX5_copy_30 : decode cX5_copy 30 = .ok (.aaload, 1) := by decide +kernel
theorem dX5_copy_31 : decode cX5_copy 31 = .ok (.astore 7, 2) := by decide +kernel
theorem dX5_copy_33 : decode cX5_copy 33 = .ok (.aload 6, 2) := by decide +kernel
theorem dX5_copy_35 : decode cX5_copy 35 = .ok (.getfield 91, 3) := by decide +kernel
theorem dX5_copy_38 : decode cX5_copy 38 = .ok (.ifCond .eq 11, 3) := by decide +kernel
theorem dX5_copy_41 : decode cX5_copy 41 = .ok (.aload 7, 2) := by decide +kernel
theorem dX5_copy_43 : decode cX5_copy 43 = .ok (.getfield 91, 3) := by decide +kernel
theorem dX5_copy_46 : decode cX5_copy 46 = .ok (.ifCond .ne 9, 3) := by decide +kernel
theorem dX5_copy_49 : decode cX5_copy 49 = .ok (.aload_n 0, 1) := by decide +kernel
theorem dX5_copy_50 : decode cX5_copy 50 = .ok (.iconst 1, 1) := by decide +kernel
theorem dX5_copy_51 : decode cX5_copy 51 = .ok (.invokevirtual 80, 3) := by decide +kernel
theorem dX5_copy_54 : decode cX5_copy 54 = .ok (.ireturn, 1) := by decide +kernel
theorem dX5_copy_55 : decode cX5_copy 55 = .ok (.aload 6, 2) := by decide +kernel
theorem dX5_copy_57 : decode cX5_copy 57 = .ok (.getfield 104, 3) := by decide +kernel
theorem dX5_copy_60 : decode cX5_copy 60 = .ok (.aload 7, 2) := by decide +kernel
theorem dX5_copy_62 : decode cX5_copy 62 = .ok (.getfield 104, 3) := by decide +kernel
theorem dX5_copy_65 : decode cX5_copy 65 = .ok (.if_icmp .eq 9, 3) := by decide +kernel
theorem dX5_copy_68 : decode cX5_copy 68 = .ok (.aload_n 0, 1) := by decide +kernel
theorem dX5_copy_69 : decode cX5_copy 69 = .ok (.iconst 5, 1) := by decide +kernel
theorem dX5_copy_70 : decode cX5_copy 70 = .ok (.invokevirtual 80, 3) := by decide +kernel
theorem dX5_copy_73 : decode cX5_copy 73 = .ok (.ireturn, 1) := by decide +kernel
theorem dX5_copy_74 : decode cX5_copy 74 = .ok (.aload 6, 2) := by decide +kernel
theorem dX5_copy_76 : decode cX5_copy 76 = .ok (.iload_n 2, 1) := by decide +kernel
theorem dX5_copy_77 : decode cX5_copy 77 = .ok (.iload 5, 2) := by decide +kernel
theorem dX5_copy_79 : decode cX5_copy 79 = .ok (.invokevirtual 107, 3) := by decide +kernel
theorem dX5_copy_82 : decode cX5_copy 82 = .ok (.ifCond .eq 15, 3) := by decide +kernel
theorem dX5_copy_85 : decode cX5_copy 85 = .ok (.aload 7, 2) := by decide +kernel
theorem dX5_copy_87 : decode cX5_copy 87 = .ok (.iload 4, 2) := by decide +kernel
theorem dX5_copy_89 : decode cX5_copy 89 = .ok (.iload 5, 2) := by decide +kernel
theorem dX5_copy_91 : decode cX5_copy 91 = .ok (.invokevirtual 107, 3) := by decide +kernel
theorem dX5_copy_94 : decode cX5_copy 94 = .ok (.ifCond .ne 9, 3) := by decide +kernel
theorem dX5_copy_97 : decode cX5_copy 97 = .ok (.aload_n 0, 1) := by decide +kernel
theorem dX5_copy_98 : decode cX5_copy 98 = .ok (.iconst 2, 1) := by decide +kernel
theorem dX5_copy_99 : decode cX5_copy 99 = .ok (.invokevirtual 80, 3) := by decide +kernel
theorem dX5_copy_102 : decode cX5_copy 102 = .ok (.ireturn, 1) := by decide +kernel
theorem dX5_copy_103 : decode cX5_copy 103 = .ok (.aload 6, 2) := by decide +kernel
theorem dX5_copy_105 : decode cX5_copy 105 = .ok (.getfield 97, 3) := by decide +kernel
theorem dX5_copy_108 : decode cX5_copy 108 = .ok (.iload_n 2, 1) := by decide +kernel
theorem dX5_copy_109 : decode cX5_copy 109 = .ok (.aload 7, 2) := by decide +kernel
theorem dX5_copy_111 : decode cX5_copy 111 = .ok (.getfield 97, 3) := by decide +kernel
theorem dX5_copy_114 : decode cX5_copy 114 = .ok (.iload 4, 2) := by decide +kernel
theorem dX5_copy_116 : decode cX5_copy 116 = .ok (.iload 5, 2) := by decide +kernel
theorem dX5_copy_118 : decode cX5_copy 118 = .ok (.invokestatic 111, 3) := by decide +kernel
theorem dX5_copy_121 : decode cX5_copy 121 = .ok (.aload_n 0, 1) := by decide +kernel
theorem dX5_copy_122 : decode cX5_copy 122 = .ok (.iload 5, 2) := by decide +kernel
theorem dX5_copy_124 : decode cX5_copy 124 = .ok (.invokevirtual 88, 3) := by decide +kernel
theorem dX5_copy_127 : decode cX5_copy 127 = .ok (.ireturn, 1) := by decide +kernel
theorem dX5_drop_0 : decode cX5_drop 0 = .ok (.iload_n 1, 1) := by decide +kernel
theorem dX5_drop_1 : decode cX5_drop 1 = .ok (.invokestatic 75, 3) := by decide +kernel
theorem dX5_drop_4 : decode cX5_drop 4 = .ok (.ifCond .ne 6, 3) := by decide +kernel
theorem dX5_drop_7 : decode cX5_drop 7 = .ok (.ldc 79, 2) := by decide +kernel
theorem dX5_drop_9 : decode cX5_drop 9 = .ok (.ireturn, 1) := by decide +kernel
theorem dX5_drop_10 : decode cX5_drop 10 = .ok (.aload_n 0, 1) := by decide +kernel
theorem dX5_drop_11 : decode cX5_drop 11 = .ok (.getfield 11, 3) := by decide +kernel
theorem dX5_drop_14 : decode cX5_drop 14 = .ok (.iload_n 1, 1) := by decide +kernel
theorem dX5_drop_15 : decode cX5_drop 15 = .ok (.aaload, 1) := by decide +kernel
theorem dX5_drop_16 : decode cX5_drop 16 = .ok (.astore_n 2, 1) := by decide +kernel
theorem dX5_drop_17 : decode cX5_drop 17 = .ok (.aload_n 2, 1) := by decide +kernel
theorem dX5_drop_18 : decode cX5_drop 18 = .ok (.getfield 91, 3) := by decide +kernel
theorem dX5_drop_21 : decode cX5_drop 21 = .ok (.ifCond .ne 9, 3) := by decide +kernel
theorem dX5_drop_24 : decode cX5_drop 24 = .ok (.aload_n 0, 1) := by decide +kernel
theorem dX5_drop_25 : decode cX5_drop 25 = .ok (.iconst 1, 1) := by decide +kernel
theorem dX5_drop_26 : decode cX5_drop 26 = .ok (.invokevirtual 80, 3) := by decide +kernel
theorem dX5_drop_29 : decode cX5_drop 29 = .ok (.ireturn, 1) := by decide +kernel
theorem dX5_drop_30 : decode cX5_drop 30 = .ok (.aload_n 2, 1) := by decide +kernel
theorem dX5_drop_31 : decode cX5_drop 31 = .ok (.iconst 0, 1) := by decide +kernel
theorem dX5_drop_32 : decode cX5_drop 32 = .ok (.putfield 91, 3) := by decide +kernel
theorem dX5_drop_35 : decode cX5_drop 35 = .ok (.aload_n 0, 1) := by decide +kernel
theorem dX5_drop_36 : decode cX5_drop 36 = .ok (.aload_n 2, 1) := by decide +kernel
theorem dX5_drop_37 : decode cX5_drop 37 = .ok (.getfield 94, 3) := by decide +kernel
theorem dX5_drop_40 : decode cX5_drop 40 = .ok (.invokevirtual 88, 3) := by decide +kernel
theorem dX5_drop_43 : decode cX5_drop 43 = .ok (.ireturn, 1) := by decide +kernel
theorem dX5_feed_0 : decode cX5_feed 0 = .ok (.iload_n 3, 1) := by decide +kernel
theorem dX5_feed_1 : decode cX5_feed 1 = .ok (.iconst 1, 1) := by decide +kernel
theorem dX5_feed_2 : decode cX5_feed 2 = .ok (.if_icmp .lt 9, 3) := by decide +kernel
theorem dX5_feed_5 : decode cX5_feed 5 = .ok (.iload_n 3, 1) := by decide +kernel
theorem dX5_feed_6 : decode cX5_feed 6 = .ok (.bipush 8, 2) := by decide +kernel
theorem dX5_feed_8 : decode cX5_feed 8 = .ok (.if_icmp .le 6, 3) := by decide +kernel
theorem dX5_feed_11 : decode cX5_feed 11 = .ok (.ldc 79, 2) := by decide +kernel
theorem dX5_feed_13 : decode cX5_feed 13 = .ok (.ireturn, 1) := by decide +kernel
theorem dX5_feed_14 : decode cX5_feed 14 = .ok (.aload_n 0, 1) := by decide +kernel
theorem dX5_feed_15 : decode cX5_feed 15 = .ok (.getfield 18, 3) := by decide +kernel
theorem dX5_feed_18 : decode cX5_feed 18 = .ok (.getfield 117, 3) := by decide +kernel
theorem dX5_feed_21 : decode cX5_feed 21 = .ok (.iload_n 3, 1) := by decide +kernel
theorem dX5_feed_22 : decode cX5_feed 22 = .ok (.iadd, 1) := by decide +kernel
theorem dX5_feed_23 : decode cX5_feed 23 = .ok (.sipush 400, 3) := by decide +kernel
theorem dX5_feed_26 : decode cX5_feed 26 = .ok (.if_icmp .le 6, 3) := by decide +kernel
theorem dX5_feed_29 : decode cX5_feed 29 = .ok (.ldc 120, 2) := by decide +kernel
theorem dX5_feed_31 : decode cX5_feed 31 = .ok (.ireturn, 1) := by decide +kernel
theorem dX5_feed_32 : decode cX5_feed 32 = .ok (.iload_n 3, 1) := by decide +kernel
theorem dX5_feed_33 : decode cX5_feed 33 = .ok (.iconst 1, 1) := by decide +kernel
theorem dX5_feed_34 : decode cX5_feed 34 = .ok (.isub, 1) := by decide +kernel
theorem dX5_feed_35 : decode cX5_feed 35 = .ok (.istore 4, 2) := by decide +kernel
theorem dX5_feed_37 : decode cX5_feed 37 = .ok (.iload 4, 2) := by decide +kernel
theorem dX5_feed_39 : decode cX5_feed 39 = .ok (.ifCond .lt 25, 3) := by decide +kernel
theorem dX5_feed_42 : decode cX5_feed 42 = .ok (.aload_n 0, 1) := by decide +kernel
theorem dX5_feed_43 : decode cX5_feed 43 = .ok (.getfield 18, 3) := by decide +kernel
theorem dX5_feed_46 : decode cX5_feed 46 = .ok (.lload_n 1, 1) := by decide +kernel
theorem dX5_feed_47 : decode cX5_feed 47 = .ok (.bipush 8, 2) := by decide +kernel
theorem dX5_feed_49 : decode cX5_feed 49 = .ok (.iload 4, 2) := by decide +kernel
theorem dX5_feed_51 : decode cX5_feed 51 = .ok (.imul, 1) := by decide +kernel
theorem dX5_feed_52 : decode cX5_feed 52 = .ok (.lushr, 1) := by decide +kernel
theorem dX5_feed_53 : decode cX5_feed 53 = .ok (.l2i, 1) := by decide +kernel
theorem dX5_feed_54 : decode cX5_feed 54 = .ok (.i2b, 1) := by decide +kernel
theorem dX5_feed_55 : decode cX5_feed 55 = .ok (.invokevirtual 121, 3) := by decide +kernel
theorem dX5_feed_58 : decode cX5_feed 58 = .ok (.iinc 4 (-1), 3) := by decide +kernel
theorem dX5_feed_61 : decode cX5_feed 61 = .ok (.goto (-24), 3) := by decide +kernel
theorem dX5_feed_64 : decode cX5_feed 64 = .ok (.aload_n 0, 1) := by decide +kernel
theorem dX5_feed_65 : decode cX5_feed 65 = .ok (.getfield 18, 3) := by decide +kernel
theorem dX5_feed_68 : decode cX5_feed 68 = .ok (.getfield 117, 3) := by decide +kernel
theorem dX5_feed_71 : decode cX5_feed 71 = .ok (.ireturn, 1) := by decide +kernel
theorem dX5_garden_0 : decode cX5_garden 0 = .ok (.aload_n 0, 1) := by decide +kernel
theorem dX5_garden_1 : decode cX5_garden 1 = .ok (.getfield 18, 3) := by decide +kernel
theorem dX5_garden_4 : decode cX5_garden 4 = .ok (.aload_n 0, 1) := by decide +kernel
theorem dX5_garden_5 : decode cX5_garden 5 = .ok (.getfield 43, 3) := by decide +kernel
theorem dX5_garden_8 : decode cX5_garden 8 = .ok (.invokevirtual 125, 3) := by decide +kernel
theorem dX5_garden_11 : decode cX5_garden 11 = .ok (.istore_n 1, 1) := by decide +kernel
theorem dX5_garden_12 : decode cX5_garden 12 = .ok (.aload_n 0, 1) := by decide +kernel
theorem dX5_garden_13 : decode cX5_garden 13 = .ok (.getfield 18, 3) := by decide +kernel
theorem dX5_garden_16 : decode cX5_garden 16 = .ok (.iconst 0, 1) := by decide +kernel
theorem dX5_garden_17 : decode cX5_garden 17 = .ok (.putfield 117, 3) := by decide +kernel
theorem dX5_garden_20 : decode cX5_garden 20 = .ok (.iload_n 1, 1) := by decide +kernel
theorem dX5_garden_21 : decode cX5_garden 21 = .ok (.ifCond .ne 25, 3) := by decide +kernel
theorem dX5_garden_24 : decode cX5_garden 24 = .ok (.aload_n 0, 1) := by decide +kernel
theorem dX5_garden_25 : decode cX5_garden 25 = .ok (.aload_n 0, 1) := by decide +kernel
theorem dX5_garden_26 : decode cX5_garden 26 = .ok (.getfield 18, 3) := by decide +kernel
theorem dX5_garden_29 : decode cX5_garden 29 = .ok (.getfield 129, 3) := by decide +kernel
theorem dX5_garden_32 : decode cX5_garden 32 = .ok (.putfield 68, 3) := by decide +kernel
theorem dX5_garden_35 : decode cX5_garden 35 = .ok (.ldc 132, 2) := by decide +kernel
theorem dX5_garden_37 : decode cX5_garden 37 = .ok (.aload_n 0, 1) := by decide +kernel
theorem dX5_garden_38 : decode cX5_garden 38 = .ok (.getfield 18, 3) := by decide +kernel
theorem dX5_garden_41 : decode cX5_garden 41 = .ok (.getfield 133, 3) := by decide +kernel
theorem dX5_garden_44 : decode cX5_garden 44 = .ok (.isub, 1) := by decide +kernel
theorem dX5_garden_45 : decode cX5_garden 45 = .ok (.ireturn, 1) := by decide +kernel
theorem dX5_garden_46 : decode cX5_garden 46 = .ok (.aload_n 0, 1) := by decide +kernel
theorem dX5_garden_47 : decode cX5_garden 47 = .ok (.getfield 39, 3) := by decide +kernel
theorem dX5_garden_50 : decode cX5_garden 50 = .ok (.astore_n 2, 1) := by decide +kernel
theorem dX5_garden_51 : decode cX5_garden 51 = .ok (.aload_n 0, 1) := by decide +kernel
theorem dX5_garden_52 : decode cX5_garden 52 = .ok (.aload_n 0, 1) := by decide +kernel
theorem dX5_garden_53 : decode cX5_garden 53 = .ok (.getfield 43, 3) := by decide +kernel
theorem dX5_garden_56 : decode cX5_garden 56 = .ok (.putfield 39, 3) := by decide +kernel
theorem dX5_garden_59 : decode cX5_garden 59 = .ok (.aload_n 0, 1) := by decide +kernel
theorem dX5_garden_60 : decode cX5_garden 60 = .ok (.aload_n 2, 1) := by decide +kernel
theorem dX5_garden_61 : decode cX5_garden 61 = .ok (.putfield 43, 3) := by decide +kernel
theorem dX5_garden_64 : decode cX5_garden 64 = .ok (.aload_n 0, 1) := by decide +kernel
theorem dX5_garden_65 : decode cX5_garden 65 = .ok (.iconst 1, 1) := by decide +kernel
theorem dX5_garden_66 : decode cX5_garden 66 = .ok (.putfield 46, 3) := by decide +kernel
theorem dX5_garden_69 : decode cX5_garden 69 = .ok (.aload_n 0, 1) := by decide +kernel
theorem dX5_garden_70 : decode cX5_garden 70 = .ok (.iconst 0, 1) := by decide +kernel
theorem dX5_garden_71 : decode cX5_garden 71 = .ok (.putfield 58, 3) := by decide +kernel
theorem dX5_garden_74 : decode cX5_garden 74 = .ok (.aload_n 0, 1) := by decide +kernel
theorem dX5_garden_75 : decode cX5_garden 75 = .ok (.getfield 39, 3) := by decide +kernel
theorem dX5_garden_78 : decode cX5_garden 78 = .ok (.getfield 136, 3) := by decide +kernel
theorem dX5_garden_81 : decode cX5_garden 81 = .ok (.ireturn, 1) := by decide +kernel
theorem dX5_fault_0 : decode cX5_fault 0 = .ok (.aload_n 0, 1) := by decide +kernel
theorem dX5_fault_1 : decode cX5_fault 1 = .ok (.getfield 68, 3) := by decide +kernel
theorem dX5_fault_4 : decode cX5_fault 4 = .ok (.ireturn, 1) := by decide +kernel
theorem dX5_years_0 : decode cX5_years 0 = .ok (.aload_n 0, 1) := by decide +kernel
theorem dX5_years_1 : decode cX5_years 1 = .ok (.getfield 46, 3) := by decide +kernel
theorem dX5_years_4 : decode cX5_years 4 = .ok (.ifCond .ne 6, 3) := by decide +kernel
theorem dX5_years_7 : decode cX5_years 7 = .ok (.ldc 139, 2) := by decide +kernel
theorem dX5_years_9 : decode cX5_years 9 = .ok (.ireturn, 1) := by decide +kernel
theorem dX5_years_10 : decode cX5_years 10 = .ok (.iload_n 1, 1) := by decide +kernel
theorem dX5_years_11 : decode cX5_years 11 = .ok (.iconst 1, 1) := by decide +kernel
theorem dX5_years_12 : decode cX5_years 12 = .ok (.if_icmp .lt 9, 3) := by decide +kernel
theorem dX5_years_15 : decode cX5_years 15 = .ok (.iload_n 1, 1) := by decide +kernel
theorem dX5_years_16 : decode cX5_years 16 = .ok (.bipush 99, 2) := by decide +kernel
theorem dX5_years_18 : decode cX5_years 18 = .ok (.if_icmp .le 6, 3) := by decide +kernel
theorem dX5_years_21 : decode cX5_years 21 = .ok (.ldc 79, 2) := by decide +kernel
theorem dX5_years_23 : decode cX5_years 23 = .ok (.ireturn, 1) := by decide +kernel
theorem dX5_years_24 : decode cX5_years 24 = .ok (.aload_n 0, 1) := by decide +kernel
theorem dX5_years_25 : decode cX5_years 25 = .ok (.getfield 39, 3) := by decide +kernel
theorem dX5_years_28 : decode cX5_years 28 = .ok (.getfield 140, 3) := by decide +kernel
theorem dX5_years_31 : decode cX5_years 31 = .ok (.iload_n 1, 1) := by decide +kernel
theorem dX5_years_32 : decode cX5_years 32 = .ok (.iadd, 1) := by decide +kernel
theorem dX5_years_33 : decode cX5_years 33 = .ok (.sipush 999, 3) := by decide +kernel
theorem dX5_years_36 : decode cX5_years 36 = .ok (.if_icmp .le 6, 3) := by decide +kernel
theorem dX5_years_39 : decode cX5_years 39 = .ok (.ldc 120, 2) := by decide +kernel
theorem dX5_years_41 : decode cX5_years 41 = .ok (.ireturn, 1) := by decide +kernel
theorem dX5_years_42 : decode cX5_years 42 = .ok (.aload_n 0, 1) := by decide +kernel
theorem dX5_years_43 : decode cX5_years 43 = .ok (.invokevirtual 143, 3) := by decide +kernel
theorem dX5_years_46 : decode cX5_years 46 = .ok (.aload_n 0, 1) := by decide +kernel
theorem dX5_years_47 : decode cX5_years 47 = .ok (.getfield 39, 3) := by decide +kernel
theorem dX5_years_50 : decode cX5_years 50 = .ok (.dup, 1) := by decide +kernel
theorem dX5_years_51 : decode cX5_years 51 = .ok (.getfield 140, 3) := by decide +kernel
theorem dX5_years_54 : decode cX5_years 54 = .ok (.iload_n 1, 1) := by decide +kernel
theorem dX5_years_55 : decode cX5_years 55 = .ok (.iadd, 1) := by decide +kernel
theorem dX5_years_56 : decode cX5_years 56 = .ok (.putfield 140, 3) := by decide +kernel
theorem dX5_years_59 : decode cX5_years 59 = .ok (.aload_n 0, 1) := by decide +kernel
theorem dX5_years_60 : decode cX5_years 60 = .ok (.getfield 39, 3) := by decide +kernel
theorem dX5_years_63 : decode cX5_years 63 = .ok (.getfield 140, 3) := by decide +kernel
theorem dX5_years_66 : decode cX5_years 66 = .ok (.ireturn, 1) := by decide +kernel
theorem dX5_winter_0 : decode cX5_winter 0 = .ok (.aload_n 0, 1) := by decide +kernel
theorem dX5_winter_1 : decode cX5_winter 1 = .ok (.getfield 46, 3) := by decide +kernel
theorem dX5_winter_4 : decode cX5_winter 4 = .ok (.ifCond .ne 6, 3) := by decide +kernel
theorem dX5_winter_7 : decode cX5_winter 7 = .ok (.ldc 139, 2) := by decide +kernel
theorem dX5_winter_9 : decode cX5_winter 9 = .ok (.ireturn, 1) := by decide +kernel
theorem dX5_winter_10 : decode cX5_winter 10 = .ok (.iload_n 1, 1) := by decide +kernel
theorem dX5_winter_11 : decode cX5_winter 11 = .ok (.ifCond .lt 8, 3) := by decide +kernel
theorem dX5_winter_14 : decode cX5_winter 14 = .ok (.iload_n 1, 1) := by decide +kernel
theorem dX5_winter_15 : decode cX5_winter 15 = .ok (.iconst 1, 1) := by decide +kernel
theorem dX5_winter_16 : decode cX5_winter 16 = .ok (.if_icmp .le 6, 3) := by decide +kernel
theorem dX5_winter_19 : decode cX5_winter 19 = .ok (.ldc 79, 2) := by decide +kernel
theorem dX5_winter_21 : decode cX5_winter 21 = .ok (.ireturn, 1) := by decide +kernel
theorem dX5_winter_22 : decode cX5_winter 22 = .ok (.aload_n 0, 1) := by decide +kernel
theorem dX5_winter_23 : decode cX5_winter 23 = .ok (.invokevirtual 143, 3) := by decide +kernel
theorem dX5_winter_26 : decode cX5_winter 26 = .ok (.aload_n 0, 1) := by decide +kernel
theorem dX5_winter_27 : decode cX5_winter 27 = .ok (.getfield 39, 3) := by decide +kernel
theorem dX5_winter_30 : decode cX5_winter 30 = .ok (.getfield 146, 3) := by decide +kernel
theorem dX5_winter_33 : decode cX5_winter 33 = .ok (.ifCond .eq 7, 3) := by decide +kernel
theorem dX5_winter_36 : decode cX5_winter 36 = .ok (.iconst 1, 1) := by decide +kernel
theorem dX5_winter_37 : decode cX5_winter 37 = .ok (.goto 4, 3) := by decide +kernel
theorem dX5_winter_40 : decode cX5_winter 40 = .ok (.iconst 0, 1) := by decide +kernel
theorem dX5_winter_41 : decode cX5_winter 41 = .ok (.istore_n 2, 1) := by decide +kernel
theorem dX5_winter_42 : decode cX5_winter 42 = .ok (.aload_n 0, 1) := by decide +kernel
theorem dX5_winter_43 : decode cX5_winter 43 = .ok (.getfield 39, 3) := by decide +kernel
theorem dX5_winter_46 : decode cX5_winter 46 = .ok (.iload_n 1, 1) := by decide +kernel
theorem dX5_winter_47 : decode cX5_winter 47 = .ok (.iconst 1, 1) := by decide +kernel
theorem dX5_winter_48 : decode cX5_winter 48 = .ok (.if_icmp .ne 7, 3) := by decide +kernel
theorem dX5_winter_51 : decode cX5_winter 51 = .ok (.iconst 1, 1) := by decide +kernel
theorem dX5_winter_52 : decode cX5_winter 52 = .ok (.goto 4, 3) := by decide +kernel
theorem dX5_winter_55 : decode cX5_winter 55 = .ok (.iconst 0, 1) := by decide +kernel
theorem dX5_winter_56 : decode cX5_winter 56 = .ok (.putfield 146, 3) := by decide +kernel
theorem dX5_winter_59 : decode cX5_winter 59 = .ok (.iload_n 2, 1) := by decide +kernel
theorem dX5_winter_60 : decode cX5_winter 60 = .ok (.ireturn, 1) := by decide +kernel
theorem dX5_clip_0 : decode cX5_clip 0 = .ok (.aload_n 0, 1) := by decide +kernel
theorem dX5_clip_1 : decode cX5_clip 1 = .ok (.getfield 39, 3) := by decide +kernel
theorem dX5_clip_4 : decode cX5_clip 4 = .ok (.iload_n 1, 1) := by decide +kernel
theorem dX5_clip_5 : decode cX5_clip 5 = .ok (.invokevirtual 149, 3) := by decide +kernel
theorem dX5_clip_8 : decode cX5_clip 8 = .ok (.ifCond .eq 14, 3) := by decide +kernel
theorem dX5_clip_11 : decode cX5_clip 11 = .ok (.iload_n 2, 1) := by decide +kernel
theorem dX5_clip_12 : decode cX5_clip 12 = .ok (.iconst 1, 1) := by decide +kernel
theorem dX5_clip_13 : decode cX5_clip 13 = .ok (.if_icmp .lt 9, 3) := by decide +kernel
theorem dX5_clip_16 : decode cX5_clip 16 = .ok (.iload_n 2, 1) := by decide +kernel
theorem dX5_clip_17 : decode cX5_clip 17 = .ok (.bipush 99, 2) := by decide +kernel
theorem dX5_clip_19 : decode cX5_clip 19 = .ok (.if_icmp .le 6, 3) := by decide +kernel
theorem dX5_clip_22 : decode cX5_clip 22 = .ok (.ldc 79, 2) := by decide +kernel
theorem dX5_clip_24 : decode cX5_clip 24 = .ok (.ireturn, 1) := by decide +kernel
theorem dX5_clip_25 : decode cX5_clip 25 = .ok (.aload_n 0, 1) := by decide +kernel
theorem dX5_clip_26 : decode cX5_clip 26 = .ok (.getfield 39, 3) := by decide +kernel
theorem dX5_clip_29 : decode cX5_clip 29 = .ok (.iload_n 1, 1) := by decide +kernel
theorem dX5_clip_30 : decode cX5_clip 30 = .ok (.invokevirtual 152, 3) := by decide +kernel
theorem dX5_clip_33 : decode cX5_clip 33 = .ok (.ifCond .ne 6, 3) := by decide +kernel
theorem dX5_clip_36 : decode cX5_clip 36 = .ok (.ldc 139, 2) := by decide +kernel
theorem dX5_clip_38 : decode cX5_clip 38 = .ok (.ireturn, 1) := by decide +kernel
theorem dX5_clip_39 : decode cX5_clip 39 = .ok (.aload_n 0, 1) := by decide +kernel
theorem dX5_clip_40 : decode cX5_clip 40 = .ok (.invokevirtual 143, 3) := by decide +kernel
theorem dX5_clip_43 : decode cX5_clip 43 = .ok (.aload_n 0, 1) := by decide +kernel
theorem dX5_clip_44 : decode cX5_clip 44 = .ok (.getfield 39, 3) := by decide +kernel
theorem dX5_clip_47 : decode cX5_clip 47 = .ok (.getfield 155, 3) := by decide +kernel
theorem dX5_clip_50 : decode cX5_clip 50 = .ok (.iload_n 1, 1) := by decide +kernel
theorem dX5_clip_51 : decode cX5_clip 51 = .ok (.dup2, 1) := by decide +kernel
theorem dX5_clip_52 : decode cX5_clip 52 = .ok (.iaload, 1) := by decide +kernel
theorem dX5_clip_53 : decode cX5_clip 53 = .ok (.iload_n 2, 1) := by decide +kernel
theorem dX5_clip_54 : decode cX5_clip 54 = .ok (.iadd, 1) := by decide +kernel
theorem dX5_clip_55 : decode cX5_clip 55 = .ok (.iastore, 1) := by decide +kernel
theorem dX5_clip_56 : decode cX5_clip 56 = .ok (.aload_n 0, 1) := by decide +kernel
theorem dX5_clip_57 : decode cX5_clip 57 = .ok (.getfield 39, 3) := by decide +kernel
theorem dX5_clip_60 : decode cX5_clip 60 = .ok (.iload_n 1, 1) := by decide +kernel
theorem dX5_clip_61 : decode cX5_clip 61 = .ok (.invokevirtual 158, 3) := by decide +kernel
theorem dX5_clip_64 : decode cX5_clip 64 = .ok (.ireturn, 1) := by decide +kernel
theorem dX5_move_0 : decode cX5_move 0 = .ok (.aload_n 0, 1) := by decide +kernel
theorem dX5_move_1 : decode cX5_move 1 = .ok (.getfield 39, 3) := by decide +kernel
theorem dX5_move_4 : decode cX5_move 4 = .ok (.iload_n 1, 1) := by decide +kernel
theorem dX5_move_5 : decode cX5_move 5 = .ok (.invokevirtual 149, 3) := by decide +kernel
theorem dX5_move_8 : decode cX5_move 8 = .ok (.ifCond .eq 10, 3) := by decide +kernel
theorem dX5_move_11 : decode cX5_move 11 = .ok (.iload_n 2, 1) := by decide +kernel
theorem dX5_move_12 : decode cX5_move 12 = .ok (.invokestatic 161, 3) := by decide +kernel
theorem dX5_move_15 : decode cX5_move 15 = .ok (.ifCond .ne 6, 3) := by decide +kernel
theorem dX5_move_18 : decode cX5_move 18 = .ok (.ldc 79, 2) := by decide +kernel
theorem dX5_move_20 : decode cX5_move 20 = .ok (.ireturn, 1) := by decide +kernel
theorem dX5_move_21 : decode cX5_move 21 = .ok (.aload_n 0, 1) := by decide +kernel
theorem dX5_move_22 : decode cX5_move 22 = .ok (.getfield 39, 3) := by decide +kernel
theorem dX5_move_25 : decode cX5_move 25 = .ok (.iload_n 2, 1) := by decide +kernel
theorem dX5_move_26 : decode cX5_move 26 = .ok (.invokevirtual 164, 3) := by decide +kernel
theorem dX5_move_29 : decode cX5_move 29 = .ok (.ldc 167, 2) := by decide +kernel
theorem dX5_move_31 : decode cX5_move 31 = .ok (.if_icmp .eq 6, 3) := by decide +kernel
theorem dX5_move_34 : decode cX5_move 34 = .ok (.ldc 139, 2) := by decide +kernel
theorem dX5_move_36 : decode cX5_move 36 = .ok (.ireturn, 1) := by decide +kernel
theorem dX5_move_37 : decode cX5_move 37 = .ok (.aload_n 0, 1) := by decide +kernel
theorem dX5_move_38 : decode cX5_move 38 = .ok (.invokevirtual 143, 3) := by decide +kernel
theorem dX5_move_41 : decode cX5_move 41 = .ok (.aload_n 0, 1) := by decide +kernel
theorem dX5_move_42 : decode cX5_move 42 = .ok (.getfield 39, 3) := by decide +kernel
theorem dX5_move_45 : decode cX5_move 45 = .ok (.getfield 168, 3) := by decide +kernel
theorem dX5_move_48 : decode cX5_move 48 = .ok (.iload_n 1, 1) := by decide +kernel
theorem dX5_move_49 : decode cX5_move 49 = .ok (.iaload, 1) := by decide +kernel
theorem dX5_move_50 : decode cX5_move 50 = .ok (.istore_n 3, 1) := by decide +kernel
theorem dX5_move_51 : decode cX5_move 51 = .ok (.aload_n 0, 1) := by decide +kernel
theorem dX5_move_52 : decode cX5_move 52 = .ok (.getfield 39, 3) := by decide +kernel
theorem dX5_move_55 : decode cX5_move 55 = .ok (.getfield 168, 3) := by decide +kernel
theorem dX5_move_58 : decode cX5_move 58 = .ok (.iload_n 1, 1) := by decide +kernel
theorem dX5_move_59 : decode cX5_move 59 = .ok (.iload_n 2, 1) := by decide +kernel
theorem dX5_move_60 : decode cX5_move 60 = .ok (.iastore, 1) := by decide +kernel
theorem dX5_move_61 : decode cX5_move 61 = .ok (.iload_n 3, 1) := by decide +kernel
theorem dX5_move_62 : decode cX5_move 62 = .ok (.ireturn, 1) := by decide +kernel
theorem dX5_level_0 : decode cX5_level 0 = .ok (.aload_n 0, 1) := by decide +kernel
theorem dX5_level_1 : decode cX5_level 1 = .ok (.getfield 46, 3) := by decide +kernel
theorem dX5_level_4 : decode cX5_level 4 = .ok (.ifCond .ne 6, 3) := by decide +kernel
theorem dX5_level_7 : decode cX5_level 7 = .ok (.ldc 139, 2) := by decide +kernel
theorem dX5_level_9 : decode cX5_level 9 = .ok (.ireturn, 1) := by decide +kernel
theorem dX5_level_10 : decode cX5_level 10 = .ok (.iload_n 1, 1) := by decide +kernel
theorem dX5_level_11 : decode cX5_level 11 = .ok (.invokestatic 75, 3) := by decide +kernel
theorem dX5_level_14 : decode cX5_level 14 = .ok (.ifCond .ne 6, 3) := by decide +kernel
theorem dX5_level_17 : decode cX5_level 17 = .ok (.ldc 79, 2) := by decide +kernel
theorem dX5_level_19 : decode cX5_level 19 = .ok (.ireturn, 1) := by decide +kernel
theorem dX5_level_20 : decode cX5_level 20 = .ok (.aload_n 0, 1) := by decide +kernel
theorem dX5_level_21 : decode cX5_level 21 = .ok (.getfield 11, 3) := by decide +kernel
theorem dX5_level_24 : decode cX5_level 24 = .ok (.iload_n 1, 1) := by decide +kernel
theorem dX5_level_25 : decode cX5_level 25 = .ok (.aaload, 1) := by decide +kernel
theorem dX5_level_26 : decode cX5_level 26 = .ok (.astore_n 3, 1) := by decide +kernel
theorem dX5_level_27 : decode cX5_level 27 = .ok (.aload_n 3, 1) := by decide +kernel
theorem dX5_level_28 : decode cX5_level 28 = .ok (.getfield 91, 3) := by decide +kernel
theorem dX5_level_31 : decode cX5_level 31 = .ok (.ifCond .ne 9, 3) := by decide +kernel
theorem dX5_level_34 : decode cX5_level 34 = .ok (.aload_n 0, 1) := by decide +kernel
theorem dX5_level_35 : decode cX5_level 35 = .ok (.iconst 1, 1) := by decide +kernel
theorem dX5_level_36 : decode cX5_level 36 = .ok (.invokevirtual 80, 3) := by decide +kernel
theorem dX5_level_39 : decode cX5_level 39 = .ok (.ireturn, 1) := by decide +kernel
theorem dX5_level_40 : decode cX5_level 40 = .ok (.aload_n 3, 1) := by decide +kernel
theorem dX5_level_41 : decode cX5_level 41 = .ok (.iload_n 2, 1) := by decide +kernel
theorem dX5_level_42 : decode cX5_level 42 = .ok (.bipush 20, 2) := by decide +kernel
theorem dX5_level_44 : decode cX5_level 44 = .ok (.invokevirtual 107, 3) := by decide +kernel
theorem dX5_level_47 : decode cX5_level 47 = .ok (.ifCond .ne 9, 3) := by decide +kernel
theorem dX5_level_50 : decode cX5_level 50 = .ok (.aload_n 0, 1) := by decide +kernel
theorem dX5_level_51 : decode cX5_level 51 = .ok (.iconst 2, 1) := by decide +kernel
theorem dX5_level_52 : decode cX5_level 52 = .ok (.invokevirtual 80, 3) := by decide +kernel
theorem dX5_level_55 : decode cX5_level 55 = .ok (.ireturn, 1) := by decide +kernel
theorem dX5_level_56 : decode cX5_level 56 = .ok (.iconst 0, 1) := by decide +kernel
theorem dX5_level_57 : decode cX5_level 57 = .ok (.istore 4, 2) := by decide +kernel
theorem dX5_level_59 : decode cX5_level 59 = .ok (.iload 4, 2) := by decide +kernel
theorem dX5_level_61 : decode cX5_level 61 = .ok (.bipush 20, 2) := by decide +kernel
theorem dX5_level_63 : decode cX5_level 63 = .ok (.if_icmp .ge 38, 3) := by decide +kernel
theorem dX5_level_66 : decode cX5_level 66 = .ok (.aload_n 3, 1) := by decide +kernel
theorem dX5_level_67 : decode cX5_level 67 = .ok (.getfield 97, 3) := by decide +kernel
theorem dX5_level_70 : decode cX5_level 70 = .ok (.iload_n 2, 1) := by decide +kernel
theorem dX5_level_71 : decode cX5_level 71 = .ok (.iload 4, 2) := by decide +kernel
theorem dX5_level_73 : decode cX5_level 73 = .ok (.iadd, 1) := by decide +kernel
theorem dX5_level_74 : decode cX5_level 74 = .ok (.iaload, 1) := by decide +kernel
theorem dX5_level_75 : decode cX5_level 75 = .ok (.ifCond .lt 17, 3) := by decide +kernel
theorem dX5_level_78 : decode cX5_level 78 = .ok (.aload_n 3, 1) := by decide +kernel
theorem dX5_level_79 : decode cX5_level 79 = .ok (.getfield 97, 3) := by decide +kernel
theorem dX5_level_82 : decode cX5_level 82 = .ok (.iload_n 2, 1) := by decide +kernel
theorem dX5_level_83 : decode cX5_level 83 = .ok (.iload 4, 2) := by decide +kernel
theorem dX5_level_85 : decode cX5_level 85 = .ok (.iadd, 1) := by decide +kernel
theorem dX5_level_86 : decode cX5_level 86 = .ok (.iaload, 1) := by decide +kernel
theorem dX5_level_87 : decode cX5_level 87 = .ok (.bipush 60, 2) := by decide +kernel
theorem dX5_level_89 : decode cX5_level 89 = .ok (.if_icmp .le 6, 3) := by decide +kernel
theorem dX5_level_92 : decode cX5_level 92 = .ok (.ldc 79, 2) := by decide +kernel
theorem dX5_level_94 : decode cX5_level 94 = .ok (.ireturn, 1) := by decide +kernel
theorem dX5_level_95 : decode cX5_level 95 = .ok (.iinc 4 1, 3) := by decide +kernel
theorem dX5_level_98 : decode cX5_level 98 = .ok (.goto (-39), 3) := by decide +kernel
theorem dX5_level_101 : decode cX5_level 101 = .ok (.aload_n 0, 1) := by decide +kernel
theorem dX5_level_102 : decode cX5_level 102 = .ok (.invokevirtual 143, 3) := by decide +kernel
theorem dX5_level_105 : decode cX5_level 105 = .ok (.aload_n 3, 1) := by decide +kernel
theorem dX5_level_106 : decode cX5_level 106 = .ok (.getfield 97, 3) := by decide +kernel
theorem dX5_level_109 : decode cX5_level 109 = .ok (.iload_n 2, 1) := by decide +kernel
theorem dX5_level_110 : decode cX5_level 110 = .ok (.aload_n 0, 1) := by decide +kernel
theorem dX5_level_111 : decode cX5_level 111 = .ok (.getfield 39, 3) := by decide +kernel
theorem dX5_level_114 : decode cX5_level 114 = .ok (.getfield 171, 3) := by decide +kernel
theorem dX5_level_117 : decode cX5_level 117 = .ok (.iconst 0, 1) := by decide +kernel
theorem dX5_level_118 : decode cX5_level 118 = .ok (.bipush 20, 2) := by decide +kernel
theorem dX5_level_120 : decode cX5_level 120 = .ok (.invokestatic 111, 3) := by decide +kernel
theorem dX5_level_123 : decode cX5_level 123 = .ok (.aload_n 0, 1) := by decide +kernel
theorem dX5_level_124 : decode cX5_level 124 = .ok (.iconst 1, 1) := by decide +kernel
theorem dX5_level_125 : decode cX5_level 125 = .ok (.invokevirtual 88, 3) := by decide +kernel
theorem dX5_level_128 : decode cX5_level 128 = .ok (.ireturn, 1) := by decide +kernel
theorem dX5_undo_0 : decode cX5_undo 0 = .ok (.aload_n 0, 1) := by decide +kernel
theorem dX5_undo_1 : decode cX5_undo 1 = .ok (.getfield 58, 3) := by decide +kernel
theorem dX5_undo_4 : decode cX5_undo 4 = .ok (.ifCond .ne 6, 3) := by decide +kernel
theorem dX5_undo_7 : decode cX5_undo 7 = .ok (.ldc 139, 2) := by decide +kernel
theorem dX5_undo_9 : decode cX5_undo 9 = .ok (.ireturn, 1) := by decide +kernel
theorem dX5_undo_10 : decode cX5_undo 10 = .ok (.aload_n 0, 1) := by decide +kernel
theorem dX5_undo_11 : decode cX5_undo 11 = .ok (.aload_n 0, 1) := by decide +kernel
theorem dX5_undo_12 : decode cX5_undo 12 = .ok (.getfield 54, 3) := by decide +kernel
theorem dX5_undo_15 : decode cX5_undo 15 = .ok (.ifCond .ne 8, 3) := by decide +kernel
theorem dX5_undo_18 : decode cX5_undo 18 = .ok (.bipush 23, 2) := by decide +kernel
theorem dX5_undo_20 : decode cX5_undo 20 = .ok (.goto 9, 3) := by decide +kernel
theorem dX5_undo_23 : decode cX5_undo 23 = .ok (.aload_n 0, 1) := by decide +kernel
theorem dX5_undo_24 : decode cX5_undo 24 = .ok (.getfield 54, 3) := by decide +kernel
theorem dX5_undo_27 : decode cX5_undo 27 = .ok (.iconst 1, 1) := by decide +kernel
theorem dX5_undo_28 : decode cX5_undo 28 = .ok (.isub, 1) := by decide +kernel
theorem dX5_undo_29 : decode cX5_undo 29 = .ok (.putfield 54, 3) := by decide +kernel
theorem dX5_undo_32 : decode cX5_undo 32 = .ok (.aload_n 0, 1) := by decide +kernel
theorem dX5_undo_33 : decode cX5_undo 33 = .ok (.getfield 39, 3) := by decide +kernel
theorem dX5_undo_36 : decode cX5_undo 36 = .ok (.aload_n 0, 1) := by decide +kernel
theorem dX5_undo_37 : decode cX5_undo 37 = .ok (.getfield 50, 3) := by decide +kernel
theorem dX5_undo_40 : decode cX5_undo 40 = .ok (.aload_n 0, 1) := by decide +kernel
theorem dX5_undo_41 : decode cX5_undo 41 = .ok (.getfield 54, 3) := by decide +kernel
theorem dX5_undo_44 : decode cX5_undo 44 = .ok (.aaload, 1) := by decide +kernel
theorem dX5_undo_45 : decode cX5_undo 45 = .ok (.invokevirtual 174, 3) := by decide +kernel
theorem dX5_undo_48 : decode cX5_undo 48 = .ok (.aload_n 0, 1) := by decide +kernel
theorem dX5_undo_49 : decode cX5_undo 49 = .ok (.dup, 1) := by decide +kernel
theorem dX5_undo_50 : decode cX5_undo 50 = .ok (.getfield 58, 3) := by decide +kernel
theorem dX5_undo_53 : decode cX5_undo 53 = .ok (.iconst 1, 1) := by decide +kernel
theorem dX5_undo_54 : decode cX5_undo 54 = .ok (.isub, 1) := by decide +kernel
theorem dX5_undo_55 : decode cX5_undo 55 = .ok (.putfield 58, 3) := by decide +kernel
theorem dX5_undo_58 : decode cX5_undo 58 = .ok (.aload_n 0, 1) := by decide +kernel
theorem dX5_undo_59 : decode cX5_undo 59 = .ok (.getfield 58, 3) := by decide +kernel
theorem dX5_undo_62 : decode cX5_undo 62 = .ok (.ireturn, 1) := by decide +kernel
theorem dX5_tree_0 : decode cX5_tree 0 = .ok (.aload_n 0, 1) := by decide +kernel
theorem dX5_tree_1 : decode cX5_tree 1 = .ok (.getfield 39, 3) := by decide +kernel
theorem dX5_tree_4 : decode cX5_tree 4 = .ok (.iload_n 1, 1) := by decide +kernel
theorem dX5_tree_5 : decode cX5_tree 5 = .ok (.invokevirtual 149, 3) := by decide +kernel
theorem dX5_tree_8 : decode cX5_tree 8 = .ok (.ifCond .ne 6, 3) := by decide +kernel
theorem dX5_tree_11 : decode cX5_tree 11 = .ok (.ldc 79, 2) := by decide +kernel
theorem dX5_tree_13 : decode cX5_tree 13 = .ok (.ireturn, 1) := by decide +kernel
theorem dX5_tree_14 : decode cX5_tree 14 = .ok (.iload_n 2, 1) := by decide +kernel
theorem dX5_tree_15 : decode cX5_tree 15 = .ok (.tableswitch 68 0 3 #[29, 39, 48, 58], 29) := by decide +kernel
theorem dX5_tree_44 : decode cX5_tree 44 = .ok (.aload_n 0, 1) := by decide +kernel
theorem dX5_tree_45 : decode cX5_tree 45 = .ok (.getfield 39, 3) := by decide +kernel
theorem dX5_tree_48 : decode cX5_tree 48 = .ok (.getfield 168, 3) := by decide +kernel
theorem dX5_tree_51 : decode cX5_tree 51 = .ok (.iload_n 1, 1) := by decide +kernel
theorem dX5_tree_52 : decode cX5_tree 52 = .ok (.iaload, 1) := by decide +kernel
theorem dX5_tree_53 : decode cX5_tree 53 = .ok (.ireturn, 1) := by decide +kernel
theorem dX5_tree_54 : decode cX5_tree 54 = .ok (.aload_n 0, 1) := by decide +kernel
theorem dX5_tree_55 : decode cX5_tree 55 = .ok (.getfield 39, 3) := by decide +kernel
theorem dX5_tree_58 : decode cX5_tree 58 = .ok (.iload_n 1, 1) := by decide +kernel
theorem dX5_tree_59 : decode cX5_tree 59 = .ok (.invokevirtual 158, 3) := by decide +kernel
theorem dX5_tree_62 : decode cX5_tree 62 = .ok (.ireturn, 1) := by decide +kernel
theorem dX5_tree_63 : decode cX5_tree 63 = .ok (.aload_n 0, 1) := by decide +kernel
theorem dX5_tree_64 : decode cX5_tree 64 = .ok (.getfield 39, 3) := by decide +kernel
theorem dX5_tree_67 : decode cX5_tree 67 = .ok (.getfield 155, 3) := by decide +kernel
theorem dX5_tree_70 : decode cX5_tree 70 = .ok (.iload_n 1, 1) := by decide +kernel
theorem dX5_tree_71 : decode cX5_tree 71 = .ok (.iaload, 1) := by decide +kernel
theorem dX5_tree_72 : decode cX5_tree 72 = .ok (.ireturn, 1) := by decide +kernel
theorem dX5_tree_73 : decode cX5_tree 73 = .ok (.aload_n 0, 1) := by decide +kernel
theorem dX5_tree_74 : decode cX5_tree 74 = .ok (.getfield 39, 3) := by decide +kernel
theorem dX5_tree_77 : decode cX5_tree 77 = .ok (.getfield 178, 3) := by decide +kernel
theorem dX5_tree_80 : decode cX5_tree 80 = .ok (.iload_n 1, 1) := by decide +kernel
theorem dX5_tree_81 : decode cX5_tree 81 = .ok (.iaload, 1) := by decide +kernel
theorem dX5_tree_82 : decode cX5_tree 82 = .ok (.ireturn, 1) := by decide +kernel
theorem dX5_tree_83 : decode cX5_tree 83 = .ok (.ldc 79, 2) := by decide +kernel
theorem dX5_tree_85 : decode cX5_tree 85 = .ok (.ireturn, 1) := by decide +kernel
theorem dX5_site_0 : decode cX5_site 0 = .ok (.aload_n 0, 1) := by decide +kernel
theorem dX5_site_1 : decode cX5_site 1 = .ok (.getfield 46, 3) := by decide +kernel
theorem dX5_site_4 : decode cX5_site 4 = .ok (.ifCond .ne 6, 3) := by decide +kernel
theorem dX5_site_7 : decode cX5_site 7 = .ok (.ldc 139, 2) := by decide +kernel
theorem dX5_site_9 : decode cX5_site 9 = .ok (.ireturn, 1) := by decide +kernel
theorem dX5_site_10 : decode cX5_site 10 = .ok (.iload_n 1, 1) := by decide +kernel
theorem dX5_site_11 : decode cX5_site 11 = .ok (.ifCond .lt 9, 3) := by decide +kernel
theorem dX5_site_14 : decode cX5_site 14 = .ok (.iload_n 1, 1) := by decide +kernel
theorem dX5_site_15 : decode cX5_site 15 = .ok (.bipush 19, 2) := by decide +kernel
theorem dX5_site_17 : decode cX5_site 17 = .ok (.if_icmp .le 6, 3) := by decide +kernel
theorem dX5_site_20 : decode cX5_site 20 = .ok (.ldc 79, 2) := by decide +kernel
theorem dX5_site_22 : decode cX5_site 22 = .ok (.ireturn, 1) := by decide +kernel
theorem dX5_site_23 : decode cX5_site 23 = .ok (.iload_n 2, 1) := by decide +kernel
theorem dX5_site_24 : decode cX5_site 24 = .ok (.tableswitch 68 0 2 #[28, 38, 59], 28) := by decide +kernel
theorem dX5_site_52 : decode cX5_site 52 = .ok (.aload_n 0, 1) := by decide +kernel
theorem dX5_site_53 : decode cX5_site 53 = .ok (.getfield 39, 3) := by decide +kernel
theorem dX5_site_56 : decode cX5_site 56 = .ok (.getfield 171, 3) := by decide +kernel
theorem dX5_site_59 : decode cX5_site 59 = .ok (.iload_n 1, 1) := by decide +kernel
theorem dX5_site_60 : decode cX5_site 60 = .ok (.iaload, 1) := by decide +kernel
theorem dX5_site_61 : decode cX5_site 61 = .ok (.ireturn, 1) := by decide +kernel
theorem dX5_site_62 : decode cX5_site 62 = .ok (.aload_n 0, 1) := by decide +kernel
theorem dX5_site_63 : decode cX5_site 63 = .ok (.getfield 25, 3) := by decide +kernel
theorem dX5_site_66 : decode cX5_site 66 = .ok (.aload_n 0, 1) := by decide +kernel
theorem dX5_site_67 : decode cX5_site 67 = .ok (.getfield 39, 3) := by decide +kernel
theorem dX5_site_70 : decode cX5_site 70 = .ok (.invokevirtual 181, 3) := by decide +kernel
theorem dX5_site_73 : decode cX5_site 73 = .ok (.aload_n 0, 1) := by decide +kernel
theorem dX5_site_74 : decode cX5_site 74 = .ok (.getfield 25, 3) := by decide +kernel
theorem dX5_site_77 : decode cX5_site 77 = .ok (.getfield 184, 3) := by decide +kernel
theorem dX5_site_80 : decode cX5_site 80 = .ok (.iload_n 1, 1) := by decide +kernel
theorem dX5_site_81 : decode cX5_site 81 = .ok (.iaload, 1) := by decide +kernel
theorem dX5_site_82 : decode cX5_site 82 = .ok (.ireturn, 1) := by decide +kernel
theorem dX5_site_83 : decode cX5_site 83 = .ok (.aload_n 0, 1) := by decide +kernel
theorem dX5_site_84 : decode cX5_site 84 = .ok (.getfield 39, 3) := by decide +kernel
theorem dX5_site_87 : decode cX5_site 87 = .ok (.iload_n 1, 1) := by decide +kernel
theorem dX5_site_88 : decode cX5_site 88 = .ok (.invokevirtual 164, 3) := by decide +kernel
theorem dX5_site_91 : decode cX5_site 91 = .ok (.ireturn, 1) := by decide +kernel
theorem dX5_site_92 : decode cX5_site 92 = .ok (.ldc 79, 2) := by decide +kernel
theorem dX5_site_94 : decode cX5_site 94 = .ok (.ireturn, 1) := by decide +kernel
theorem dX5_seen_0 : decode cX5_seen 0 = .ok (.aload_n 0, 1) := by decide +kernel
theorem dX5_seen_1 : decode cX5_seen 1 = .ok (.getfield 46, 3) := by decide +kernel
theorem dX5_seen_4 : decode cX5_seen 4 = .ok (.ifCond .ne 6, 3) := by decide +kernel
theorem dX5_seen_7 : decode cX5_seen 7 = .ok (.ldc 139, 2) := by decide +kernel
theorem dX5_seen_9 : decode cX5_seen 9 = .ok (.ireturn, 1) := by decide +kernel
theorem dX5_seen_10 : decode cX5_seen 10 = .ok (.iload_n 1, 1) := by decide +kernel
theorem dX5_seen_11 : decode cX5_seen 11 = .ok (.ifCond .lt 16, 3) := by decide +kernel
theorem dX5_seen_14 : decode cX5_seen 14 = .ok (.iload_n 1, 1) := by decide +kernel
theorem dX5_seen_15 : decode cX5_seen 15 = .ok (.bipush 19, 2) := by decide +kernel
theorem dX5_seen_17 : decode cX5_seen 17 = .ok (.if_icmp .ge 10, 3) := by decide +kernel
theorem dX5_seen_20 : decode cX5_seen 20 = .ok (.iload_n 2, 1) := by decide +kernel
theorem dX5_seen_21 : decode cX5_seen 21 = .ok (.invokestatic 187, 3) := by decide +kernel
theorem dX5_seen_24 : decode cX5_seen 24 = .ok (.ifCond .ne 6, 3) := by decide +kernel
theorem dX5_seen_27 : decode cX5_seen 27 = .ok (.ldc 79, 2) := by decide +kernel
theorem dX5_seen_29 : decode cX5_seen 29 = .ok (.ireturn, 1) := by decide +kernel
theorem dX5_seen_30 : decode cX5_seen 30 = .ok (.aload_n 0, 1) := by decide +kernel
theorem dX5_seen_31 : decode cX5_seen 31 = .ok (.getfield 25, 3) := by decide +kernel
theorem dX5_seen_34 : decode cX5_seen 34 = .ok (.aload_n 0, 1) := by decide +kernel
theorem dX5_seen_35 : decode cX5_seen 35 = .ok (.getfield 39, 3) := by decide +kernel
theorem dX5_seen_38 : decode cX5_seen 38 = .ok (.invokevirtual 181, 3) := by decide +kernel
theorem dX5_seen_41 : decode cX5_seen 41 = .ok (.aload_n 0, 1) := by decide +kernel
theorem dX5_seen_42 : decode cX5_seen 42 = .ok (.getfield 25, 3) := by decide +kernel
theorem dX5_seen_45 : decode cX5_seen 45 = .ok (.aload_n 0, 1) := by decide +kernel
theorem dX5_seen_46 : decode cX5_seen 46 = .ok (.getfield 39, 3) := by decide +kernel
theorem dX5_seen_49 : decode cX5_seen 49 = .ok (.iload_n 1, 1) := by decide +kernel
theorem dX5_seen_50 : decode cX5_seen 50 = .ok (.iload_n 2, 1) := by decide +kernel
theorem dX5_seen_51 : decode cX5_seen 51 = .ok (.invokevirtual 190, 3) := by decide +kernel
theorem dX5_seen_54 : decode cX5_seen 54 = .ok (.ireturn, 1) := by decide +kernel
theorem dX5_doubled_0 : decode cX5_doubled 0 = .ok (.aload_n 0, 1) := by decide +kernel
theorem dX5_doubled_1 : decode cX5_doubled 1 = .ok (.getfield 46, 3) := by decide +kernel
theorem dX5_doubled_4 : decode cX5_doubled 4 = .ok (.ifCond .ne 6, 3) := by decide +kernel
theorem dX5_doubled_7 : decode cX5_doubled 7 = .ok (.ldc 139, 2) := by decide +kernel
theorem dX5_doubled_9 : decode cX5_doubled 9 = .ok (.ireturn, 1) := by decide +kernel
theorem dX5_doubled_10 : decode cX5_doubled 10 = .ok (.iload_n 1, 1) := by decide +kernel
theorem dX5_doubled_11 : decode cX5_doubled 11 = .ok (.invokestatic 187, 3) := by decide +kernel
theorem dX5_doubled_14 : decode cX5_doubled 14 = .ok (.ifCond .ne 6, 3) := by decide +kernel
theorem dX5_doubled_17 : decode cX5_doubled 17 = .ok (.ldc 79, 2) := by decide +kernel
theorem dX5_doubled_19 : decode cX5_doubled 19 = .ok (.ireturn, 1) := by decide +kernel
theorem dX5_doubled_20 : decode cX5_doubled 20 = .ok (.aload_n 0, 1) := by decide +kernel
theorem dX5_doubled_21 : decode cX5_doubled 21 = .ok (.getfield 25, 3) := by decide +kernel
theorem dX5_doubled_24 : decode cX5_doubled 24 = .ok (.aload_n 0, 1) := by decide +kernel
theorem dX5_doubled_25 : decode cX5_doubled 25 = .ok (.getfield 39, 3) := by decide +kernel
theorem dX5_doubled_28 : decode cX5_doubled 28 = .ok (.invokevirtual 181, 3) := by decide +kernel
theorem dX5_doubled_31 : decode cX5_doubled 31 = .ok (.iconst 0, 1) := by decide +kernel
theorem dX5_doubled_32 : decode cX5_doubled 32 = .ok (.istore_n 2, 1) := by decide +kernel
theorem dX5_doubled_33 : decode cX5_doubled 33 = .ok (.iconst 0, 1) := by decide +kernel
theorem dX5_doubled_34 : decode cX5_doubled 34 = .ok (.istore_n 3, 1) := by decide +kernel
theorem dX5_doubled_35 : decode cX5_doubled 35 = .ok (.iload_n 3, 1) := by decide +kernel
theorem dX5_doubled_36 : decode cX5_doubled 36 = .ok (.aload_n 0, 1) := by decide +kernel
theorem dX5_doubled_37 : decode cX5_doubled 37 = .ok (.getfield 39, 3) := by decide +kernel
theorem dX5_doubled_40 : decode cX5_doubled 40 = .ok (.getfield 194, 3) := by decide +kernel
theorem dX5_doubled_43 : decode cX5_doubled 43 = .ok (.if_icmp .ge 31, 3) := by decide +kernel
theorem dX5_doubled_46 : decode cX5_doubled 46 = .ok (.aload_n 0, 1) := by decide +kernel
theorem dX5_doubled_47 : decode cX5_doubled 47 = .ok (.getfield 25, 3) := by decide +kernel
theorem dX5_doubled_50 : decode cX5_doubled 50 = .ok (.aload_n 0, 1) := by decide +kernel
theorem dX5_doubled_51 : decode cX5_doubled 51 = .ok (.getfield 39, 3) := by decide +kernel
theorem dX5_doubled_54 : decode cX5_doubled 54 = .ok (.iload_n 3, 1) := by decide +kernel
theorem dX5_doubled_55 : decode cX5_doubled 55 = .ok (.iload_n 1, 1) := by decide +kernel
theorem dX5_doubled_56 : decode cX5_doubled 56 = .ok (.invokevirtual 197, 3) := by decide +kernel
theorem dX5_doubled_59 : decode cX5_doubled 59 = .ok (.ifCond .eq 9, 3) := by decide +kernel
theorem dX5_doubled_62 : decode cX5_doubled 62 = .ok (.iload_n 2, 1) := by decide +kernel
theorem dX5_doubled_63 : decode cX5_doubled 63 = .ok (.iconst 1, 1) := by decide +kernel
theorem dX5_doubled_64 : decode cX5_doubled 64 = .ok (.iload_n 3, 1) := by decide +kernel
theorem dX5_doubled_65 : decode cX5_doubled 65 = .ok (.ishl, 1) := by decide +kernel
theorem dX5_doubled_66 : decode cX5_doubled 66 = .ok (.ior, 1) := by decide +kernel
theorem dX5_doubled_67 : decode cX5_doubled 67 = .ok (.istore_n 2, 1) := by decide +kernel
theorem dX5_doubled_68 : decode cX5_doubled 68 = .ok (.iinc 3 1, 3) := by decide +kernel
theorem dX5_doubled_71 : decode cX5_doubled 71 = .ok (.goto (-36), 3) := by decide +kernel
theorem dX5_doubled_74 : decode cX5_doubled 74 = .ok (.iload_n 2, 1) := by decide +kernel
theorem dX5_doubled_75 : decode cX5_doubled 75 = .ok (.ireturn, 1) := by decide +kernel
theorem dX5_met_0 : decode cX5_met 0 = .ok (.aload_n 0, 1) := by decide +kernel
theorem dX5_met_1 : decode cX5_met 1 = .ok (.getfield 46, 3) := by decide +kernel
theorem dX5_met_4 : decode cX5_met 4 = .ok (.ifCond .ne 6, 3) := by decide +kernel
theorem dX5_met_7 : decode cX5_met 7 = .ok (.ldc 139, 2) := by decide +kernel
theorem dX5_met_9 : decode cX5_met 9 = .ok (.ireturn, 1) := by decide +kernel
theorem dX5_met_10 : decode cX5_met 10 = .ok (.iload_n 1, 1) := by decide +kernel
theorem dX5_met_11 : decode cX5_met 11 = .ok (.ifCond .ge 6, 3) := by decide +kernel
theorem dX5_met_14 : decode cX5_met 14 = .ok (.ldc 79, 2) := by decide +kernel
theorem dX5_met_16 : decode cX5_met 16 = .ok (.ireturn, 1) := by decide +kernel
theorem dX5_met_17 : decode cX5_met 17 = .ok (.aload_n 0, 1) := by decide +kernel
theorem dX5_met_18 : decode cX5_met 18 = .ok (.getfield 25, 3) := by decide +kernel
theorem dX5_met_21 : decode cX5_met 21 = .ok (.aload_n 0, 1) := by decide +kernel
theorem dX5_met_22 : decode cX5_met 22 = .ok (.getfield 39, 3) := by decide +kernel
theorem dX5_met_25 : decode cX5_met 25 = .ok (.invokevirtual 181, 3) := by decide +kernel
theorem dX5_met_28 : decode cX5_met 28 = .ok (.iconst 0, 1) := by decide +kernel
theorem dX5_met_29 : decode cX5_met 29 = .ok (.istore_n 2, 1) := by decide +kernel
theorem dX5_met_30 : decode cX5_met 30 = .ok (.iconst 0, 1) := by decide +kernel
theorem dX5_met_31 : decode cX5_met 31 = .ok (.istore_n 3, 1) := by decide +kernel
theorem dX5_met_32 : decode cX5_met 32 = .ok (.iload_n 3, 1) := by decide +kernel
theorem dX5_met_33 : decode cX5_met 33 = .ok (.bipush 31, 2) := by decide +kernel
theorem dX5_met_35 : decode cX5_met 35 = .ok (.if_icmp .ge 38, 3) := by decide +kernel
theorem dX5_met_38 : decode cX5_met 38 = .ok (.iload_n 1, 1) := by decide +kernel
theorem dX5_met_39 : decode cX5_met 39 = .ok (.iload_n 3, 1) := by decide +kernel
theorem dX5_met_40 : decode cX5_met 40 = .ok (.invokestatic 201, 3) := by decide +kernel
theorem dX5_met_43 : decode cX5_met 43 = .ok (.ifCond .eq 24, 3) := by decide +kernel
theorem dX5_met_46 : decode cX5_met 46 = .ok (.aload_n 0, 1) := by decide +kernel
theorem dX5_met_47 : decode cX5_met 47 = .ok (.getfield 25, 3) := by decide +kernel
theorem dX5_met_50 : decode cX5_met 50 = .ok (.aload_n 0, 1) := by decide +kernel
theorem dX5_met_51 : decode cX5_met 51 = .ok (.getfield 39, 3) := by decide +kernel
theorem dX5_met_54 : decode cX5_met 54 = .ok (.iload_n 3, 1) := by decide +kernel
theorem dX5_met_55 : decode cX5_met 55 = .ok (.invokevirtual 204, 3) := by decide +kernel
theorem dX5_met_58 : decode cX5_met 58 = .ok (.ifCond .eq 9, 3) := by decide +kernel
theorem dX5_met_61 : decode cX5_met 61 = .ok (.iload_n 2, 1) := by decide +kernel
theorem dX5_met_62 : decode cX5_met 62 = .ok (.iconst 1, 1) := by decide +kernel
theorem dX5_met_63 : decode cX5_met 63 = .ok (.iload_n 3, 1) := by decide +kernel
theorem dX5_met_64 : decode cX5_met 64 = .ok (.ishl, 1) := by decide +kernel
theorem dX5_met_65 : decode cX5_met 65 = .ok (.ior, 1) := by decide +kernel
theorem dX5_met_66 : decode cX5_met 66 = .ok (.istore_n 2, 1) := by decide +kernel
theorem dX5_met_67 : decode cX5_met 67 = .ok (.iinc 3 1, 3) := by decide +kernel
theorem dX5_met_70 : decode cX5_met 70 = .ok (.goto (-38), 3) := by decide +kernel
theorem dX5_met_73 : decode cX5_met 73 = .ok (.iload_n 2, 1) := by decide +kernel
theorem dX5_met_74 : decode cX5_met 74 = .ok (.ireturn, 1) := by decide +kernel
theorem dX5_cut_0 : decode cX5_cut 0 = .ok (.iload_n 1, 1) := by decide +kernel
theorem dX5_cut_1 : decode cX5_cut 1 = .ok (.ifCond .lt 41, 3) := by decide +kernel
theorem dX5_cut_4 : decode cX5_cut 4 = .ok (.iload 4, 2) := by decide +kernel
theorem dX5_cut_6 : decode cX5_cut 6 = .ok (.ifCond .lt 36, 3) := by decide +kernel
theorem dX5_cut_9 : decode cX5_cut 9 = .ok (.iload 4, 2) := by decide +kernel
theorem dX5_cut_11 : decode cX5_cut 11 = .ok (.iconst 1, 1) := by decide +kernel
theorem dX5_cut_12 : decode cX5_cut 12 = .ok (.if_icmp .gt 30, 3) := by decide +kernel
theorem dX5_cut_15 : decode cX5_cut 15 = .ok (.iload_n 2, 1) := by decide +kernel
theorem dX5_cut_16 : decode cX5_cut 16 = .ok (.iload_n 3, 1) := by decide +kernel
theorem dX5_cut_17 : decode cX5_cut 17 = .ok (.if_icmp .eq 25, 3) := by decide +kernel
theorem dX5_cut_20 : decode cX5_cut 20 = .ok (.aload_n 0, 1) := by decide +kernel
theorem dX5_cut_21 : decode cX5_cut 21 = .ok (.getfield 39, 3) := by decide +kernel
theorem dX5_cut_24 : decode cX5_cut 24 = .ok (.iload_n 2, 1) := by decide +kernel
theorem dX5_cut_25 : decode cX5_cut 25 = .ok (.invokevirtual 152, 3) := by decide +kernel
theorem dX5_cut_28 : decode cX5_cut 28 = .ok (.ifCond .eq 14, 3) := by decide +kernel
theorem dX5_cut_31 : decode cX5_cut 31 = .ok (.aload_n 0, 1) := by decide +kernel
theorem dX5_cut_32 : decode cX5_cut 32 = .ok (.getfield 39, 3) := by decide +kernel
theorem dX5_cut_35 : decode cX5_cut 35 = .ok (.iload_n 3, 1) := by decide +kernel
theorem dX5_cut_36 : decode cX5_cut 36 = .ok (.invokevirtual 152, 3) := by decide +kernel
theorem dX5_cut_39 : decode cX5_cut 39 = .ok (.ifCond .ne 6, 3) := by decide +kernel
theorem dX5_cut_42 : decode cX5_cut 42 = .ok (.ldc 79, 2) := by decide +kernel
theorem dX5_cut_44 : decode cX5_cut 44 = .ok (.ireturn, 1) := by decide +kernel
theorem dX5_cut_45 : decode cX5_cut 45 = .ok (.aload_n 0, 1) := by decide +kernel
theorem dX5_cut_46 : decode cX5_cut 46 = .ok (.getfield 25, 3) := by decide +kernel
theorem dX5_cut_49 : decode cX5_cut 49 = .ok (.aload_n 0, 1) := by decide +kernel
theorem dX5_cut_50 : decode cX5_cut 50 = .ok (.getfield 39, 3) := by decide +kernel
theorem dX5_cut_53 : decode cX5_cut 53 = .ok (.invokevirtual 181, 3) := by decide +kernel
theorem dX5_cut_56 : decode cX5_cut 56 = .ok (.aload_n 0, 1) := by decide +kernel
theorem dX5_cut_57 : decode cX5_cut 57 = .ok (.iload_n 1, 1) := by decide +kernel
theorem dX5_cut_58 : decode cX5_cut 58 = .ok (.iload_n 2, 1) := by decide +kernel
theorem dX5_cut_59 : decode cX5_cut 59 = .ok (.invokevirtual 208, 3) := by decide +kernel
theorem dX5_cut_62 : decode cX5_cut 62 = .ok (.istore 5, 2) := by decide +kernel
theorem dX5_cut_64 : decode cX5_cut 64 = .ok (.aload_n 0, 1) := by decide +kernel
theorem dX5_cut_65 : decode cX5_cut 65 = .ok (.iload_n 1, 1) := by decide +kernel
theorem dX5_cut_66 : decode cX5_cut 66 = .ok (.iload_n 3, 1) := by decide +kernel
theorem dX5_cut_67 : decode cX5_cut 67 = .ok (.invokevirtual 208, 3) := by decide +kernel
theorem dX5_cut_70 : decode cX5_cut 70 = .ok (.istore 6, 2) := by decide +kernel
theorem dX5_cut_72 : decode cX5_cut 72 = .ok (.iload 5, 2) := by decide +kernel
theorem dX5_cut_74 : decode cX5_cut 74 = .ok (.aload_n 0, 1) := by decide +kernel
theorem dX5_cut_75 : decode cX5_cut 75 = .ok (.getfield 39, 3) := by decide +kernel
theorem dX5_cut_78 : decode cX5_cut 78 = .ok (.iload_n 2, 1) := by decide +kernel
theorem dX5_cut_79 : decode cX5_cut 79 = .ok (.invokevirtual 158, 3) := by decide +kernel
theorem dX5_cut_82 : decode cX5_cut 82 = .ok (.if_icmp .gt 16, 3) := by decide +kernel
theorem dX5_cut_85 : decode cX5_cut 85 = .ok (.iload 6, 2) := by decide +kernel
theorem dX5_cut_87 : decode cX5_cut 87 = .ok (.aload_n 0, 1) := by decide +kernel
theorem dX5_cut_88 : decode cX5_cut 88 = .ok (.getfield 39, 3) := by decide +kernel
theorem dX5_cut_91 : decode cX5_cut 91 = .ok (.iload_n 3, 1) := by decide +kernel
theorem dX5_cut_92 : decode cX5_cut 92 = .ok (.invokevirtual 158, 3) := by decide +kernel
theorem dX5_cut_95 : decode cX5_cut 95 = .ok (.if_icmp .le 6, 3) := by decide +kernel
theorem dX5_cut_98 : decode cX5_cut 98 = .ok (.ldc 167, 2) := by decide +kernel
theorem dX5_cut_100 : decode cX5_cut 100 = .ok (.ireturn, 1) := by decide +kernel
theorem dX5_cut_101 : decode cX5_cut 101 = .ok (.aload_n 0, 1) := by decide +kernel
theorem dX5_cut_102 : decode cX5_cut 102 = .ok (.getfield 25, 3) := by decide +kernel
theorem dX5_cut_105 : decode cX5_cut 105 = .ok (.aload_n 0, 1) := by decide +kernel
theorem dX5_cut_106 : decode cX5_cut 106 = .ok (.getfield 39, 3) := by decide +kernel
theorem dX5_cut_109 : decode cX5_cut 109 = .ok (.getfield 168, 3) := by decide +kernel
theorem dX5_cut_112 : decode cX5_cut 112 = .ok (.iload_n 2, 1) := by decide +kernel
theorem dX5_cut_113 : decode cX5_cut 113 = .ok (.iaload, 1) := by decide +kernel
theorem dX5_cut_114 : decode cX5_cut 114 = .ok (.iload 5, 2) := by decide +kernel
theorem dX5_cut_116 : decode cX5_cut 116 = .ok (.ineg, 1) := by decide +kernel
theorem dX5_cut_117 : decode cX5_cut 117 = .ok (.invokevirtual 212, 3) := by decide +kernel
theorem dX5_cut_120 : decode cX5_cut 120 = .ok (.aload_n 0, 1) := by decide +kernel
theorem dX5_cut_121 : decode cX5_cut 121 = .ok (.getfield 25, 3) := by decide +kernel
theorem dX5_cut_124 : decode cX5_cut 124 = .ok (.aload_n 0, 1) := by decide +kernel
theorem dX5_cut_125 : decode cX5_cut 125 = .ok (.getfield 39, 3) := by decide +kernel
theorem dX5_cut_128 : decode cX5_cut 128 = .ok (.getfield 168, 3) := by decide +kernel
theorem dX5_cut_131 : decode cX5_cut 131 = .ok (.iload_n 3, 1) := by decide +kernel
theorem dX5_cut_132 : decode cX5_cut 132 = .ok (.iaload, 1) := by decide +kernel
theorem dX5_cut_133 : decode cX5_cut 133 = .ok (.iload 6, 2) := by decide +kernel
theorem dX5_cut_135 : decode cX5_cut 135 = .ok (.ineg, 1) := by decide +kernel
theorem dX5_cut_136 : decode cX5_cut 136 = .ok (.invokevirtual 212, 3) := by decide +kernel
theorem dX5_cut_139 : decode cX5_cut 139 = .ok (.aload_n 0, 1) := by decide +kernel
theorem dX5_cut_140 : decode cX5_cut 140 = .ok (.getfield 25, 3) := by decide +kernel
theorem dX5_cut_143 : decode cX5_cut 143 = .ok (.aload_n 0, 1) := by decide +kernel
theorem dX5_cut_144 : decode cX5_cut 144 = .ok (.getfield 39, 3) := by decide +kernel
theorem dX5_cut_147 : decode cX5_cut 147 = .ok (.iload_n 1, 1) := by decide +kernel
theorem dX5_cut_148 : decode cX5_cut 148 = .ok (.invokevirtual 215, 3) := by decide +kernel
theorem dX5_cut_151 : decode cX5_cut 151 = .ok (.ifCond .ne 6, 3) := by decide +kernel
theorem dX5_cut_154 : decode cX5_cut 154 = .ok (.ldc 167, 2) := by decide +kernel
theorem dX5_cut_156 : decode cX5_cut 156 = .ok (.ireturn, 1) := by decide +kernel
theorem dX5_cut_157 : decode cX5_cut 157 = .ok (.iload 4, 2) := by decide +kernel
theorem dX5_cut_159 : decode cX5_cut 159 = .ok (.ifCond .ne 11, 3) := by decide +kernel
theorem dX5_cut_162 : decode cX5_cut 162 = .ok (.iload 5, 2) := by decide +kernel
theorem dX5_cut_164 : decode cX5_cut 164 = .ok (.iload 6, 2) := by decide +kernel
theorem dX5_cut_166 : decode cX5_cut 166 = .ok (.iadd, 1) := by decide +kernel
theorem dX5_cut_167 : decode cX5_cut 167 = .ok (.goto 5, 3) := by decide +kernel
theorem dX5_cut_170 : decode cX5_cut 170 = .ok (.iload 5, 2) := by decide +kernel
theorem dX5_cut_172 : decode cX5_cut 172 = .ok (.ireturn, 1) := by decide +kernel
theorem dX5_plant_0 : decode cX5_plant 0 = .ok (.aload_n 0, 1) := by decide +kernel
theorem dX5_plant_1 : decode cX5_plant 1 = .ok (.getfield 46, 3) := by decide +kernel
theorem dX5_plant_4 : decode cX5_plant 4 = .ok (.ifCond .ne 6, 3) := by decide +kernel
theorem dX5_plant_7 : decode cX5_plant 7 = .ok (.ldc 139, 2) := by decide +kernel
theorem dX5_plant_9 : decode cX5_plant 9 = .ok (.ireturn, 1) := by decide +kernel
theorem dX5_plant_10 : decode cX5_plant 10 = .ok (.iload_n 1, 1) := by decide +kernel
theorem dX5_plant_11 : decode cX5_plant 11 = .ok (.ifCond .lt 34, 3) := by decide +kernel
theorem dX5_plant_14 : decode cX5_plant 14 = .ok (.iload_n 2, 1) := by decide +kernel
theorem dX5_plant_15 : decode cX5_plant 15 = .ok (.ifCond .lt 30, 3) := by decide +kernel
theorem dX5_plant_18 : decode cX5_plant 18 = .ok (.iload_n 2, 1) := by decide +kernel
theorem dX5_plant_19 : decode cX5_plant 19 = .ok (.iconst 4, 1) := by decide +kernel
theorem dX5_plant_20 : decode cX5_plant 20 = .ok (.if_icmp .gt 25, 3) := by decide +kernel
theorem dX5_plant_23 : decode cX5_plant 23 = .ok (.iload_n 3, 1) := by decide +kernel
theorem dX5_plant_24 : decode cX5_plant 24 = .ok (.ifCond .lt 21, 3) := by decide +kernel
theorem dX5_plant_27 : decode cX5_plant 27 = .ok (.iload_n 3, 1) := by decide +kernel
theorem dX5_plant_28 : decode cX5_plant 28 = .ok (.bipush 9, 2) := by decide +kernel
theorem dX5_plant_30 : decode cX5_plant 30 = .ok (.if_icmp .gt 15, 3) := by decide +kernel
theorem dX5_plant_33 : decode cX5_plant 33 = .ok (.iload 4, 2) := by decide +kernel
theorem dX5_plant_35 : decode cX5_plant 35 = .ok (.ifCond .lt 10, 3) := by decide +kernel
theorem dX5_plant_38 : decode cX5_plant 38 = .ok (.iload 4, 2) := by decide +kernel
theorem dX5_plant_40 : decode cX5_plant 40 = .ok (.bipush 99, 2) := by decide +kernel
theorem dX5_plant_42 : decode cX5_plant 42 = .ok (.if_icmp .le 6, 3) := by decide +kernel
theorem dX5_plant_45 : decode cX5_plant 45 = .ok (.ldc 79, 2) := by decide +kernel
theorem dX5_plant_47 : decode cX5_plant 47 = .ok (.ireturn, 1) := by decide +kernel
theorem dX5_plant_48 : decode cX5_plant 48 = .ok (.aload_n 0, 1) := by decide +kernel
theorem dX5_plant_49 : decode cX5_plant 49 = .ok (.getfield 39, 3) := by decide +kernel
theorem dX5_plant_52 : decode cX5_plant 52 = .ok (.getfield 136, 3) := by decide +kernel
theorem dX5_plant_55 : decode cX5_plant 55 = .ok (.bipush 6, 2) := by decide +kernel
theorem dX5_plant_57 : decode cX5_plant 57 = .ok (.if_icmp .lt 6, 3) := by decide +kernel
theorem dX5_plant_60 : decode cX5_plant 60 = .ok (.ldc 167, 2) := by decide +kernel
theorem dX5_plant_62 : decode cX5_plant 62 = .ok (.ireturn, 1) := by decide +kernel
theorem dX5_plant_63 : decode cX5_plant 63 = .ok (.iload_n 2, 1) := by decide +kernel
theorem dX5_plant_64 : decode cX5_plant 64 = .ok (.iconst 3, 1) := by decide +kernel
theorem dX5_plant_65 : decode cX5_plant 65 = .ok (.if_icmp .eq 8, 3) := by decide +kernel
theorem dX5_plant_68 : decode cX5_plant 68 = .ok (.iload_n 2, 1) := by decide +kernel
theorem dX5_plant_69 : decode cX5_plant 69 = .ok (.iconst 4, 1) := by decide +kernel
theorem dX5_plant_70 : decode cX5_plant 70 = .ok (.if_icmp .ne 7, 3) := by decide +kernel
theorem dX5_plant_73 : decode cX5_plant 73 = .ok (.iconst 1, 1) := by decide +kernel
theorem dX5_plant_74 : decode cX5_plant 74 = .ok (.goto 4, 3) := by decide +kernel
theorem dX5_plant_77 : decode cX5_plant 77 = .ok (.iconst 0, 1) := by decide +kernel
theorem dX5_plant_78 : decode cX5_plant 78 = .ok (.istore 5, 2) := by decide +kernel
theorem dX5_plant_80 : decode cX5_plant 80 = .ok (.iload 5, 2) := by decide +kernel
theorem dX5_plant_82 : decode cX5_plant 82 = .ok (.ifCond .eq 7, 3) := by decide +kernel
theorem dX5_plant_85 : decode cX5_plant 85 = .ok (.iconst 5, 1) := by decide +kernel
theorem dX5_plant_86 : decode cX5_plant 86 = .ok (.goto 14, 3) := by decide +kernel
theorem dX5_plant_89 : decode cX5_plant 89 = .ok (.bipush 99, 2) := by decide +kernel
theorem dX5_plant_91 : decode cX5_plant 91 = .ok (.iconst 5, 1) := by decide +kernel
theorem dX5_plant_92 : decode cX5_plant 92 = .ok (.iload_n 3, 1) := by decide +kernel
theorem dX5_plant_93 : decode cX5_plant 93 = .ok (.iload 4, 2) := by decide +kernel
theorem dX5_plant_95 : decode cX5_plant 95 = .ok (.imul, 1) := by decide +kernel
theorem dX5_plant_96 : decode cX5_plant 96 = .ok (.iadd, 1) := by decide +kernel
theorem dX5_plant_97 : decode cX5_plant 97 = .ok (.invokestatic 218, 3) := by decide +kernel
theorem dX5_plant_100 : decode cX5_plant 100 = .ok (.istore 6, 2) := by decide +kernel
theorem dX5_plant_102 : decode cX5_plant 102 = .ok (.aload_n 0, 1) := by decide +kernel
theorem dX5_plant_103 : decode cX5_plant 103 = .ok (.getfield 25, 3) := by decide +kernel
theorem dX5_plant_106 : decode cX5_plant 106 = .ok (.aload_n 0, 1) := by decide +kernel
theorem dX5_plant_107 : decode cX5_plant 107 = .ok (.getfield 39, 3) := by decide +kernel
theorem dX5_plant_110 : decode cX5_plant 110 = .ok (.aload_n 0, 1) := by decide +kernel
theorem dX5_plant_111 : decode cX5_plant 111 = .ok (.getfield 39, 3) := by decide +kernel
theorem dX5_plant_114 : decode cX5_plant 114 = .ok (.getfield 140, 3) := by decide +kernel
theorem dX5_plant_117 : decode cX5_plant 117 = .ok (.iload 4, 2) := by decide +kernel
theorem dX5_plant_119 : decode cX5_plant 119 = .ok (.iadd, 1) := by decide +kernel
theorem dX5_plant_120 : decode cX5_plant 120 = .ok (.iconst 0, 1) := by decide +kernel
theorem dX5_plant_121 : decode cX5_plant 121 = .ok (.invokevirtual 223, 3) := by decide +kernel
theorem dX5_plant_124 : decode cX5_plant 124 = .ok (.iconst 1, 1) := by decide +kernel
theorem dX5_plant_125 : decode cX5_plant 125 = .ok (.istore 7, 2) := by decide +kernel
theorem dX5_plant_127 : decode cX5_plant 127 = .ok (.iload 7, 2) := by decide +kernel
theorem dX5_plant_129 : decode cX5_plant 129 = .ok (.bipush 19, 2) := by decide +kernel
theorem dX5_plant_131 : decode cX5_plant 131 = .ok (.if_icmp .ge 68, 3) := by decide +kernel
theorem dX5_plant_134 : decode cX5_plant 134 = .ok (.aload_n 0, 1) := by decide +kernel
theorem dX5_plant_135 : decode cX5_plant 135 = .ok (.getfield 39, 3) := by decide +kernel
theorem dX5_plant_138 : decode cX5_plant 138 = .ok (.iload 7, 2) := by decide +kernel
theorem dX5_plant_140 : decode cX5_plant 140 = .ok (.invokevirtual 164, 3) := by decide +kernel
theorem dX5_plant_143 : decode cX5_plant 143 = .ok (.ldc 167, 2) := by decide +kernel
theorem dX5_plant_145 : decode cX5_plant 145 = .ok (.if_icmp .ne 48, 3) := by decide +kernel
theorem dX5_plant_148 : decode cX5_plant 148 = .ok (.aload_n 0, 1) := by decide +kernel
theorem dX5_plant_149 : decode cX5_plant 149 = .ok (.getfield 25, 3) := by decide +kernel
theorem dX5_plant_152 : decode cX5_plant 152 = .ok (.iload 7, 2) := by decide +kernel
theorem dX5_plant_154 : decode cX5_plant 154 = .ok (.iload 6, 2) := by decide +kernel
theorem dX5_plant_156 : decode cX5_plant 156 = .ok (.invokevirtual 212, 3) := by decide +kernel
theorem dX5_plant_159 : decode cX5_plant 159 = .ok (.aload_n 0, 1) := by decide +kernel
theorem dX5_plant_160 : decode cX5_plant 160 = .ok (.getfield 25, 3) := by decide +kernel
theorem dX5_plant_163 : decode cX5_plant 163 = .ok (.aload_n 0, 1) := by decide +kernel
theorem dX5_plant_164 : decode cX5_plant 164 = .ok (.getfield 39, 3) := by decide +kernel
theorem dX5_plant_167 : decode cX5_plant 167 = .ok (.iload_n 1, 1) := by decide +kernel
theorem dX5_plant_168 : decode cX5_plant 168 = .ok (.invokevirtual 215, 3) := by decide +kernel
theorem dX5_plant_171 : decode cX5_plant 171 = .ok (.istore 8, 2) := by decide +kernel
theorem dX5_plant_173 : decode cX5_plant 173 = .ok (.aload_n 0, 1) := by decide +kernel
theorem dX5_plant_174 : decode cX5_plant 174 = .ok (.getfield 25, 3) := by decide +kernel
theorem dX5_plant_177 : decode cX5_plant 177 = .ok (.iload 7, 2) := by decide +kernel
theorem dX5_plant_179 : decode cX5_plant 179 = .ok (.iload 6, 2) := by decide +kernel
theorem dX5_plant_181 : decode cX5_plant 181 = .ok (.ineg, 1) := by decide +kernel
theorem dX5_plant_182 : decode cX5_plant 182 = .ok (.invokevirtual 212, 3) := by decide +kernel
theorem dX5_plant_185 : decode cX5_plant 185 = .ok (.iload 8, 2) := by decide +kernel
theorem dX5_plant_187 : decode cX5_plant 187 = .ok (.ifCond .eq 6, 3) := by decide +kernel
theorem dX5_plant_190 : decode cX5_plant 190 = .ok (.iload 7, 2) := by decide +kernel
theorem dX5_plant_192 : decode cX5_plant 192 = .ok (.ireturn, 1) := by decide +kernel
theorem dX5_plant_193 : decode cX5_plant 193 = .ok (.iinc 7 1, 3) := by decide +kernel
theorem dX5_plant_196 : decode cX5_plant 196 = .ok (.goto (-69), 3) := by decide +kernel
theorem dX5_plant_199 : decode cX5_plant 199 = .ok (.ldc 167, 2) := by decide +kernel
theorem dX5_plant_201 : decode cX5_plant 201 = .ok (.ireturn, 1) := by decide +kernel
theorem dX5_moon_0 : decode cX5_moon 0 = .ok (.aload_n 0, 1) := by decide +kernel
theorem dX5_moon_1 : decode cX5_moon 1 = .ok (.getfield 46, 3) := by decide +kernel
theorem dX5_moon_4 : decode cX5_moon 4 = .ok (.ifCond .ne 6, 3) := by decide +kernel
theorem dX5_moon_7 : decode cX5_moon 7 = .ok (.ldc 139, 2) := by decide +kernel
theorem dX5_moon_9 : decode cX5_moon 9 = .ok (.ireturn, 1) := by decide +kernel
theorem dX5_moon_10 : decode cX5_moon 10 = .ok (.iload_n 1, 1) := by decide +kernel
theorem dX5_moon_11 : decode cX5_moon 11 = .ok (.invokestatic 187, 3) := by decide +kernel
theorem dX5_moon_14 : decode cX5_moon 14 = .ok (.ifCond .ne 6, 3) := by decide +kernel
theorem dX5_moon_17 : decode cX5_moon 17 = .ok (.ldc 79, 2) := by decide +kernel
theorem dX5_moon_19 : decode cX5_moon 19 = .ok (.ireturn, 1) := by decide +kernel
theorem dX5_moon_20 : decode cX5_moon 20 = .ok (.aload_n 0, 1) := by decide +kernel
theorem dX5_moon_21 : decode cX5_moon 21 = .ok (.getfield 25, 3) := by decide +kernel
theorem dX5_moon_24 : decode cX5_moon 24 = .ok (.aload_n 0, 1) := by decide +kernel
theorem dX5_moon_25 : decode cX5_moon 25 = .ok (.getfield 39, 3) := by decide +kernel
theorem dX5_moon_28 : decode cX5_moon 28 = .ok (.invokevirtual 181, 3) := by decide +kernel
theorem dX5_moon_31 : decode cX5_moon 31 = .ok (.aload_n 0, 1) := by decide +kernel
theorem dX5_moon_32 : decode cX5_moon 32 = .ok (.getfield 39, 3) := by decide +kernel
theorem dX5_moon_35 : decode cX5_moon 35 = .ok (.getfield 171, 3) := by decide +kernel
theorem dX5_moon_38 : decode cX5_moon 38 = .ok (.iconst 0, 1) := by decide +kernel
theorem dX5_moon_39 : decode cX5_moon 39 = .ok (.iaload, 1) := by decide +kernel
theorem dX5_moon_40 : decode cX5_moon 40 = .ok (.iload_n 1, 1) := by decide +kernel
theorem dX5_moon_41 : decode cX5_moon 41 = .ok (.iadd, 1) := by decide +kernel
theorem dX5_moon_42 : decode cX5_moon 42 = .ok (.istore_n 2, 1) := by decide +kernel
theorem dX5_moon_43 : decode cX5_moon 43 = .ok (.iconst 0, 1) := by decide +kernel
theorem dX5_moon_44 : decode cX5_moon 44 = .ok (.istore_n 3, 1) := by decide +kernel
theorem dX5_moon_45 : decode cX5_moon 45 = .ok (.iconst 0, 1) := by decide +kernel
theorem dX5_moon_46 : decode cX5_moon 46 = .ok (.istore 4, 2) := by decide +kernel
theorem dX5_moon_48 : decode cX5_moon 48 = .ok (.iload 4, 2) := by decide +kernel
theorem dX5_moon_50 : decode cX5_moon 50 = .ok (.bipush 13, 2) := by decide +kernel
theorem dX5_moon_52 : decode cX5_moon 52 = .ok (.if_icmp .ge 52, 3) := by decide +kernel
theorem dX5_moon_55 : decode cX5_moon 55 = .ok (.aload_n 0, 1) := by decide +kernel
theorem dX5_moon_56 : decode cX5_moon 56 = .ok (.getfield 39, 3) := by decide +kernel
theorem dX5_moon_59 : decode cX5_moon 59 = .ok (.getfield 171, 3) := by decide +kernel
theorem dX5_moon_62 : decode cX5_moon 62 = .ok (.bipush 19, 2) := by decide +kernel
theorem dX5_moon_64 : decode cX5_moon 64 = .ok (.iaload, 1) := by decide +kernel
theorem dX5_moon_65 : decode cX5_moon 65 = .ok (.bipush 20, 2) := by decide +kernel
theorem dX5_moon_67 : decode cX5_moon 67 = .ok (.iadd, 1) := by decide +kernel
theorem dX5_moon_68 : decode cX5_moon 68 = .ok (.iconst 3, 1) := by decide +kernel
theorem dX5_moon_69 : decode cX5_moon 69 = .ok (.iload 4, 2) := by decide +kernel
theorem dX5_moon_71 : decode cX5_moon 71 = .ok (.imul, 1) := by decide +kernel
theorem dX5_moon_72 : decode cX5_moon 72 = .ok (.iadd, 1) := by decide +kernel
theorem dX5_moon_73 : decode cX5_moon 73 = .ok (.istore 5, 2) := by decide +kernel
theorem dX5_moon_75 : decode cX5_moon 75 = .ok (.aload_n 0, 1) := by decide +kernel
theorem dX5_moon_76 : decode cX5_moon 76 = .ok (.getfield 25, 3) := by decide +kernel
theorem dX5_moon_79 : decode cX5_moon 79 = .ok (.iload_n 2, 1) := by decide +kernel
theorem dX5_moon_80 : decode cX5_moon 80 = .ok (.iconst 0, 1) := by decide +kernel
theorem dX5_moon_81 : decode cX5_moon 81 = .ok (.iload 5, 2) := by decide +kernel
theorem dX5_moon_83 : decode cX5_moon 83 = .ok (.bipush 19, 2) := by decide +kernel
theorem dX5_moon_85 : decode cX5_moon 85 = .ok (.invokevirtual 227, 3) := by decide +kernel
theorem dX5_moon_88 : decode cX5_moon 88 = .ok (.ifCond .eq 10, 3) := by decide +kernel
theorem dX5_moon_91 : decode cX5_moon 91 = .ok (.iload_n 3, 1) := by decide +kernel
theorem dX5_moon_92 : decode cX5_moon 92 = .ok (.iconst 1, 1) := by decide +kernel
theorem dX5_moon_93 : decode cX5_moon 93 = .ok (.iload 4, 2) := by decide +kernel
theorem dX5_moon_95 : decode cX5_moon 95 = .ok (.ishl, 1) := by decide +kernel
theorem dX5_moon_96 : decode cX5_moon 96 = .ok (.ior, 1) := by decide +kernel
theorem dX5_moon_97 : decode cX5_moon 97 = .ok (.istore_n 3, 1) := by decide +kernel
theorem dX5_moon_98 : decode cX5_moon 98 = .ok (.iinc 4 1, 3) := by decide +kernel
theorem dX5_moon_101 : decode cX5_moon 101 = .ok (.goto (-53), 3) := by decide +kernel
theorem dX5_moon_104 : decode cX5_moon 104 = .ok (.iload_n 3, 1) := by decide +kernel
theorem dX5_moon_105 : decode cX5_moon 105 = .ok (.ireturn, 1) := by decide +kernel
theorem dX5_path_0 : decode cX5_path 0 = .ok (.aload_n 0, 1) := by decide +kernel
theorem dX5_path_1 : decode cX5_path 1 = .ok (.getfield 46, 3) := by decide +kernel
theorem dX5_path_4 : decode cX5_path 4 = .ok (.ifCond .ne 6, 3) := by decide +kernel
theorem dX5_path_7 : decode cX5_path 7 = .ok (.ldc 139, 2) := by decide +kernel
theorem dX5_path_9 : decode cX5_path 9 = .ok (.ireturn, 1) := by decide +kernel
theorem dX5_path_10 : decode cX5_path 10 = .ok (.iload_n 1, 1) := by decide +kernel
theorem dX5_path_11 : decode cX5_path 11 = .ok (.invokestatic 187, 3) := by decide +kernel
theorem dX5_path_14 : decode cX5_path 14 = .ok (.ifCond .eq 14, 3) := by decide +kernel
theorem dX5_path_17 : decode cX5_path 17 = .ok (.aload_n 0, 1) := by decide +kernel
theorem dX5_path_18 : decode cX5_path 18 = .ok (.getfield 39, 3) := by decide +kernel
theorem dX5_path_21 : decode cX5_path 21 = .ok (.iload_n 2, 1) := by decide +kernel
theorem dX5_path_22 : decode cX5_path 22 = .ok (.invokevirtual 231, 3) := by decide +kernel
theorem dX5_path_25 : decode cX5_path 25 = .ok (.ifCond .ne 6, 3) := by decide +kernel
theorem dX5_path_28 : decode cX5_path 28 = .ok (.ldc 79, 2) := by decide +kernel
theorem dX5_path_30 : decode cX5_path 30 = .ok (.ireturn, 1) := by decide +kernel
theorem dX5_path_31 : decode cX5_path 31 = .ok (.aload_n 0, 1) := by decide +kernel
theorem dX5_path_32 : decode cX5_path 32 = .ok (.iload_n 1, 1) := by decide +kernel
theorem dX5_path_33 : decode cX5_path 33 = .ok (.iload_n 2, 1) := by decide +kernel
theorem dX5_path_34 : decode cX5_path 34 = .ok (.iconst 0, 1) := by decide +kernel
theorem dX5_path_35 : decode cX5_path 35 = .ok (.invokevirtual 234, 3) := by decide +kernel
theorem dX5_path_38 : decode cX5_path 38 = .ok (.ireturn, 1) := by decide +kernel
theorem dX5_picture_0 : decode cX5_picture 0 = .ok (.aload_n 0, 1) := by decide +kernel
theorem dX5_picture_1 : decode cX5_picture 1 = .ok (.getfield 46, 3) := by decide +kernel
theorem dX5_picture_4 : decode cX5_picture 4 = .ok (.ifCond .ne 6, 3) := by decide +kernel
theorem dX5_picture_7 : decode cX5_picture 7 = .ok (.ldc 139, 2) := by decide +kernel
theorem dX5_picture_9 : decode cX5_picture 9 = .ok (.ireturn, 1) := by decide +kernel
theorem dX5_picture_10 : decode cX5_picture 10 = .ok (.iload_n 1, 1) := by decide +kernel
theorem dX5_picture_11 : decode cX5_picture 11 = .ok (.invokestatic 187, 3) := by decide +kernel
theorem dX5_picture_14 : decode cX5_picture 14 = .ok (.ifCond .eq 14, 3) := by decide +kernel
theorem dX5_picture_17 : decode cX5_picture 17 = .ok (.aload_n 0, 1) := by decide +kernel
theorem dX5_picture_18 : decode cX5_picture 18 = .ok (.getfield 39, 3) := by decide +kernel
theorem dX5_picture_21 : decode cX5_picture 21 = .ok (.iload_n 2, 1) := by decide +kernel
theorem dX5_picture_22 : decode cX5_picture 22 = .ok (.invokevirtual 231, 3) := by decide +kernel
theorem dX5_picture_25 : decode cX5_picture 25 = .ok (.ifCond .ne 6, 3) := by decide +kernel
theorem dX5_picture_28 : decode cX5_picture 28 = .ok (.ldc 79, 2) := by decide +kernel
theorem dX5_picture_30 : decode cX5_picture 30 = .ok (.ireturn, 1) := by decide +kernel
theorem dX5_picture_31 : decode cX5_picture 31 = .ok (.aload_n 0, 1) := by decide +kernel
theorem dX5_picture_32 : decode cX5_picture 32 = .ok (.iload_n 1, 1) := by decide +kernel
theorem dX5_picture_33 : decode cX5_picture 33 = .ok (.bipush 63, 2) := by decide +kernel
theorem dX5_picture_35 : decode cX5_picture 35 = .ok (.iload_n 2, 1) := by decide +kernel
theorem dX5_picture_36 : decode cX5_picture 36 = .ok (.invokevirtual 234, 3) := by decide +kernel
theorem dX5_picture_39 : decode cX5_picture 39 = .ok (.ireturn, 1) := by decide +kernel
theorem dX5_rival_0 : decode cX5_rival 0 = .ok (.aload_n 0, 1) := by decide +kernel
theorem dX5_rival_1 : decode cX5_rival 1 = .ok (.getfield 46, 3) := by decide +kernel
theorem dX5_rival_4 : decode cX5_rival 4 = .ok (.ifCond .ne 6, 3) := by decide +kernel
theorem dX5_rival_7 : decode cX5_rival 7 = .ok (.ldc 139, 2) := by decide +kernel
theorem dX5_rival_9 : decode cX5_rival 9 = .ok (.ireturn, 1) := by decide +kernel
theorem dX5_rival_10 : decode cX5_rival 10 = .ok (.iload_n 1, 1) := by decide +kernel
theorem dX5_rival_11 : decode cX5_rival 11 = .ok (.invokestatic 187, 3) := by decide +kernel
theorem dX5_rival_14 : decode cX5_rival 14 = .ok (.ifCond .eq 14, 3) := by decide +kernel
theorem dX5_rival_17 : decode cX5_rival 17 = .ok (.iload_n 2, 1) := by decide +kernel
theorem dX5_rival_18 : decode cX5_rival 18 = .ok (.iconst 1, 1) := by decide +kernel
theorem dX5_rival_19 : decode cX5_rival 19 = .ok (.if_icmp .lt 9, 3) := by decide +kernel
theorem dX5_rival_22 : decode cX5_rival 22 = .ok (.iload_n 2, 1) := by decide +kernel
theorem dX5_rival_23 : decode cX5_rival 23 = .ok (.bipush 9, 2) := by decide +kernel
theorem dX5_rival_25 : decode cX5_rival 25 = .ok (.if_icmp .le 6, 3) := by decide +kernel
theorem dX5_rival_28 : decode cX5_rival 28 = .ok (.ldc 79, 2) := by decide +kernel
theorem dX5_rival_30 : decode cX5_rival 30 = .ok (.ireturn, 1) := by decide +kernel
theorem dX5_rival_31 : decode cX5_rival 31 = .ok (.aload_n 0, 1) := by decide +kernel
theorem dX5_rival_32 : decode cX5_rival 32 = .ok (.getfield 25, 3) := by decide +kernel
theorem dX5_rival_35 : decode cX5_rival 35 = .ok (.aload_n 0, 1) := by decide +kernel
theorem dX5_rival_36 : decode cX5_rival 36 = .ok (.getfield 39, 3) := by decide +kernel
theorem dX5_rival_39 : decode cX5_rival 39 = .ok (.invokevirtual 181, 3) := by decide +kernel
theorem dX5_rival_42 : decode cX5_rival 42 = .ok (.aload_n 0, 1) := by decide +kernel
theorem dX5_rival_43 : decode cX5_rival 43 = .ok (.getfield 39, 3) := by decide +kernel
theorem dX5_rival_46 : decode cX5_rival 46 = .ok (.getfield 171, 3) := by decide +kernel
theorem dX5_rival_49 : decode cX5_rival 49 = .ok (.iconst 0, 1) := by decide +kernel
theorem dX5_rival_50 : decode cX5_rival 50 = .ok (.iaload, 1) := by decide +kernel
theorem dX5_rival_51 : decode cX5_rival 51 = .ok (.iload_n 1, 1) := by decide +kernel
theorem dX5_rival_52 : decode cX5_rival 52 = .ok (.iadd, 1) := by decide +kernel
theorem dX5_rival_53 : decode cX5_rival 53 = .ok (.istore_n 3, 1) := by decide +kernel
theorem dX5_rival_54 : decode cX5_rival 54 = .ok (.iconst 0, 1) := by decide +kernel
theorem dX5_rival_55 : decode cX5_rival 55 = .ok (.istore 4, 2) := by decide +kernel
theorem dX5_rival_57 : decode cX5_rival 57 = .ok (.iconst 1, 1) := by decide +kernel
theorem dX5_rival_58 : decode cX5_rival 58 = .ok (.istore 5, 2) := by decide +kernel
theorem dX5_rival_60 : decode cX5_rival 60 = .ok (.iload 5, 2) := by decide +kernel
theorem dX5_rival_62 : decode cX5_rival 62 = .ok (.iload_n 2, 1) := by decide +kernel
theorem dX5_rival_63 : decode cX5_rival 63 = .ok (.if_icmp .gt 99, 3) := by decide +kernel
theorem dX5_rival_66 : decode cX5_rival 66 = .ok (.aload_n 0, 1) := by decide +kernel
theorem dX5_rival_67 : decode cX5_rival 67 = .ok (.getfield 39, 3) := by decide +kernel
theorem dX5_rival_70 : decode cX5_rival 70 = .ok (.getfield 171, 3) := by decide +kernel
theorem dX5_rival_73 : decode cX5_rival 73 = .ok (.bipush 18, 2) := by decide +kernel
theorem dX5_rival_75 : decode cX5_rival 75 = .ok (.iaload, 1) := by decide +kernel
theorem dX5_rival_76 : decode cX5_rival 76 = .ok (.bipush 10, 2) := by decide +kernel
theorem dX5_rival_78 : decode cX5_rival 78 = .ok (.iload 5, 2) := by decide +kernel
theorem dX5_rival_80 : decode cX5_rival 80 = .ok (.imul, 1) := by decide +kernel
theorem dX5_rival_81 : decode cX5_rival 81 = .ok (.iadd, 1) := by decide +kernel
theorem dX5_rival_82 : decode cX5_rival 82 = .ok (.istore 6, 2) := by decide +kernel
theorem dX5_rival_84 : decode cX5_rival 84 = .ok (.aload_n 0, 1) := by decide +kernel
theorem dX5_rival_85 : decode cX5_rival 85 = .ok (.getfield 25, 3) := by decide +kernel
theorem dX5_rival_88 : decode cX5_rival 88 = .ok (.iload_n 3, 1) := by decide +kernel
theorem dX5_rival_89 : decode cX5_rival 89 = .ok (.iconst 0, 1) := by decide +kernel
theorem dX5_rival_90 : decode cX5_rival 90 = .ok (.iload 6, 2) := by decide +kernel
theorem dX5_rival_92 : decode cX5_rival 92 = .ok (.bipush 18, 2) := by decide +kernel
theorem dX5_rival_94 : decode cX5_rival 94 = .ok (.invokevirtual 227, 3) := by decide +kernel
theorem dX5_rival_97 : decode cX5_rival 97 = .ok (.ifCond .eq 59, 3) := by decide +kernel
theorem dX5_rival_100 : decode cX5_rival 100 = .ok (.aload_n 0, 1) := by decide +kernel
theorem dX5_rival_101 : decode cX5_rival 101 = .ok (.iload_n 3, 1) := by decide +kernel
theorem dX5_rival_102 : decode cX5_rival 102 = .ok (.iload 6, 2) := by decide +kernel
theorem dX5_rival_104 : decode cX5_rival 104 = .ok (.invokevirtual 238, 3) := by decide +kernel
theorem dX5_rival_107 : decode cX5_rival 107 = .ok (.istore 7, 2) := by decide +kernel
theorem dX5_rival_109 : decode cX5_rival 109 = .ok (.iload 7, 2) := by decide +kernel
theorem dX5_rival_111 : decode cX5_rival 111 = .ok (.ldc 167, 2) := by decide +kernel
theorem dX5_rival_113 : decode cX5_rival 113 = .ok (.if_icmp .ne 6, 3) := by decide +kernel
theorem dX5_rival_116 : decode cX5_rival 116 = .ok (.ldc 167, 2) := by decide +kernel
theorem dX5_rival_118 : decode cX5_rival 118 = .ok (.ireturn, 1) := by decide +kernel
theorem dX5_rival_119 : decode cX5_rival 119 = .ok (.aload_n 0, 1) := by decide +kernel
theorem dX5_rival_120 : decode cX5_rival 120 = .ok (.iload 7, 2) := by decide +kernel
theorem dX5_rival_122 : decode cX5_rival 122 = .ok (.iload_n 3, 1) := by decide +kernel
theorem dX5_rival_123 : decode cX5_rival 123 = .ok (.iload 6, 2) := by decide +kernel
theorem dX5_rival_125 : decode cX5_rival 125 = .ok (.invokevirtual 241, 3) := by decide +kernel
theorem dX5_rival_128 : decode cX5_rival 128 = .ok (.istore 8, 2) := by decide +kernel
theorem dX5_rival_130 : decode cX5_rival 130 = .ok (.aload_n 0, 1) := by decide +kernel
theorem dX5_rival_131 : decode cX5_rival 131 = .ok (.getfield 25, 3) := by decide +kernel
theorem dX5_rival_134 : decode cX5_rival 134 = .ok (.aload_n 0, 1) := by decide +kernel
theorem dX5_rival_135 : decode cX5_rival 135 = .ok (.getfield 39, 3) := by decide +kernel
theorem dX5_rival_138 : decode cX5_rival 138 = .ok (.getfield 168, 3) := by decide +kernel
theorem dX5_rival_141 : decode cX5_rival 141 = .ok (.iload 7, 2) := by decide +kernel
theorem dX5_rival_143 : decode cX5_rival 143 = .ok (.iaload, 1) := by decide +kernel
theorem dX5_rival_144 : decode cX5_rival 144 = .ok (.iload 8, 2) := by decide +kernel
theorem dX5_rival_146 : decode cX5_rival 146 = .ok (.invokevirtual 212, 3) := by decide +kernel
theorem dX5_rival_149 : decode cX5_rival 149 = .ok (.iload 4, 2) := by decide +kernel
theorem dX5_rival_151 : decode cX5_rival 151 = .ok (.iload 8, 2) := by decide +kernel
theorem dX5_rival_153 : decode cX5_rival 153 = .ok (.iadd, 1) := by decide +kernel
theorem dX5_rival_154 : decode cX5_rival 154 = .ok (.istore 4, 2) := by decide +kernel
theorem dX5_rival_156 : decode cX5_rival 156 = .ok (.iinc 5 1, 3) := by decide +kernel
theorem dX5_rival_159 : decode cX5_rival 159 = .ok (.goto (-99), 3) := by decide +kernel
theorem dX5_rival_162 : decode cX5_rival 162 = .ok (.iload 4, 2) := by decide +kernel
theorem dX5_rival_164 : decode cX5_rival 164 = .ok (.ireturn, 1) := by decide +kernel
theorem dX5_image_0 : decode cX5_image 0 = .ok (.iload_n 1, 1) := by decide +kernel
theorem dX5_image_1 : decode cX5_image 1 = .ok (.ifCond .lt 8, 3) := by decide +kernel
theorem dX5_image_4 : decode cX5_image 4 = .ok (.iload_n 1, 1) := by decide +kernel
theorem dX5_image_5 : decode cX5_image 5 = .ok (.iconst 2, 1) := by decide +kernel
theorem dX5_image_6 : decode cX5_image 6 = .ok (.if_icmp .lt 6, 3) := by decide +kernel
theorem dX5_image_9 : decode cX5_image 9 = .ok (.ldc 79, 2) := by decide +kernel
theorem dX5_image_11 : decode cX5_image 11 = .ok (.ireturn, 1) := by decide +kernel
theorem dX5_image_12 : decode cX5_image 12 = .ok (.aload_n 0, 1) := by decide +kernel
theorem dX5_image_13 : decode cX5_image 13 = .ok (.getfield 46, 3) := by decide +kernel
theorem dX5_image_16 : decode cX5_image 16 = .ok (.ifCond .ne 6, 3) := by decide +kernel
theorem dX5_image_19 : decode cX5_image 19 = .ok (.ldc 139, 2) := by decide +kernel
theorem dX5_image_21 : decode cX5_image 21 = .ok (.ireturn, 1) := by decide +kernel
theorem dX5_image_22 : decode cX5_image 22 = .ok (.aload_n 0, 1) := by decide +kernel
theorem dX5_image_23 : decode cX5_image 23 = .ok (.getfield 61, 3) := by decide +kernel
theorem dX5_image_26 : decode cX5_image 26 = .ok (.iload_n 1, 1) := by decide +kernel
theorem dX5_image_27 : decode cX5_image 27 = .ok (.aaload, 1) := by decide +kernel
theorem dX5_image_28 : decode cX5_image 28 = .ok (.aload_n 0, 1) := by decide +kernel
theorem dX5_image_29 : decode cX5_image 29 = .ok (.getfield 39, 3) := by decide +kernel
theorem dX5_image_32 : decode cX5_image 32 = .ok (.invokevirtual 174, 3) := by decide +kernel
theorem dX5_image_35 : decode cX5_image 35 = .ok (.aload_n 0, 1) := by decide +kernel
theorem dX5_image_36 : decode cX5_image 36 = .ok (.getfield 64, 3) := by decide +kernel
theorem dX5_image_39 : decode cX5_image 39 = .ok (.iload_n 1, 1) := by decide +kernel
theorem dX5_image_40 : decode cX5_image 40 = .ok (.iconst 1, 1) := by decide +kernel
theorem dX5_image_41 : decode cX5_image 41 = .ok (.bastore, 1) := by decide +kernel
theorem dX5_image_42 : decode cX5_image 42 = .ok (.iconst 1, 1) := by decide +kernel
theorem dX5_image_43 : decode cX5_image 43 = .ok (.ireturn, 1) := by decide +kernel
theorem dX5_restore_0 : decode cX5_restore 0 = .ok (.iload_n 1, 1) := by decide +kernel
theorem dX5_restore_1 : decode cX5_restore 1 = .ok (.ifCond .lt 8, 3) := by decide +kernel
theorem dX5_restore_4 : decode cX5_restore 4 = .ok (.iload_n 1, 1) := by decide +kernel
theorem dX5_restore_5 : decode cX5_restore 5 = .ok (.iconst 2, 1) := by decide +kernel
theorem dX5_restore_6 : decode cX5_restore 6 = .ok (.if_icmp .lt 6, 3) := by decide +kernel
theorem dX5_restore_9 : decode cX5_restore 9 = .ok (.ldc 79, 2) := by decide +kernel
theorem dX5_restore_11 : decode cX5_restore 11 = .ok (.ireturn, 1) := by decide +kernel
theorem dX5_restore_12 : decode cX5_restore 12 = .ok (.aload_n 0, 1) := by decide +kernel
theorem dX5_restore_13 : decode cX5_restore 13 = .ok (.getfield 64, 3) := by decide +kernel
theorem dX5_restore_16 : decode cX5_restore 16 = .ok (.iload_n 1, 1) := by decide +kernel
theorem dX5_restore_17 : decode cX5_restore 17 = .ok (.baload, 1) := by decide +kernel
theorem dX5_restore_18 : decode cX5_restore 18 = .ok (.ifCond .ne 6, 3) := by decide +kernel
theorem dX5_restore_21 : decode cX5_restore 21 = .ok (.ldc 139, 2) := by decide +kernel
theorem dX5_restore_23 : decode cX5_restore 23 = .ok (.ireturn, 1) := by decide +kernel
theorem dX5_restore_24 : decode cX5_restore 24 = .ok (.aload_n 0, 1) := by decide +kernel
theorem dX5_restore_25 : decode cX5_restore 25 = .ok (.getfield 39, 3) := by decide +kernel
theorem dX5_restore_28 : decode cX5_restore 28 = .ok (.aload_n 0, 1) := by decide +kernel
theorem dX5_restore_29 : decode cX5_restore 29 = .ok (.getfield 61, 3) := by decide +kernel
theorem dX5_restore_32 : decode cX5_restore 32 = .ok (.iload_n 1, 1) := by decide +kernel
theorem dX5_restore_33 : decode cX5_restore 33 = .ok (.aaload, 1) := by decide +kernel
theorem dX5_restore_34 : decode cX5_restore 34 = .ok (.invokevirtual 174, 3) := by decide +kernel
theorem dX5_restore_37 : decode cX5_restore 37 = .ok (.aload_n 0, 1) := by decide +kernel
theorem dX5_restore_38 : decode cX5_restore 38 = .ok (.iconst 0, 1) := by decide +kernel
theorem dX5_restore_39 : decode cX5_restore 39 = .ok (.putfield 58, 3) := by decide +kernel
theorem dX5_restore_42 : decode cX5_restore 42 = .ok (.iconst 1, 1) := by decide +kernel
theorem dX5_restore_43 : decode cX5_restore 43 = .ok (.ireturn, 1) := by decide +kernel
theorem dX5_kind_0 : decode cX5_kind 0 = .ok (.aload_n 0, 1) := by decide +kernel
theorem dX5_kind_1 : decode cX5_kind 1 = .ok (.getfield 39, 3) := by decide +kernel
theorem dX5_kind_4 : decode cX5_kind 4 = .ok (.iload_n 1, 1) := by decide +kernel
theorem dX5_kind_5 : decode cX5_kind 5 = .ok (.invokevirtual 149, 3) := by decide +kernel
theorem dX5_kind_8 : decode cX5_kind 8 = .ok (.ifCond .eq 15, 3) := by decide +kernel
theorem dX5_kind_11 : decode cX5_kind 11 = .ok (.aload_n 0, 1) := by decide +kernel
theorem dX5_kind_12 : decode cX5_kind 12 = .ok (.getfield 39, 3) := by decide +kernel
theorem dX5_kind_15 : decode cX5_kind 15 = .ok (.getfield 244, 3) := by decide +kernel
theorem dX5_kind_18 : decode cX5_kind 18 = .ok (.iload_n 1, 1) := by decide +kernel
theorem dX5_kind_19 : decode cX5_kind 19 = .ok (.iaload, 1) := by decide +kernel
theorem dX5_kind_20 : decode cX5_kind 20 = .ok (.goto 5, 3) := by decide +kernel
theorem dX5_kind_23 : decode cX5_kind 23 = .ok (.ldc 79, 2) := by decide +kernel
theorem dX5_kind_25 : decode cX5_kind 25 = .ok (.ireturn, 1) := by decide +kernel
theorem dX5_as_0 : decode cX5_as 0 = .ok (.aload_n 0, 1) := by decide +kernel
theorem dX5_as_1 : decode cX5_as 1 = .ok (.getfield 39, 3) := by decide +kernel
theorem dX5_as_4 : decode cX5_as 4 = .ok (.iload_n 1, 1) := by decide +kernel
theorem dX5_as_5 : decode cX5_as 5 = .ok (.invokevirtual 149, 3) := by decide +kernel
theorem dX5_as_8 : decode cX5_as 8 = .ok (.ifCond .eq 12, 3) := by decide +kernel
theorem dX5_as_11 : decode cX5_as 11 = .ok (.iload_n 2, 1) := by decide +kernel
theorem dX5_as_12 : decode cX5_as 12 = .ok (.ifCond .lt 8, 3) := by decide +kernel
theorem dX5_as_15 : decode cX5_as 15 = .ok (.iload_n 2, 1) := by decide +kernel
theorem dX5_as_16 : decode cX5_as 16 = .ok (.iconst 5, 1) := by decide +kernel
theorem dX5_as_17 : decode cX5_as 17 = .ok (.if_icmp .le 6, 3) := by decide +kernel
theorem dX5_as_20 : decode cX5_as 20 = .ok (.ldc 79, 2) := by decide +kernel
theorem dX5_as_22 : decode cX5_as 22 = .ok (.ireturn, 1) := by decide +kernel
theorem dX5_as_23 : decode cX5_as 23 = .ok (.aload_n 0, 1) := by decide +kernel
theorem dX5_as_24 : decode cX5_as 24 = .ok (.getfield 39, 3) := by decide +kernel
theorem dX5_as_27 : decode cX5_as 27 = .ok (.getfield 244, 3) := by decide +kernel
theorem dX5_as_30 : decode cX5_as 30 = .ok (.iload_n 1, 1) := by decide +kernel
theorem dX5_as_31 : decode cX5_as 31 = .ok (.iaload, 1) := by decide +kernel
theorem dX5_as_32 : decode cX5_as 32 = .ok (.iload_n 2, 1) := by decide +kernel
theorem dX5_as_33 : decode cX5_as 33 = .ok (.invokestatic 247, 3) := by decide +kernel
theorem dX5_as_36 : decode cX5_as 36 = .ok (.ifCond .eq 11, 3) := by decide +kernel
theorem dX5_as_39 : decode cX5_as 39 = .ok (.aload_n 0, 1) := by decide +kernel
theorem dX5_as_40 : decode cX5_as 40 = .ok (.iload_n 1, 1) := by decide +kernel
theorem dX5_as_41 : decode cX5_as 41 = .ok (.invokevirtual 88, 3) := by decide +kernel
theorem dX5_as_44 : decode cX5_as 44 = .ok (.goto 8, 3) := by decide +kernel
theorem dX5_as_47 : decode cX5_as 47 = .ok (.aload_n 0, 1) := by decide +kernel
theorem dX5_as_48 : decode cX5_as 48 = .ok (.iconst 3, 1) := by decide +kernel
theorem dX5_as_49 : decode cX5_as 49 = .ok (.invokevirtual 80, 3) := by decide +kernel
theorem dX5_as_52 : decode cX5_as 52 = .ok (.ireturn, 1) := by decide +kernel
theorem dX5_ask_0 : decode cX5_ask 0 = .ok (.aload_n 0, 1) := by decide +kernel
theorem dX5_ask_1 : decode cX5_ask 1 = .ok (.getfield 39, 3) := by decide +kernel
theorem dX5_ask_4 : decode cX5_ask 4 = .ok (.iload_n 1, 1) := by decide +kernel
theorem dX5_ask_5 : decode cX5_ask 5 = .ok (.invokevirtual 149, 3) := by decide +kernel
theorem dX5_ask_8 : decode cX5_ask 8 = .ok (.ifCond .eq 12, 3) := by decide +kernel
theorem dX5_ask_11 : decode cX5_ask 11 = .ok (.iload_n 2, 1) := by decide +kernel
theorem dX5_ask_12 : decode cX5_ask 12 = .ok (.ifCond .lt 8, 3) := by decide +kernel
theorem dX5_ask_15 : decode cX5_ask 15 = .ok (.iload_n 2, 1) := by decide +kernel
theorem dX5_ask_16 : decode cX5_ask 16 = .ok (.iconst 1, 1) := by decide +kernel
theorem dX5_ask_17 : decode cX5_ask 17 = .ok (.if_icmp .le 6, 3) := by decide +kernel
theorem dX5_ask_20 : decode cX5_ask 20 = .ok (.ldc 79, 2) := by decide +kernel
theorem dX5_ask_22 : decode cX5_ask 22 = .ok (.ireturn, 1) := by decide +kernel
theorem dX5_ask_23 : decode cX5_ask 23 = .ok (.aload_n 0, 1) := by decide +kernel
theorem dX5_ask_24 : decode cX5_ask 24 = .ok (.getfield 32, 3) := by decide +kernel
theorem dX5_ask_27 : decode cX5_ask 27 = .ok (.iconst 0, 1) := by decide +kernel
theorem dX5_ask_28 : decode cX5_ask 28 = .ok (.putfield 250, 3) := by decide +kernel
theorem dX5_ask_31 : decode cX5_ask 31 = .ok (.iload_n 2, 1) := by decide +kernel
theorem dX5_ask_32 : decode cX5_ask 32 = .ok (.ifCond .ne 18, 3) := by decide +kernel
theorem dX5_ask_35 : decode cX5_ask 35 = .ok (.aload_n 0, 1) := by decide +kernel
theorem dX5_ask_36 : decode cX5_ask 36 = .ok (.getfield 39, 3) := by decide +kernel
theorem dX5_ask_39 : decode cX5_ask 39 = .ok (.getfield 244, 3) := by decide +kernel
theorem dX5_ask_42 : decode cX5_ask 42 = .ok (.iload_n 1, 1) := by decide +kernel
theorem dX5_ask_43 : decode cX5_ask 43 = .ok (.iaload, 1) := by decide +kernel
theorem dX5_ask_44 : decode cX5_ask 44 = .ok (.invokestatic 253, 3) := by decide +kernel
theorem dX5_ask_47 : decode cX5_ask 47 = .ok (.goto 15, 3) := by decide +kernel
theorem dX5_ask_50 : decode cX5_ask 50 = .ok (.aload_n 0, 1) := by decide +kernel
theorem dX5_ask_51 : decode cX5_ask 51 = .ok (.getfield 39, 3) := by decide +kernel
theorem dX5_ask_54 : decode cX5_ask 54 = .ok (.getfield 244, 3) := by decide +kernel
theorem dX5_ask_57 : decode cX5_ask 57 = .ok (.iload_n 1, 1) := by decide +kernel
theorem dX5_ask_58 : decode cX5_ask 58 = .ok (.iaload, 1) := by decide +kernel
theorem dX5_ask_59 : decode cX5_ask 59 = .ok (.invokestatic 256, 3) := by decide +kernel
theorem dX5_ask_62 : decode cX5_ask 62 = .ok (.istore_n 3, 1) := by decide +kernel
theorem dX5_ask_63 : decode cX5_ask 63 = .ok (.aload_n 0, 1) := by decide +kernel
theorem dX5_ask_64 : decode cX5_ask 64 = .ok (.getfield 39, 3) := by decide +kernel
theorem dX5_ask_67 : decode cX5_ask 67 = .ok (.aload_n 0, 1) := by decide +kernel
theorem dX5_ask_68 : decode cX5_ask 68 = .ok (.getfield 32, 3) := by decide +kernel
theorem dX5_ask_71 : decode cX5_ask 71 = .ok (.iload_n 1, 1) := by decide +kernel
theorem dX5_ask_72 : decode cX5_ask 72 = .ok (.iload_n 3, 1) := by decide +kernel
theorem dX5_ask_73 : decode cX5_ask 73 = .ok (.iconst 0, 1) := by decide +kernel
theorem dX5_ask_74 : decode cX5_ask 74 = .ok (.invokestatic 259, 3) := by decide +kernel
theorem dX5_ask_77 : decode cX5_ask 77 = .ok (.ireturn, 1) := by decide +kernel
theorem dX5_trace_0 : decode cX5_trace 0 = .ok (.iload_n 1, 1) := by decide +kernel
theorem dX5_trace_1 : decode cX5_trace 1 = .ok (.ifCond .lt 26, 3) := by decide +kernel
theorem dX5_trace_4 : decode cX5_trace 4 = .ok (.iload_n 1, 1) := by decide +kernel
theorem dX5_trace_5 : decode cX5_trace 5 = .ok (.aload_n 0, 1) := by decide +kernel
theorem dX5_trace_6 : decode cX5_trace 6 = .ok (.getfield 32, 3) := by decide +kernel
theorem dX5_trace_9 : decode cX5_trace 9 = .ok (.getfield 250, 3) := by decide +kernel
theorem dX5_trace_12 : decode cX5_trace 12 = .ok (.if_icmp .ge 15, 3) := by decide +kernel
theorem dX5_trace_15 : decode cX5_trace 15 = .ok (.aload_n 0, 1) := by decide +kernel
theorem dX5_trace_16 : decode cX5_trace 16 = .ok (.getfield 32, 3) := by decide +kernel
theorem dX5_trace_19 : decode cX5_trace 19 = .ok (.getfield 263, 3) := by decide +kernel
theorem dX5_trace_22 : decode cX5_trace 22 = .ok (.iload_n 1, 1) := by decide +kernel
theorem dX5_trace_23 : decode cX5_trace 23 = .ok (.iaload, 1) := by decide +kernel
theorem dX5_trace_24 : decode cX5_trace 24 = .ok (.goto 5, 3) := by decide +kernel
theorem dX5_trace_27 : decode cX5_trace 27 = .ok (.ldc 167, 2) := by decide +kernel
theorem dX5_trace_29 : decode cX5_trace 29 = .ok (.ireturn, 1) := by decide +kernel
theorem dX5_count_0 : decode cX5_count 0 = .ok (.iload_n 1, 1) := by decide +kernel
theorem dX5_count_1 : decode cX5_count 1 = .ok (.tableswitch 101 0 6 #[43, 48, 56, 64, 72, 77, 93], 43) := by decide +kernel
theorem dX5_count_44 : decode cX5_count 44 = .ok (.aload_n 0, 1) := by decide +kernel
theorem dX5_count_45 : decode cX5_count 45 = .ok (.invokevirtual 266, 3) := by decide +kernel
theorem dX5_count_48 : decode cX5_count 48 = .ok (.ireturn, 1) := by decide +kernel
theorem dX5_count_49 : decode cX5_count 49 = .ok (.aload_n 0, 1) := by decide +kernel
theorem dX5_count_50 : decode cX5_count 50 = .ok (.getfield 39, 3) := by decide +kernel
theorem dX5_count_53 : decode cX5_count 53 = .ok (.getfield 136, 3) := by decide +kernel
theorem dX5_count_56 : decode cX5_count 56 = .ok (.ireturn, 1) := by decide +kernel
theorem dX5_count_57 : decode cX5_count 57 = .ok (.aload_n 0, 1) := by decide +kernel
theorem dX5_count_58 : decode cX5_count 58 = .ok (.getfield 39, 3) := by decide +kernel
theorem dX5_count_61 : decode cX5_count 61 = .ok (.getfield 194, 3) := by decide +kernel
theorem dX5_count_64 : decode cX5_count 64 = .ok (.ireturn, 1) := by decide +kernel
theorem dX5_count_65 : decode cX5_count 65 = .ok (.aload_n 0, 1) := by decide +kernel
theorem dX5_count_66 : decode cX5_count 66 = .ok (.getfield 39, 3) := by decide +kernel
theorem dX5_count_69 : decode cX5_count 69 = .ok (.getfield 140, 3) := by decide +kernel
theorem dX5_count_72 : decode cX5_count 72 = .ok (.ireturn, 1) := by decide +kernel
theorem dX5_count_73 : decode cX5_count 73 = .ok (.aload_n 0, 1) := by decide +kernel
theorem dX5_count_74 : decode cX5_count 74 = .ok (.getfield 58, 3) := by decide +kernel
theorem dX5_count_77 : decode cX5_count 77 = .ok (.ireturn, 1) := by decide +kernel
theorem dX5_count_78 : decode cX5_count 78 = .ok (.aload_n 0, 1) := by decide +kernel
theorem dX5_count_79 : decode cX5_count 79 = .ok (.getfield 39, 3) := by decide +kernel
theorem dX5_count_82 : decode cX5_count 82 = .ok (.getfield 146, 3) := by decide +kernel
theorem dX5_count_85 : decode cX5_count 85 = .ok (.ifCond .eq 7, 3) := by decide +kernel
theorem dX5_count_88 : decode cX5_count 88 = .ok (.iconst 1, 1) := by decide +kernel
theorem dX5_count_89 : decode cX5_count 89 = .ok (.goto 4, 3) := by decide +kernel
theorem dX5_count_92 : decode cX5_count 92 = .ok (.iconst 0, 1) := by decide +kernel
theorem dX5_count_93 : decode cX5_count 93 = .ok (.ireturn, 1) := by decide +kernel
theorem dX5_count_94 : decode cX5_count 94 = .ok (.aload_n 0, 1) := by decide +kernel
theorem dX5_count_95 : decode cX5_count 95 = .ok (.getfield 18, 3) := by decide +kernel
theorem dX5_count_98 : decode cX5_count 98 = .ok (.getfield 117, 3) := by decide +kernel
theorem dX5_count_101 : decode cX5_count 101 = .ok (.ireturn, 1) := by decide +kernel
theorem dX5_count_102 : decode cX5_count 102 = .ok (.ldc 79, 2) := by decide +kernel
theorem dX5_count_104 : decode cX5_count 104 = .ok (.ireturn, 1) := by decide +kernel
theorem dX5_status_0 : decode cX5_status 0 = .ok (.aload_n 0, 1) := by decide +kernel
theorem dX5_status_1 : decode cX5_status 1 = .ok (.getfield 71, 3) := by decide +kernel
theorem dX5_status_4 : decode cX5_status 4 = .ok (.ireturn, 1) := by decide +kernel
theorem dX5_found_0 : decode cX5_found 0 = .ok (.aload_n 0, 1) := by decide +kernel
theorem dX5_found_1 : decode cX5_found 1 = .ok (.iload_n 1, 1) := by decide +kernel
theorem dX5_found_2 : decode cX5_found 2 = .ok (.putfield 71, 3) := by decide +kernel
theorem dX5_found_5 : decode cX5_found 5 = .ok (.ldc_w 270, 3) := by decide +kernel
theorem dX5_found_8 : decode cX5_found 8 = .ok (.iload_n 1, 1) := by decide +kernel
theorem dX5_found_9 : decode cX5_found 9 = .ok (.isub, 1) := by decide +kernel
theorem dX5_found_10 : decode cX5_found 10 = .ok (.ireturn, 1) := by decide +kernel
theorem dX5_unfound_0 : decode cX5_unfound 0 = .ok (.aload_n 0, 1) := by decide +kernel
theorem dX5_unfound_1 : decode cX5_unfound 1 = .ok (.iconst 0, 1) := by decide +kernel
theorem dX5_unfound_2 : decode cX5_unfound 2 = .ok (.putfield 71, 3) := by decide +kernel
theorem dX5_unfound_5 : decode cX5_unfound 5 = .ok (.iload_n 1, 1) := by decide +kernel
theorem dX5_unfound_6 : decode cX5_unfound 6 = .ok (.ireturn, 1) := by decide +kernel
theorem dX5_isRow_0 : decode cX5_isRow 0 = .ok (.iload_n 0, 1) := by decide +kernel
theorem dX5_isRow_1 : decode cX5_isRow 1 = .ok (.ifCond .lt 13, 3) := by decide +kernel
theorem dX5_isRow_4 : decode cX5_isRow 4 = .ok (.iload_n 0, 1) := by decide +kernel
theorem dX5_isRow_5 : decode cX5_isRow 5 = .ok (.bipush 8, 2) := by decide +kernel
theorem dX5_isRow_7 : decode cX5_isRow 7 = .ok (.if_icmp .ge 7, 3) := by decide +kernel
theorem dX5_isRow_10 : decode cX5_isRow 10 = .ok (.iconst 1, 1) := by decide +kernel
theorem dX5_isRow_11 : decode cX5_isRow 11 = .ok (.goto 4, 3) := by decide +kernel
theorem dX5_isRow_14 : decode cX5_isRow 14 = .ok (.iconst 0, 1) := by decide +kernel
theorem dX5_isRow_15 : decode cX5_isRow 15 = .ok (.ireturn, 1) := by decide +kernel
theorem dX5_isEye_0 : decode cX5_isEye 0 = .ok (.iload_n 0, 1) := by decide +kernel
theorem dX5_isEye_1 : decode cX5_isEye 1 = .ok (.ifCond .lt 13, 3) := by decide +kernel
theorem dX5_isEye_4 : decode cX5_isEye 4 = .ok (.iload_n 0, 1) := by decide +kernel
theorem dX5_isEye_5 : decode cX5_isEye 5 = .ok (.bipush 30, 2) := by decide +kernel
theorem dX5_isEye_7 : decode cX5_isEye 7 = .ok (.if_icmp .gt 7, 3) := by decide +kernel
theorem dX5_isEye_10 : decode cX5_isEye 10 = .ok (.iconst 1, 1) := by decide +kernel
theorem dX5_isEye_11 : decode cX5_isEye 11 = .ok (.goto 4, 3) := by decide +kernel
theorem dX5_isEye_14 : decode cX5_isEye 14 = .ok (.iconst 0, 1) := by decide +kernel
theorem dX5_isEye_15 : decode cX5_isEye 15 = .ok (.ireturn, 1) := by decide +kernel
theorem dX5_isInnerSite_0 : decode cX5_isInnerSite 0 = .ok (.iload_n 0, 1) := by decide +kernel
theorem dX5_isInnerSite_1 : decode cX5_isInnerSite 1 = .ok (.ifCond .le 13, 3) := by decide +kernel
theorem dX5_isInnerSite_4 : decode cX5_isInnerSite 4 = .ok (.iload_n 0, 1) := by decide +kernel
theorem dX5_isInnerSite_5 : decode cX5_isInnerSite 5 = .ok (.bipush 19, 2) := by decide +kernel
theorem dX5_isInnerSite_7 : decode cX5_isInnerSite 7 = .ok (.if_icmp .ge 7, 3) := by decide +kernel
theorem dX5_isInnerSite_10 : decode cX5_isInnerSite 10 = .ok (.iconst 1, 1) := by decide +kernel
theorem dX5_isInnerSite_11 : decode cX5_isInnerSite 11 = .ok (.goto 4, 3) := by decide +kernel
theorem dX5_isInnerSite_14 : decode cX5_isInnerSite 14 = .ok (.iconst 0, 1) := by decide +kernel
theorem dX5_isInnerSite_15 : decode cX5_isInnerSite 15 = .ok (.ireturn, 1) := by decide +kernel
theorem dX5_isIn_0 : decode cX5_isIn 0 = .ok (.iload_n 0, 1) := by decide +kernel
theorem dX5_isIn_1 : decode cX5_isIn 1 = .ok (.iload_n 1, 1) := by decide +kernel
theorem dX5_isIn_2 : decode cX5_isIn 2 = .ok (.ishr, 1) := by decide +kernel
theorem dX5_isIn_3 : decode cX5_isIn 3 = .ok (.iconst 1, 1) := by decide +kernel
theorem dX5_isIn_4 : decode cX5_isIn 4 = .ok (.iand, 1) := by decide +kernel
theorem dX5_isIn_5 : decode cX5_isIn 5 = .ok (.ifCond .eq 7, 3) := by decide +kernel
theorem dX5_isIn_8 : decode cX5_isIn 8 = .ok (.iconst 1, 1) := by decide +kernel
theorem dX5_isIn_9 : decode cX5_isIn 9 = .ok (.goto 4, 3) := by decide +kernel
theorem dX5_isIn_12 : decode cX5_isIn 12 = .ok (.iconst 0, 1) := by decide +kernel
theorem dX5_isIn_13 : decode cX5_isIn 13 = .ok (.ireturn, 1) := by decide +kernel
theorem dX5_rowsThere_0 : decode cX5_rowsThere 0 = .ok (.iconst 0, 1) := by decide +kernel
theorem dX5_rowsThere_1 : decode cX5_rowsThere 1 = .ok (.istore_n 1, 1) := by decide +kernel
theorem dX5_rowsThere_2 : decode cX5_rowsThere 2 = .ok (.iconst 0, 1) := by decide +kernel
theorem dX5_rowsThere_3 : decode cX5_rowsThere 3 = .ok (.istore_n 2, 1) := by decide +kernel
theorem dX5_rowsThere_4 : decode cX5_rowsThere 4 = .ok (.iload_n 2, 1) := by decide +kernel
theorem dX5_rowsThere_5 : decode cX5_rowsThere 5 = .ok (.bipush 8, 2) := by decide +kernel
theorem dX5_rowsThere_7 : decode cX5_rowsThere 7 = .ok (.if_icmp .ge 24, 3) := by decide +kernel
theorem dX5_rowsThere_10 : decode cX5_rowsThere 10 = .ok (.aload_n 0, 1) := by decide +kernel
theorem dX5_rowsThere_11 : decode cX5_rowsThere 11 = .ok (.getfield 11, 3) := by decide +kernel
theorem dX5_rowsThere_14 : decode cX5_rowsThere 14 = .ok (.iload_n 2, 1) := by decide +kernel
theorem dX5_rowsThere_15 : decode cX5_rowsThere 15 = .ok (.aaload, 1) := by decide +kernel
theorem dX5_rowsThere_16 : decode cX5_rowsThere 16 = .ok (.getfield 91, 3) := by decide +kernel
theorem dX5_rowsThere_19 : decode cX5_rowsThere 19 = .ok (.ifCond .eq 6, 3) := by decide +kernel
theorem dX5_rowsThere_22 : decode cX5_rowsThere 22 = .ok (.iinc 1 1, 3) := by decide +kernel
theorem dX5_rowsThere_25 : decode cX5_rowsThere 25 = .ok (.iinc 2 1, 3) := by decide +kernel
theorem dX5_rowsThere_28 : decode cX5_rowsThere 28 = .ok (.goto (-24), 3) := by decide +kernel
theorem dX5_rowsThere_31 : decode cX5_rowsThere 31 = .ok (.iload_n 1, 1) := by decide +kernel
theorem dX5_rowsThere_32 : decode cX5_rowsThere 32 = .ok (.ireturn, 1) := by decide +kernel
theorem dX5_keepDay_0 : decode cX5_keepDay 0 = .ok (.aload_n 0, 1) := by decide +kernel
theorem dX5_keepDay_1 : decode cX5_keepDay 1 = .ok (.getfield 50, 3) := by decide +kernel
theorem dX5_keepDay_4 : decode cX5_keepDay 4 = .ok (.aload_n 0, 1) := by decide +kernel
theorem dX5_keepDay_5 : decode cX5_keepDay 5 = .ok (.getfield 54, 3) := by decide +kernel
theorem dX5_keepDay_8 : decode cX5_keepDay 8 = .ok (.aaload, 1) := by decide +kernel
theorem dX5_keepDay_9 : decode cX5_keepDay 9 = .ok (.aload_n 0, 1) := by decide +kernel
theorem dX5_keepDay_10 : decode cX5_keepDay 10 = .ok (.getfield 39, 3) := by decide +kernel
theorem dX5_keepDay_13 : decode cX5_keepDay 13 = .ok (.invokevirtual 174, 3) := by decide +kernel
theorem dX5_keepDay_16 : decode cX5_keepDay 16 = .ok (.aload_n 0, 1) := by decide +kernel
theorem dX5_keepDay_17 : decode cX5_keepDay 17 = .ok (.aload_n 0, 1) := by decide +kernel
theorem dX5_keepDay_18 : decode cX5_keepDay 18 = .ok (.getfield 54, 3) := by decide +kernel
theorem dX5_keepDay_21 : decode cX5_keepDay 21 = .ok (.bipush 23, 2) := by decide +kernel
theorem dX5_keepDay_23 : decode cX5_keepDay 23 = .ok (.if_icmp .ne 7, 3) := by decide +kernel
theorem dX5_keepDay_26 : decode cX5_keepDay 26 = .ok (.iconst 0, 1) := by decide +kernel
theorem dX5_keepDay_27 : decode cX5_keepDay 27 = .ok (.goto 9, 3) := by decide +kernel
theorem dX5_keepDay_30 : decode cX5_keepDay 30 = .ok (.aload_n 0, 1) := by decide +kernel
theorem dX5_keepDay_31 : decode cX5_keepDay 31 = .ok (.getfield 54, 3) := by decide +kernel
theorem dX5_keepDay_34 : decode cX5_keepDay 34 = .ok (.iconst 1, 1) := by decide +kernel
theorem dX5_keepDay_35 : decode cX5_keepDay 35 = .ok (.iadd, 1) := by decide +kernel
theorem dX5_keepDay_36 : decode cX5_keepDay 36 = .ok (.putfield 54, 3) := by decide +kernel
theorem dX5_keepDay_39 : decode cX5_keepDay 39 = .ok (.aload_n 0, 1) := by decide +kernel
theorem dX5_keepDay_40 : decode cX5_keepDay 40 = .ok (.bipush 24, 2) := by decide +kernel
theorem dX5_keepDay_42 : decode cX5_keepDay 42 = .ok (.aload_n 0, 1) := by decide +kernel
theorem dX5_keepDay_43 : decode cX5_keepDay 43 = .ok (.getfield 58, 3) := by decide +kernel
theorem dX5_keepDay_46 : decode cX5_keepDay 46 = .ok (.iconst 1, 1) := by decide +kernel
theorem dX5_keepDay_47 : decode cX5_keepDay 47 = .ok (.iadd, 1) := by decide +kernel
theorem dX5_keepDay_48 : decode cX5_keepDay 48 = .ok (.invokestatic 218, 3) := by decide +kernel
theorem dX5_keepDay_51 : decode cX5_keepDay 51 = .ok (.putfield 58, 3) := by decide +kernel
theorem dX5_keepDay_54 : decode cX5_keepDay 54 = .ok (.return_, 1) := by decide +kernel
theorem dX5_placesSeeing_0 : decode cX5_placesSeeing 0 = .ok (.aload_n 0, 1) := by decide +kernel
theorem dX5_placesSeeing_1 : decode cX5_placesSeeing 1 = .ok (.getfield 25, 3) := by decide +kernel
theorem dX5_placesSeeing_4 : decode cX5_placesSeeing 4 = .ok (.aload_n 0, 1) := by decide +kernel
theorem dX5_placesSeeing_5 : decode cX5_placesSeeing 5 = .ok (.getfield 39, 3) := by decide +kernel
theorem dX5_placesSeeing_8 : decode cX5_placesSeeing 8 = .ok (.invokevirtual 181, 3) := by decide +kernel
theorem dX5_placesSeeing_11 : decode cX5_placesSeeing 11 = .ok (.iconst 0, 1) := by decide +kernel
theorem dX5_placesSeeing_12 : decode cX5_placesSeeing 12 = .ok (.istore 4, 2) := by decide +kernel
theorem dX5_placesSeeing_14 : decode cX5_placesSeeing 14 = .ok (.iconst 0, 1) := by decide +kernel
theorem dX5_placesSeeing_15 : decode cX5_placesSeeing 15 = .ok (.istore 5, 2) := by decide +kernel
theorem dX5_placesSeeing_17 : decode cX5_placesSeeing 17 = .ok (.iload 5, 2) := by decide +kernel
theorem dX5_placesSeeing_19 : decode cX5_placesSeeing 19 = .ok (.bipush 19, 2) := by decide +kernel
theorem dX5_placesSeeing_21 : decode cX5_placesSeeing 21 = .ok (.if_icmp .ge 38, 3) := by decide +kernel
theorem dX5_placesSeeing_24 : decode cX5_placesSeeing 24 = .ok (.aload_n 0, 1) := by decide +kernel
theorem dX5_placesSeeing_25 : decode cX5_placesSeeing 25 = .ok (.getfield 25, 3) := by decide +kernel
theorem dX5_placesSeeing_28 : decode cX5_placesSeeing 28 = .ok (.aload_n 0, 1) := by decide +kernel
theorem dX5_placesSeeing_29 : decode cX5_placesSeeing 29 = .ok (.getfield 39, 3) := by decide +kernel
theorem dX5_placesSeeing_32 : decode cX5_placesSeeing 32 = .ok (.iload 5, 2) := by decide +kernel
theorem dX5_placesSeeing_34 : decode cX5_placesSeeing 34 = .ok (.iload_n 1, 1) := by decide +kernel
theorem dX5_placesSeeing_35 : decode cX5_placesSeeing 35 = .ok (.invokevirtual 190, 3) := by decide +kernel
theorem dX5_placesSeeing_38 : decode cX5_placesSeeing 38 = .ok (.iload_n 2, 1) := by decide +kernel
theorem dX5_placesSeeing_39 : decode cX5_placesSeeing 39 = .ok (.iand, 1) := by decide +kernel
theorem dX5_placesSeeing_40 : decode cX5_placesSeeing 40 = .ok (.iload_n 3, 1) := by decide +kernel
theorem dX5_placesSeeing_41 : decode cX5_placesSeeing 41 = .ok (.if_icmp .ne 12, 3) := by decide +kernel
theorem dX5_placesSeeing_44 : decode cX5_placesSeeing 44 = .ok (.iload 4, 2) := by decide +kernel
theorem dX5_placesSeeing_46 : decode cX5_placesSeeing 46 = .ok (.iconst 1, 1) := by decide +kernel
theorem dX5_placesSeeing_47 : decode cX5_placesSeeing 47 = .ok (.iload 5, 2) := by decide +kernel
theorem dX5_placesSeeing_49 : decode cX5_placesSeeing 49 = .ok (.ishl, 1) := by decide +kernel
theorem dX5_placesSeeing_50 : decode cX5_placesSeeing 50 = .ok (.ior, 1) := by decide +kernel
theorem dX5_placesSeeing_51 : decode cX5_placesSeeing 51 = .ok (.istore 4, 2) := by decide +kernel
theorem dX5_placesSeeing_53 : decode cX5_placesSeeing 53 = .ok (.iinc 5 1, 3) := by decide +kernel
theorem dX5_placesSeeing_56 : decode cX5_placesSeeing 56 = .ok (.goto (-39), 3) := by decide +kernel
theorem dX5_placesSeeing_59 : decode cX5_placesSeeing 59 = .ok (.iload 4, 2) := by decide +kernel
theorem dX5_placesSeeing_61 : decode cX5_placesSeeing 61 = .ok (.ireturn, 1) := by decide +kernel
theorem dX5_leastCut_0 : decode cX5_leastCut 0 = .ok (.aload_n 0, 1) := by decide +kernel
theorem dX5_leastCut_1 : decode cX5_leastCut 1 = .ok (.getfield 39, 3) := by decide +kernel
theorem dX5_leastCut_4 : decode cX5_leastCut 4 = .ok (.getfield 168, 3) := by decide +kernel
theorem dX5_leastCut_7 : decode cX5_leastCut 7 = .ok (.iload_n 2, 1) := by decide +kernel
theorem dX5_leastCut_8 : decode cX5_leastCut 8 = .ok (.iaload, 1) := by decide +kernel
theorem dX5_leastCut_9 : decode cX5_leastCut 9 = .ok (.istore_n 3, 1) := by decide +kernel
theorem dX5_leastCut_10 : decode cX5_leastCut 10 = .ok (.iconst 0, 1) := by decide +kernel
theorem dX5_leastCut_11 : decode cX5_leastCut 11 = .ok (.istore 4, 2) := by decide +kernel
theorem dX5_leastCut_13 : decode cX5_leastCut 13 = .ok (.iconst 0, 1) := by decide +kernel
theorem dX5_leastCut_14 : decode cX5_leastCut 14 = .ok (.istore 5, 2) := by decide +kernel
theorem dX5_leastCut_16 : decode cX5_leastCut 16 = .ok (.iload 5, 2) := by decide +kernel
theorem dX5_leastCut_18 : decode cX5_leastCut 18 = .ok (.aload_n 0, 1) := by decide +kernel
theorem dX5_leastCut_19 : decode cX5_leastCut 19 = .ok (.getfield 39, 3) := by decide +kernel
theorem dX5_leastCut_22 : decode cX5_leastCut 22 = .ok (.getfield 194, 3) := by decide +kernel
theorem dX5_leastCut_25 : decode cX5_leastCut 25 = .ok (.if_icmp .ge 119, 3) := by decide +kernel
theorem dX5_leastCut_28 : decode cX5_leastCut 28 = .ok (.aload_n 0, 1) := by decide +kernel
theorem dX5_leastCut_29 : decode cX5_leastCut 29 = .ok (.getfield 39, 3) := by decide +kernel
theorem dX5_leastCut_32 : decode cX5_leastCut 32 = .ok (.getfield 271, 3) := by decide +kernel
theorem dX5_leastCut_35 : decode cX5_leastCut 35 = .ok (.iload 5, 2) := by decide +kernel
theorem dX5_leastCut_37 : decode cX5_leastCut 37 = .ok (.iaload, 1) := by decide +kernel
theorem dX5_leastCut_38 : decode cX5_leastCut 38 = .ok (.istore 6, 2) := by decide +kernel
theorem dX5_leastCut_40 : decode cX5_leastCut 40 = .ok (.aload_n 0, 1) := by decide +kernel
theorem dX5_leastCut_41 : decode cX5_leastCut 41 = .ok (.getfield 39, 3) := by decide +kernel
theorem dX5_leastCut_44 : decode cX5_leastCut 44 = .ok (.getfield 274, 3) := by decide +kernel
theorem dX5_leastCut_47 : decode cX5_leastCut 47 = .ok (.iload 5, 2) := by decide +kernel
theorem dX5_leastCut_49 : decode cX5_leastCut 49 = .ok (.baload, 1) := by decide +kernel
theorem dX5_leastCut_50 : decode cX5_leastCut 50 = .ok (.ifCond .eq 88, 3) := by decide +kernel
theorem dX5_leastCut_53 : decode cX5_leastCut 53 = .ok (.iload_n 3, 1) := by decide +kernel
theorem dX5_leastCut_54 : decode cX5_leastCut 54 = .ok (.ifCond .le 84, 3) := by decide +kernel
theorem dX5_leastCut_57 : decode cX5_leastCut 57 = .ok (.iload_n 3, 1) := by decide +kernel
theorem dX5_leastCut_58 : decode cX5_leastCut 58 = .ok (.iload 6, 2) := by decide +kernel
theorem dX5_leastCut_60 : decode cX5_leastCut 60 = .ok (.if_icmp .ge 78, 3) := by decide +kernel
theorem dX5_leastCut_63 : decode cX5_leastCut 63 = .ok (.iconst 0, 1) := by decide +kernel
theorem dX5_leastCut_64 : decode cX5_leastCut 64 = .ok (.istore 7, 2) := by decide +kernel
theorem dX5_leastCut_66 : decode cX5_leastCut 66 = .ok (.iload 7, 2) := by decide +kernel
theorem dX5_leastCut_68 : decode cX5_leastCut 68 = .ok (.bipush 31, 2) := by decide +kernel
theorem dX5_leastCut_70 : decode cX5_leastCut 70 = .ok (.if_icmp .ge 68, 3) := by decide +kernel
theorem dX5_leastCut_73 : decode cX5_leastCut 73 = .ok (.iload_n 1, 1) := by decide +kernel
theorem dX5_leastCut_74 : decode cX5_leastCut 74 = .ok (.iload 7, 2) := by decide +kernel
theorem dX5_leastCut_76 : decode cX5_leastCut 76 = .ok (.invokestatic 201, 3) := by decide +kernel
theorem dX5_leastCut_79 : decode cX5_leastCut 79 = .ok (.ifCond .eq 53, 3) := by decide +kernel
theorem dX5_leastCut_82 : decode cX5_leastCut 82 = .ok (.aload_n 0, 1) := by decide +kernel
theorem dX5_leastCut_83 : decode cX5_leastCut 83 = .ok (.getfield 39, 3) := by decide +kernel
theorem dX5_leastCut_86 : decode cX5_leastCut 86 = .ok (.getfield 171, 3) := by decide +kernel
theorem dX5_leastCut_89 : decode cX5_leastCut 89 = .ok (.iconst 0, 1) := by decide +kernel
theorem dX5_leastCut_90 : decode cX5_leastCut 90 = .ok (.iaload, 1) := by decide +kernel
theorem dX5_leastCut_91 : decode cX5_leastCut 91 = .ok (.iload 7, 2) := by decide +kernel
theorem dX5_leastCut_93 : decode cX5_leastCut 93 = .ok (.iadd, 1) := by decide +kernel
theorem dX5_leastCut_94 : decode cX5_leastCut 94 = .ok (.aload_n 0, 1) := by decide +kernel
theorem dX5_leastCut_95 : decode cX5_leastCut 95 = .ok (.getfield 39, 3) := by decide +kernel
theorem dX5_leastCut_98 : decode cX5_leastCut 98 = .ok (.iload 5, 2) := by decide +kernel
theorem dX5_leastCut_100 : decode cX5_leastCut 100 = .ok (.invokevirtual 277, 3) := by decide +kernel
theorem dX5_leastCut_103 : decode cX5_leastCut 103 = .ok (.iload 6, 2) := by decide +kernel
theorem dX5_leastCut_105 : decode cX5_leastCut 105 = .ok (.iload_n 3, 1) := by decide +kernel
theorem dX5_leastCut_106 : decode cX5_leastCut 106 = .ok (.invokestatic 280, 3) := by decide +kernel
theorem dX5_leastCut_109 : decode cX5_leastCut 109 = .ok (.istore 8, 2) := by decide +kernel
theorem dX5_leastCut_111 : decode cX5_leastCut 111 = .ok (.iload 4, 2) := by decide +kernel
theorem dX5_leastCut_113 : decode cX5_leastCut 113 = .ok (.aload_n 0, 1) := by decide +kernel
theorem dX5_leastCut_114 : decode cX5_leastCut 114 = .ok (.getfield 25, 3) := by decide +kernel
theorem dX5_leastCut_117 : decode cX5_leastCut 117 = .ok (.getfield 184, 3) := by decide +kernel
theorem dX5_leastCut_120 : decode cX5_leastCut 120 = .ok (.iload_n 3, 1) := by decide +kernel
theorem dX5_leastCut_121 : decode cX5_leastCut 121 = .ok (.iaload, 1) := by decide +kernel
theorem dX5_leastCut_122 : decode cX5_leastCut 122 = .ok (.iload 8, 2) := by decide +kernel
theorem dX5_leastCut_124 : decode cX5_leastCut 124 = .ok (.isub, 1) := by decide +kernel
theorem dX5_leastCut_125 : decode cX5_leastCut 125 = .ok (.iconst 1, 1) := by decide +kernel
theorem dX5_leastCut_126 : decode cX5_leastCut 126 = .ok (.iadd, 1) := by decide +kernel
theorem dX5_leastCut_127 : decode cX5_leastCut 127 = .ok (.invokestatic 284, 3) := by decide +kernel
theorem dX5_leastCut_130 : decode cX5_leastCut 130 = .ok (.istore 4, 2) := by decide +kernel
theorem dX5_leastCut_132 : decode cX5_leastCut 132 = .ok (.iinc 7 1, 3) := by decide +kernel
theorem dX5_leastCut_135 : decode cX5_leastCut 135 = .ok (.goto (-69), 3) := by decide +kernel
theorem dX5_leastCut_138 : decode cX5_leastCut 138 = .ok (.iinc 5 1, 3) := by decide +kernel
theorem dX5_leastCut_141 : decode cX5_leastCut 141 = .ok (.goto (-125), 3) := by decide +kernel
theorem dX5_leastCut_144 : decode cX5_leastCut 144 = .ok (.iload 4, 2) := by decide +kernel
theorem dX5_leastCut_146 : decode cX5_leastCut 146 = .ok (.ireturn, 1) := by decide +kernel
theorem dX5_leastHider_0 : decode cX5_leastHider 0 = .ok (.ldc 167, 2) := by decide +kernel
theorem dX5_leastHider_2 : decode cX5_leastHider 2 = .ok (.istore_n 3, 1) := by decide +kernel
theorem dX5_leastHider_3 : decode cX5_leastHider 3 = .ok (.sipush 1000, 3) := by decide +kernel
theorem dX5_leastHider_6 : decode cX5_leastHider 6 = .ok (.istore 4, 2) := by decide +kernel
theorem dX5_leastHider_8 : decode cX5_leastHider 8 = .ok (.iconst 0, 1) := by decide +kernel
theorem dX5_leastHider_9 : decode cX5_leastHider 9 = .ok (.istore 5, 2) := by decide +kernel
theorem dX5_leastHider_11 : decode cX5_leastHider 11 = .ok (.iload 5, 2) := by decide +kernel
theorem dX5_leastHider_13 : decode cX5_leastHider 13 = .ok (.aload_n 0, 1) := by decide +kernel
theorem dX5_leastHider_14 : decode cX5_leastHider 14 = .ok (.getfield 39, 3) := by decide +kernel
theorem dX5_leastHider_17 : decode cX5_leastHider 17 = .ok (.getfield 136, 3) := by decide +kernel
theorem dX5_leastHider_20 : decode cX5_leastHider 20 = .ok (.if_icmp .ge 33, 3) := by decide +kernel
theorem dX5_leastHider_23 : decode cX5_leastHider 23 = .ok (.aload_n 0, 1) := by decide +kernel
theorem dX5_leastHider_24 : decode cX5_leastHider 24 = .ok (.iload 5, 2) := by decide +kernel
theorem dX5_leastHider_26 : decode cX5_leastHider 26 = .ok (.iload_n 1, 1) := by decide +kernel
theorem dX5_leastHider_27 : decode cX5_leastHider 27 = .ok (.iload_n 2, 1) := by decide +kernel
theorem dX5_leastHider_28 : decode cX5_leastHider 28 = .ok (.invokevirtual 241, 3) := by decide +kernel
theorem dX5_leastHider_31 : decode cX5_leastHider 31 = .ok (.istore 6, 2) := by decide +kernel
theorem dX5_leastHider_33 : decode cX5_leastHider 33 = .ok (.iload 6, 2) := by decide +kernel
theorem dX5_leastHider_35 : decode cX5_leastHider 35 = .ok (.iload 4, 2) := by decide +kernel
theorem dX5_leastHider_37 : decode cX5_leastHider 37 = .ok (.if_icmp .ge 10, 3) := by decide +kernel
theorem dX5_leastHider_40 : decode cX5_leastHider 40 = .ok (.iload 6, 2) := by decide +kernel
theorem dX5_leastHider_42 : decode cX5_leastHider 42 = .ok (.istore 4, 2) := by decide +kernel
theorem dX5_leastHider_44 : decode cX5_leastHider 44 = .ok (.iload 5, 2) := by decide +kernel
theorem dX5_leastHider_46 : decode cX5_leastHider 46 = .ok (.istore_n 3, 1) := by decide +kernel
theorem dX5_leastHider_47 : decode cX5_leastHider 47 = .ok (.iinc 5 1, 3) := by decide +kernel
theorem dX5_leastHider_50 : decode cX5_leastHider 50 = .ok (.goto (-39), 3) := by decide +kernel
theorem dX5_leastHider_53 : decode cX5_leastHider 53 = .ok (.iload_n 3, 1) := by decide +kernel
theorem dX5_leastHider_54 : decode cX5_leastHider 54 = .ok (.ireturn, 1) := by decide +kernel
theorem dX5_hidingBy_0 : decode cX5_hidingBy 0 = .ok (.aload_n 0, 1) := by decide +kernel
theorem dX5_hidingBy_1 : decode cX5_hidingBy 1 = .ok (.getfield 39, 3) := by decide +kernel
theorem dX5_hidingBy_4 : decode cX5_hidingBy 4 = .ok (.getfield 168, 3) := by decide +kernel
theorem dX5_hidingBy_7 : decode cX5_hidingBy 7 = .ok (.iload_n 1, 1) := by decide +kernel
theorem dX5_hidingBy_8 : decode cX5_hidingBy 8 = .ok (.iaload, 1) := by decide +kernel
theorem dX5_hidingBy_9 : decode cX5_hidingBy 9 = .ok (.istore 4, 2) := by decide +kernel
theorem dX5_hidingBy_11 : decode cX5_hidingBy 11 = .ok (.aload_n 0, 1) := by decide +kernel
theorem dX5_hidingBy_12 : decode cX5_hidingBy 12 = .ok (.getfield 39, 3) := by decide +kernel
theorem dX5_hidingBy_15 : decode cX5_hidingBy 15 = .ok (.getfield 146, 3) := by decide +kernel
theorem dX5_hidingBy_18 : decode cX5_hidingBy 18 = .ok (.ifCond .eq 20, 3) := by decide +kernel
theorem dX5_hidingBy_21 : decode cX5_hidingBy 21 = .ok (.aload_n 0, 1) := by decide +kernel
theorem dX5_hidingBy_22 : decode cX5_hidingBy 22 = .ok (.getfield 39, 3) := by decide +kernel
theorem dX5_hidingBy_25 : decode cX5_hidingBy 25 = .ok (.getfield 244, 3) := by decide +kernel
theorem dX5_hidingBy_28 : decode cX5_hidingBy 28 = .ok (.iload_n 1, 1) := by decide +kernel
theorem dX5_hidingBy_29 : decode cX5_hidingBy 29 = .ok (.iaload, 1) := by decide +kernel
theorem dX5_hidingBy_30 : decode cX5_hidingBy 30 = .ok (.iconst 1, 1) := by decide +kernel
theorem dX5_hidingBy_31 : decode cX5_hidingBy 31 = .ok (.if_icmp .ne 7, 3) := by decide +kernel
theorem dX5_hidingBy_34 : decode cX5_hidingBy 34 = .ok (.iconst 1, 1) := by decide +kernel
theorem dX5_hidingBy_35 : decode cX5_hidingBy 35 = .ok (.goto 4, 3) := by decide +kernel
theorem dX5_hidingBy_38 : decode cX5_hidingBy 38 = .ok (.iconst 0, 1) := by decide +kernel
theorem dX5_hidingBy_39 : decode cX5_hidingBy 39 = .ok (.istore 5, 2) := by decide +kernel
theorem dX5_hidingBy_41 : decode cX5_hidingBy 41 = .ok (.iload 4, 2) := by decide +kernel
theorem dX5_hidingBy_43 : decode cX5_hidingBy 43 = .ok (.iconst 1, 1) := by decide +kernel
theorem dX5_hidingBy_44 : decode cX5_hidingBy 44 = .ok (.if_icmp .lt 26, 3) := by decide +kernel
theorem dX5_hidingBy_47 : decode cX5_hidingBy 47 = .ok (.iload 4, 2) := by decide +kernel
theorem dX5_hidingBy_49 : decode cX5_hidingBy 49 = .ok (.bipush 18, 2) := by decide +kernel
theorem dX5_hidingBy_51 : decode cX5_hidingBy 51 = .ok (.if_icmp .ge 19, 3) := by decide +kernel
theorem dX5_hidingBy_54 : decode cX5_hidingBy 54 = .ok (.iload 5, 2) := by decide +kernel
theorem dX5_hidingBy_56 : decode cX5_hidingBy 56 = .ok (.ifCond .ne 14, 3) := by decide +kernel
theorem dX5_hidingBy_59 : decode cX5_hidingBy 59 = .ok (.aload_n 0, 1) := by decide +kernel
theorem dX5_hidingBy_60 : decode cX5_hidingBy 60 = .ok (.getfield 39, 3) := by decide +kernel
theorem dX5_hidingBy_63 : decode cX5_hidingBy 63 = .ok (.iload_n 1, 1) := by decide +kernel
theorem dX5_hidingBy_64 : decode cX5_hidingBy 64 = .ok (.invokevirtual 152, 3) := by decide +kernel
theorem dX5_hidingBy_67 : decode cX5_hidingBy 67 = .ok (.ifCond .ne 7, 3) := by decide +kernel
theorem dX5_hidingBy_70 : decode cX5_hidingBy 70 = .ok (.sipush 1000, 3) := by decide +kernel
theorem dX5_hidingBy_73 : decode cX5_hidingBy 73 = .ok (.ireturn, 1) := by decide +kernel
theorem dX5_hidingBy_74 : decode cX5_hidingBy 74 = .ok (.iload_n 2, 1) := by decide +kernel
theorem dX5_hidingBy_75 : decode cX5_hidingBy 75 = .ok (.iload_n 3, 1) := by decide +kernel
theorem dX5_hidingBy_76 : decode cX5_hidingBy 76 = .ok (.bipush 18, 2) := by decide +kernel
theorem dX5_hidingBy_78 : decode cX5_hidingBy 78 = .ok (.iload 4, 2) := by decide +kernel
theorem dX5_hidingBy_80 : decode cX5_hidingBy 80 = .ok (.invokestatic 280, 3) := by decide +kernel
theorem dX5_hidingBy_83 : decode cX5_hidingBy 83 = .ok (.istore 6, 2) := by decide +kernel
theorem dX5_hidingBy_85 : decode cX5_hidingBy 85 = .ok (.iload 6, 2) := by decide +kernel
theorem dX5_hidingBy_87 : decode cX5_hidingBy 87 = .ok (.aload_n 0, 1) := by decide +kernel
theorem dX5_hidingBy_88 : decode cX5_hidingBy 88 = .ok (.getfield 39, 3) := by decide +kernel
theorem dX5_hidingBy_91 : decode cX5_hidingBy 91 = .ok (.getfield 171, 3) := by decide +kernel
theorem dX5_hidingBy_94 : decode cX5_hidingBy 94 = .ok (.iload 4, 2) := by decide +kernel
theorem dX5_hidingBy_96 : decode cX5_hidingBy 96 = .ok (.iaload, 1) := by decide +kernel
theorem dX5_hidingBy_97 : decode cX5_hidingBy 97 = .ok (.isub, 1) := by decide +kernel
theorem dX5_hidingBy_98 : decode cX5_hidingBy 98 = .ok (.bipush 99, 2) := by decide +kernel
theorem dX5_hidingBy_100 : decode cX5_hidingBy 100 = .ok (.if_icmp .le 9, 3) := by decide +kernel
theorem dX5_hidingBy_103 : decode cX5_hidingBy 103 = .ok (.sipush 1000, 3) := by decide +kernel
theorem dX5_hidingBy_106 : decode cX5_hidingBy 106 = .ok (.goto 16, 3) := by decide +kernel
theorem dX5_hidingBy_109 : decode cX5_hidingBy 109 = .ok (.iload 6, 2) := by decide +kernel
theorem dX5_hidingBy_111 : decode cX5_hidingBy 111 = .ok (.aload_n 0, 1) := by decide +kernel
theorem dX5_hidingBy_112 : decode cX5_hidingBy 112 = .ok (.getfield 25, 3) := by decide +kernel
theorem dX5_hidingBy_115 : decode cX5_hidingBy 115 = .ok (.getfield 184, 3) := by decide +kernel
theorem dX5_hidingBy_118 : decode cX5_hidingBy 118 = .ok (.iload 4, 2) := by decide +kernel
theorem dX5_hidingBy_120 : decode cX5_hidingBy 120 = .ok (.iaload, 1) := by decide +kernel
theorem dX5_hidingBy_121 : decode cX5_hidingBy 121 = .ok (.isub, 1) := by decide +kernel
theorem dX5_hidingBy_122 : decode cX5_hidingBy 122 = .ok (.ireturn, 1) := by decide +kernel
theorem dX5_isOfKind_0 : decode cX5_isOfKind 0 = .ok (.iload_n 1, 1) := by decide +kernel
theorem dX5_isOfKind_1 : decode cX5_isOfKind 1 = .ok (.ifCond .eq 28, 3) := by decide +kernel
theorem dX5_isOfKind_4 : decode cX5_isOfKind 4 = .ok (.iload_n 1, 1) := by decide +kernel
theorem dX5_isOfKind_5 : decode cX5_isOfKind 5 = .ok (.iload_n 0, 1) := by decide +kernel
theorem dX5_isOfKind_6 : decode cX5_isOfKind 6 = .ok (.if_icmp .eq 23, 3) := by decide +kernel
theorem dX5_isOfKind_9 : decode cX5_isOfKind 9 = .ok (.iload_n 1, 1) := by decide +kernel
theorem dX5_isOfKind_10 : decode cX5_isOfKind 10 = .ok (.iconst 1, 1) := by decide +kernel
theorem dX5_isOfKind_11 : decode cX5_isOfKind 11 = .ok (.if_icmp .ne 8, 3) := by decide +kernel
theorem dX5_isOfKind_14 : decode cX5_isOfKind 14 = .ok (.iload_n 0, 1) := by decide +kernel
theorem dX5_isOfKind_15 : decode cX5_isOfKind 15 = .ok (.iconst 2, 1) := by decide +kernel
theorem dX5_isOfKind_16 : decode cX5_isOfKind 16 = .ok (.if_icmp .eq 13, 3) := by decide +kernel
theorem dX5_isOfKind_19 : decode cX5_isOfKind 19 = .ok (.iload_n 1, 1) := by decide +kernel
theorem dX5_isOfKind_20 : decode cX5_isOfKind 20 = .ok (.iconst 4, 1) := by decide +kernel
theorem dX5_isOfKind_21 : decode cX5_isOfKind 21 = .ok (.if_icmp .ne 12, 3) := by decide +kernel
theorem dX5_isOfKind_24 : decode cX5_isOfKind 24 = .ok (.iload_n 0, 1) := by decide +kernel
theorem dX5_isOfKind_25 : decode cX5_isOfKind 25 = .ok (.iconst 5, 1) := by decide +kernel
theorem dX5_isOfKind_26 : decode cX5_isOfKind 26 = .ok (.if_icmp .ne 7, 3) := by decide +kernel
theorem dX5_isOfKind_29 : decode cX5_isOfKind 29 = .ok (.iconst 1, 1) := by decide +kernel
theorem dX5_isOfKind_30 : decode cX5_isOfKind 30 = .ok (.goto 4, 3) := by decide +kernel
theorem dX5_isOfKind_33 : decode cX5_isOfKind 33 = .ok (.iconst 0, 1) := by decide +kernel
theorem dX5_isOfKind_34 : decode cX5_isOfKind 34 = .ok (.ireturn, 1) := by decide +kernel
theorem dX5_bodyOfSize_0 : decode cX5_bodyOfSize 0 = .ok (.iload_n 0, 1) := by decide +kernel
theorem dX5_bodyOfSize_1 : decode cX5_bodyOfSize 1 = .ok (.tableswitch 47 1 5 #[35, 38, 47, 41, 44], 35) := by decide +kernel
theorem dX5_bodyOfSize_36 : decode cX5_bodyOfSize 36 = .ok (.bipush 11, 2) := by decide +kernel
theorem dX5_bodyOfSize_38 : decode cX5_bodyOfSize 38 = .ok (.ireturn, 1) := by decide +kernel
theorem dX5_bodyOfSize_39 : decode cX5_bodyOfSize 39 = .ok (.bipush 12, 2) := by decide +kernel
theorem dX5_bodyOfSize_41 : decode cX5_bodyOfSize 41 = .ok (.ireturn, 1) := by decide +kernel
theorem dX5_bodyOfSize_42 : decode cX5_bodyOfSize 42 = .ok (.bipush 13, 2) := by decide +kernel
theorem dX5_bodyOfSize_44 : decode cX5_bodyOfSize 44 = .ok (.ireturn, 1) := by decide +kernel
theorem dX5_bodyOfSize_45 : decode cX5_bodyOfSize 45 = .ok (.bipush 14, 2) := by decide +kernel
theorem dX5_bodyOfSize_47 : decode cX5_bodyOfSize 47 = .ok (.ireturn, 1) := by decide +kernel
theorem dX5_bodyOfSize_48 : decode cX5_bodyOfSize 48 = .ok (.bipush 10, 2) := by decide +kernel
theorem dX5_bodyOfSize_50 : decode cX5_bodyOfSize 50 = .ok (.ireturn, 1) := by decide +kernel
theorem dX5_bodyOfMark_0 : decode cX5_bodyOfMark 0 = .ok (.iload_n 0, 1) := by decide +kernel
theorem dX5_bodyOfMark_1 : decode cX5_bodyOfMark 1 = .ok (.tableswitch 47 1 5 #[35, 38, 41, 44, 44], 35) := by decide +kernel
theorem dX5_bodyOfMark_36 : decode cX5_bodyOfMark 36 = .ok (.bipush 21, 2) := by decide +kernel
theorem dX5_bodyOfMark_38 : decode cX5_bodyOfMark 38 = .ok (.ireturn, 1) := by decide +kernel
theorem dX5_bodyOfMark_39 : decode cX5_bodyOfMark 39 = .ok (.bipush 24, 2) := by decide +kernel
theorem dX5_bodyOfMark_41 : decode cX5_bodyOfMark 41 = .ok (.ireturn, 1) := by decide +kernel
theorem dX5_bodyOfMark_42 : decode cX5_bodyOfMark 42 = .ok (.bipush 22, 2) := by decide +kernel
theorem dX5_bodyOfMark_44 : decode cX5_bodyOfMark 44 = .ok (.ireturn, 1) := by decide +kernel
theorem dX5_bodyOfMark_45 : decode cX5_bodyOfMark 45 = .ok (.bipush 23, 2) := by decide +kernel
theorem dX5_bodyOfMark_47 : decode cX5_bodyOfMark 47 = .ok (.ireturn, 1) := by decide +kernel
theorem dX5_bodyOfMark_48 : decode cX5_bodyOfMark 48 = .ok (.bipush 20, 2) := by decide +kernel
theorem dX5_bodyOfMark_50 : decode cX5_bodyOfMark 50 = .ok (.ireturn, 1) := by decide +kernel
theorem dX5_bodyGives_0 : decode cX5_bodyGives 0 = .ok (.iload 4, 2) := by decide +kernel
theorem dX5_bodyGives_2 : decode cX5_bodyGives 2 = .ok (.bipush 8, 2) := by decide +kernel
theorem dX5_bodyGives_4 : decode cX5_bodyGives 4 = .ok (.if_icmp .gt 11, 3) := by decide +kernel
theorem dX5_bodyGives_7 : decode cX5_bodyGives 7 = .ok (.aload_n 0, 1) := by decide +kernel
theorem dX5_bodyGives_8 : decode cX5_bodyGives 8 = .ok (.iload_n 2, 1) := by decide +kernel
theorem dX5_bodyGives_9 : decode cX5_bodyGives 9 = .ok (.invokevirtual 149, 3) := by decide +kernel
theorem dX5_bodyGives_12 : decode cX5_bodyGives 12 = .ok (.ifCond .ne 5, 3) := by decide +kernel
theorem dX5_bodyGives_15 : decode cX5_bodyGives 15 = .ok (.iconst 0, 1) := by decide +kernel
theorem dX5_bodyGives_16 : decode cX5_bodyGives 16 = .ok (.ireturn, 1) := by decide +kernel
theorem dX5_bodyGives_17 : decode cX5_bodyGives 17 = .ok (.aload_n 1, 1) := by decide +kernel
theorem dX5_bodyGives_18 : decode cX5_bodyGives 18 = .ok (.iload_n 3, 1) := by decide +kernel
theorem dX5_bodyGives_19 : decode cX5_bodyGives 19 = .ok (.invokevirtual 287, 3) := by decide +kernel
theorem dX5_bodyGives_22 : decode cX5_bodyGives 22 = .ok (.iload 4, 2) := by decide +kernel
theorem dX5_bodyGives_24 : decode cX5_bodyGives 24 = .ok (.iconst 1, 1) := by decide +kernel
theorem dX5_bodyGives_25 : decode cX5_bodyGives 25 = .ok (.iadd, 1) := by decide +kernel
theorem dX5_bodyGives_26 : decode cX5_bodyGives 26 = .ok (.istore 5, 2) := by decide +kernel
theorem dX5_bodyGives_28 : decode cX5_bodyGives 28 = .ok (.iload_n 3, 1) := by decide +kernel
theorem dX5_bodyGives_29 : decode cX5_bodyGives 29 = .ok (.tableswitch 231 10 24 #[75, 81, 110, 122, 136, 231, 231, 231, 231, 231, 149, 151, 169, 198, 216], 75) := by decide +kernel
theorem dX5_bodyGives_104 : decode cX5_bodyGives 104 = .ok (.aload_n 0, 1) := by decide +kernel
theorem dX5_bodyGives_105 : decode cX5_bodyGives 105 = .ok (.iload_n 2, 1) := by decide +kernel
theorem dX5_bodyGives_106 : decode cX5_bodyGives 106 = .ok (.invokevirtual 158, 3) := by decide +kernel
theorem dX5_bodyGives_109 : decode cX5_bodyGives 109 = .ok (.ireturn, 1) := by decide +kernel
theorem dX5_bodyGives_110 : decode cX5_bodyGives 110 = .ok (.aload_n 0, 1) := by decide +kernel
theorem dX5_bodyGives_111 : decode cX5_bodyGives 111 = .ok (.aload_n 1, 1) := by decide +kernel
theorem dX5_bodyGives_112 : decode cX5_bodyGives 112 = .ok (.iload_n 2, 1) := by decide +kernel
theorem dX5_bodyGives_113 : decode cX5_bodyGives 113 = .ok (.bipush 10, 2) := by decide +kernel
theorem dX5_bodyGives_115 : decode cX5_bodyGives 115 = .ok (.iload 5, 2) := by decide +kernel
theorem dX5_bodyGives_117 : decode cX5_bodyGives 117 = .ok (.invokestatic 259, 3) := by decide +kernel
theorem dX5_bodyGives_120 : decode cX5_bodyGives 120 = .ok (.aload_n 0, 1) := by decide +kernel
theorem dX5_bodyGives_121 : decode cX5_bodyGives 121 = .ok (.aload_n 1, 1) := by decide +kernel
theorem dX5_bodyGives_122 : decode cX5_bodyGives 122 = .ok (.iload_n 2, 1) := by decide +kernel
theorem dX5_bodyGives_123 : decode cX5_bodyGives 123 = .ok (.aload_n 0, 1) := by decide +kernel
theorem dX5_bodyGives_124 : decode cX5_bodyGives 124 = .ok (.getfield 244, 3) := by decide +kernel
theorem dX5_bodyGives_127 : decode cX5_bodyGives 127 = .ok (.iload_n 2, 1) := by decide +kernel
theorem dX5_bodyGives_128 : decode cX5_bodyGives 128 = .ok (.iaload, 1) := by decide +kernel
theorem dX5_bodyGives_129 : decode cX5_bodyGives 129 = .ok (.invokestatic 256, 3) := by decide +kernel
theorem dX5_bodyGives_132 : decode cX5_bodyGives 132 = .ok (.iload 5, 2) := by decide +kernel
theorem dX5_bodyGives_134 : decode cX5_bodyGives 134 = .ok (.invokestatic 259, 3) := by decide +kernel
theorem dX5_bodyGives_137 : decode cX5_bodyGives 137 = .ok (.iadd, 1) := by decide +kernel
theorem dX5_bodyGives_138 : decode cX5_bodyGives 138 = .ok (.ireturn, 1) := by decide +kernel
theorem dX5_bodyGives_139 : decode cX5_bodyGives 139 = .ok (.aload_n 0, 1) := by decide +kernel
theorem dX5_bodyGives_140 : decode cX5_bodyGives 140 = .ok (.aload_n 1, 1) := by decide +kernel
theorem dX5_bodyGives_141 : decode cX5_bodyGives 141 = .ok (.iload_n 2, 1) := by decide +kernel
theorem dX5_bodyGives_142 : decode cX5_bodyGives 142 = .ok (.bipush 11, 2) := by decide +kernel
theorem dX5_bodyGives_144 : decode cX5_bodyGives 144 = .ok (.iload 5, 2) := by decide +kernel
theorem dX5_bodyGives_146 : decode cX5_bodyGives 146 = .ok (.invokestatic 259, 3) := by decide +kernel
theorem dX5_bodyGives_149 : decode cX5_bodyGives 149 = .ok (.ineg, 1) := by decide +kernel
theorem dX5_bodyGives_150 : decode cX5_bodyGives 150 = .ok (.ireturn, 1) := by decide +kernel
theorem dX5_bodyGives_151 : decode cX5_bodyGives 151 = .ok (.aload_n 0, 1) := by decide +kernel
theorem dX5_bodyGives_152 : decode cX5_bodyGives 152 = .ok (.aload_n 1, 1) := by decide +kernel
theorem dX5_bodyGives_153 : decode cX5_bodyGives 153 = .ok (.iload_n 2, 1) := by decide +kernel
theorem dX5_bodyGives_154 : decode cX5_bodyGives 154 = .ok (.bipush 10, 2) := by decide +kernel
theorem dX5_bodyGives_156 : decode cX5_bodyGives 156 = .ok (.iload 5, 2) := by decide +kernel
theorem dX5_bodyGives_158 : decode cX5_bodyGives 158 = .ok (.invokestatic 259, 3) := by decide +kernel
theorem dX5_bodyGives_161 : decode cX5_bodyGives 161 = .ok (.bipush 100, 2) := by decide +kernel
theorem dX5_bodyGives_163 : decode cX5_bodyGives 163 = .ok (.isub, 1) := by decide +kernel
theorem dX5_bodyGives_164 : decode cX5_bodyGives 164 = .ok (.ireturn, 1) := by decide +kernel
theorem dX5_bodyGives_165 : decode cX5_bodyGives 165 = .ok (.iconst 2, 1) := by decide +kernel
theorem dX5_bodyGives_166 : decode cX5_bodyGives 166 = .ok (.aload_n 0, 1) := by decide +kernel
theorem dX5_bodyGives_167 : decode cX5_bodyGives 167 = .ok (.aload_n 1, 1) := by decide +kernel
theorem dX5_bodyGives_168 : decode cX5_bodyGives 168 = .ok (.iload_n 2, 1) := by decide +kernel
theorem dX5_bodyGives_169 : decode cX5_bodyGives 169 = .ok (.bipush 13, 2) := by decide +kernel
theorem dX5_bodyGives_171 : decode cX5_bodyGives 171 = .ok (.iload 5, 2) := by decide +kernel
theorem dX5_bodyGives_173 : decode cX5_bodyGives 173 = .ok (.invokestatic 259, 3) := by decide +kernel
theorem dX5_bodyGives_176 : decode cX5_bodyGives 176 = .ok (.imul, 1) := by decide +kernel
theorem dX5_bodyGives_177 : decode cX5_bodyGives 177 = .ok (.ireturn, 1) := by decide +kernel
theorem dX5_bodyGives_178 : decode cX5_bodyGives 178 = .ok (.iload_n 2, 1) := by decide +kernel
theorem dX5_bodyGives_179 : decode cX5_bodyGives 179 = .ok (.ireturn, 1) := by decide +kernel
theorem dX5_bodyGives_180 : decode cX5_bodyGives 180 = .ok (.aload_n 0, 1) := by decide +kernel
theorem dX5_bodyGives_181 : decode cX5_bodyGives 181 = .ok (.aload_n 1, 1) := by decide +kernel
theorem dX5_bodyGives_182 : decode cX5_bodyGives 182 = .ok (.iload_n 2, 1) := by decide +kernel
theorem dX5_bodyGives_183 : decode cX5_bodyGives 183 = .ok (.bipush 20, 2) := by decide +kernel
theorem dX5_bodyGives_185 : decode cX5_bodyGives 185 = .ok (.iload 5, 2) := by decide +kernel
theorem dX5_bodyGives_187 : decode cX5_bodyGives 187 = .ok (.invokestatic 259, 3) := by decide +kernel
theorem dX5_bodyGives_190 : decode cX5_bodyGives 190 = .ok (.aload_n 0, 1) := by decide +kernel
theorem dX5_bodyGives_191 : decode cX5_bodyGives 191 = .ok (.getfield 168, 3) := by decide +kernel
theorem dX5_bodyGives_194 : decode cX5_bodyGives 194 = .ok (.iload_n 2, 1) := by decide +kernel
theorem dX5_bodyGives_195 : decode cX5_bodyGives 195 = .ok (.iaload, 1) := by decide +kernel
theorem dX5_bodyGives_196 : decode cX5_bodyGives 196 = .ok (.iadd, 1) := by decide +kernel
theorem dX5_bodyGives_197 : decode cX5_bodyGives 197 = .ok (.ireturn, 1) := by decide +kernel
theorem dX5_bodyGives_198 : decode cX5_bodyGives 198 = .ok (.aload_n 0, 1) := by decide +kernel
theorem dX5_bodyGives_199 : decode cX5_bodyGives 199 = .ok (.aload_n 1, 1) := by decide +kernel
theorem dX5_bodyGives_200 : decode cX5_bodyGives 200 = .ok (.iload_n 2, 1) := by decide +kernel
theorem dX5_bodyGives_201 : decode cX5_bodyGives 201 = .ok (.bipush 20, 2) := by decide +kernel
theorem dX5_bodyGives_203 : decode cX5_bodyGives 203 = .ok (.iload 5, 2) := by decide +kernel
theorem dX5_bodyGives_205 : decode cX5_bodyGives 205 = .ok (.invokestatic 259, 3) := by decide +kernel
theorem dX5_bodyGives_208 : decode cX5_bodyGives 208 = .ok (.aload_n 0, 1) := by decide +kernel
theorem dX5_bodyGives_209 : decode cX5_bodyGives 209 = .ok (.aload_n 1, 1) := by decide +kernel
theorem dX5_bodyGives_210 : decode cX5_bodyGives 210 = .ok (.iload_n 2, 1) := by decide +kernel
theorem dX5_bodyGives_211 : decode cX5_bodyGives 211 = .ok (.aload_n 0, 1) := by decide +kernel
theorem dX5_bodyGives_212 : decode cX5_bodyGives 212 = .ok (.getfield 244, 3) := by decide +kernel
theorem dX5_bodyGives_215 : decode cX5_bodyGives 215 = .ok (.iload_n 2, 1) := by decide +kernel
theorem dX5_bodyGives_216 : decode cX5_bodyGives 216 = .ok (.iaload, 1) := by decide +kernel
theorem dX5_bodyGives_217 : decode cX5_bodyGives 217 = .ok (.invokestatic 253, 3) := by decide +kernel
theorem dX5_bodyGives_220 : decode cX5_bodyGives 220 = .ok (.iload 5, 2) := by decide +kernel
theorem dX5_bodyGives_222 : decode cX5_bodyGives 222 = .ok (.invokestatic 259, 3) := by decide +kernel
theorem dX5_bodyGives_225 : decode cX5_bodyGives 225 = .ok (.isub, 1) := by decide +kernel
theorem dX5_bodyGives_226 : decode cX5_bodyGives 226 = .ok (.ireturn, 1) := by decide +kernel
theorem dX5_bodyGives_227 : decode cX5_bodyGives 227 = .ok (.aload_n 0, 1) := by decide +kernel
theorem dX5_bodyGives_228 : decode cX5_bodyGives 228 = .ok (.aload_n 1, 1) := by decide +kernel
theorem dX5_bodyGives_229 : decode cX5_bodyGives 229 = .ok (.iload_n 2, 1) := by decide +kernel
theorem dX5_bodyGives_230 : decode cX5_bodyGives 230 = .ok (.bipush 20, 2) := by decide +kernel
theorem dX5_bodyGives_232 : decode cX5_bodyGives 232 = .ok (.iload 5, 2) := by decide +kernel
theorem dX5_bodyGives_234 : decode cX5_bodyGives 234 = .ok (.invokestatic 259, 3) := by decide +kernel
theorem dX5_bodyGives_237 : decode cX5_bodyGives 237 = .ok (.aload_n 0, 1) := by decide +kernel
theorem dX5_bodyGives_238 : decode cX5_bodyGives 238 = .ok (.getfield 178, 3) := by decide +kernel
theorem dX5_bodyGives_241 : decode cX5_bodyGives 241 = .ok (.iload_n 2, 1) := by decide +kernel
theorem dX5_bodyGives_242 : decode cX5_bodyGives 242 = .ok (.iaload, 1) := by decide +kernel
theorem dX5_bodyGives_243 : decode cX5_bodyGives 243 = .ok (.iadd, 1) := by decide +kernel
theorem dX5_bodyGives_244 : decode cX5_bodyGives 244 = .ok (.ireturn, 1) := by decide +kernel
theorem dX5_bodyGives_245 : decode cX5_bodyGives 245 = .ok (.aload_n 0, 1) := by decide +kernel
theorem dX5_bodyGives_246 : decode cX5_bodyGives 246 = .ok (.aload_n 1, 1) := by decide +kernel
theorem dX5_bodyGives_247 : decode cX5_bodyGives 247 = .ok (.iload_n 2, 1) := by decide +kernel
theorem dX5_bodyGives_248 : decode cX5_bodyGives 248 = .ok (.bipush 21, 2) := by decide +kernel
theorem dX5_bodyGives_250 : decode cX5_bodyGives 250 = .ok (.iload 5, 2) := by decide +kernel
theorem dX5_bodyGives_252 : decode cX5_bodyGives 252 = .ok (.invokestatic 259, 3) := by decide +kernel
theorem dX5_bodyGives_255 : decode cX5_bodyGives 255 = .ok (.sipush 1000, 3) := by decide +kernel
theorem dX5_bodyGives_258 : decode cX5_bodyGives 258 = .ok (.iadd, 1) := by decide +kernel
theorem dX5_bodyGives_259 : decode cX5_bodyGives 259 = .ok (.ireturn, 1) := by decide +kernel
theorem dX5_bodyGives_260 : decode cX5_bodyGives 260 = .ok (.iconst 0, 1) := by decide +kernel
theorem dX5_bodyGives_261 : decode cX5_bodyGives 261 = .ok (.ireturn, 1) := by decide +kernel
end
section
theorem dX6_init_0 : decode cX6_init 0 = .ok (.aload_n 0, 1) := by decide +kernel
theorem dX6_init_1 : decode cX6_init 1 = .ok (.invokespecial 1, 3) := by decide +kernel
theorem dX6_init_4 : decode cX6_init 4 = .ok (.aload_n 0, 1) := by decide +kernel
theorem dX6_init_5 : decode cX6_init 5 = .ok (.bipush 8, 2) := by decide +kernel
theorem dX6_init_7 : decode cX6_init 7 = .ok (.newarray .int, 2) := by decide +kernel
theorem dX6_init_9 : decode cX6_init 9 = .ok (.dup, 1) := by decide +kernel
theorem dX6_init_10 : decode cX6_init 10 = .ok (.iconst 0, 1) := by decide +kernel
theorem dX6_init_11 : decode cX6_init 11 = .ok (.iconst (-1), 1) := by decide +kernel
theorem dX6_init_12 : decode cX6_init 12 = .ok (.iastore, 1) := by decide +kernel
theorem dX6_init_13 : decode cX6_init 13 = .ok (.dup, 1) := by decide +kernel
theorem dX6_init_14 : decode cX6_init 14 = .ok (.iconst 1, 1) := by decide +kernel
theorem dX6_init_15 : decode cX6_init 15 = .ok (.iconst (-1), 1) := by decide +kernel
theorem dX6_init_16 : decode cX6_init 16 = .ok (.iastore, 1) := by decide +kernel
theorem dX6_init_17 : decode cX6_init 17 = .ok (.dup, 1) := by decide +kernel
theorem dX6_init_18 : decode cX6_init 18 = .ok (.iconst 2, 1) := by decide +kernel
theorem dX6_init_19 : decode cX6_init 19 = .ok (.iconst (-1), 1) := by decide +kernel
theorem dX6_init_20 : decode cX6_init 20 = .ok (.iastore, 1) := by decide +kernel
theorem dX6_init_21 : decode cX6_init 21 = .ok (.dup, 1) := by decide +kernel
theorem dX6_init_22 : decode cX6_init 22 = .ok (.iconst 3, 1) := by decide +kernel
theorem dX6_init_23 : decode cX6_init 23 = .ok (.iconst (-1), 1) := by decide +kernel
theorem dX6_init_24 : decode cX6_init 24 = .ok (.iastore, 1) := by decide +kernel
theorem dX6_init_25 : decode cX6_init 25 = .ok (.dup, 1) := by decide +kernel
theorem dX6_init_26 : decode cX6_init 26 = .ok (.iconst 4, 1) := by decide +kernel
theorem dX6_init_27 : decode cX6_init 27 = .ok (.iconst (-1), 1) := by decide +kernel
theorem dX6_init_28 : decode cX6_init 28 = .ok (.iastore, 1) := by decide +kernel
theorem dX6_init_29 : decode cX6_init 29 = .ok (.dup, 1) := by decide +kernel
theorem dX6_init_30 : decode cX6_init 30 = .ok (.iconst 5, 1) := by decide +kernel
theorem dX6_init_31 : decode cX6_init 31 = .ok (.iconst (-1), 1) := by decide +kernel
theorem dX6_init_32 : decode cX6_init 32 = .ok (.iastore, 1) := by decide +kernel
theorem dX6_init_33 : decode cX6_init 33 = .ok (.dup, 1) := by decide +kernel
theorem dX6_init_34 : decode cX6_init 34 = .ok (.bipush 6, 2) := by decide +kernel
theorem dX6_init_36 : decode cX6_init 36 = .ok (.iconst (-1), 1) := by decide +kernel
theorem dX6_init_37 : decode cX6_init 37 = .ok (.iastore, 1) := by decide +kernel
theorem dX6_init_38 : decode cX6_init 38 = .ok (.dup, 1) := by decide +kernel
theorem dX6_init_39 : decode cX6_init 39 = .ok (.bipush 7, 2) := by decide +kernel
theorem dX6_init_41 : decode cX6_init 41 = .ok (.iconst (-1), 1) := by decide +kernel
theorem dX6_init_42 : decode cX6_init 42 = .ok (.iastore, 1) := by decide +kernel
theorem dX6_init_43 : decode cX6_init 43 = .ok (.putfield 7, 3) := by decide +kernel
theorem dX6_init_46 : decode cX6_init 46 = .ok (.aload_n 0, 1) := by decide +kernel
theorem dX6_init_47 : decode cX6_init 47 = .ok (.bipush 8, 2) := by decide +kernel
theorem dX6_init_49 : decode cX6_init 49 = .ok (.newarray .int, 2) := by decide +kernel
theorem dX6_init_51 : decode cX6_init 51 = .ok (.putfield 13, 3) := by decide +kernel
theorem dX6_init_54 : decode cX6_init 54 = .ok (.aload_n 0, 1) := by decide +kernel
theorem dX6_init_55 : decode cX6_init 55 = .ok (.sipush 320, 3) := by decide +kernel
theorem dX6_init_58 : decode cX6_init 58 = .ok (.newarray .int, 2) := by decide +kernel
theorem dX6_init_60 : decode cX6_init 60 = .ok (.putfield 16, 3) := by decide +kernel
theorem dX6_init_63 : decode cX6_init 63 = .ok (.aload_n 0, 1) := by decide +kernel
theorem dX6_init_64 : decode cX6_init 64 = .ok (.bipush 74, 2) := by decide +kernel
theorem dX6_init_66 : decode cX6_init 66 = .ok (.newarray .int, 2) := by decide +kernel
theorem dX6_init_68 : decode cX6_init 68 = .ok (.putfield 19, 3) := by decide +kernel
theorem dX6_init_71 : decode cX6_init 71 = .ok (.aload_n 0, 1) := by decide +kernel
theorem dX6_init_72 : decode cX6_init 72 = .ok (.bipush 74, 2) := by decide +kernel
theorem dX6_init_74 : decode cX6_init 74 = .ok (.newarray .int, 2) := by decide +kernel
theorem dX6_init_76 : decode cX6_init 76 = .ok (.putfield 22, 3) := by decide +kernel
theorem dX6_init_79 : decode cX6_init 79 = .ok (.aload_n 0, 1) := by decide +kernel
theorem dX6_init_80 : decode cX6_init 80 = .ok (.sipush 1776, 3) := by decide +kernel
theorem dX6_init_83 : decode cX6_init 83 = .ok (.newarray .int, 2) := by decide +kernel
theorem dX6_init_85 : decode cX6_init 85 = .ok (.putfield 25, 3) := by decide +kernel
theorem dX6_init_88 : decode cX6_init 88 = .ok (.aload_n 0, 1) := by decide +kernel
theorem dX6_init_89 : decode cX6_init 89 = .ok (.sipush 400, 3) := by decide +kernel
theorem dX6_init_92 : decode cX6_init 92 = .ok (.newarray .int, 2) := by decide +kernel
theorem dX6_init_94 : decode cX6_init 94 = .ok (.putfield 28, 3) := by decide +kernel
theorem dX6_init_97 : decode cX6_init 97 = .ok (.aload_n 0, 1) := by decide +kernel
theorem dX6_init_98 : decode cX6_init 98 = .ok (.bipush 7, 2) := by decide +kernel
theorem dX6_init_100 : decode cX6_init 100 = .ok (.newarray .int, 2) := by decide +kernel
theorem dX6_init_102 : decode cX6_init 102 = .ok (.putfield 31, 3) := by decide +kernel
theorem dX6_init_105 : decode cX6_init 105 = .ok (.aload_n 0, 1) := by decide +kernel
theorem dX6_init_106 : decode cX6_init 106 = .ok (.iconst 2, 1) := by decide +kernel
theorem dX6_init_107 : decode cX6_init 107 = .ok (.newarray .boolean, 2) := by decide +kernel
theorem dX6_init_109 : decode cX6_init 109 = .ok (.putfield 34, 3) := by decide +kernel
theorem dX6_init_112 : decode cX6_init 112 = .ok (.aload_n 0, 1) := by decide +kernel
theorem dX6_init_113 : decode cX6_init 113 = .ok (.sipush 148, 3) := by decide +kernel
theorem dX6_init_116 : decode cX6_init 116 = .ok (.newarray .int, 2) := by decide +kernel
theorem dX6_init_118 : decode cX6_init 118 = .ok (.putfield 38, 3) := by decide +kernel
theorem dX6_init_121 : decode cX6_init 121 = .ok (.aload_n 0, 1) := by decide +kernel
theorem dX6_init_122 : decode cX6_init 122 = .ok (.bipush 16, 2) := by decide +kernel
theorem dX6_init_124 : decode cX6_init 124 = .ok (.newarray .int, 2) := by decide +kernel
theorem dX6_init_126 : decode cX6_init 126 = .ok (.putfield 41, 3) := by decide +kernel
theorem dX6_init_129 : decode cX6_init 129 = .ok (.return_, 1) := by decide +kernel
theorem dX6_in_0 : decode cX6_in 0 = .ok (.lload_n 0, 1) := by decide +kernel
theorem dX6_in_1 : decode cX6_in 1 = .ok (.lload_n 2, 1) := by decide +kernel
theorem dX6_in_2 : decode cX6_in 2 = .ok (.lcmp, 1) := by decide +kernel
theorem dX6_in_3 : decode cX6_in 3 = .ok (.ifCond .lt 14, 3) := by decide +kernel
theorem dX6_in_6 : decode cX6_in 6 = .ok (.lload_n 0, 1) := by decide +kernel
theorem dX6_in_7 : decode cX6_in 7 = .ok (.lload 4, 2) := by decide +kernel
theorem dX6_in_9 : decode cX6_in 9 = .ok (.lcmp, 1) := by decide +kernel
theorem dX6_in_10 : decode cX6_in 10 = .ok (.ifCond .gt 7, 3) := by decide +kernel
theorem dX6_in_13 : decode cX6_in 13 = .ok (.iconst 1, 1) := by decide +kernel
theorem dX6_in_14 : decode cX6_in 14 = .ok (.goto 4, 3) := by decide +kernel
theorem dX6_in_17 : decode cX6_in 17 = .ok (.iconst 0, 1) := by decide +kernel
theorem dX6_in_18 : decode cX6_in 18 = .ok (.ireturn, 1) := by decide +kernel
theorem dX6_finding_0 : decode cX6_finding 0 = .ok (.aload_n 0, 1) := by decide +kernel
theorem dX6_finding_1 : decode cX6_finding 1 = .ok (.iload_n 1, 1) := by decide +kernel
theorem dX6_finding_2 : decode cX6_finding 2 = .ok (.putfield 48, 3) := by decide +kernel
theorem dX6_finding_5 : decode cX6_finding 5 = .ok (.ldc 51, 2) := by decide +kernel
theorem dX6_finding_7 : decode cX6_finding 7 = .ok (.iload_n 1, 1) := by decide +kernel
theorem dX6_finding_8 : decode cX6_finding 8 = .ok (.isub, 1) := by decide +kernel
theorem dX6_finding_9 : decode cX6_finding 9 = .ok (.ireturn, 1) := by decide +kernel
theorem dX6_isRow_0 : decode cX6_isRow 0 = .ok (.iload_n 0, 1) := by decide +kernel
theorem dX6_isRow_1 : decode cX6_isRow 1 = .ok (.i2l, 1) := by decide +kernel
theorem dX6_isRow_2 : decode cX6_isRow 2 = .ok (.lconst 0, 1) := by decide +kernel
theorem dX6_isRow_3 : decode cX6_isRow 3 = .ok (.ldc2_w 52, 3) := by decide +kernel
theorem dX6_isRow_6 : decode cX6_isRow 6 = .ok (.invokestatic 54, 3) := by decide +kernel
theorem dX6_isRow_9 : decode cX6_isRow 9 = .ok (.ireturn, 1) := by decide +kernel
theorem dX6_row_0 : decode cX6_row 0 = .ok (.aload_n 0, 1) := by decide +kernel
theorem dX6_row_1 : decode cX6_row 1 = .ok (.iconst 0, 1) := by decide +kernel
theorem dX6_row_2 : decode cX6_row 2 = .ok (.putfield 44, 3) := by decide +kernel
theorem dX6_row_5 : decode cX6_row 5 = .ok (.iload_n 1, 1) := by decide +kernel
theorem dX6_row_6 : decode cX6_row 6 = .ok (.invokestatic 58, 3) := by decide +kernel
theorem dX6_row_9 : decode cX6_row 9 = .ok (.ifCond .eq 21, 3) := by decide +kernel
theorem dX6_row_12 : decode cX6_row 12 = .ok (.iload_n 2, 1) := by decide +kernel
theorem dX6_row_13 : decode cX6_row 13 = .ok (.i2l, 1) := by decide +kernel
theorem dX6_row_14 : decode cX6_row 14 = .ok (.lconst 0, 1) := by decide +kernel
theorem dX6_row_15 : decode cX6_row 15 = .ok (.ldc2_w 62, 3) := by decide +kernel
theorem dX6_row_18 : decode cX6_row 18 = .ok (.invokestatic 54, 3) := by decide +kernel
theorem dX6_row_21 : decode cX6_row 21 = .ok (.ifCond .eq 9, 3) := by decide +kernel
theorem dX6_row_24 : decode cX6_row 24 = .ok (.iload_n 3, 1) := by decide +kernel
theorem dX6_row_25 : decode cX6_row 25 = .ok (.bipush 40, 2) := by decide +kernel
theorem dX6_row_27 : decode cX6_row 27 = .ok (.if_icmp .le 6, 3) := by decide +kernel
theorem dX6_row_30 : decode cX6_row 30 = .ok (.ldc 64, 2) := by decide +kernel
theorem dX6_row_32 : decode cX6_row 32 = .ok (.ireturn, 1) := by decide +kernel
theorem dX6_row_33 : decode cX6_row 33 = .ok (.aload_n 0, 1) := by decide +kernel
theorem dX6_row_34 : decode cX6_row 34 = .ok (.iconst 0, 1) := by decide +kernel
theorem dX6_row_35 : decode cX6_row 35 = .ok (.putfield 48, 3) := by decide +kernel
theorem dX6_row_38 : decode cX6_row 38 = .ok (.iload_n 3, 1) := by decide +kernel
theorem dX6_row_39 : decode cX6_row 39 = .ok (.ifCond .ge 9, 3) := by decide +kernel
theorem dX6_row_42 : decode cX6_row 42 = .ok (.aload_n 0, 1) := by decide +kernel
theorem dX6_row_43 : decode cX6_row 43 = .ok (.iconst 4, 1) := by decide +kernel
theorem dX6_row_44 : decode cX6_row 44 = .ok (.invokevirtual 65, 3) := by decide +kernel
theorem dX6_row_47 : decode cX6_row 47 = .ok (.ireturn, 1) := by decide +kernel
theorem dX6_row_48 : decode cX6_row 48 = .ok (.aload_n 0, 1) := by decide +kernel
theorem dX6_row_49 : decode cX6_row 49 = .ok (.getfield 7, 3) := by decide +kernel
theorem dX6_row_52 : decode cX6_row 52 = .ok (.iload_n 1, 1) := by decide +kernel
theorem dX6_row_53 : decode cX6_row 53 = .ok (.iload_n 2, 1) := by decide +kernel
theorem dX6_row_54 : decode cX6_row 54 = .ok (.iastore, 1) := by decide +kernel
theorem dX6_row_55 : decode cX6_row 55 = .ok (.aload_n 0, 1) := by decide +kernel
theorem dX6_row_56 : decode cX6_row 56 = .ok (.getfield 13, 3) := by decide +kernel
theorem dX6_row_59 : decode cX6_row 59 = .ok (.iload_n 1, 1) := by decide +kernel
theorem dX6_row_60 : decode cX6_row 60 = .ok (.iload_n 3, 1) := by decide +kernel
theorem dX6_row_61 : decode cX6_row 61 = .ok (.iastore, 1) := by decide +kernel
theorem dX6_row_62 : decode cX6_row 62 = .ok (.iconst 0, 1) := by decide +kernel
theorem dX6_row_63 : decode cX6_row 63 = .ok (.istore 4, 2) := by decide +kernel
theorem dX6_row_65 : decode cX6_row 65 = .ok (.iload 4, 2) := by decide +kernel
theorem dX6_row_67 : decode cX6_row 67 = .ok (.bipush 40, 2) := by decide +kernel
theorem dX6_row_69 : decode cX6_row 69 = .ok (.if_icmp .ge 22, 3) := by decide +kernel
theorem dX6_row_72 : decode cX6_row 72 = .ok (.aload_n 0, 1) := by decide +kernel
theorem dX6_row_73 : decode cX6_row 73 = .ok (.getfield 16, 3) := by decide +kernel
theorem dX6_row_76 : decode cX6_row 76 = .ok (.bipush 40, 2) := by decide +kernel
theorem dX6_row_78 : decode cX6_row 78 = .ok (.iload_n 1, 1) := by decide +kernel
theorem dX6_row_79 : decode cX6_row 79 = .ok (.imul, 1) := by decide +kernel
theorem dX6_row_80 : decode cX6_row 80 = .ok (.iload 4, 2) := by decide +kernel
theorem dX6_row_82 : decode cX6_row 82 = .ok (.iadd, 1) := by decide +kernel
theorem dX6_row_83 : decode cX6_row 83 = .ok (.iconst 0, 1) := by decide +kernel
theorem dX6_row_84 : decode cX6_row 84 = .ok (.iastore, 1) := by decide +kernel
theorem dX6_row_85 : decode cX6_row 85 = .ok (.iinc 4 1, 3) := by decide +kernel
theorem dX6_row_88 : decode cX6_row 88 = .ok (.goto (-23), 3) := by decide +kernel
theorem dX6_row_91 : decode cX6_row 91 = .ok (.iload_n 3, 1) := by decide +kernel
theorem dX6_row_92 : decode cX6_row 92 = .ok (.ireturn, 1) := by decide +kernel
theorem dX6_set_0 : decode cX6_set 0 = .ok (.aload_n 0, 1) := by decide +kernel
theorem dX6_set_1 : decode cX6_set 1 = .ok (.iconst 0, 1) := by decide +kernel
theorem dX6_set_2 : decode cX6_set 2 = .ok (.putfield 44, 3) := by decide +kernel
theorem dX6_set_5 : decode cX6_set 5 = .ok (.iload_n 1, 1) := by decide +kernel
theorem dX6_set_6 : decode cX6_set 6 = .ok (.invokestatic 58, 3) := by decide +kernel
theorem dX6_set_9 : decode cX6_set 9 = .ok (.ifCond .ne 6, 3) := by decide +kernel
theorem dX6_set_12 : decode cX6_set 12 = .ok (.ldc 64, 2) := by decide +kernel
theorem dX6_set_14 : decode cX6_set 14 = .ok (.ireturn, 1) := by decide +kernel
theorem dX6_set_15 : decode cX6_set 15 = .ok (.aload_n 0, 1) := by decide +kernel
theorem dX6_set_16 : decode cX6_set 16 = .ok (.iconst 0, 1) := by decide +kernel
theorem dX6_set_17 : decode cX6_set 17 = .ok (.putfield 48, 3) := by decide +kernel
theorem dX6_set_20 : decode cX6_set 20 = .ok (.aload_n 0, 1) := by decide +kernel
theorem dX6_set_21 : decode cX6_set 21 = .ok (.getfield 7, 3) := by decide +kernel
theorem dX6_set_24 : decode cX6_set 24 = .ok (.iload_n 1, 1) := by decide +kernel
theorem dX6_set_25 : decode cX6_set 25 = .ok (.iaload, 1) := by decide +kernel
theorem dX6_set_26 : decode cX6_set 26 = .ok (.ifCond .ge 9, 3) := by decide +kernel
theorem dX6_set_29 : decode cX6_set 29 = .ok (.aload_n 0, 1) := by decide +kernel
theorem dX6_set_30 : decode cX6_set 30 = .ok (.iconst 1, 1) := by decide +kernel
theorem dX6_set_31 : decode cX6_set 31 = .ok (.invokevirtual 65, 3) := by decide +kernel
theorem dX6_set_34 : decode cX6_set 34 = .ok (.ireturn, 1) := by decide +kernel
theorem dX6_set_35 : decode cX6_set 35 = .ok (.iload_n 2, 1) := by decide +kernel
theorem dX6_set_36 : decode cX6_set 36 = .ok (.i2l, 1) := by decide +kernel
theorem dX6_set_37 : decode cX6_set 37 = .ok (.lconst 0, 1) := by decide +kernel
theorem dX6_set_38 : decode cX6_set 38 = .ok (.aload_n 0, 1) := by decide +kernel
theorem dX6_set_39 : decode cX6_set 39 = .ok (.getfield 13, 3) := by decide +kernel
theorem dX6_set_42 : decode cX6_set 42 = .ok (.iload_n 1, 1) := by decide +kernel
theorem dX6_set_43 : decode cX6_set 43 = .ok (.iaload, 1) := by decide +kernel
theorem dX6_set_44 : decode cX6_set 44 = .ok (.iconst 1, 1) := by decide +kernel
theorem dX6_set_45 : decode cX6_set 45 = .ok (.isub, 1) := by decide +kernel
theorem dX6_set_46 : decode cX6_set 46 = .ok (.i2l, 1) := by decide +kernel
theorem dX6_set_47 : decode cX6_set 47 = .ok (.invokestatic 54, 3) := by decide +kernel
theorem dX6_set_50 : decode cX6_set 50 = .ok (.ifCond .ne 9, 3) := by decide +kernel
theorem dX6_set_53 : decode cX6_set 53 = .ok (.aload_n 0, 1) := by decide +kernel
theorem dX6_set_54 : decode cX6_set 54 = .ok (.iconst 2, 1) := by decide +kernel
theorem dX6_set_55 : decode cX6_set 55 = .ok (.invokevirtual 65, 3) := by decide +kernel
theorem dX6_set_58 : decode cX6_set 58 = .ok (.ireturn, 1) := by decide +kernel
theorem dX6_set_59 : decode cX6_set 59 = .ok (.aload_n 0, 1) := by decide +kernel
theorem dX6_set_60 : decode cX6_set 60 = .ok (.getfield 16, 3) := by decide +kernel
theorem dX6_set_63 : decode cX6_set 63 = .ok (.bipush 40, 2) := by decide +kernel
theorem dX6_set_65 : decode cX6_set 65 = .ok (.iload_n 1, 1) := by decide +kernel
theorem dX6_set_66 : decode cX6_set 66 = .ok (.imul, 1) := by decide +kernel
theorem dX6_set_67 : decode cX6_set 67 = .ok (.iload_n 2, 1) := by decide +kernel
theorem dX6_set_68 : decode cX6_set 68 = .ok (.iadd, 1) := by decide +kernel
theorem dX6_set_69 : decode cX6_set 69 = .ok (.aload_n 0, 1) := by decide +kernel
theorem dX6_set_70 : decode cX6_set 70 = .ok (.getfield 7, 3) := by decide +kernel
theorem dX6_set_73 : decode cX6_set 73 = .ok (.iload_n 1, 1) := by decide +kernel
theorem dX6_set_74 : decode cX6_set 74 = .ok (.iaload, 1) := by decide +kernel
theorem dX6_set_75 : decode cX6_set 75 = .ok (.ifCond .ne 8, 3) := by decide +kernel
theorem dX6_set_78 : decode cX6_set 78 = .ok (.iload_n 3, 1) := by decide +kernel
theorem dX6_set_79 : decode cX6_set 79 = .ok (.i2b, 1) := by decide +kernel
theorem dX6_set_80 : decode cX6_set 80 = .ok (.goto 19, 3) := by decide +kernel
theorem dX6_set_83 : decode cX6_set 83 = .ok (.aload_n 0, 1) := by decide +kernel
theorem dX6_set_84 : decode cX6_set 84 = .ok (.getfield 7, 3) := by decide +kernel
theorem dX6_set_87 : decode cX6_set 87 = .ok (.iload_n 1, 1) := by decide +kernel
theorem dX6_set_88 : decode cX6_set 88 = .ok (.iaload, 1) := by decide +kernel
theorem dX6_set_89 : decode cX6_set 89 = .ok (.iconst 1, 1) := by decide +kernel
theorem dX6_set_90 : decode cX6_set 90 = .ok (.if_icmp .ne 8, 3) := by decide +kernel
theorem dX6_set_93 : decode cX6_set 93 = .ok (.iload_n 3, 1) := by decide +kernel
theorem dX6_set_94 : decode cX6_set 94 = .ok (.i2s, 1) := by decide +kernel
theorem dX6_set_95 : decode cX6_set 95 = .ok (.goto 4, 3) := by decide +kernel
theorem dX6_set_98 : decode cX6_set 98 = .ok (.iload_n 3, 1) := by decide +kernel
theorem dX6_set_99 : decode cX6_set 99 = .ok (.iastore, 1) := by decide +kernel
theorem dX6_set_100 : decode cX6_set 100 = .ok (.aload_n 0, 1) := by decide +kernel
theorem dX6_set_101 : decode cX6_set 101 = .ok (.getfield 16, 3) := by decide +kernel
theorem dX6_set_104 : decode cX6_set 104 = .ok (.bipush 40, 2) := by decide +kernel
theorem dX6_set_106 : decode cX6_set 106 = .ok (.iload_n 1, 1) := by decide +kernel
theorem dX6_set_107 : decode cX6_set 107 = .ok (.imul, 1) := by decide +kernel
theorem dX6_set_108 : decode cX6_set 108 = .ok (.iload_n 2, 1) := by decide +kernel
theorem dX6_set_109 : decode cX6_set 109 = .ok (.iadd, 1) := by decide +kernel
theorem dX6_set_110 : decode cX6_set 110 = .ok (.iaload, 1) := by decide +kernel
theorem dX6_set_111 : decode cX6_set 111 = .ok (.ireturn, 1) := by decide +kernel
theorem dX6_copy_0 : decode cX6_copy 0 = .ok (.aload_n 0, 1) := by decide +kernel
theorem dX6_copy_1 : decode cX6_copy 1 = .ok (.iconst 0, 1) := by decide +kernel
theorem dX6_copy_2 : decode cX6_copy 2 = .ok (.putfield 44, 3) := by decide +kernel
theorem dX6_copy_5 : decode cX6_copy 5 = .ok (.iload_n 1, 1) := by decide +kernel
theorem dX6_copy_6 : decode cX6_copy 6 = .ok (.invokestatic 58, 3) := by decide +kernel
theorem dX6_copy_9 : decode cX6_copy 9 = .ok (.ifCond .eq 10, 3) := by decide +kernel
theorem dX6_copy_12 : decode cX6_copy 12 = .ok (.iload_n 3, 1) := by decide +kernel
theorem dX6_copy_13 : decode cX6_copy 13 = .ok (.invokestatic 58, 3) := by decide +kernel
theorem dX6_copy_16 : decode cX6_copy 16 = .ok (.ifCond .ne 6, 3) := by decide +kernel
theorem dX6_copy_19 : decode cX6_copy 19 = .ok (.ldc 64, 2) := by decide +kernel
theorem dX6_copy_21 : decode cX6_copy 21 = .ok (.ireturn, 1) := by decide +kernel
theorem dX6_copy_22 : decode cX6_copy 22 = .ok (.aload_n 0, 1) := by decide +kernel
theorem dX6_copy_23 : decode cX6_copy 23 = .ok (.iconst 0, 1) := by decide +kernel
theorem dX6_copy_24 : decode cX6_copy 24 = .ok (.putfield 48, 3) := by decide +kernel
theorem dX6_copy_27 : decode cX6_copy 27 = .ok (.aload_n 0, 1) := by decide +kernel
theorem dX6_copy_28 : decode cX6_copy 28 = .ok (.getfield 7, 3) := by decide +kernel
theorem dX6_copy_31 : decode cX6_copy 31 = .ok (.iload_n 1, 1) := by decide +kernel
theorem dX6_copy_32 : decode cX6_copy 32 = .ok (.iaload, 1) := by decide +kernel
theorem dX6_copy_33 : decode cX6_copy 33 = .ok (.ifCond .lt 12, 3) := by decide +kernel
theorem dX6_copy_36 : decode cX6_copy 36 = .ok (.aload_n 0, 1) := by decide +kernel
theorem dX6_copy_37 : decode cX6_copy 37 = .ok (.getfield 7, 3) := by decide +kernel
theorem dX6_copy_40 : decode cX6_copy 40 = .ok (.iload_n 3, 1) := by decide +kernel
theorem dX6_copy_41 : decode cX6_copy 41 = .ok (.iaload, 1) := by decide +kernel
theorem dX6_copy_42 : decode cX6_copy 42 = .ok (.ifCond .ge 9, 3) := by decide +kernel
theorem dX6_copy_45 : decode cX6_copy 45 = .ok (.aload_n 0, 1) := by decide +kernel
theorem dX6_copy_46 : decode cX6_copy 46 = .ok (.iconst 1, 1) := by decide +kernel
theorem dX6_copy_47 : decode cX6_copy 47 = .ok (.invokevirtual 65, 3) := by decide +kernel
theorem dX6_copy_50 : decode cX6_copy 50 = .ok (.ireturn, 1) := by decide +kernel
theorem dX6_copy_51 : decode cX6_copy 51 = .ok (.aload_n 0, 1) := by decide +kernel
theorem dX6_copy_52 : decode cX6_copy 52 = .ok (.getfield 7, 3) := by decide +kernel
theorem dX6_copy_55 : decode cX6_copy 55 = .ok (.iload_n 1, 1) := by decide +kernel
theorem dX6_copy_56 : decode cX6_copy 56 = .ok (.iaload, 1) := by decide +kernel
theorem dX6_copy_57 : decode cX6_copy 57 = .ok (.aload_n 0, 1) := by decide +kernel
theorem dX6_copy_58 : decode cX6_copy 58 = .ok (.getfield 7, 3) := by decide +kernel
theorem dX6_copy_61 : decode cX6_copy 61 = .ok (.iload_n 3, 1) := by decide +kernel
theorem dX6_copy_62 : decode cX6_copy 62 = .ok (.iaload, 1) := by decide +kernel
theorem dX6_copy_63 : decode cX6_copy 63 = .ok (.if_icmp .eq 9, 3) := by decide +kernel
theorem dX6_copy_66 : decode cX6_copy 66 = .ok (.aload_n 0, 1) := by decide +kernel
theorem dX6_copy_67 : decode cX6_copy 67 = .ok (.iconst 5, 1) := by decide +kernel
theorem dX6_copy_68 : decode cX6_copy 68 = .ok (.invokevirtual 65, 3) := by decide +kernel
theorem dX6_copy_71 : decode cX6_copy 71 = .ok (.ireturn, 1) := by decide +kernel
theorem dX6_copy_72 : decode cX6_copy 72 = .ok (.iload_n 2, 1) := by decide +kernel
theorem dX6_copy_73 : decode cX6_copy 73 = .ok (.ifCond .lt 48, 3) := by decide +kernel
theorem dX6_copy_76 : decode cX6_copy 76 = .ok (.iload 4, 2) := by decide +kernel
theorem dX6_copy_78 : decode cX6_copy 78 = .ok (.ifCond .lt 43, 3) := by decide +kernel
theorem dX6_copy_81 : decode cX6_copy 81 = .ok (.iload 5, 2) := by decide +kernel
theorem dX6_copy_83 : decode cX6_copy 83 = .ok (.ifCond .lt 38, 3) := by decide +kernel
theorem dX6_copy_86 : decode cX6_copy 86 = .ok (.iload_n 2, 1) := by decide +kernel
theorem dX6_copy_87 : decode cX6_copy 87 = .ok (.i2l, 1) := by decide +kernel
theorem dX6_copy_88 : decode cX6_copy 88 = .ok (.iload 5, 2) := by decide +kernel
theorem dX6_copy_90 : decode cX6_copy 90 = .ok (.i2l, 1) := by decide +kernel
theorem dX6_copy_91 : decode cX6_copy 91 = .ok (.ladd, 1) := by decide +kernel
theorem dX6_copy_92 : decode cX6_copy 92 = .ok (.aload_n 0, 1) := by decide +kernel
theorem dX6_copy_93 : decode cX6_copy 93 = .ok (.getfield 13, 3) := by decide +kernel
theorem dX6_copy_96 : decode cX6_copy 96 = .ok (.iload_n 1, 1) := by decide +kernel
theorem dX6_copy_97 : decode cX6_copy 97 = .ok (.iaload, 1) := by decide +kernel
theorem dX6_copy_98 : decode cX6_copy 98 = .ok (.i2l, 1) := by decide +kernel
theorem dX6_copy_99 : decode cX6_copy 99 = .ok (.lcmp, 1) := by decide +kernel
theorem dX6_copy_100 : decode cX6_copy 100 = .ok (.ifCond .gt 21, 3) := by decide +kernel
theorem dX6_copy_103 : decode cX6_copy 103 = .ok (.iload 4, 2) := by decide +kernel
theorem dX6_copy_105 : decode cX6_copy 105 = .ok (.i2l, 1) := by decide +kernel
theorem dX6_copy_106 : decode cX6_copy 106 = .ok (.iload 5, 2) := by decide +kernel
theorem dX6_copy_108 : decode cX6_copy 108 = .ok (.i2l, 1) := by decide +kernel
theorem dX6_copy_109 : decode cX6_copy 109 = .ok (.ladd, 1) := by decide +kernel
theorem dX6_copy_110 : decode cX6_copy 110 = .ok (.aload_n 0, 1) := by decide +kernel
theorem dX6_copy_111 : decode cX6_copy 111 = .ok (.getfield 13, 3) := by decide +kernel
theorem dX6_copy_114 : decode cX6_copy 114 = .ok (.iload_n 3, 1) := by decide +kernel
theorem dX6_copy_115 : decode cX6_copy 115 = .ok (.iaload, 1) := by decide +kernel
theorem dX6_copy_116 : decode cX6_copy 116 = .ok (.i2l, 1) := by decide +kernel
theorem dX6_copy_117 : decode cX6_copy 117 = .ok (.lcmp, 1) := by decide +kernel
theorem dX6_copy_118 : decode cX6_copy 118 = .ok (.ifCond .le 9, 3) := by decide +kernel
theorem dX6_copy_121 : decode cX6_copy 121 = .ok (.aload_n 0, 1) := by decide +kernel
theorem dX6_copy_122 : decode cX6_copy 122 = .ok (.iconst 2, 1) := by decide +kernel
theorem dX6_copy_123 : decode cX6_copy 123 = .ok (.invokevirtual 65, 3) := by decide +kernel
theorem dX6_copy_126 : decode cX6_copy 126 = .ok (.ireturn, 1) := by decide +kernel
theorem dX6_copy_127 : decode cX6_copy 127 = .ok (.iload_n 2, 1) := by decide +kernel
theorem dX6_copy_128 : decode cX6_copy 128 = .ok (.iload 4, 2) := by decide +kernel
theorem dX6_copy_130 : decode cX6_copy 130 = .ok (.if_icmp .lt 7, 3) := by decide +kernel
theorem dX6_copy_133 : decode cX6_copy 133 = .ok (.iconst 1, 1) := by decide +kernel
theorem dX6_copy_134 : decode cX6_copy 134 = .ok (.goto 4, 3) := by decide +kernel
theorem dX6_copy_137 : decode cX6_copy 137 = .ok (.iconst 0, 1) := by decide +kernel
theorem dX6_copy_138 : decode cX6_copy 138 = .ok (.istore 6, 2) := by decide +kernel
theorem dX6_copy_140 : decode cX6_copy 140 = .ok (.iconst 0, 1) := by decide +kernel
theorem dX6_copy_141 : decode cX6_copy 141 = .ok (.istore 7, 2) := by decide +kernel
theorem dX6_copy_143 : decode cX6_copy 143 = .ok (.iload 7, 2) := by decide +kernel
theorem dX6_copy_145 : decode cX6_copy 145 = .ok (.iload 5, 2) := by decide +kernel
theorem dX6_copy_147 : decode cX6_copy 147 = .ok (.if_icmp .ge 57, 3) := by decide +kernel
theorem dX6_copy_150 : decode cX6_copy 150 = .ok (.iload 6, 2) := by decide +kernel
theorem dX6_copy_152 : decode cX6_copy 152 = .ok (.ifCond .eq 8, 3) := by decide +kernel
theorem dX6_copy_155 : decode cX6_copy 155 = .ok (.iload 7, 2) := by decide +kernel
theorem dX6_copy_157 : decode cX6_copy 157 = .ok (.goto 10, 3) := by decide +kernel
theorem dX6_copy_160 : decode cX6_copy 160 = .ok (.iload 5, 2) := by decide +kernel
theorem dX6_copy_162 : decode cX6_copy 162 = .ok (.iconst 1, 1) := by decide +kernel
theorem dX6_copy_163 : decode cX6_copy 163 = .ok (.isub, 1) := by decide +kernel
theorem dX6_copy_164 : decode cX6_copy 164 = .ok (.iload 7, 2) := by decide +kernel
theorem dX6_copy_166 : decode cX6_copy 166 = .ok (.isub, 1) := by decide +kernel
theorem dX6_copy_167 : decode cX6_copy 167 = .ok (.istore 8, 2) := by decide +kernel
theorem dX6_copy_169 : decode cX6_copy 169 = .ok (.aload_n 0, 1) := by decide +kernel
theorem dX6_copy_170 : decode cX6_copy 170 = .ok (.getfield 16, 3) := by decide +kernel
theorem dX6_copy_173 : decode cX6_copy 173 = .ok (.bipush 40, 2) := by decide +kernel
theorem dX6_copy_175 : decode cX6_copy 175 = .ok (.iload_n 3, 1) := by decide +kernel
theorem dX6_copy_176 : decode cX6_copy 176 = .ok (.imul, 1) := by decide +kernel
theorem dX6_copy_177 : decode cX6_copy 177 = .ok (.iload 4, 2) := by decide +kernel
theorem dX6_copy_179 : decode cX6_copy 179 = .ok (.iadd, 1) := by decide +kernel
theorem dX6_copy_180 : decode cX6_copy 180 = .ok (.iload 8, 2) := by decide +kernel
theorem dX6_copy_182 : decode cX6_copy 182 = .ok (.iadd, 1) := by decide +kernel
theorem dX6_copy_183 : decode cX6_copy 183 = .ok (.aload_n 0, 1) := by decide +kernel
theorem dX6_copy_184 : decode cX6_copy 184 = .ok (.getfield 16, 3) := by decide +kernel
theorem dX6_copy_187 : decode cX6_copy 187 = .ok (.bipush 40, 2) := by decide +kernel
theorem dX6_copy_189 : decode cX6_copy 189 = .ok (.iload_n 1, 1) := by decide +kernel
theorem dX6_copy_190 : decode cX6_copy 190 = .ok (.imul, 1) := by decide +kernel
theorem dX6_copy_191 : decode cX6_copy 191 = .ok (.iload_n 2, 1) := by decide +kernel
theorem dX6_copy_192 : decode cX6_copy 192 = .ok (.iadd, 1) := by decide +kernel
theorem dX6_copy_193 : decode cX6_copy 193 = .ok (.iload 8, 2) := by decide +kernel
theorem dX6_copy_195 : decode cX6_copy 195 = .ok (.iadd, 1) := by decide +kernel
theorem dX6_copy_196 : decode cX6_copy 196 = .ok (.iaload, 1) := by decide +kernel
theorem dX6_copy_197 : decode cX6_copy 197 = .ok (.iastore, 1) := by decide +kernel
theorem dX6_copy_198 : decode cX6_copy 198 = .ok (.iinc 7 1, 3) := by decide +kernel
theorem dX6_copy_201 : decode cX6_copy 201 = .ok (.goto (-58), 3) := by decide +kernel
theorem dX6_copy_204 : decode cX6_copy 204 = .ok (.iload 5, 2) := by decide +kernel
theorem dX6_copy_206 : decode cX6_copy 206 = .ok (.ireturn, 1) := by decide +kernel
theorem dX6_drop_0 : decode cX6_drop 0 = .ok (.aload_n 0, 1) := by decide +kernel
theorem dX6_drop_1 : decode cX6_drop 1 = .ok (.iconst 0, 1) := by decide +kernel
theorem dX6_drop_2 : decode cX6_drop 2 = .ok (.putfield 44, 3) := by decide +kernel
theorem dX6_drop_5 : decode cX6_drop 5 = .ok (.iload_n 1, 1) := by decide +kernel
theorem dX6_drop_6 : decode cX6_drop 6 = .ok (.invokestatic 58, 3) := by decide +kernel
theorem dX6_drop_9 : decode cX6_drop 9 = .ok (.ifCond .ne 6, 3) := by decide +kernel
theorem dX6_drop_12 : decode cX6_drop 12 = .ok (.ldc 64, 2) := by decide +kernel
theorem dX6_drop_14 : decode cX6_drop 14 = .ok (.ireturn, 1) := by decide +kernel
theorem dX6_drop_15 : decode cX6_drop 15 = .ok (.aload_n 0, 1) := by decide +kernel
theorem dX6_drop_16 : decode cX6_drop 16 = .ok (.iconst 0, 1) := by decide +kernel
theorem dX6_drop_17 : decode cX6_drop 17 = .ok (.putfield 48, 3) := by decide +kernel
theorem dX6_drop_20 : decode cX6_drop 20 = .ok (.aload_n 0, 1) := by decide +kernel
theorem dX6_drop_21 : decode cX6_drop 21 = .ok (.getfield 7, 3) := by decide +kernel
theorem dX6_drop_24 : decode cX6_drop 24 = .ok (.iload_n 1, 1) := by decide +kernel
theorem dX6_drop_25 : decode cX6_drop 25 = .ok (.iaload, 1) := by decide +kernel
theorem dX6_drop_26 : decode cX6_drop 26 = .ok (.ifCond .ge 9, 3) := by decide +kernel
theorem dX6_drop_29 : decode cX6_drop 29 = .ok (.aload_n 0, 1) := by decide +kernel
theorem dX6_drop_30 : decode cX6_drop 30 = .ok (.iconst 1, 1) := by decide +kernel
theorem dX6_drop_31 : decode cX6_drop 31 = .ok (.invokevirtual 65, 3) := by decide +kernel
theorem dX6_drop_34 : decode cX6_drop 34 = .ok (.ireturn, 1) := by decide +kernel
theorem dX6_drop_35 : decode cX6_drop 35 = .ok (.aload_n 0, 1) := by decide +kernel
theorem dX6_drop_36 : decode cX6_drop 36 = .ok (.getfield 7, 3) := by decide +kernel
theorem dX6_drop_39 : decode cX6_drop 39 = .ok (.iload_n 1, 1) := by decide +kernel
theorem dX6_drop_40 : decode cX6_drop 40 = .ok (.iconst (-1), 1) := by decide +kernel
theorem dX6_drop_41 : decode cX6_drop 41 = .ok (.iastore, 1) := by decide +kernel
theorem dX6_drop_42 : decode cX6_drop 42 = .ok (.aload_n 0, 1) := by decide +kernel
theorem dX6_drop_43 : decode cX6_drop 43 = .ok (.getfield 13, 3) := by decide +kernel
theorem dX6_drop_46 : decode cX6_drop 46 = .ok (.iload_n 1, 1) := by decide +kernel
theorem dX6_drop_47 : decode cX6_drop 47 = .ok (.iaload, 1) := by decide +kernel
theorem dX6_drop_48 : decode cX6_drop 48 = .ok (.ireturn, 1) := by decide +kernel
theorem dX6_feed_0 : decode cX6_feed 0 = .ok (.aload_n 0, 1) := by decide +kernel
theorem dX6_feed_1 : decode cX6_feed 1 = .ok (.iconst 0, 1) := by decide +kernel
theorem dX6_feed_2 : decode cX6_feed 2 = .ok (.putfield 44, 3) := by decide +kernel
theorem dX6_feed_5 : decode cX6_feed 5 = .ok (.iload_n 3, 1) := by decide +kernel
theorem dX6_feed_6 : decode cX6_feed 6 = .ok (.i2l, 1) := by decide +kernel
theorem dX6_feed_7 : decode cX6_feed 7 = .ok (.lconst 1, 1) := by decide +kernel
theorem dX6_feed_8 : decode cX6_feed 8 = .ok (.ldc2_w 69, 3) := by decide +kernel
theorem dX6_feed_11 : decode cX6_feed 11 = .ok (.invokestatic 54, 3) := by decide +kernel
theorem dX6_feed_14 : decode cX6_feed 14 = .ok (.ifCond .ne 6, 3) := by decide +kernel
theorem dX6_feed_17 : decode cX6_feed 17 = .ok (.ldc 64, 2) := by decide +kernel
theorem dX6_feed_19 : decode cX6_feed 19 = .ok (.ireturn, 1) := by decide +kernel
theorem dX6_feed_20 : decode cX6_feed 20 = .ok (.aload_n 0, 1) := by decide +kernel
theorem dX6_feed_21 : decode cX6_feed 21 = .ok (.getfield 71, 3) := by decide +kernel
theorem dX6_feed_24 : decode cX6_feed 24 = .ok (.iload_n 3, 1) := by decide +kernel
theorem dX6_feed_25 : decode cX6_feed 25 = .ok (.iadd, 1) := by decide +kernel
theorem dX6_feed_26 : decode cX6_feed 26 = .ok (.sipush 400, 3) := by decide +kernel
theorem dX6_feed_29 : decode cX6_feed 29 = .ok (.if_icmp .le 6, 3) := by decide +kernel
theorem dX6_feed_32 : decode cX6_feed 32 = .ok (.ldc 74, 2) := by decide +kernel
theorem dX6_feed_34 : decode cX6_feed 34 = .ok (.ireturn, 1) := by decide +kernel
theorem dX6_feed_35 : decode cX6_feed 35 = .ok (.iload_n 3, 1) := by decide +kernel
theorem dX6_feed_36 : decode cX6_feed 36 = .ok (.iconst 1, 1) := by decide +kernel
theorem dX6_feed_37 : decode cX6_feed 37 = .ok (.isub, 1) := by decide +kernel
theorem dX6_feed_38 : decode cX6_feed 38 = .ok (.istore 4, 2) := by decide +kernel
theorem dX6_feed_40 : decode cX6_feed 40 = .ok (.iload 4, 2) := by decide +kernel
theorem dX6_feed_42 : decode cX6_feed 42 = .ok (.ifCond .lt 40, 3) := by decide +kernel
theorem dX6_feed_45 : decode cX6_feed 45 = .ok (.aload_n 0, 1) := by decide +kernel
theorem dX6_feed_46 : decode cX6_feed 46 = .ok (.getfield 28, 3) := by decide +kernel
theorem dX6_feed_49 : decode cX6_feed 49 = .ok (.aload_n 0, 1) := by decide +kernel
theorem dX6_feed_50 : decode cX6_feed 50 = .ok (.getfield 71, 3) := by decide +kernel
theorem dX6_feed_53 : decode cX6_feed 53 = .ok (.lload_n 1, 1) := by decide +kernel
theorem dX6_feed_54 : decode cX6_feed 54 = .ok (.bipush 8, 2) := by decide +kernel
theorem dX6_feed_56 : decode cX6_feed 56 = .ok (.iload 4, 2) := by decide +kernel
theorem dX6_feed_58 : decode cX6_feed 58 = .ok (.imul, 1) := by decide +kernel
theorem dX6_feed_59 : decode cX6_feed 59 = .ok (.lshr, 1) := by decide +kernel
theorem dX6_feed_60 : decode cX6_feed 60 = .ok (.ldc2_w 75, 3) := by decide +kernel
theorem dX6_feed_63 : decode cX6_feed 63 = .ok (.land, 1) := by decide +kernel
theorem dX6_feed_64 : decode cX6_feed 64 = .ok (.l2i, 1) := by decide +kernel
theorem dX6_feed_65 : decode cX6_feed 65 = .ok (.iastore, 1) := by decide +kernel
theorem dX6_feed_66 : decode cX6_feed 66 = .ok (.aload_n 0, 1) := by decide +kernel
theorem dX6_feed_67 : decode cX6_feed 67 = .ok (.dup, 1) := by decide +kernel
theorem dX6_feed_68 : decode cX6_feed 68 = .ok (.getfield 71, 3) := by decide +kernel
theorem dX6_feed_71 : decode cX6_feed 71 = .ok (.iconst 1, 1) := by decide +kernel
theorem dX6_feed_72 : decode cX6_feed 72 = .ok (.iadd, 1) := by decide +kernel
theorem dX6_feed_73 : decode cX6_feed 73 = .ok (.putfield 71, 3) := by decide +kernel
theorem dX6_feed_76 : decode cX6_feed 76 = .ok (.iinc 4 (-1), 3) := by decide +kernel
theorem dX6_feed_79 : decode cX6_feed 79 = .ok (.goto (-39), 3) := by decide +kernel
theorem dX6_feed_82 : decode cX6_feed 82 = .ok (.aload_n 0, 1) := by decide +kernel
theorem dX6_feed_83 : decode cX6_feed 83 = .ok (.getfield 71, 3) := by decide +kernel
theorem dX6_feed_86 : decode cX6_feed 86 = .ok (.ireturn, 1) := by decide +kernel
theorem dX6_byteAt_0 : decode cX6_byteAt 0 = .ok (.iload_n 1, 1) := by decide +kernel
theorem dX6_byteAt_1 : decode cX6_byteAt 1 = .ok (.aload_n 0, 1) := by decide +kernel
theorem dX6_byteAt_2 : decode cX6_byteAt 2 = .ok (.getfield 77, 3) := by decide +kernel
theorem dX6_byteAt_5 : decode cX6_byteAt 5 = .ok (.if_icmp .ge 12, 3) := by decide +kernel
theorem dX6_byteAt_8 : decode cX6_byteAt 8 = .ok (.aload_n 0, 1) := by decide +kernel
theorem dX6_byteAt_9 : decode cX6_byteAt 9 = .ok (.getfield 28, 3) := by decide +kernel
theorem dX6_byteAt_12 : decode cX6_byteAt 12 = .ok (.iload_n 1, 1) := by decide +kernel
theorem dX6_byteAt_13 : decode cX6_byteAt 13 = .ok (.iaload, 1) := by decide +kernel
theorem dX6_byteAt_14 : decode cX6_byteAt 14 = .ok (.goto 5, 3) := by decide +kernel
theorem dX6_byteAt_17 : decode cX6_byteAt 17 = .ok (.ldc 80, 2) := by decide +kernel
theorem dX6_byteAt_19 : decode cX6_byteAt 19 = .ok (.ireturn, 1) := by decide +kernel
theorem dX6_isLetter_0 : decode cX6_isLetter 0 = .ok (.iload_n 0, 1) := by decide +kernel
theorem dX6_isLetter_1 : decode cX6_isLetter 1 = .ok (.bipush 97, 2) := by decide +kernel
theorem dX6_isLetter_3 : decode cX6_isLetter 3 = .ok (.if_icmp .lt 13, 3) := by decide +kernel
theorem dX6_isLetter_6 : decode cX6_isLetter 6 = .ok (.iload_n 0, 1) := by decide +kernel
theorem dX6_isLetter_7 : decode cX6_isLetter 7 = .ok (.bipush 122, 2) := by decide +kernel
theorem dX6_isLetter_9 : decode cX6_isLetter 9 = .ok (.if_icmp .gt 7, 3) := by decide +kernel
theorem dX6_isLetter_12 : decode cX6_isLetter 12 = .ok (.iconst 1, 1) := by decide +kernel
theorem dX6_isLetter_13 : decode cX6_isLetter 13 = .ok (.goto 4, 3) := by decide +kernel
theorem dX6_isLetter_16 : decode cX6_isLetter 16 = .ok (.iconst 0, 1) := by decide +kernel
theorem dX6_isLetter_17 : decode cX6_isLetter 17 = .ok (.ireturn, 1) := by decide +kernel
theorem dX6_isFigure_0 : decode cX6_isFigure 0 = .ok (.iload_n 0, 1) := by decide +kernel
theorem dX6_isFigure_1 : decode cX6_isFigure 1 = .ok (.bipush 48, 2) := by decide +kernel
theorem dX6_isFigure_3 : decode cX6_isFigure 3 = .ok (.if_icmp .lt 13, 3) := by decide +kernel
theorem dX6_isFigure_6 : decode cX6_isFigure 6 = .ok (.iload_n 0, 1) := by decide +kernel
theorem dX6_isFigure_7 : decode cX6_isFigure 7 = .ok (.bipush 57, 2) := by decide +kernel
theorem dX6_isFigure_9 : decode cX6_isFigure 9 = .ok (.if_icmp .gt 7, 3) := by decide +kernel
theorem dX6_isFigure_12 : decode cX6_isFigure 12 = .ok (.iconst 1, 1) := by decide +kernel
theorem dX6_isFigure_13 : decode cX6_isFigure 13 = .ok (.goto 4, 3) := by decide +kernel
theorem dX6_isFigure_16 : decode cX6_isFigure 16 = .ok (.iconst 0, 1) := by decide +kernel
theorem dX6_isFigure_17 : decode cX6_isFigure 17 = .ok (.ireturn, 1) := by decide +kernel
theorem dX6_next_0 : decode cX6_next 0 = .ok (.aload_n 0, 1) := by decide +kernel
theorem dX6_next_1 : decode cX6_next 1 = .ok (.aload_n 0, 1) := by decide +kernel
theorem dX6_next_2 : decode cX6_next 2 = .ok (.getfield 81, 3) := by decide +kernel
theorem dX6_next_5 : decode cX6_next 5 = .ok (.invokevirtual 84, 3) := by decide +kernel
theorem dX6_next_8 : decode cX6_next 8 = .ok (.bipush 32, 2) := by decide +kernel
theorem dX6_next_10 : decode cX6_next 10 = .ok (.if_icmp .eq 16, 3) := by decide +kernel
theorem dX6_next_13 : decode cX6_next 13 = .ok (.aload_n 0, 1) := by decide +kernel
theorem dX6_next_14 : decode cX6_next 14 = .ok (.aload_n 0, 1) := by decide +kernel
theorem dX6_next_15 : decode cX6_next 15 = .ok (.getfield 81, 3) := by decide +kernel
theorem dX6_next_18 : decode cX6_next 18 = .ok (.invokevirtual 84, 3) := by decide +kernel
theorem dX6_next_21 : decode cX6_next 21 = .ok (.bipush 10, 2) := by decide +kernel
theorem dX6_next_23 : decode cX6_next 23 = .ok (.if_icmp .ne 16, 3) := by decide +kernel
theorem dX6_next_26 : decode cX6_next 26 = .ok (.aload_n 0, 1) := by decide +kernel
theorem dX6_next_27 : decode cX6_next 27 = .ok (.dup, 1) := by decide +kernel
theorem dX6_next_28 : decode cX6_next 28 = .ok (.getfield 81, 3) := by decide +kernel
theorem dX6_next_31 : decode cX6_next 31 = .ok (.iconst 1, 1) := by decide +kernel
theorem dX6_next_32 : decode cX6_next 32 = .ok (.iadd, 1) := by decide +kernel
theorem dX6_next_33 : decode cX6_next 33 = .ok (.putfield 81, 3) := by decide +kernel
theorem dX6_next_36 : decode cX6_next 36 = .ok (.goto (-36), 3) := by decide +kernel
theorem dX6_next_39 : decode cX6_next 39 = .ok (.aload_n 0, 1) := by decide +kernel
theorem dX6_next_40 : decode cX6_next 40 = .ok (.aload_n 0, 1) := by decide +kernel
theorem dX6_next_41 : decode cX6_next 41 = .ok (.getfield 81, 3) := by decide +kernel
theorem dX6_next_44 : decode cX6_next 44 = .ok (.putfield 87, 3) := by decide +kernel
theorem dX6_next_47 : decode cX6_next 47 = .ok (.aload_n 0, 1) := by decide +kernel
theorem dX6_next_48 : decode cX6_next 48 = .ok (.aload_n 0, 1) := by decide +kernel
theorem dX6_next_49 : decode cX6_next 49 = .ok (.getfield 81, 3) := by decide +kernel
theorem dX6_next_52 : decode cX6_next 52 = .ok (.invokevirtual 84, 3) := by decide +kernel
theorem dX6_next_55 : decode cX6_next 55 = .ok (.istore_n 1, 1) := by decide +kernel
theorem dX6_next_56 : decode cX6_next 56 = .ok (.iload_n 1, 1) := by decide +kernel
theorem dX6_next_57 : decode cX6_next 57 = .ok (.ldc 80, 2) := by decide +kernel
theorem dX6_next_59 : decode cX6_next 59 = .ok (.if_icmp .ne 11, 3) := by decide +kernel
theorem dX6_next_62 : decode cX6_next 62 = .ok (.aload_n 0, 1) := by decide +kernel
theorem dX6_next_63 : decode cX6_next 63 = .ok (.iconst 1, 1) := by decide +kernel
theorem dX6_next_64 : decode cX6_next 64 = .ok (.putfield 90, 3) := by decide +kernel
theorem dX6_next_67 : decode cX6_next 67 = .ok (.goto 129, 3) := by decide +kernel
theorem dX6_next_70 : decode cX6_next 70 = .ok (.iload_n 1, 1) := by decide +kernel
theorem dX6_next_71 : decode cX6_next 71 = .ok (.invokestatic 93, 3) := by decide +kernel
theorem dX6_next_74 : decode cX6_next 74 = .ok (.ifCond .eq 38, 3) := by decide +kernel
theorem dX6_next_77 : decode cX6_next 77 = .ok (.aload_n 0, 1) := by decide +kernel
theorem dX6_next_78 : decode cX6_next 78 = .ok (.aload_n 0, 1) := by decide +kernel
theorem dX6_next_79 : decode cX6_next 79 = .ok (.getfield 81, 3) := by decide +kernel
theorem dX6_next_82 : decode cX6_next 82 = .ok (.invokevirtual 84, 3) := by decide +kernel
theorem dX6_next_85 : decode cX6_next 85 = .ok (.invokestatic 93, 3) := by decide +kernel
theorem dX6_next_88 : decode cX6_next 88 = .ok (.ifCond .eq 16, 3) := by decide +kernel
theorem dX6_next_91 : decode cX6_next 91 = .ok (.aload_n 0, 1) := by decide +kernel
theorem dX6_next_92 : decode cX6_next 92 = .ok (.dup, 1) := by decide +kernel
theorem dX6_next_93 : decode cX6_next 93 = .ok (.getfield 81, 3) := by decide +kernel
theorem dX6_next_96 : decode cX6_next 96 = .ok (.iconst 1, 1) := by decide +kernel
theorem dX6_next_97 : decode cX6_next 97 = .ok (.iadd, 1) := by decide +kernel
theorem dX6_next_98 : decode cX6_next 98 = .ok (.putfield 81, 3) := by decide +kernel
theorem dX6_next_101 : decode cX6_next 101 = .ok (.goto (-24), 3) := by decide +kernel
theorem dX6_next_104 : decode cX6_next 104 = .ok (.aload_n 0, 1) := by decide +kernel
theorem dX6_next_105 : decode cX6_next 105 = .ok (.iconst 2, 1) := by decide +kernel
theorem dX6_next_106 : decode cX6_next 106 = .ok (.putfield 90, 3) := by decide +kernel
theorem dX6_next_109 : decode cX6_next 109 = .ok (.goto 87, 3) := by decide +kernel
theorem dX6_next_112 : decode cX6_next 112 = .ok (.iload_n 1, 1) := by decide +kernel
theorem dX6_next_113 : decode cX6_next 113 = .ok (.invokestatic 96, 3) := by decide +kernel
theorem dX6_next_116 : decode cX6_next 116 = .ok (.ifCond .eq 55, 3) := by decide +kernel
theorem dX6_next_119 : decode cX6_next 119 = .ok (.aload_n 0, 1) := by decide +kernel
theorem dX6_next_120 : decode cX6_next 120 = .ok (.aload_n 0, 1) := by decide +kernel
theorem dX6_next_121 : decode cX6_next 121 = .ok (.getfield 81, 3) := by decide +kernel
theorem dX6_next_124 : decode cX6_next 124 = .ok (.invokevirtual 84, 3) := by decide +kernel
theorem dX6_next_127 : decode cX6_next 127 = .ok (.invokestatic 96, 3) := by decide +kernel
theorem dX6_next_130 : decode cX6_next 130 = .ok (.ifCond .eq 16, 3) := by decide +kernel
theorem dX6_next_133 : decode cX6_next 133 = .ok (.aload_n 0, 1) := by decide +kernel
theorem dX6_next_134 : decode cX6_next 134 = .ok (.dup, 1) := by decide +kernel
theorem dX6_next_135 : decode cX6_next 135 = .ok (.getfield 81, 3) := by decide +kernel
theorem dX6_next_138 : decode cX6_next 138 = .ok (.iconst 1, 1) := by decide +kernel
theorem dX6_next_139 : decode cX6_next 139 = .ok (.iadd, 1) := by decide +kernel
theorem dX6_next_140 : decode cX6_next 140 = .ok (.putfield 81, 3) := by decide +kernel
theorem dX6_next_143 : decode cX6_next 143 = .ok (.goto (-24), 3) := by decide +kernel
theorem dX6_next_146 : decode cX6_next 146 = .ok (.aload_n 0, 1) := by decide +kernel
theorem dX6_next_147 : decode cX6_next 147 = .ok (.aload_n 0, 1) := by decide +kernel
theorem dX6_next_148 : decode cX6_next 148 = .ok (.getfield 81, 3) := by decide +kernel
theorem dX6_next_151 : decode cX6_next 151 = .ok (.aload_n 0, 1) := by decide +kernel
theorem dX6_next_152 : decode cX6_next 152 = .ok (.getfield 87, 3) := by decide +kernel
theorem dX6_next_155 : decode cX6_next 155 = .ok (.isub, 1) := by decide +kernel
theorem dX6_next_156 : decode cX6_next 156 = .ok (.iconst 3, 1) := by decide +kernel
theorem dX6_next_157 : decode cX6_next 157 = .ok (.if_icmp .le 7, 3) := by decide +kernel
theorem dX6_next_160 : decode cX6_next 160 = .ok (.iconst 0, 1) := by decide +kernel
theorem dX6_next_161 : decode cX6_next 161 = .ok (.goto 4, 3) := by decide +kernel
theorem dX6_next_164 : decode cX6_next 164 = .ok (.iconst 3, 1) := by decide +kernel
theorem dX6_next_165 : decode cX6_next 165 = .ok (.putfield 90, 3) := by decide +kernel
theorem dX6_next_168 : decode cX6_next 168 = .ok (.goto 28, 3) := by decide +kernel
theorem dX6_next_171 : decode cX6_next 171 = .ok (.aload_n 0, 1) := by decide +kernel
theorem dX6_next_172 : decode cX6_next 172 = .ok (.dup, 1) := by decide +kernel
theorem dX6_next_173 : decode cX6_next 173 = .ok (.getfield 81, 3) := by decide +kernel
theorem dX6_next_176 : decode cX6_next 176 = .ok (.iconst 1, 1) := by decide +kernel
theorem dX6_next_177 : decode cX6_next 177 = .ok (.iadd, 1) := by decide +kernel
theorem dX6_next_178 : decode cX6_next 178 = .ok (.putfield 81, 3) := by decide +kernel
theorem dX6_next_181 : decode cX6_next 181 = .ok (.aload_n 0, 1) := by decide +kernel
theorem dX6_next_182 : decode cX6_next 182 = .ok (.iload_n 1, 1) := by decide +kernel
theorem dX6_next_183 : decode cX6_next 183 = .ok (.bipush 59, 2) := by decide +kernel
theorem dX6_next_185 : decode cX6_next 185 = .ok (.if_icmp .ne 7, 3) := by decide +kernel
theorem dX6_next_188 : decode cX6_next 188 = .ok (.iconst 4, 1) := by decide +kernel
theorem dX6_next_189 : decode cX6_next 189 = .ok (.goto 4, 3) := by decide +kernel
theorem dX6_next_192 : decode cX6_next 192 = .ok (.iconst 0, 1) := by decide +kernel
theorem dX6_next_193 : decode cX6_next 193 = .ok (.putfield 90, 3) := by decide +kernel
theorem dX6_next_196 : decode cX6_next 196 = .ok (.aload_n 0, 1) := by decide +kernel
theorem dX6_next_197 : decode cX6_next 197 = .ok (.aload_n 0, 1) := by decide +kernel
theorem dX6_next_198 : decode cX6_next 198 = .ok (.getfield 81, 3) := by decide +kernel
theorem dX6_next_201 : decode cX6_next 201 = .ok (.putfield 99, 3) := by decide +kernel
theorem dX6_next_204 : decode cX6_next 204 = .ok (.return_, 1) := by decide +kernel
theorem dX6_begin_0 : decode cX6_begin 0 = .ok (.aload_n 0, 1) := by decide +kernel
theorem dX6_begin_1 : decode cX6_begin 1 = .ok (.aload_n 0, 1) := by decide +kernel
theorem dX6_begin_2 : decode cX6_begin 2 = .ok (.getfield 71, 3) := by decide +kernel
theorem dX6_begin_5 : decode cX6_begin 5 = .ok (.putfield 77, 3) := by decide +kernel
theorem dX6_begin_8 : decode cX6_begin 8 = .ok (.aload_n 0, 1) := by decide +kernel
theorem dX6_begin_9 : decode cX6_begin 9 = .ok (.iconst 0, 1) := by decide +kernel
theorem dX6_begin_10 : decode cX6_begin 10 = .ok (.putfield 71, 3) := by decide +kernel
theorem dX6_begin_13 : decode cX6_begin 13 = .ok (.aload_n 0, 1) := by decide +kernel
theorem dX6_begin_14 : decode cX6_begin 14 = .ok (.iconst 0, 1) := by decide +kernel
theorem dX6_begin_15 : decode cX6_begin 15 = .ok (.putfield 81, 3) := by decide +kernel
theorem dX6_begin_18 : decode cX6_begin 18 = .ok (.aload_n 0, 1) := by decide +kernel
theorem dX6_begin_19 : decode cX6_begin 19 = .ok (.iconst 0, 1) := by decide +kernel
theorem dX6_begin_20 : decode cX6_begin 20 = .ok (.putfield 102, 3) := by decide +kernel
theorem dX6_begin_23 : decode cX6_begin 23 = .ok (.aload_n 0, 1) := by decide +kernel
theorem dX6_begin_24 : decode cX6_begin 24 = .ok (.invokevirtual 105, 3) := by decide +kernel
theorem dX6_begin_27 : decode cX6_begin 27 = .ok (.return_, 1) := by decide +kernel
theorem dX6_bad_0 : decode cX6_bad 0 = .ok (.aload_n 0, 1) := by decide +kernel
theorem dX6_bad_1 : decode cX6_bad 1 = .ok (.getfield 102, 3) := by decide +kernel
theorem dX6_bad_4 : decode cX6_bad 4 = .ok (.ifCond .ne 16, 3) := by decide +kernel
theorem dX6_bad_7 : decode cX6_bad 7 = .ok (.aload_n 0, 1) := by decide +kernel
theorem dX6_bad_8 : decode cX6_bad 8 = .ok (.iload_n 1, 1) := by decide +kernel
theorem dX6_bad_9 : decode cX6_bad 9 = .ok (.putfield 102, 3) := by decide +kernel
theorem dX6_bad_12 : decode cX6_bad 12 = .ok (.aload_n 0, 1) := by decide +kernel
theorem dX6_bad_13 : decode cX6_bad 13 = .ok (.aload_n 0, 1) := by decide +kernel
theorem dX6_bad_14 : decode cX6_bad 14 = .ok (.getfield 87, 3) := by decide +kernel
theorem dX6_bad_17 : decode cX6_bad 17 = .ok (.putfield 108, 3) := by decide +kernel
theorem dX6_bad_20 : decode cX6_bad 20 = .ok (.return_, 1) := by decide +kernel
theorem dX6_must_0 : decode cX6_must 0 = .ok (.iload_n 1, 1) := by decide +kernel
theorem dX6_must_1 : decode cX6_must 1 = .ok (.ifCond .ne 8, 3) := by decide +kernel
theorem dX6_must_4 : decode cX6_must 4 = .ok (.aload_n 0, 1) := by decide +kernel
theorem dX6_must_5 : decode cX6_must 5 = .ok (.iconst 1, 1) := by decide +kernel
theorem dX6_must_6 : decode cX6_must 6 = .ok (.invokevirtual 111, 3) := by decide +kernel
theorem dX6_must_9 : decode cX6_must 9 = .ok (.aload_n 0, 1) := by decide +kernel
theorem dX6_must_10 : decode cX6_must 10 = .ok (.getfield 102, 3) := by decide +kernel
theorem dX6_must_13 : decode cX6_must 13 = .ok (.ifCond .ne 7, 3) := by decide +kernel
theorem dX6_must_16 : decode cX6_must 16 = .ok (.aload_n 0, 1) := by decide +kernel
theorem dX6_must_17 : decode cX6_must 17 = .ok (.invokevirtual 105, 3) := by decide +kernel
theorem dX6_must_20 : decode cX6_must 20 = .ok (.return_, 1) := by decide +kernel
theorem dX6_name_0 : decode cX6_name 0 = .ok (.lconst 0, 1) := by decide +kernel
theorem dX6_name_1 : decode cX6_name 1 = .ok (.lstore_n 1, 1) := by decide +kernel
theorem dX6_name_2 : decode cX6_name 2 = .ok (.aload_n 0, 1) := by decide +kernel
theorem dX6_name_3 : decode cX6_name 3 = .ok (.getfield 87, 3) := by decide +kernel
theorem dX6_name_6 : decode cX6_name 6 = .ok (.istore_n 3, 1) := by decide +kernel
theorem dX6_name_7 : decode cX6_name 7 = .ok (.iload_n 3, 1) := by decide +kernel
theorem dX6_name_8 : decode cX6_name 8 = .ok (.aload_n 0, 1) := by decide +kernel
theorem dX6_name_9 : decode cX6_name 9 = .ok (.getfield 99, 3) := by decide +kernel
theorem dX6_name_12 : decode cX6_name 12 = .ok (.if_icmp .ge 44, 3) := by decide +kernel
theorem dX6_name_15 : decode cX6_name 15 = .ok (.aload_n 0, 1) := by decide +kernel
theorem dX6_name_16 : decode cX6_name 16 = .ok (.getfield 90, 3) := by decide +kernel
theorem dX6_name_19 : decode cX6_name 19 = .ok (.iconst 2, 1) := by decide +kernel
theorem dX6_name_20 : decode cX6_name 20 = .ok (.if_icmp .ne 36, 3) := by decide +kernel
theorem dX6_name_23 : decode cX6_name 23 = .ok (.aload_n 0, 1) := by decide +kernel
theorem dX6_name_24 : decode cX6_name 24 = .ok (.getfield 99, 3) := by decide +kernel
theorem dX6_name_27 : decode cX6_name 27 = .ok (.aload_n 0, 1) := by decide +kernel
theorem dX6_name_28 : decode cX6_name 28 = .ok (.getfield 87, 3) := by decide +kernel
theorem dX6_name_31 : decode cX6_name 31 = .ok (.isub, 1) := by decide +kernel
theorem dX6_name_32 : decode cX6_name 32 = .ok (.bipush 8, 2) := by decide +kernel
theorem dX6_name_34 : decode cX6_name 34 = .ok (.if_icmp .ge 22, 3) := by decide +kernel
theorem dX6_name_37 : decode cX6_name 37 = .ok (.lload_n 1, 1) := by decide +kernel
theorem dX6_name_38 : decode cX6_name 38 = .ok (.bipush 8, 2) := by decide +kernel
theorem dX6_name_40 : decode cX6_name 40 = .ok (.lshl, 1) := by decide +kernel
theorem dX6_name_41 : decode cX6_name 41 = .ok (.aload_n 0, 1) := by decide +kernel
theorem dX6_name_42 : decode cX6_name 42 = .ok (.getfield 28, 3) := by decide +kernel
theorem dX6_name_45 : decode cX6_name 45 = .ok (.iload_n 3, 1) := by decide +kernel
theorem dX6_name_46 : decode cX6_name 46 = .ok (.iaload, 1) := by decide +kernel
theorem dX6_name_47 : decode cX6_name 47 = .ok (.i2l, 1) := by decide +kernel
theorem dX6_name_48 : decode cX6_name 48 = .ok (.lor, 1) := by decide +kernel
theorem dX6_name_49 : decode cX6_name 49 = .ok (.lstore_n 1, 1) := by decide +kernel
theorem dX6_name_50 : decode cX6_name 50 = .ok (.iinc 3 1, 3) := by decide +kernel
theorem dX6_name_53 : decode cX6_name 53 = .ok (.goto (-46), 3) := by decide +kernel
theorem dX6_name_56 : decode cX6_name 56 = .ok (.aload_n 0, 1) := by decide +kernel
theorem dX6_name_57 : decode cX6_name 57 = .ok (.getfield 102, 3) := by decide +kernel
theorem dX6_name_60 : decode cX6_name 60 = .ok (.ifCond .ne 7, 3) := by decide +kernel
theorem dX6_name_63 : decode cX6_name 63 = .ok (.lload_n 1, 1) := by decide +kernel
theorem dX6_name_64 : decode cX6_name 64 = .ok (.goto 4, 3) := by decide +kernel
theorem dX6_name_67 : decode cX6_name 67 = .ok (.lconst 0, 1) := by decide +kernel
theorem dX6_name_68 : decode cX6_name 68 = .ok (.lreturn, 1) := by decide +kernel
theorem dX6_figures_0 : decode cX6_figures 0 = .ok (.iconst 0, 1) := by decide +kernel
theorem dX6_figures_1 : decode cX6_figures 1 = .ok (.istore_n 1, 1) := by decide +kernel
theorem dX6_figures_2 : decode cX6_figures 2 = .ok (.aload_n 0, 1) := by decide +kernel
theorem dX6_figures_3 : decode cX6_figures 3 = .ok (.getfield 87, 3) := by decide +kernel
theorem dX6_figures_6 : decode cX6_figures 6 = .ok (.istore_n 2, 1) := by decide +kernel
theorem dX6_figures_7 : decode cX6_figures 7 = .ok (.iload_n 2, 1) := by decide +kernel
theorem dX6_figures_8 : decode cX6_figures 8 = .ok (.aload_n 0, 1) := by decide +kernel
theorem dX6_figures_9 : decode cX6_figures 9 = .ok (.getfield 99, 3) := by decide +kernel
theorem dX6_figures_12 : decode cX6_figures 12 = .ok (.if_icmp .ge 32, 3) := by decide +kernel
theorem dX6_figures_15 : decode cX6_figures 15 = .ok (.aload_n 0, 1) := by decide +kernel
theorem dX6_figures_16 : decode cX6_figures 16 = .ok (.getfield 90, 3) := by decide +kernel
theorem dX6_figures_19 : decode cX6_figures 19 = .ok (.iconst 3, 1) := by decide +kernel
theorem dX6_figures_20 : decode cX6_figures 20 = .ok (.if_icmp .ne 24, 3) := by decide +kernel
theorem dX6_figures_23 : decode cX6_figures 23 = .ok (.bipush 10, 2) := by decide +kernel
theorem dX6_figures_25 : decode cX6_figures 25 = .ok (.iload_n 1, 1) := by decide +kernel
theorem dX6_figures_26 : decode cX6_figures 26 = .ok (.imul, 1) := by decide +kernel
theorem dX6_figures_27 : decode cX6_figures 27 = .ok (.aload_n 0, 1) := by decide +kernel
theorem dX6_figures_28 : decode cX6_figures 28 = .ok (.getfield 28, 3) := by decide +kernel
theorem dX6_figures_31 : decode cX6_figures 31 = .ok (.iload_n 2, 1) := by decide +kernel
theorem dX6_figures_32 : decode cX6_figures 32 = .ok (.iaload, 1) := by decide +kernel
theorem dX6_figures_33 : decode cX6_figures 33 = .ok (.iadd, 1) := by decide +kernel
theorem dX6_figures_34 : decode cX6_figures 34 = .ok (.bipush 48, 2) := by decide +kernel
theorem dX6_figures_36 : decode cX6_figures 36 = .ok (.isub, 1) := by decide +kernel
theorem dX6_figures_37 : decode cX6_figures 37 = .ok (.istore_n 1, 1) := by decide +kernel
theorem dX6_figures_38 : decode cX6_figures 38 = .ok (.iinc 2 1, 3) := by decide +kernel
theorem dX6_figures_41 : decode cX6_figures 41 = .ok (.goto (-34), 3) := by decide +kernel
theorem dX6_figures_44 : decode cX6_figures 44 = .ok (.iload_n 1, 1) := by decide +kernel
theorem dX6_figures_45 : decode cX6_figures 45 = .ok (.ireturn, 1) := by decide +kernel
theorem dX6_number_0 : decode cX6_number 0 = .ok (.aload_n 0, 1) := by decide +kernel
theorem dX6_number_1 : decode cX6_number 1 = .ok (.getfield 102, 3) := by decide +kernel
theorem dX6_number_4 : decode cX6_number 4 = .ok (.ifCond .le 5, 3) := by decide +kernel
theorem dX6_number_7 : decode cX6_number 7 = .ok (.iconst 0, 1) := by decide +kernel
theorem dX6_number_8 : decode cX6_number 8 = .ok (.ireturn, 1) := by decide +kernel
theorem dX6_number_9 : decode cX6_number 9 = .ok (.aload_n 0, 1) := by decide +kernel
theorem dX6_number_10 : decode cX6_number 10 = .ok (.invokevirtual 115, 3) := by decide +kernel
theorem dX6_number_13 : decode cX6_number 13 = .ok (.istore_n 3, 1) := by decide +kernel
theorem dX6_number_14 : decode cX6_number 14 = .ok (.aload_n 0, 1) := by decide +kernel
theorem dX6_number_15 : decode cX6_number 15 = .ok (.getfield 90, 3) := by decide +kernel
theorem dX6_number_18 : decode cX6_number 18 = .ok (.iconst 3, 1) := by decide +kernel
theorem dX6_number_19 : decode cX6_number 19 = .ok (.if_icmp .ne 20, 3) := by decide +kernel
theorem dX6_number_22 : decode cX6_number 22 = .ok (.iload_n 3, 1) := by decide +kernel
theorem dX6_number_23 : decode cX6_number 23 = .ok (.i2l, 1) := by decide +kernel
theorem dX6_number_24 : decode cX6_number 24 = .ok (.iload_n 1, 1) := by decide +kernel
theorem dX6_number_25 : decode cX6_number 25 = .ok (.i2l, 1) := by decide +kernel
theorem dX6_number_26 : decode cX6_number 26 = .ok (.iload_n 2, 1) := by decide +kernel
theorem dX6_number_27 : decode cX6_number 27 = .ok (.i2l, 1) := by decide +kernel
theorem dX6_number_28 : decode cX6_number 28 = .ok (.invokestatic 54, 3) := by decide +kernel
theorem dX6_number_31 : decode cX6_number 31 = .ok (.ifCond .ne 8, 3) := by decide +kernel
theorem dX6_number_34 : decode cX6_number 34 = .ok (.aload_n 0, 1) := by decide +kernel
theorem dX6_number_35 : decode cX6_number 35 = .ok (.iconst 2, 1) := by decide +kernel
theorem dX6_number_36 : decode cX6_number 36 = .ok (.invokevirtual 111, 3) := by decide +kernel
theorem dX6_number_39 : decode cX6_number 39 = .ok (.aload_n 0, 1) := by decide +kernel
theorem dX6_number_40 : decode cX6_number 40 = .ok (.aload_n 0, 1) := by decide +kernel
theorem dX6_number_41 : decode cX6_number 41 = .ok (.getfield 90, 3) := by decide +kernel
theorem dX6_number_44 : decode cX6_number 44 = .ok (.iconst 3, 1) := by decide +kernel
theorem dX6_number_45 : decode cX6_number 45 = .ok (.if_icmp .ne 7, 3) := by decide +kernel
theorem dX6_number_48 : decode cX6_number 48 = .ok (.iconst 1, 1) := by decide +kernel
theorem dX6_number_49 : decode cX6_number 49 = .ok (.goto 4, 3) := by decide +kernel
theorem dX6_number_52 : decode cX6_number 52 = .ok (.iconst 0, 1) := by decide +kernel
theorem dX6_number_53 : decode cX6_number 53 = .ok (.invokevirtual 119, 3) := by decide +kernel
theorem dX6_number_56 : decode cX6_number 56 = .ok (.iload_n 3, 1) := by decide +kernel
theorem dX6_number_57 : decode cX6_number 57 = .ok (.ireturn, 1) := by decide +kernel
theorem dX6_kindBy_0 : decode cX6_kindBy 0 = .ok (.lload_n 0, 1) := by decide +kernel
theorem dX6_kindBy_1 : decode cX6_kindBy 1 = .ok (.ldc2_w 123, 3) := by decide +kernel
theorem dX6_kindBy_4 : decode cX6_kindBy 4 = .ok (.lcmp, 1) := by decide +kernel
theorem dX6_kindBy_5 : decode cX6_kindBy 5 = .ok (.ifCond .ne 7, 3) := by decide +kernel
theorem dX6_kindBy_8 : decode cX6_kindBy 8 = .ok (.iconst 1, 1) := by decide +kernel
theorem dX6_kindBy_9 : decode cX6_kindBy 9 = .ok (.goto 53, 3) := by decide +kernel
theorem dX6_kindBy_12 : decode cX6_kindBy 12 = .ok (.lload_n 0, 1) := by decide +kernel
theorem dX6_kindBy_13 : decode cX6_kindBy 13 = .ok (.ldc2_w 125, 3) := by decide +kernel
theorem dX6_kindBy_16 : decode cX6_kindBy 16 = .ok (.lcmp, 1) := by decide +kernel
theorem dX6_kindBy_17 : decode cX6_kindBy 17 = .ok (.ifCond .ne 7, 3) := by decide +kernel
theorem dX6_kindBy_20 : decode cX6_kindBy 20 = .ok (.iconst 3, 1) := by decide +kernel
theorem dX6_kindBy_21 : decode cX6_kindBy 21 = .ok (.goto 41, 3) := by decide +kernel
theorem dX6_kindBy_24 : decode cX6_kindBy 24 = .ok (.lload_n 0, 1) := by decide +kernel
theorem dX6_kindBy_25 : decode cX6_kindBy 25 = .ok (.ldc2_w 127, 3) := by decide +kernel
theorem dX6_kindBy_28 : decode cX6_kindBy 28 = .ok (.lcmp, 1) := by decide +kernel
theorem dX6_kindBy_29 : decode cX6_kindBy 29 = .ok (.ifCond .ne 7, 3) := by decide +kernel
theorem dX6_kindBy_32 : decode cX6_kindBy 32 = .ok (.iconst 2, 1) := by decide +kernel
theorem dX6_kindBy_33 : decode cX6_kindBy 33 = .ok (.goto 29, 3) := by decide +kernel
theorem dX6_kindBy_36 : decode cX6_kindBy 36 = .ok (.lload_n 0, 1) := by decide +kernel
theorem dX6_kindBy_37 : decode cX6_kindBy 37 = .ok (.ldc2_w 129, 3) := by decide +kernel
theorem dX6_kindBy_40 : decode cX6_kindBy 40 = .ok (.lcmp, 1) := by decide +kernel
theorem dX6_kindBy_41 : decode cX6_kindBy 41 = .ok (.ifCond .ne 7, 3) := by decide +kernel
theorem dX6_kindBy_44 : decode cX6_kindBy 44 = .ok (.iconst 4, 1) := by decide +kernel
theorem dX6_kindBy_45 : decode cX6_kindBy 45 = .ok (.goto 17, 3) := by decide +kernel
theorem dX6_kindBy_48 : decode cX6_kindBy 48 = .ok (.lload_n 0, 1) := by decide +kernel
theorem dX6_kindBy_49 : decode cX6_kindBy 49 = .ok (.ldc2_w 131, 3) := by decide +kernel
theorem dX6_kindBy_52 : decode cX6_kindBy 52 = .ok (.lcmp, 1) := by decide +kernel
theorem dX6_kindBy_53 : decode cX6_kindBy 53 = .ok (.ifCond .ne 7, 3) := by decide +kernel
theorem dX6_kindBy_56 : decode cX6_kindBy 56 = .ok (.iconst 5, 1) := by decide +kernel
theorem dX6_kindBy_57 : decode cX6_kindBy 57 = .ok (.goto 5, 3) := by decide +kernel
theorem dX6_kindBy_60 : decode cX6_kindBy 60 = .ok (.ldc 80, 2) := by decide +kernel
theorem dX6_kindBy_62 : decode cX6_kindBy 62 = .ok (.ireturn, 1) := by decide +kernel
theorem dX6_mustEnd_0 : decode cX6_mustEnd 0 = .ok (.aload_n 0, 1) := by decide +kernel
theorem dX6_mustEnd_1 : decode cX6_mustEnd 1 = .ok (.getfield 102, 3) := by decide +kernel
theorem dX6_mustEnd_4 : decode cX6_mustEnd 4 = .ok (.ifCond .ne 20, 3) := by decide +kernel
theorem dX6_mustEnd_7 : decode cX6_mustEnd 7 = .ok (.aload_n 0, 1) := by decide +kernel
theorem dX6_mustEnd_8 : decode cX6_mustEnd 8 = .ok (.aload_n 0, 1) := by decide +kernel
theorem dX6_mustEnd_9 : decode cX6_mustEnd 9 = .ok (.getfield 90, 3) := by decide +kernel
theorem dX6_mustEnd_12 : decode cX6_mustEnd 12 = .ok (.iconst 4, 1) := by decide +kernel
theorem dX6_mustEnd_13 : decode cX6_mustEnd 13 = .ok (.if_icmp .ne 7, 3) := by decide +kernel
theorem dX6_mustEnd_16 : decode cX6_mustEnd 16 = .ok (.iconst 1, 1) := by decide +kernel
theorem dX6_mustEnd_17 : decode cX6_mustEnd 17 = .ok (.goto 4, 3) := by decide +kernel
theorem dX6_mustEnd_20 : decode cX6_mustEnd 20 = .ok (.iconst 0, 1) := by decide +kernel
theorem dX6_mustEnd_21 : decode cX6_mustEnd 21 = .ok (.invokevirtual 119, 3) := by decide +kernel
theorem dX6_mustEnd_24 : decode cX6_mustEnd 24 = .ok (.return_, 1) := by decide +kernel
theorem dX6_begins_0 : decode cX6_begins 0 = .ok (.aload_n 0, 1) := by decide +kernel
theorem dX6_begins_1 : decode cX6_begins 1 = .ok (.getfield 22, 3) := by decide +kernel
theorem dX6_begins_4 : decode cX6_begins 4 = .ok (.iload_n 1, 1) := by decide +kernel
theorem dX6_begins_5 : decode cX6_begins 5 = .ok (.iaload, 1) := by decide +kernel
theorem dX6_begins_6 : decode cX6_begins 6 = .ok (.iload_n 2, 1) := by decide +kernel
theorem dX6_begins_7 : decode cX6_begins 7 = .ok (.if_icmp .ne 8, 3) := by decide +kernel
theorem dX6_begins_10 : decode cX6_begins 10 = .ok (.aload_n 0, 1) := by decide +kernel
theorem dX6_begins_11 : decode cX6_begins 11 = .ok (.iconst 3, 1) := by decide +kernel
theorem dX6_begins_12 : decode cX6_begins 12 = .ok (.invokevirtual 111, 3) := by decide +kernel
theorem dX6_begins_15 : decode cX6_begins 15 = .ok (.aload_n 0, 1) := by decide +kernel
theorem dX6_begins_16 : decode cX6_begins 16 = .ok (.iconst 1, 1) := by decide +kernel
theorem dX6_begins_17 : decode cX6_begins 17 = .ok (.invokevirtual 119, 3) := by decide +kernel
theorem dX6_begins_20 : decode cX6_begins 20 = .ok (.return_, 1) := by decide +kernel
theorem dX6_readGround_0 : decode cX6_readGround 0 = .ok (.aload_n 0, 1) := by decide +kernel
theorem dX6_readGround_1 : decode cX6_readGround 1 = .ok (.aload_n 0, 1) := by decide +kernel
theorem dX6_readGround_2 : decode cX6_readGround 2 = .ok (.invokevirtual 133, 3) := by decide +kernel
theorem dX6_readGround_5 : decode cX6_readGround 5 = .ok (.ldc2_w 137, 3) := by decide +kernel
theorem dX6_readGround_8 : decode cX6_readGround 8 = .ok (.lcmp, 1) := by decide +kernel
theorem dX6_readGround_9 : decode cX6_readGround 9 = .ok (.ifCond .ne 7, 3) := by decide +kernel
theorem dX6_readGround_12 : decode cX6_readGround 12 = .ok (.iconst 1, 1) := by decide +kernel
theorem dX6_readGround_13 : decode cX6_readGround 13 = .ok (.goto 4, 3) := by decide +kernel
theorem dX6_readGround_16 : decode cX6_readGround 16 = .ok (.iconst 0, 1) := by decide +kernel
theorem dX6_readGround_17 : decode cX6_readGround 17 = .ok (.invokevirtual 119, 3) := by decide +kernel
theorem dX6_readGround_20 : decode cX6_readGround 20 = .ok (.iconst 0, 1) := by decide +kernel
theorem dX6_readGround_21 : decode cX6_readGround 21 = .ok (.istore_n 1, 1) := by decide +kernel
theorem dX6_readGround_22 : decode cX6_readGround 22 = .ok (.iload_n 1, 1) := by decide +kernel
theorem dX6_readGround_23 : decode cX6_readGround 23 = .ok (.bipush 20, 2) := by decide +kernel
theorem dX6_readGround_25 : decode cX6_readGround 25 = .ok (.if_icmp .ge 25, 3) := by decide +kernel
theorem dX6_readGround_28 : decode cX6_readGround 28 = .ok (.aload_n 0, 1) := by decide +kernel
theorem dX6_readGround_29 : decode cX6_readGround 29 = .ok (.getfield 22, 3) := by decide +kernel
theorem dX6_readGround_32 : decode cX6_readGround 32 = .ok (.bipush 6, 2) := by decide +kernel
theorem dX6_readGround_34 : decode cX6_readGround 34 = .ok (.iload_n 1, 1) := by decide +kernel
theorem dX6_readGround_35 : decode cX6_readGround 35 = .ok (.iadd, 1) := by decide +kernel
theorem dX6_readGround_36 : decode cX6_readGround 36 = .ok (.aload_n 0, 1) := by decide +kernel
theorem dX6_readGround_37 : decode cX6_readGround 37 = .ok (.iconst 0, 1) := by decide +kernel
theorem dX6_readGround_38 : decode cX6_readGround 38 = .ok (.bipush 60, 2) := by decide +kernel
theorem dX6_readGround_40 : decode cX6_readGround 40 = .ok (.invokevirtual 139, 3) := by decide +kernel
theorem dX6_readGround_43 : decode cX6_readGround 43 = .ok (.iastore, 1) := by decide +kernel
theorem dX6_readGround_44 : decode cX6_readGround 44 = .ok (.iinc 1 1, 3) := by decide +kernel
theorem dX6_readGround_47 : decode cX6_readGround 47 = .ok (.goto (-25), 3) := by decide +kernel
theorem dX6_readGround_50 : decode cX6_readGround 50 = .ok (.aload_n 0, 1) := by decide +kernel
theorem dX6_readGround_51 : decode cX6_readGround 51 = .ok (.invokevirtual 143, 3) := by decide +kernel
theorem dX6_readGround_54 : decode cX6_readGround 54 = .ok (.return_, 1) := by decide +kernel
theorem dX6_readLake_0 : decode cX6_readLake 0 = .ok (.aload_n 0, 1) := by decide +kernel
theorem dX6_readLake_1 : decode cX6_readLake 1 = .ok (.iconst 1, 1) := by decide +kernel
theorem dX6_readLake_2 : decode cX6_readLake 2 = .ok (.invokevirtual 119, 3) := by decide +kernel
theorem dX6_readLake_5 : decode cX6_readLake 5 = .ok (.aload_n 0, 1) := by decide +kernel
theorem dX6_readLake_6 : decode cX6_readLake 6 = .ok (.iconst 0, 1) := by decide +kernel
theorem dX6_readLake_7 : decode cX6_readLake 7 = .ok (.bipush 19, 2) := by decide +kernel
theorem dX6_readLake_9 : decode cX6_readLake 9 = .ok (.invokevirtual 139, 3) := by decide +kernel
theorem dX6_readLake_12 : decode cX6_readLake 12 = .ok (.istore_n 1, 1) := by decide +kernel
theorem dX6_readLake_13 : decode cX6_readLake 13 = .ok (.aload_n 0, 1) := by decide +kernel
theorem dX6_readLake_14 : decode cX6_readLake 14 = .ok (.iload_n 1, 1) := by decide +kernel
theorem dX6_readLake_15 : decode cX6_readLake 15 = .ok (.bipush 19, 2) := by decide +kernel
theorem dX6_readLake_17 : decode cX6_readLake 17 = .ok (.invokevirtual 139, 3) := by decide +kernel
theorem dX6_readLake_20 : decode cX6_readLake 20 = .ok (.istore_n 2, 1) := by decide +kernel
theorem dX6_readLake_21 : decode cX6_readLake 21 = .ok (.aload_n 0, 1) := by decide +kernel
theorem dX6_readLake_22 : decode cX6_readLake 22 = .ok (.invokevirtual 143, 3) := by decide +kernel
theorem dX6_readLake_25 : decode cX6_readLake 25 = .ok (.aload_n 0, 1) := by decide +kernel
theorem dX6_readLake_26 : decode cX6_readLake 26 = .ok (.getfield 102, 3) := by decide +kernel
theorem dX6_readLake_29 : decode cX6_readLake 29 = .ok (.ifCond .ne 17, 3) := by decide +kernel
theorem dX6_readLake_32 : decode cX6_readLake 32 = .ok (.aload_n 0, 1) := by decide +kernel
theorem dX6_readLake_33 : decode cX6_readLake 33 = .ok (.getfield 22, 3) := by decide +kernel
theorem dX6_readLake_36 : decode cX6_readLake 36 = .ok (.iconst 4, 1) := by decide +kernel
theorem dX6_readLake_37 : decode cX6_readLake 37 = .ok (.iload_n 1, 1) := by decide +kernel
theorem dX6_readLake_38 : decode cX6_readLake 38 = .ok (.iastore, 1) := by decide +kernel
theorem dX6_readLake_39 : decode cX6_readLake 39 = .ok (.aload_n 0, 1) := by decide +kernel
theorem dX6_readLake_40 : decode cX6_readLake 40 = .ok (.getfield 22, 3) := by decide +kernel
theorem dX6_readLake_43 : decode cX6_readLake 43 = .ok (.iconst 5, 1) := by decide +kernel
theorem dX6_readLake_44 : decode cX6_readLake 44 = .ok (.iload_n 2, 1) := by decide +kernel
theorem dX6_readLake_45 : decode cX6_readLake 45 = .ok (.iastore, 1) := by decide +kernel
theorem dX6_readLake_46 : decode cX6_readLake 46 = .ok (.return_, 1) := by decide +kernel
theorem dX6_isTold_0 : decode cX6_isTold 0 = .ok (.iconst 0, 1) := by decide +kernel
theorem dX6_isTold_1 : decode cX6_isTold 1 = .ok (.istore_n 2, 1) := by decide +kernel
theorem dX6_isTold_2 : decode cX6_isTold 2 = .ok (.iconst 0, 1) := by decide +kernel
theorem dX6_isTold_3 : decode cX6_isTold 3 = .ok (.istore_n 3, 1) := by decide +kernel
theorem dX6_isTold_4 : decode cX6_isTold 4 = .ok (.iload_n 3, 1) := by decide +kernel
theorem dX6_isTold_5 : decode cX6_isTold 5 = .ok (.aload_n 0, 1) := by decide +kernel
theorem dX6_isTold_6 : decode cX6_isTold 6 = .ok (.getfield 22, 3) := by decide +kernel
theorem dX6_isTold_9 : decode cX6_isTold 9 = .ok (.iconst 0, 1) := by decide +kernel
theorem dX6_isTold_10 : decode cX6_isTold 10 = .ok (.iaload, 1) := by decide +kernel
theorem dX6_isTold_11 : decode cX6_isTold 11 = .ok (.if_icmp .ge 36, 3) := by decide +kernel
theorem dX6_isTold_14 : decode cX6_isTold 14 = .ok (.iload_n 2, 1) := by decide +kernel
theorem dX6_isTold_15 : decode cX6_isTold 15 = .ok (.ifCond .ne 20, 3) := by decide +kernel
theorem dX6_isTold_18 : decode cX6_isTold 18 = .ok (.aload_n 0, 1) := by decide +kernel
theorem dX6_isTold_19 : decode cX6_isTold 19 = .ok (.getfield 22, 3) := by decide +kernel
theorem dX6_isTold_22 : decode cX6_isTold 22 = .ok (.bipush 26, 2) := by decide +kernel
theorem dX6_isTold_24 : decode cX6_isTold 24 = .ok (.iconst 5, 1) := by decide +kernel
theorem dX6_isTold_25 : decode cX6_isTold 25 = .ok (.iload_n 3, 1) := by decide +kernel
theorem dX6_isTold_26 : decode cX6_isTold 26 = .ok (.imul, 1) := by decide +kernel
theorem dX6_isTold_27 : decode cX6_isTold 27 = .ok (.iadd, 1) := by decide +kernel
theorem dX6_isTold_28 : decode cX6_isTold 28 = .ok (.iconst 1, 1) := by decide +kernel
theorem dX6_isTold_29 : decode cX6_isTold 29 = .ok (.iadd, 1) := by decide +kernel
theorem dX6_isTold_30 : decode cX6_isTold 30 = .ok (.iaload, 1) := by decide +kernel
theorem dX6_isTold_31 : decode cX6_isTold 31 = .ok (.iload_n 1, 1) := by decide +kernel
theorem dX6_isTold_32 : decode cX6_isTold 32 = .ok (.if_icmp .ne 7, 3) := by decide +kernel
theorem dX6_isTold_35 : decode cX6_isTold 35 = .ok (.iconst 1, 1) := by decide +kernel
theorem dX6_isTold_36 : decode cX6_isTold 36 = .ok (.goto 4, 3) := by decide +kernel
theorem dX6_isTold_39 : decode cX6_isTold 39 = .ok (.iconst 0, 1) := by decide +kernel
theorem dX6_isTold_40 : decode cX6_isTold 40 = .ok (.istore_n 2, 1) := by decide +kernel
theorem dX6_isTold_41 : decode cX6_isTold 41 = .ok (.iinc 3 1, 3) := by decide +kernel
theorem dX6_isTold_44 : decode cX6_isTold 44 = .ok (.goto (-40), 3) := by decide +kernel
theorem dX6_isTold_47 : decode cX6_isTold 47 = .ok (.iload_n 2, 1) := by decide +kernel
theorem dX6_isTold_48 : decode cX6_isTold 48 = .ok (.ireturn, 1) := by decide +kernel
theorem dX6_readTree_0 : decode cX6_readTree 0 = .ok (.aload_n 0, 1) := by decide +kernel
theorem dX6_readTree_1 : decode cX6_readTree 1 = .ok (.iconst 0, 1) := by decide +kernel
theorem dX6_readTree_2 : decode cX6_readTree 2 = .ok (.bipush 6, 2) := by decide +kernel
theorem dX6_readTree_4 : decode cX6_readTree 4 = .ok (.invokevirtual 146, 3) := by decide +kernel
theorem dX6_readTree_7 : decode cX6_readTree 7 = .ok (.aload_n 0, 1) := by decide +kernel
theorem dX6_readTree_8 : decode cX6_readTree 8 = .ok (.invokevirtual 133, 3) := by decide +kernel
theorem dX6_readTree_11 : decode cX6_readTree 11 = .ok (.invokestatic 150, 3) := by decide +kernel
theorem dX6_readTree_14 : decode cX6_readTree 14 = .ok (.istore_n 1, 1) := by decide +kernel
theorem dX6_readTree_15 : decode cX6_readTree 15 = .ok (.aload_n 0, 1) := by decide +kernel
theorem dX6_readTree_16 : decode cX6_readTree 16 = .ok (.getfield 102, 3) := by decide +kernel
theorem dX6_readTree_19 : decode cX6_readTree 19 = .ok (.ifCond .ne 18, 3) := by decide +kernel
theorem dX6_readTree_22 : decode cX6_readTree 22 = .ok (.aload_n 0, 1) := by decide +kernel
theorem dX6_readTree_23 : decode cX6_readTree 23 = .ok (.iload_n 1, 1) := by decide +kernel
theorem dX6_readTree_24 : decode cX6_readTree 24 = .ok (.ldc 80, 2) := by decide +kernel
theorem dX6_readTree_26 : decode cX6_readTree 26 = .ok (.if_icmp .eq 7, 3) := by decide +kernel
theorem dX6_readTree_29 : decode cX6_readTree 29 = .ok (.iconst 1, 1) := by decide +kernel
theorem dX6_readTree_30 : decode cX6_readTree 30 = .ok (.goto 4, 3) := by decide +kernel
theorem dX6_readTree_33 : decode cX6_readTree 33 = .ok (.iconst 0, 1) := by decide +kernel
theorem dX6_readTree_34 : decode cX6_readTree 34 = .ok (.invokevirtual 119, 3) := by decide +kernel
theorem dX6_readTree_37 : decode cX6_readTree 37 = .ok (.aload_n 0, 1) := by decide +kernel
theorem dX6_readTree_38 : decode cX6_readTree 38 = .ok (.getfield 102, 3) := by decide +kernel
theorem dX6_readTree_41 : decode cX6_readTree 41 = .ok (.ifCond .ne 27, 3) := by decide +kernel
theorem dX6_readTree_44 : decode cX6_readTree 44 = .ok (.aload_n 0, 1) := by decide +kernel
theorem dX6_readTree_45 : decode cX6_readTree 45 = .ok (.getfield 90, 3) := by decide +kernel
theorem dX6_readTree_48 : decode cX6_readTree 48 = .ok (.iconst 3, 1) := by decide +kernel
theorem dX6_readTree_49 : decode cX6_readTree 49 = .ok (.if_icmp .ne 19, 3) := by decide +kernel
theorem dX6_readTree_52 : decode cX6_readTree 52 = .ok (.aload_n 0, 1) := by decide +kernel
theorem dX6_readTree_53 : decode cX6_readTree 53 = .ok (.aload_n 0, 1) := by decide +kernel
theorem dX6_readTree_54 : decode cX6_readTree 54 = .ok (.invokevirtual 115, 3) := by decide +kernel
theorem dX6_readTree_57 : decode cX6_readTree 57 = .ok (.invokevirtual 154, 3) := by decide +kernel
theorem dX6_readTree_60 : decode cX6_readTree 60 = .ok (.ifCond .eq 8, 3) := by decide +kernel
theorem dX6_readTree_63 : decode cX6_readTree 63 = .ok (.aload_n 0, 1) := by decide +kernel
theorem dX6_readTree_64 : decode cX6_readTree 64 = .ok (.iconst 2, 1) := by decide +kernel
theorem dX6_readTree_65 : decode cX6_readTree 65 = .ok (.invokevirtual 111, 3) := by decide +kernel
theorem dX6_readTree_68 : decode cX6_readTree 68 = .ok (.aload_n 0, 1) := by decide +kernel
theorem dX6_readTree_69 : decode cX6_readTree 69 = .ok (.iconst 0, 1) := by decide +kernel
theorem dX6_readTree_70 : decode cX6_readTree 70 = .ok (.bipush 19, 2) := by decide +kernel
theorem dX6_readTree_72 : decode cX6_readTree 72 = .ok (.invokevirtual 139, 3) := by decide +kernel
theorem dX6_readTree_75 : decode cX6_readTree 75 = .ok (.istore_n 2, 1) := by decide +kernel
theorem dX6_readTree_76 : decode cX6_readTree 76 = .ok (.aload_n 0, 1) := by decide +kernel
theorem dX6_readTree_77 : decode cX6_readTree 77 = .ok (.iconst 1, 1) := by decide +kernel
theorem dX6_readTree_78 : decode cX6_readTree 78 = .ok (.bipush 99, 2) := by decide +kernel
theorem dX6_readTree_80 : decode cX6_readTree 80 = .ok (.invokevirtual 139, 3) := by decide +kernel
theorem dX6_readTree_83 : decode cX6_readTree 83 = .ok (.istore_n 3, 1) := by decide +kernel
theorem dX6_readTree_84 : decode cX6_readTree 84 = .ok (.aload_n 0, 1) := by decide +kernel
theorem dX6_readTree_85 : decode cX6_readTree 85 = .ok (.iconst 0, 1) := by decide +kernel
theorem dX6_readTree_86 : decode cX6_readTree 86 = .ok (.bipush 9, 2) := by decide +kernel
theorem dX6_readTree_88 : decode cX6_readTree 88 = .ok (.invokevirtual 139, 3) := by decide +kernel
theorem dX6_readTree_91 : decode cX6_readTree 91 = .ok (.istore 4, 2) := by decide +kernel
theorem dX6_readTree_93 : decode cX6_readTree 93 = .ok (.aload_n 0, 1) := by decide +kernel
theorem dX6_readTree_94 : decode cX6_readTree 94 = .ok (.invokevirtual 143, 3) := by decide +kernel
theorem dX6_readTree_97 : decode cX6_readTree 97 = .ok (.aload_n 0, 1) := by decide +kernel
theorem dX6_readTree_98 : decode cX6_readTree 98 = .ok (.getfield 102, 3) := by decide +kernel
theorem dX6_readTree_101 : decode cX6_readTree 101 = .ok (.ifCond .ne 65, 3) := by decide +kernel
theorem dX6_readTree_104 : decode cX6_readTree 104 = .ok (.bipush 26, 2) := by decide +kernel
theorem dX6_readTree_106 : decode cX6_readTree 106 = .ok (.iconst 5, 1) := by decide +kernel
theorem dX6_readTree_107 : decode cX6_readTree 107 = .ok (.aload_n 0, 1) := by decide +kernel
theorem dX6_readTree_108 : decode cX6_readTree 108 = .ok (.getfield 22, 3) := by decide +kernel
theorem dX6_readTree_111 : decode cX6_readTree 111 = .ok (.iconst 0, 1) := by decide +kernel
theorem dX6_readTree_112 : decode cX6_readTree 112 = .ok (.iaload, 1) := by decide +kernel
theorem dX6_readTree_113 : decode cX6_readTree 113 = .ok (.imul, 1) := by decide +kernel
theorem dX6_readTree_114 : decode cX6_readTree 114 = .ok (.iadd, 1) := by decide +kernel
theorem dX6_readTree_115 : decode cX6_readTree 115 = .ok (.istore 5, 2) := by decide +kernel
theorem dX6_readTree_117 : decode cX6_readTree 117 = .ok (.aload_n 0, 1) := by decide +kernel
theorem dX6_readTree_118 : decode cX6_readTree 118 = .ok (.getfield 22, 3) := by decide +kernel
theorem dX6_readTree_121 : decode cX6_readTree 121 = .ok (.iload 5, 2) := by decide +kernel
theorem dX6_readTree_123 : decode cX6_readTree 123 = .ok (.iload_n 1, 1) := by decide +kernel
theorem dX6_readTree_124 : decode cX6_readTree 124 = .ok (.iastore, 1) := by decide +kernel
theorem dX6_readTree_125 : decode cX6_readTree 125 = .ok (.aload_n 0, 1) := by decide +kernel
theorem dX6_readTree_126 : decode cX6_readTree 126 = .ok (.getfield 22, 3) := by decide +kernel
theorem dX6_readTree_129 : decode cX6_readTree 129 = .ok (.iload 5, 2) := by decide +kernel
theorem dX6_readTree_131 : decode cX6_readTree 131 = .ok (.iconst 1, 1) := by decide +kernel
theorem dX6_readTree_132 : decode cX6_readTree 132 = .ok (.iadd, 1) := by decide +kernel
theorem dX6_readTree_133 : decode cX6_readTree 133 = .ok (.iload_n 2, 1) := by decide +kernel
theorem dX6_readTree_134 : decode cX6_readTree 134 = .ok (.iastore, 1) := by decide +kernel
theorem dX6_readTree_135 : decode cX6_readTree 135 = .ok (.aload_n 0, 1) := by decide +kernel
theorem dX6_readTree_136 : decode cX6_readTree 136 = .ok (.getfield 22, 3) := by decide +kernel
theorem dX6_readTree_139 : decode cX6_readTree 139 = .ok (.iload 5, 2) := by decide +kernel
theorem dX6_readTree_141 : decode cX6_readTree 141 = .ok (.iconst 2, 1) := by decide +kernel
theorem dX6_readTree_142 : decode cX6_readTree 142 = .ok (.iadd, 1) := by decide +kernel
theorem dX6_readTree_143 : decode cX6_readTree 143 = .ok (.iload_n 3, 1) := by decide +kernel
theorem dX6_readTree_144 : decode cX6_readTree 144 = .ok (.iastore, 1) := by decide +kernel
theorem dX6_readTree_145 : decode cX6_readTree 145 = .ok (.aload_n 0, 1) := by decide +kernel
theorem dX6_readTree_146 : decode cX6_readTree 146 = .ok (.getfield 22, 3) := by decide +kernel
theorem dX6_readTree_149 : decode cX6_readTree 149 = .ok (.iload 5, 2) := by decide +kernel
theorem dX6_readTree_151 : decode cX6_readTree 151 = .ok (.iconst 3, 1) := by decide +kernel
theorem dX6_readTree_152 : decode cX6_readTree 152 = .ok (.iadd, 1) := by decide +kernel
theorem dX6_readTree_153 : decode cX6_readTree 153 = .ok (.iload 4, 2) := by decide +kernel
theorem dX6_readTree_155 : decode cX6_readTree 155 = .ok (.iastore, 1) := by decide +kernel
theorem dX6_readTree_156 : decode cX6_readTree 156 = .ok (.aload_n 0, 1) := by decide +kernel
theorem dX6_readTree_157 : decode cX6_readTree 157 = .ok (.getfield 22, 3) := by decide +kernel
theorem dX6_readTree_160 : decode cX6_readTree 160 = .ok (.iconst 0, 1) := by decide +kernel
theorem dX6_readTree_161 : decode cX6_readTree 161 = .ok (.dup2, 1) := by decide +kernel
theorem dX6_readTree_162 : decode cX6_readTree 162 = .ok (.iaload, 1) := by decide +kernel
theorem dX6_readTree_163 : decode cX6_readTree 163 = .ok (.iconst 1, 1) := by decide +kernel
theorem dX6_readTree_164 : decode cX6_readTree 164 = .ok (.iadd, 1) := by decide +kernel
theorem dX6_readTree_165 : decode cX6_readTree 165 = .ok (.iastore, 1) := by decide +kernel
theorem dX6_readTree_166 : decode cX6_readTree 166 = .ok (.return_, 1) := by decide +kernel
theorem dX6_readThing_0 : decode cX6_readThing 0 = .ok (.aload_n 0, 1) := by decide +kernel
theorem dX6_readThing_1 : decode cX6_readThing 1 = .ok (.iconst 1, 1) := by decide +kernel
theorem dX6_readThing_2 : decode cX6_readThing 2 = .ok (.bipush 6, 2) := by decide +kernel
theorem dX6_readThing_4 : decode cX6_readThing 4 = .ok (.invokevirtual 146, 3) := by decide +kernel
theorem dX6_readThing_7 : decode cX6_readThing 7 = .ok (.aload_n 0, 1) := by decide +kernel
theorem dX6_readThing_8 : decode cX6_readThing 8 = .ok (.iconst 0, 1) := by decide +kernel
theorem dX6_readThing_9 : decode cX6_readThing 9 = .ok (.bipush 19, 2) := by decide +kernel
theorem dX6_readThing_11 : decode cX6_readThing 11 = .ok (.invokevirtual 139, 3) := by decide +kernel
theorem dX6_readThing_14 : decode cX6_readThing 14 = .ok (.istore_n 1, 1) := by decide +kernel
theorem dX6_readThing_15 : decode cX6_readThing 15 = .ok (.aload_n 0, 1) := by decide +kernel
theorem dX6_readThing_16 : decode cX6_readThing 16 = .ok (.iconst 1, 1) := by decide +kernel
theorem dX6_readThing_17 : decode cX6_readThing 17 = .ok (.bipush 99, 2) := by decide +kernel
theorem dX6_readThing_19 : decode cX6_readThing 19 = .ok (.invokevirtual 139, 3) := by decide +kernel
theorem dX6_readThing_22 : decode cX6_readThing 22 = .ok (.istore_n 2, 1) := by decide +kernel
theorem dX6_readThing_23 : decode cX6_readThing 23 = .ok (.aload_n 0, 1) := by decide +kernel
theorem dX6_readThing_24 : decode cX6_readThing 24 = .ok (.invokevirtual 133, 3) := by decide +kernel
theorem dX6_readThing_27 : decode cX6_readThing 27 = .ok (.ldc2_w 157, 3) := by decide +kernel
theorem dX6_readThing_30 : decode cX6_readThing 30 = .ok (.lcmp, 1) := by decide +kernel
theorem dX6_readThing_31 : decode cX6_readThing 31 = .ok (.ifCond .ne 7, 3) := by decide +kernel
theorem dX6_readThing_34 : decode cX6_readThing 34 = .ok (.iconst 1, 1) := by decide +kernel
theorem dX6_readThing_35 : decode cX6_readThing 35 = .ok (.goto 4, 3) := by decide +kernel
theorem dX6_readThing_38 : decode cX6_readThing 38 = .ok (.iconst 0, 1) := by decide +kernel
theorem dX6_readThing_39 : decode cX6_readThing 39 = .ok (.istore_n 3, 1) := by decide +kernel
theorem dX6_readThing_40 : decode cX6_readThing 40 = .ok (.aload_n 0, 1) := by decide +kernel
theorem dX6_readThing_41 : decode cX6_readThing 41 = .ok (.getfield 102, 3) := by decide +kernel
theorem dX6_readThing_44 : decode cX6_readThing 44 = .ok (.ifCond .ne 27, 3) := by decide +kernel
theorem dX6_readThing_47 : decode cX6_readThing 47 = .ok (.aload_n 0, 1) := by decide +kernel
theorem dX6_readThing_48 : decode cX6_readThing 48 = .ok (.iload_n 3, 1) := by decide +kernel
theorem dX6_readThing_49 : decode cX6_readThing 49 = .ok (.ifCond .ne 14, 3) := by decide +kernel
theorem dX6_readThing_52 : decode cX6_readThing 52 = .ok (.aload_n 0, 1) := by decide +kernel
theorem dX6_readThing_53 : decode cX6_readThing 53 = .ok (.invokevirtual 133, 3) := by decide +kernel
theorem dX6_readThing_56 : decode cX6_readThing 56 = .ok (.ldc2_w 159, 3) := by decide +kernel
theorem dX6_readThing_59 : decode cX6_readThing 59 = .ok (.lcmp, 1) := by decide +kernel
theorem dX6_readThing_60 : decode cX6_readThing 60 = .ok (.ifCond .ne 7, 3) := by decide +kernel
theorem dX6_readThing_63 : decode cX6_readThing 63 = .ok (.iconst 1, 1) := by decide +kernel
theorem dX6_readThing_64 : decode cX6_readThing 64 = .ok (.goto 4, 3) := by decide +kernel
theorem dX6_readThing_67 : decode cX6_readThing 67 = .ok (.iconst 0, 1) := by decide +kernel
theorem dX6_readThing_68 : decode cX6_readThing 68 = .ok (.invokevirtual 119, 3) := by decide +kernel
theorem dX6_readThing_71 : decode cX6_readThing 71 = .ok (.aload_n 0, 1) := by decide +kernel
theorem dX6_readThing_72 : decode cX6_readThing 72 = .ok (.invokevirtual 143, 3) := by decide +kernel
theorem dX6_readThing_75 : decode cX6_readThing 75 = .ok (.aload_n 0, 1) := by decide +kernel
theorem dX6_readThing_76 : decode cX6_readThing 76 = .ok (.getfield 102, 3) := by decide +kernel
theorem dX6_readThing_79 : decode cX6_readThing 79 = .ok (.ifCond .ne 62, 3) := by decide +kernel
theorem dX6_readThing_82 : decode cX6_readThing 82 = .ok (.bipush 56, 2) := by decide +kernel
theorem dX6_readThing_84 : decode cX6_readThing 84 = .ok (.iconst 3, 1) := by decide +kernel
theorem dX6_readThing_85 : decode cX6_readThing 85 = .ok (.aload_n 0, 1) := by decide +kernel
theorem dX6_readThing_86 : decode cX6_readThing 86 = .ok (.getfield 22, 3) := by decide +kernel
theorem dX6_readThing_89 : decode cX6_readThing 89 = .ok (.iconst 1, 1) := by decide +kernel
theorem dX6_readThing_90 : decode cX6_readThing 90 = .ok (.iaload, 1) := by decide +kernel
theorem dX6_readThing_91 : decode cX6_readThing 91 = .ok (.imul, 1) := by decide +kernel
theorem dX6_readThing_92 : decode cX6_readThing 92 = .ok (.iadd, 1) := by decide +kernel
theorem dX6_readThing_93 : decode cX6_readThing 93 = .ok (.istore 4, 2) := by decide +kernel
theorem dX6_readThing_95 : decode cX6_readThing 95 = .ok (.aload_n 0, 1) := by decide +kernel
theorem dX6_readThing_96 : decode cX6_readThing 96 = .ok (.getfield 22, 3) := by decide +kernel
theorem dX6_readThing_99 : decode cX6_readThing 99 = .ok (.iload 4, 2) := by decide +kernel
theorem dX6_readThing_101 : decode cX6_readThing 101 = .ok (.iload_n 1, 1) := by decide +kernel
theorem dX6_readThing_102 : decode cX6_readThing 102 = .ok (.iastore, 1) := by decide +kernel
theorem dX6_readThing_103 : decode cX6_readThing 103 = .ok (.aload_n 0, 1) := by decide +kernel
theorem dX6_readThing_104 : decode cX6_readThing 104 = .ok (.getfield 22, 3) := by decide +kernel
theorem dX6_readThing_107 : decode cX6_readThing 107 = .ok (.iload 4, 2) := by decide +kernel
theorem dX6_readThing_109 : decode cX6_readThing 109 = .ok (.iconst 1, 1) := by decide +kernel
theorem dX6_readThing_110 : decode cX6_readThing 110 = .ok (.iadd, 1) := by decide +kernel
theorem dX6_readThing_111 : decode cX6_readThing 111 = .ok (.iload_n 2, 1) := by decide +kernel
theorem dX6_readThing_112 : decode cX6_readThing 112 = .ok (.iastore, 1) := by decide +kernel
theorem dX6_readThing_113 : decode cX6_readThing 113 = .ok (.aload_n 0, 1) := by decide +kernel
theorem dX6_readThing_114 : decode cX6_readThing 114 = .ok (.getfield 22, 3) := by decide +kernel
theorem dX6_readThing_117 : decode cX6_readThing 117 = .ok (.iload 4, 2) := by decide +kernel
theorem dX6_readThing_119 : decode cX6_readThing 119 = .ok (.iconst 2, 1) := by decide +kernel
theorem dX6_readThing_120 : decode cX6_readThing 120 = .ok (.iadd, 1) := by decide +kernel
theorem dX6_readThing_121 : decode cX6_readThing 121 = .ok (.iload_n 3, 1) := by decide +kernel
theorem dX6_readThing_122 : decode cX6_readThing 122 = .ok (.ifCond .eq 7, 3) := by decide +kernel
theorem dX6_readThing_125 : decode cX6_readThing 125 = .ok (.iconst 1, 1) := by decide +kernel
theorem dX6_readThing_126 : decode cX6_readThing 126 = .ok (.goto 4, 3) := by decide +kernel
theorem dX6_readThing_129 : decode cX6_readThing 129 = .ok (.iconst 0, 1) := by decide +kernel
theorem dX6_readThing_130 : decode cX6_readThing 130 = .ok (.iastore, 1) := by decide +kernel
theorem dX6_readThing_131 : decode cX6_readThing 131 = .ok (.aload_n 0, 1) := by decide +kernel
theorem dX6_readThing_132 : decode cX6_readThing 132 = .ok (.getfield 22, 3) := by decide +kernel
theorem dX6_readThing_135 : decode cX6_readThing 135 = .ok (.iconst 1, 1) := by decide +kernel
theorem dX6_readThing_136 : decode cX6_readThing 136 = .ok (.dup2, 1) := by decide +kernel
theorem dX6_readThing_137 : decode cX6_readThing 137 = .ok (.iaload, 1) := by decide +kernel
theorem dX6_readThing_138 : decode cX6_readThing 138 = .ok (.iconst 1, 1) := by decide +kernel
theorem dX6_readThing_139 : decode cX6_readThing 139 = .ok (.iadd, 1) := by decide +kernel
theorem dX6_readThing_140 : decode cX6_readThing 140 = .ok (.iastore, 1) := by decide +kernel
theorem dX6_readThing_141 : decode cX6_readThing 141 = .ok (.return_, 1) := by decide +kernel
theorem dX6_garden_0 : decode cX6_garden 0 = .ok (.aload_n 0, 1) := by decide +kernel
theorem dX6_garden_1 : decode cX6_garden 1 = .ok (.iconst 0, 1) := by decide +kernel
theorem dX6_garden_2 : decode cX6_garden 2 = .ok (.putfield 44, 3) := by decide +kernel
theorem dX6_garden_5 : decode cX6_garden 5 = .ok (.aload_n 0, 1) := by decide +kernel
theorem dX6_garden_6 : decode cX6_garden 6 = .ok (.invokevirtual 161, 3) := by decide +kernel
theorem dX6_garden_9 : decode cX6_garden 9 = .ok (.iconst 0, 1) := by decide +kernel
theorem dX6_garden_10 : decode cX6_garden 10 = .ok (.istore_n 1, 1) := by decide +kernel
theorem dX6_garden_11 : decode cX6_garden 11 = .ok (.iload_n 1, 1) := by decide +kernel
theorem dX6_garden_12 : decode cX6_garden 12 = .ok (.bipush 74, 2) := by decide +kernel
theorem dX6_garden_14 : decode cX6_garden 14 = .ok (.if_icmp .ge 26, 3) := by decide +kernel
theorem dX6_garden_17 : decode cX6_garden 17 = .ok (.aload_n 0, 1) := by decide +kernel
theorem dX6_garden_18 : decode cX6_garden 18 = .ok (.getfield 22, 3) := by decide +kernel
theorem dX6_garden_21 : decode cX6_garden 21 = .ok (.iload_n 1, 1) := by decide +kernel
theorem dX6_garden_22 : decode cX6_garden 22 = .ok (.iload_n 1, 1) := by decide +kernel
theorem dX6_garden_23 : decode cX6_garden 23 = .ok (.iconst 4, 1) := by decide +kernel
theorem dX6_garden_24 : decode cX6_garden 24 = .ok (.if_icmp .ne 8, 3) := by decide +kernel
theorem dX6_garden_27 : decode cX6_garden 27 = .ok (.bipush 20, 2) := by decide +kernel
theorem dX6_garden_29 : decode cX6_garden 29 = .ok (.goto 4, 3) := by decide +kernel
theorem dX6_garden_32 : decode cX6_garden 32 = .ok (.iconst 0, 1) := by decide +kernel
theorem dX6_garden_33 : decode cX6_garden 33 = .ok (.iastore, 1) := by decide +kernel
theorem dX6_garden_34 : decode cX6_garden 34 = .ok (.iinc 1 1, 3) := by decide +kernel
theorem dX6_garden_37 : decode cX6_garden 37 = .ok (.goto (-26), 3) := by decide +kernel
theorem dX6_garden_40 : decode cX6_garden 40 = .ok (.aload_n 0, 1) := by decide +kernel
theorem dX6_garden_41 : decode cX6_garden 41 = .ok (.invokevirtual 164, 3) := by decide +kernel
theorem dX6_garden_44 : decode cX6_garden 44 = .ok (.aload_n 0, 1) := by decide +kernel
theorem dX6_garden_45 : decode cX6_garden 45 = .ok (.invokevirtual 133, 3) := by decide +kernel
theorem dX6_garden_48 : decode cX6_garden 48 = .ok (.ldc2_w 167, 3) := by decide +kernel
theorem dX6_garden_51 : decode cX6_garden 51 = .ok (.lcmp, 1) := by decide +kernel
theorem dX6_garden_52 : decode cX6_garden 52 = .ok (.ifCond .ne 7, 3) := by decide +kernel
theorem dX6_garden_55 : decode cX6_garden 55 = .ok (.aload_n 0, 1) := by decide +kernel
theorem dX6_garden_56 : decode cX6_garden 56 = .ok (.invokevirtual 169, 3) := by decide +kernel
theorem dX6_garden_59 : decode cX6_garden 59 = .ok (.aload_n 0, 1) := by decide +kernel
theorem dX6_garden_60 : decode cX6_garden 60 = .ok (.invokevirtual 133, 3) := by decide +kernel
theorem dX6_garden_63 : decode cX6_garden 63 = .ok (.ldc2_w 172, 3) := by decide +kernel
theorem dX6_garden_66 : decode cX6_garden 66 = .ok (.lcmp, 1) := by decide +kernel
theorem dX6_garden_67 : decode cX6_garden 67 = .ok (.ifCond .ne 10, 3) := by decide +kernel
theorem dX6_garden_70 : decode cX6_garden 70 = .ok (.aload_n 0, 1) := by decide +kernel
theorem dX6_garden_71 : decode cX6_garden 71 = .ok (.invokevirtual 174, 3) := by decide +kernel
theorem dX6_garden_74 : decode cX6_garden 74 = .ok (.goto (-15), 3) := by decide +kernel
theorem dX6_garden_77 : decode cX6_garden 77 = .ok (.aload_n 0, 1) := by decide +kernel
theorem dX6_garden_78 : decode cX6_garden 78 = .ok (.invokevirtual 133, 3) := by decide +kernel
theorem dX6_garden_81 : decode cX6_garden 81 = .ok (.ldc2_w 177, 3) := by decide +kernel
theorem dX6_garden_84 : decode cX6_garden 84 = .ok (.lcmp, 1) := by decide +kernel
theorem dX6_garden_85 : decode cX6_garden 85 = .ok (.ifCond .ne 10, 3) := by decide +kernel
theorem dX6_garden_88 : decode cX6_garden 88 = .ok (.aload_n 0, 1) := by decide +kernel
theorem dX6_garden_89 : decode cX6_garden 89 = .ok (.invokevirtual 179, 3) := by decide +kernel
theorem dX6_garden_92 : decode cX6_garden 92 = .ok (.goto (-15), 3) := by decide +kernel
theorem dX6_garden_95 : decode cX6_garden 95 = .ok (.aload_n 0, 1) := by decide +kernel
theorem dX6_garden_96 : decode cX6_garden 96 = .ok (.getfield 102, 3) := by decide +kernel
theorem dX6_garden_99 : decode cX6_garden 99 = .ok (.ifCond .ne 16, 3) := by decide +kernel
theorem dX6_garden_102 : decode cX6_garden 102 = .ok (.aload_n 0, 1) := by decide +kernel
theorem dX6_garden_103 : decode cX6_garden 103 = .ok (.getfield 90, 3) := by decide +kernel
theorem dX6_garden_106 : decode cX6_garden 106 = .ok (.iconst 1, 1) := by decide +kernel
theorem dX6_garden_107 : decode cX6_garden 107 = .ok (.if_icmp .eq 8, 3) := by decide +kernel
theorem dX6_garden_110 : decode cX6_garden 110 = .ok (.aload_n 0, 1) := by decide +kernel
theorem dX6_garden_111 : decode cX6_garden 111 = .ok (.iconst 1, 1) := by decide +kernel
theorem dX6_garden_112 : decode cX6_garden 112 = .ok (.invokevirtual 111, 3) := by decide +kernel
theorem dX6_garden_115 : decode cX6_garden 115 = .ok (.aload_n 0, 1) := by decide +kernel
theorem dX6_garden_116 : decode cX6_garden 116 = .ok (.getfield 102, 3) := by decide +kernel
theorem dX6_garden_119 : decode cX6_garden 119 = .ok (.ifCond .le 19, 3) := by decide +kernel
theorem dX6_garden_122 : decode cX6_garden 122 = .ok (.aload_n 0, 1) := by decide +kernel
theorem dX6_garden_123 : decode cX6_garden 123 = .ok (.aload_n 0, 1) := by decide +kernel
theorem dX6_garden_124 : decode cX6_garden 124 = .ok (.getfield 102, 3) := by decide +kernel
theorem dX6_garden_127 : decode cX6_garden 127 = .ok (.putfield 182, 3) := by decide +kernel
theorem dX6_garden_130 : decode cX6_garden 130 = .ok (.ldc 185, 2) := by decide +kernel
theorem dX6_garden_132 : decode cX6_garden 132 = .ok (.aload_n 0, 1) := by decide +kernel
theorem dX6_garden_133 : decode cX6_garden 133 = .ok (.getfield 108, 3) := by decide +kernel
theorem dX6_garden_136 : decode cX6_garden 136 = .ok (.isub, 1) := by decide +kernel
theorem dX6_garden_137 : decode cX6_garden 137 = .ok (.ireturn, 1) := by decide +kernel
theorem dX6_garden_138 : decode cX6_garden 138 = .ok (.aload_n 0, 1) := by decide +kernel
theorem dX6_garden_139 : decode cX6_garden 139 = .ok (.iconst 1, 1) := by decide +kernel
theorem dX6_garden_140 : decode cX6_garden 140 = .ok (.putfield 186, 3) := by decide +kernel
theorem dX6_garden_143 : decode cX6_garden 143 = .ok (.aload_n 0, 1) := by decide +kernel
theorem dX6_garden_144 : decode cX6_garden 144 = .ok (.iconst 0, 1) := by decide +kernel
theorem dX6_garden_145 : decode cX6_garden 145 = .ok (.putfield 190, 3) := by decide +kernel
theorem dX6_garden_148 : decode cX6_garden 148 = .ok (.iconst 0, 1) := by decide +kernel
theorem dX6_garden_149 : decode cX6_garden 149 = .ok (.istore_n 1, 1) := by decide +kernel
theorem dX6_garden_150 : decode cX6_garden 150 = .ok (.iload_n 1, 1) := by decide +kernel
theorem dX6_garden_151 : decode cX6_garden 151 = .ok (.bipush 74, 2) := by decide +kernel
theorem dX6_garden_153 : decode cX6_garden 153 = .ok (.if_icmp .ge 21, 3) := by decide +kernel
theorem dX6_garden_156 : decode cX6_garden 156 = .ok (.aload_n 0, 1) := by decide +kernel
theorem dX6_garden_157 : decode cX6_garden 157 = .ok (.getfield 19, 3) := by decide +kernel
theorem dX6_garden_160 : decode cX6_garden 160 = .ok (.iload_n 1, 1) := by decide +kernel
theorem dX6_garden_161 : decode cX6_garden 161 = .ok (.aload_n 0, 1) := by decide +kernel
theorem dX6_garden_162 : decode cX6_garden 162 = .ok (.getfield 22, 3) := by decide +kernel
theorem dX6_garden_165 : decode cX6_garden 165 = .ok (.iload_n 1, 1) := by decide +kernel
theorem dX6_garden_166 : decode cX6_garden 166 = .ok (.iaload, 1) := by decide +kernel
theorem dX6_garden_167 : decode cX6_garden 167 = .ok (.iastore, 1) := by decide +kernel
theorem dX6_garden_168 : decode cX6_garden 168 = .ok (.iinc 1 1, 3) := by decide +kernel
theorem dX6_garden_171 : decode cX6_garden 171 = .ok (.goto (-21), 3) := by decide +kernel
theorem dX6_garden_174 : decode cX6_garden 174 = .ok (.aload_n 0, 1) := by decide +kernel
theorem dX6_garden_175 : decode cX6_garden 175 = .ok (.getfield 19, 3) := by decide +kernel
theorem dX6_garden_178 : decode cX6_garden 178 = .ok (.iconst 0, 1) := by decide +kernel
theorem dX6_garden_179 : decode cX6_garden 179 = .ok (.iaload, 1) := by decide +kernel
theorem dX6_garden_180 : decode cX6_garden 180 = .ok (.ireturn, 1) := by decide +kernel
theorem dX6_fault_0 : decode cX6_fault 0 = .ok (.aload_n 0, 1) := by decide +kernel
theorem dX6_fault_1 : decode cX6_fault 1 = .ok (.iconst 0, 1) := by decide +kernel
theorem dX6_fault_2 : decode cX6_fault 2 = .ok (.putfield 44, 3) := by decide +kernel
theorem dX6_fault_5 : decode cX6_fault 5 = .ok (.aload_n 0, 1) := by decide +kernel
theorem dX6_fault_6 : decode cX6_fault 6 = .ok (.getfield 182, 3) := by decide +kernel
theorem dX6_fault_9 : decode cX6_fault 9 = .ok (.ireturn, 1) := by decide +kernel
theorem dX6_isTree_0 : decode cX6_isTree 0 = .ok (.iload_n 1, 1) := by decide +kernel
theorem dX6_isTree_1 : decode cX6_isTree 1 = .ok (.i2l, 1) := by decide +kernel
theorem dX6_isTree_2 : decode cX6_isTree 2 = .ok (.lconst 0, 1) := by decide +kernel
theorem dX6_isTree_3 : decode cX6_isTree 3 = .ok (.aload_n 0, 1) := by decide +kernel
theorem dX6_isTree_4 : decode cX6_isTree 4 = .ok (.getfield 19, 3) := by decide +kernel
theorem dX6_isTree_7 : decode cX6_isTree 7 = .ok (.iconst 0, 1) := by decide +kernel
theorem dX6_isTree_8 : decode cX6_isTree 8 = .ok (.iaload, 1) := by decide +kernel
theorem dX6_isTree_9 : decode cX6_isTree 9 = .ok (.iconst 1, 1) := by decide +kernel
theorem dX6_isTree_10 : decode cX6_isTree 10 = .ok (.isub, 1) := by decide +kernel
theorem dX6_isTree_11 : decode cX6_isTree 11 = .ok (.i2l, 1) := by decide +kernel
theorem dX6_isTree_12 : decode cX6_isTree 12 = .ok (.invokestatic 54, 3) := by decide +kernel
theorem dX6_isTree_15 : decode cX6_isTree 15 = .ok (.ireturn, 1) := by decide +kernel
theorem dX6_of_0 : decode cX6_of 0 = .ok (.aload_n 0, 1) := by decide +kernel
theorem dX6_of_1 : decode cX6_of 1 = .ok (.getfield 19, 3) := by decide +kernel
theorem dX6_of_4 : decode cX6_of 4 = .ok (.bipush 26, 2) := by decide +kernel
theorem dX6_of_6 : decode cX6_of 6 = .ok (.iconst 5, 1) := by decide +kernel
theorem dX6_of_7 : decode cX6_of 7 = .ok (.iload_n 1, 1) := by decide +kernel
theorem dX6_of_8 : decode cX6_of 8 = .ok (.imul, 1) := by decide +kernel
theorem dX6_of_9 : decode cX6_of 9 = .ok (.iadd, 1) := by decide +kernel
theorem dX6_of_10 : decode cX6_of 10 = .ok (.iload_n 2, 1) := by decide +kernel
theorem dX6_of_11 : decode cX6_of 11 = .ok (.iadd, 1) := by decide +kernel
theorem dX6_of_12 : decode cX6_of 12 = .ok (.iaload, 1) := by decide +kernel
theorem dX6_of_13 : decode cX6_of 13 = .ok (.ireturn, 1) := by decide +kernel
theorem dX6_mayBeCut_0 : decode cX6_mayBeCut 0 = .ok (.aload_n 0, 1) := by decide +kernel
theorem dX6_mayBeCut_1 : decode cX6_mayBeCut 1 = .ok (.iload_n 1, 1) := by decide +kernel
theorem dX6_mayBeCut_2 : decode cX6_mayBeCut 2 = .ok (.iconst 0, 1) := by decide +kernel
theorem dX6_mayBeCut_3 : decode cX6_mayBeCut 3 = .ok (.invokevirtual 193, 3) := by decide +kernel
theorem dX6_mayBeCut_6 : decode cX6_mayBeCut 6 = .ok (.iconst 3, 1) := by decide +kernel
theorem dX6_mayBeCut_7 : decode cX6_mayBeCut 7 = .ok (.if_icmp .eq 17, 3) := by decide +kernel
theorem dX6_mayBeCut_10 : decode cX6_mayBeCut 10 = .ok (.aload_n 0, 1) := by decide +kernel
theorem dX6_mayBeCut_11 : decode cX6_mayBeCut 11 = .ok (.iload_n 1, 1) := by decide +kernel
theorem dX6_mayBeCut_12 : decode cX6_mayBeCut 12 = .ok (.iconst 0, 1) := by decide +kernel
theorem dX6_mayBeCut_13 : decode cX6_mayBeCut 13 = .ok (.invokevirtual 193, 3) := by decide +kernel
theorem dX6_mayBeCut_16 : decode cX6_mayBeCut 16 = .ok (.iconst 5, 1) := by decide +kernel
theorem dX6_mayBeCut_17 : decode cX6_mayBeCut 17 = .ok (.if_icmp .eq 7, 3) := by decide +kernel
theorem dX6_mayBeCut_20 : decode cX6_mayBeCut 20 = .ok (.iconst 1, 1) := by decide +kernel
theorem dX6_mayBeCut_21 : decode cX6_mayBeCut 21 = .ok (.goto 4, 3) := by decide +kernel
theorem dX6_mayBeCut_24 : decode cX6_mayBeCut 24 = .ok (.iconst 0, 1) := by decide +kernel
theorem dX6_mayBeCut_25 : decode cX6_mayBeCut 25 = .ok (.ireturn, 1) := by decide +kernel
theorem dX6_treeAt_0 : decode cX6_treeAt 0 = .ok (.iconst 0, 1) := by decide +kernel
theorem dX6_treeAt_1 : decode cX6_treeAt 1 = .ok (.istore_n 2, 1) := by decide +kernel
theorem dX6_treeAt_2 : decode cX6_treeAt 2 = .ok (.iload_n 2, 1) := by decide +kernel
theorem dX6_treeAt_3 : decode cX6_treeAt 3 = .ok (.aload_n 0, 1) := by decide +kernel
theorem dX6_treeAt_4 : decode cX6_treeAt 4 = .ok (.getfield 19, 3) := by decide +kernel
theorem dX6_treeAt_7 : decode cX6_treeAt 7 = .ok (.iconst 0, 1) := by decide +kernel
theorem dX6_treeAt_8 : decode cX6_treeAt 8 = .ok (.iaload, 1) := by decide +kernel
theorem dX6_treeAt_9 : decode cX6_treeAt 9 = .ok (.if_icmp .ge 21, 3) := by decide +kernel
theorem dX6_treeAt_12 : decode cX6_treeAt 12 = .ok (.aload_n 0, 1) := by decide +kernel
theorem dX6_treeAt_13 : decode cX6_treeAt 13 = .ok (.iload_n 2, 1) := by decide +kernel
theorem dX6_treeAt_14 : decode cX6_treeAt 14 = .ok (.iconst 1, 1) := by decide +kernel
theorem dX6_treeAt_15 : decode cX6_treeAt 15 = .ok (.invokevirtual 193, 3) := by decide +kernel
theorem dX6_treeAt_18 : decode cX6_treeAt 18 = .ok (.iload_n 1, 1) := by decide +kernel
theorem dX6_treeAt_19 : decode cX6_treeAt 19 = .ok (.if_icmp .ne 5, 3) := by decide +kernel
theorem dX6_treeAt_22 : decode cX6_treeAt 22 = .ok (.iload_n 2, 1) := by decide +kernel
theorem dX6_treeAt_23 : decode cX6_treeAt 23 = .ok (.ireturn, 1) := by decide +kernel
theorem dX6_treeAt_24 : decode cX6_treeAt 24 = .ok (.iinc 2 1, 3) := by decide +kernel
theorem dX6_treeAt_27 : decode cX6_treeAt 27 = .ok (.goto (-25), 3) := by decide +kernel
theorem dX6_treeAt_30 : decode cX6_treeAt 30 = .ok (.ldc 80, 2) := by decide +kernel
theorem dX6_treeAt_32 : decode cX6_treeAt 32 = .ok (.ireturn, 1) := by decide +kernel
theorem dX6_height_0 : decode cX6_height 0 = .ok (.aload_n 0, 1) := by decide +kernel
theorem dX6_height_1 : decode cX6_height 1 = .ok (.iload_n 1, 1) := by decide +kernel
theorem dX6_height_2 : decode cX6_height 2 = .ok (.iconst 0, 1) := by decide +kernel
theorem dX6_height_3 : decode cX6_height 3 = .ok (.invokevirtual 193, 3) := by decide +kernel
theorem dX6_height_6 : decode cX6_height 6 = .ok (.istore_n 2, 1) := by decide +kernel
theorem dX6_height_7 : decode cX6_height 7 = .ok (.iload_n 2, 1) := by decide +kernel
theorem dX6_height_8 : decode cX6_height 8 = .ok (.iconst 1, 1) := by decide +kernel
theorem dX6_height_9 : decode cX6_height 9 = .ok (.if_icmp .ne 15, 3) := by decide +kernel
theorem dX6_height_12 : decode cX6_height 12 = .ok (.aload_n 0, 1) := by decide +kernel
theorem dX6_height_13 : decode cX6_height 13 = .ok (.getfield 19, 3) := by decide +kernel
theorem dX6_height_16 : decode cX6_height 16 = .ok (.iconst 3, 1) := by decide +kernel
theorem dX6_height_17 : decode cX6_height 17 = .ok (.iaload, 1) := by decide +kernel
theorem dX6_height_18 : decode cX6_height 18 = .ok (.iconst 1, 1) := by decide +kernel
theorem dX6_height_19 : decode cX6_height 19 = .ok (.if_icmp .ne 5, 3) := by decide +kernel
theorem dX6_height_22 : decode cX6_height 22 = .ok (.iconst 0, 1) := by decide +kernel
theorem dX6_height_23 : decode cX6_height 23 = .ok (.ireturn, 1) := by decide +kernel
theorem dX6_height_24 : decode cX6_height 24 = .ok (.aload_n 0, 1) := by decide +kernel
theorem dX6_height_25 : decode cX6_height 25 = .ok (.iload_n 1, 1) := by decide +kernel
theorem dX6_height_26 : decode cX6_height 26 = .ok (.iconst 2, 1) := by decide +kernel
theorem dX6_height_27 : decode cX6_height 27 = .ok (.invokevirtual 193, 3) := by decide +kernel
theorem dX6_height_30 : decode cX6_height 30 = .ok (.iload_n 2, 1) := by decide +kernel
theorem dX6_height_31 : decode cX6_height 31 = .ok (.iconst 4, 1) := by decide +kernel
theorem dX6_height_32 : decode cX6_height 32 = .ok (.if_icmp .ge 19, 3) := by decide +kernel
theorem dX6_height_35 : decode cX6_height 35 = .ok (.aload_n 0, 1) := by decide +kernel
theorem dX6_height_36 : decode cX6_height 36 = .ok (.iload_n 1, 1) := by decide +kernel
theorem dX6_height_37 : decode cX6_height 37 = .ok (.iconst 3, 1) := by decide +kernel
theorem dX6_height_38 : decode cX6_height 38 = .ok (.invokevirtual 193, 3) := by decide +kernel
theorem dX6_height_41 : decode cX6_height 41 = .ok (.aload_n 0, 1) := by decide +kernel
theorem dX6_height_42 : decode cX6_height 42 = .ok (.getfield 19, 3) := by decide +kernel
theorem dX6_height_45 : decode cX6_height 45 = .ok (.iconst 2, 1) := by decide +kernel
theorem dX6_height_46 : decode cX6_height 46 = .ok (.iaload, 1) := by decide +kernel
theorem dX6_height_47 : decode cX6_height 47 = .ok (.imul, 1) := by decide +kernel
theorem dX6_height_48 : decode cX6_height 48 = .ok (.goto 4, 3) := by decide +kernel
theorem dX6_height_51 : decode cX6_height 51 = .ok (.iconst 0, 1) := by decide +kernel
theorem dX6_height_52 : decode cX6_height 52 = .ok (.iadd, 1) := by decide +kernel
theorem dX6_height_53 : decode cX6_height 53 = .ok (.istore_n 3, 1) := by decide +kernel
theorem dX6_height_54 : decode cX6_height 54 = .ok (.iload_n 3, 1) := by decide +kernel
theorem dX6_height_55 : decode cX6_height 55 = .ok (.bipush 99, 2) := by decide +kernel
theorem dX6_height_57 : decode cX6_height 57 = .ok (.if_icmp .le 8, 3) := by decide +kernel
theorem dX6_height_60 : decode cX6_height 60 = .ok (.bipush 99, 2) := by decide +kernel
theorem dX6_height_62 : decode cX6_height 62 = .ok (.goto 4, 3) := by decide +kernel
theorem dX6_height_65 : decode cX6_height 65 = .ok (.iload_n 3, 1) := by decide +kernel
theorem dX6_height_66 : decode cX6_height 66 = .ok (.aload_n 0, 1) := by decide +kernel
theorem dX6_height_67 : decode cX6_height 67 = .ok (.iload_n 1, 1) := by decide +kernel
theorem dX6_height_68 : decode cX6_height 68 = .ok (.iconst 4, 1) := by decide +kernel
theorem dX6_height_69 : decode cX6_height 69 = .ok (.invokevirtual 193, 3) := by decide +kernel
theorem dX6_height_72 : decode cX6_height 72 = .ok (.isub, 1) := by decide +kernel
theorem dX6_height_73 : decode cX6_height 73 = .ok (.istore_n 3, 1) := by decide +kernel
theorem dX6_height_74 : decode cX6_height 74 = .ok (.iload_n 3, 1) := by decide +kernel
theorem dX6_height_75 : decode cX6_height 75 = .ok (.ifCond .ge 7, 3) := by decide +kernel
theorem dX6_height_78 : decode cX6_height 78 = .ok (.iconst 0, 1) := by decide +kernel
theorem dX6_height_79 : decode cX6_height 79 = .ok (.goto 4, 3) := by decide +kernel
theorem dX6_height_82 : decode cX6_height 82 = .ok (.iload_n 3, 1) := by decide +kernel
theorem dX6_height_83 : decode cX6_height 83 = .ok (.aload_n 0, 1) := by decide +kernel
theorem dX6_height_84 : decode cX6_height 84 = .ok (.getfield 31, 3) := by decide +kernel
theorem dX6_height_87 : decode cX6_height 87 = .ok (.iload_n 1, 1) := by decide +kernel
theorem dX6_height_88 : decode cX6_height 88 = .ok (.iaload, 1) := by decide +kernel
theorem dX6_height_89 : decode cX6_height 89 = .ok (.iadd, 1) := by decide +kernel
theorem dX6_height_90 : decode cX6_height 90 = .ok (.ireturn, 1) := by decide +kernel
theorem dX6_ground_0 : decode cX6_ground 0 = .ok (.aload_n 0, 1) := by decide +kernel
theorem dX6_ground_1 : decode cX6_ground 1 = .ok (.getfield 19, 3) := by decide +kernel
theorem dX6_ground_4 : decode cX6_ground 4 = .ok (.bipush 6, 2) := by decide +kernel
theorem dX6_ground_6 : decode cX6_ground 6 = .ok (.iload_n 1, 1) := by decide +kernel
theorem dX6_ground_7 : decode cX6_ground 7 = .ok (.iadd, 1) := by decide +kernel
theorem dX6_ground_8 : decode cX6_ground 8 = .ok (.iaload, 1) := by decide +kernel
theorem dX6_ground_9 : decode cX6_ground 9 = .ok (.ireturn, 1) := by decide +kernel
theorem dX6_bar_0 : decode cX6_bar 0 = .ok (.aload_n 0, 1) := by decide +kernel
theorem dX6_bar_1 : decode cX6_bar 1 = .ok (.iload_n 1, 1) := by decide +kernel
theorem dX6_bar_2 : decode cX6_bar 2 = .ok (.invokevirtual 196, 3) := by decide +kernel
theorem dX6_bar_5 : decode cX6_bar 5 = .ok (.istore_n 2, 1) := by decide +kernel
theorem dX6_bar_6 : decode cX6_bar 6 = .ok (.aload_n 0, 1) := by decide +kernel
theorem dX6_bar_7 : decode cX6_bar 7 = .ok (.iload_n 1, 1) := by decide +kernel
theorem dX6_bar_8 : decode cX6_bar 8 = .ok (.invokevirtual 199, 3) := by decide +kernel
theorem dX6_bar_11 : decode cX6_bar 11 = .ok (.iload_n 2, 1) := by decide +kernel
theorem dX6_bar_12 : decode cX6_bar 12 = .ok (.ldc 80, 2) := by decide +kernel
theorem dX6_bar_14 : decode cX6_bar 14 = .ok (.if_icmp .ne 7, 3) := by decide +kernel
theorem dX6_bar_17 : decode cX6_bar 17 = .ok (.iconst 0, 1) := by decide +kernel
theorem dX6_bar_18 : decode cX6_bar 18 = .ok (.goto 8, 3) := by decide +kernel
theorem dX6_bar_21 : decode cX6_bar 21 = .ok (.aload_n 0, 1) := by decide +kernel
theorem dX6_bar_22 : decode cX6_bar 22 = .ok (.iload_n 2, 1) := by decide +kernel
theorem dX6_bar_23 : decode cX6_bar 23 = .ok (.invokevirtual 202, 3) := by decide +kernel
theorem dX6_bar_26 : decode cX6_bar 26 = .ok (.iadd, 1) := by decide +kernel
theorem dX6_bar_27 : decode cX6_bar 27 = .ok (.ireturn, 1) := by decide +kernel
theorem dX6_keep_0 : decode cX6_keep 0 = .ok (.aload_n 0, 1) := by decide +kernel
theorem dX6_keep_1 : decode cX6_keep 1 = .ok (.getfield 190, 3) := by decide +kernel
theorem dX6_keep_4 : decode cX6_keep 4 = .ok (.bipush 24, 2) := by decide +kernel
theorem dX6_keep_6 : decode cX6_keep 6 = .ok (.if_icmp .ne 43, 3) := by decide +kernel
theorem dX6_keep_9 : decode cX6_keep 9 = .ok (.iconst 0, 1) := by decide +kernel
theorem dX6_keep_10 : decode cX6_keep 10 = .ok (.istore_n 1, 1) := by decide +kernel
theorem dX6_keep_11 : decode cX6_keep 11 = .ok (.iload_n 1, 1) := by decide +kernel
theorem dX6_keep_12 : decode cX6_keep 12 = .ok (.sipush 1702, 3) := by decide +kernel
theorem dX6_keep_15 : decode cX6_keep 15 = .ok (.if_icmp .ge 24, 3) := by decide +kernel
theorem dX6_keep_18 : decode cX6_keep 18 = .ok (.aload_n 0, 1) := by decide +kernel
theorem dX6_keep_19 : decode cX6_keep 19 = .ok (.getfield 25, 3) := by decide +kernel
theorem dX6_keep_22 : decode cX6_keep 22 = .ok (.iload_n 1, 1) := by decide +kernel
theorem dX6_keep_23 : decode cX6_keep 23 = .ok (.aload_n 0, 1) := by decide +kernel
theorem dX6_keep_24 : decode cX6_keep 24 = .ok (.getfield 25, 3) := by decide +kernel
theorem dX6_keep_27 : decode cX6_keep 27 = .ok (.iload_n 1, 1) := by decide +kernel
theorem dX6_keep_28 : decode cX6_keep 28 = .ok (.bipush 74, 2) := by decide +kernel
theorem dX6_keep_30 : decode cX6_keep 30 = .ok (.iadd, 1) := by decide +kernel
theorem dX6_keep_31 : decode cX6_keep 31 = .ok (.iaload, 1) := by decide +kernel
theorem dX6_keep_32 : decode cX6_keep 32 = .ok (.iastore, 1) := by decide +kernel
theorem dX6_keep_33 : decode cX6_keep 33 = .ok (.iinc 1 1, 3) := by decide +kernel
theorem dX6_keep_36 : decode cX6_keep 36 = .ok (.goto (-25), 3) := by decide +kernel
theorem dX6_keep_39 : decode cX6_keep 39 = .ok (.aload_n 0, 1) := by decide +kernel
theorem dX6_keep_40 : decode cX6_keep 40 = .ok (.dup, 1) := by decide +kernel
theorem dX6_keep_41 : decode cX6_keep 41 = .ok (.getfield 190, 3) := by decide +kernel
theorem dX6_keep_44 : decode cX6_keep 44 = .ok (.iconst 1, 1) := by decide +kernel
theorem dX6_keep_45 : decode cX6_keep 45 = .ok (.isub, 1) := by decide +kernel
theorem dX6_keep_46 : decode cX6_keep 46 = .ok (.putfield 190, 3) := by decide +kernel
theorem dX6_keep_49 : decode cX6_keep 49 = .ok (.iconst 0, 1) := by decide +kernel
theorem dX6_keep_50 : decode cX6_keep 50 = .ok (.istore_n 1, 1) := by decide +kernel
theorem dX6_keep_51 : decode cX6_keep 51 = .ok (.iload_n 1, 1) := by decide +kernel
theorem dX6_keep_52 : decode cX6_keep 52 = .ok (.bipush 74, 2) := by decide +kernel
theorem dX6_keep_54 : decode cX6_keep 54 = .ok (.if_icmp .ge 29, 3) := by decide +kernel
theorem dX6_keep_57 : decode cX6_keep 57 = .ok (.aload_n 0, 1) := by decide +kernel
theorem dX6_keep_58 : decode cX6_keep 58 = .ok (.getfield 25, 3) := by decide +kernel
theorem dX6_keep_61 : decode cX6_keep 61 = .ok (.bipush 74, 2) := by decide +kernel
theorem dX6_keep_63 : decode cX6_keep 63 = .ok (.aload_n 0, 1) := by decide +kernel
theorem dX6_keep_64 : decode cX6_keep 64 = .ok (.getfield 190, 3) := by decide +kernel
theorem dX6_keep_67 : decode cX6_keep 67 = .ok (.imul, 1) := by decide +kernel
theorem dX6_keep_68 : decode cX6_keep 68 = .ok (.iload_n 1, 1) := by decide +kernel
theorem dX6_keep_69 : decode cX6_keep 69 = .ok (.iadd, 1) := by decide +kernel
theorem dX6_keep_70 : decode cX6_keep 70 = .ok (.aload_n 0, 1) := by decide +kernel
theorem dX6_keep_71 : decode cX6_keep 71 = .ok (.getfield 19, 3) := by decide +kernel
theorem dX6_keep_74 : decode cX6_keep 74 = .ok (.iload_n 1, 1) := by decide +kernel
theorem dX6_keep_75 : decode cX6_keep 75 = .ok (.iaload, 1) := by decide +kernel
theorem dX6_keep_76 : decode cX6_keep 76 = .ok (.iastore, 1) := by decide +kernel
theorem dX6_keep_77 : decode cX6_keep 77 = .ok (.iinc 1 1, 3) := by decide +kernel
theorem dX6_keep_80 : decode cX6_keep 80 = .ok (.goto (-29), 3) := by decide +kernel
theorem dX6_keep_83 : decode cX6_keep 83 = .ok (.aload_n 0, 1) := by decide +kernel
theorem dX6_keep_84 : decode cX6_keep 84 = .ok (.dup, 1) := by decide +kernel
theorem dX6_keep_85 : decode cX6_keep 85 = .ok (.getfield 190, 3) := by decide +kernel
theorem dX6_keep_88 : decode cX6_keep 88 = .ok (.iconst 1, 1) := by decide +kernel
theorem dX6_keep_89 : decode cX6_keep 89 = .ok (.iadd, 1) := by decide +kernel
theorem dX6_keep_90 : decode cX6_keep 90 = .ok (.putfield 190, 3) := by decide +kernel
theorem dX6_keep_93 : decode cX6_keep 93 = .ok (.return_, 1) := by decide +kernel
theorem dX6_years_0 : decode cX6_years 0 = .ok (.aload_n 0, 1) := by decide +kernel
theorem dX6_years_1 : decode cX6_years 1 = .ok (.iconst 0, 1) := by decide +kernel
theorem dX6_years_2 : decode cX6_years 2 = .ok (.putfield 44, 3) := by decide +kernel
theorem dX6_years_5 : decode cX6_years 5 = .ok (.aload_n 0, 1) := by decide +kernel
theorem dX6_years_6 : decode cX6_years 6 = .ok (.getfield 186, 3) := by decide +kernel
theorem dX6_years_9 : decode cX6_years 9 = .ok (.ifCond .ne 6, 3) := by decide +kernel
theorem dX6_years_12 : decode cX6_years 12 = .ok (.ldc 205, 2) := by decide +kernel
theorem dX6_years_14 : decode cX6_years 14 = .ok (.ireturn, 1) := by decide +kernel
theorem dX6_years_15 : decode cX6_years 15 = .ok (.iload_n 1, 1) := by decide +kernel
theorem dX6_years_16 : decode cX6_years 16 = .ok (.i2l, 1) := by decide +kernel
theorem dX6_years_17 : decode cX6_years 17 = .ok (.lconst 1, 1) := by decide +kernel
theorem dX6_years_18 : decode cX6_years 18 = .ok (.ldc2_w 206, 3) := by decide +kernel
theorem dX6_years_21 : decode cX6_years 21 = .ok (.invokestatic 54, 3) := by decide +kernel
theorem dX6_years_24 : decode cX6_years 24 = .ok (.ifCond .ne 6, 3) := by decide +kernel
theorem dX6_years_27 : decode cX6_years 27 = .ok (.ldc 64, 2) := by decide +kernel
theorem dX6_years_29 : decode cX6_years 29 = .ok (.ireturn, 1) := by decide +kernel
theorem dX6_years_30 : decode cX6_years 30 = .ok (.aload_n 0, 1) := by decide +kernel
theorem dX6_years_31 : decode cX6_years 31 = .ok (.getfield 19, 3) := by decide +kernel
theorem dX6_years_34 : decode cX6_years 34 = .ok (.iconst 2, 1) := by decide +kernel
theorem dX6_years_35 : decode cX6_years 35 = .ok (.iaload, 1) := by decide +kernel
theorem dX6_years_36 : decode cX6_years 36 = .ok (.iload_n 1, 1) := by decide +kernel
theorem dX6_years_37 : decode cX6_years 37 = .ok (.iadd, 1) := by decide +kernel
theorem dX6_years_38 : decode cX6_years 38 = .ok (.sipush 999, 3) := by decide +kernel
theorem dX6_years_41 : decode cX6_years 41 = .ok (.if_icmp .le 6, 3) := by decide +kernel
theorem dX6_years_44 : decode cX6_years 44 = .ok (.ldc 74, 2) := by decide +kernel
theorem dX6_years_46 : decode cX6_years 46 = .ok (.ireturn, 1) := by decide +kernel
theorem dX6_years_47 : decode cX6_years 47 = .ok (.aload_n 0, 1) := by decide +kernel
theorem dX6_years_48 : decode cX6_years 48 = .ok (.invokevirtual 208, 3) := by decide +kernel
theorem dX6_years_51 : decode cX6_years 51 = .ok (.aload_n 0, 1) := by decide +kernel
theorem dX6_years_52 : decode cX6_years 52 = .ok (.getfield 19, 3) := by decide +kernel
theorem dX6_years_55 : decode cX6_years 55 = .ok (.iconst 2, 1) := by decide +kernel
theorem dX6_years_56 : decode cX6_years 56 = .ok (.dup2, 1) := by decide +kernel
theorem dX6_years_57 : decode cX6_years 57 = .ok (.iaload, 1) := by decide +kernel
theorem dX6_years_58 : decode cX6_years 58 = .ok (.iload_n 1, 1) := by decide +kernel
theorem dX6_years_59 : decode cX6_years 59 = .ok (.iadd, 1) := by decide +kernel
theorem dX6_years_60 : decode cX6_years 60 = .ok (.iastore, 1) := by decide +kernel
theorem dX6_years_61 : decode cX6_years 61 = .ok (.aload_n 0, 1) := by decide +kernel
theorem dX6_years_62 : decode cX6_years 62 = .ok (.getfield 19, 3) := by decide +kernel
theorem dX6_years_65 : decode cX6_years 65 = .ok (.iconst 2, 1) := by decide +kernel
theorem dX6_years_66 : decode cX6_years 66 = .ok (.iaload, 1) := by decide +kernel
theorem dX6_years_67 : decode cX6_years 67 = .ok (.ireturn, 1) := by decide +kernel
theorem dX6_winter_0 : decode cX6_winter 0 = .ok (.aload_n 0, 1) := by decide +kernel
theorem dX6_winter_1 : decode cX6_winter 1 = .ok (.iconst 0, 1) := by decide +kernel
theorem dX6_winter_2 : decode cX6_winter 2 = .ok (.putfield 44, 3) := by decide +kernel
theorem dX6_winter_5 : decode cX6_winter 5 = .ok (.aload_n 0, 1) := by decide +kernel
theorem dX6_winter_6 : decode cX6_winter 6 = .ok (.getfield 186, 3) := by decide +kernel
theorem dX6_winter_9 : decode cX6_winter 9 = .ok (.ifCond .ne 6, 3) := by decide +kernel
theorem dX6_winter_12 : decode cX6_winter 12 = .ok (.ldc 205, 2) := by decide +kernel
theorem dX6_winter_14 : decode cX6_winter 14 = .ok (.ireturn, 1) := by decide +kernel
theorem dX6_winter_15 : decode cX6_winter 15 = .ok (.iload_n 1, 1) := by decide +kernel
theorem dX6_winter_16 : decode cX6_winter 16 = .ok (.i2l, 1) := by decide +kernel
theorem dX6_winter_17 : decode cX6_winter 17 = .ok (.lconst 0, 1) := by decide +kernel
theorem dX6_winter_18 : decode cX6_winter 18 = .ok (.lconst 1, 1) := by decide +kernel
theorem dX6_winter_19 : decode cX6_winter 19 = .ok (.invokestatic 54, 3) := by decide +kernel
theorem dX6_winter_22 : decode cX6_winter 22 = .ok (.ifCond .ne 6, 3) := by decide +kernel
theorem dX6_winter_25 : decode cX6_winter 25 = .ok (.ldc 64, 2) := by decide +kernel
theorem dX6_winter_27 : decode cX6_winter 27 = .ok (.ireturn, 1) := by decide +kernel
theorem dX6_winter_28 : decode cX6_winter 28 = .ok (.aload_n 0, 1) := by decide +kernel
theorem dX6_winter_29 : decode cX6_winter 29 = .ok (.invokevirtual 208, 3) := by decide +kernel
theorem dX6_winter_32 : decode cX6_winter 32 = .ok (.aload_n 0, 1) := by decide +kernel
theorem dX6_winter_33 : decode cX6_winter 33 = .ok (.getfield 19, 3) := by decide +kernel
theorem dX6_winter_36 : decode cX6_winter 36 = .ok (.iconst 3, 1) := by decide +kernel
theorem dX6_winter_37 : decode cX6_winter 37 = .ok (.iaload, 1) := by decide +kernel
theorem dX6_winter_38 : decode cX6_winter 38 = .ok (.istore_n 2, 1) := by decide +kernel
theorem dX6_winter_39 : decode cX6_winter 39 = .ok (.aload_n 0, 1) := by decide +kernel
theorem dX6_winter_40 : decode cX6_winter 40 = .ok (.getfield 19, 3) := by decide +kernel
theorem dX6_winter_43 : decode cX6_winter 43 = .ok (.iconst 3, 1) := by decide +kernel
theorem dX6_winter_44 : decode cX6_winter 44 = .ok (.iload_n 1, 1) := by decide +kernel
theorem dX6_winter_45 : decode cX6_winter 45 = .ok (.iastore, 1) := by decide +kernel
theorem dX6_winter_46 : decode cX6_winter 46 = .ok (.iload_n 2, 1) := by decide +kernel
theorem dX6_winter_47 : decode cX6_winter 47 = .ok (.ireturn, 1) := by decide +kernel
theorem dX6_clip_0 : decode cX6_clip 0 = .ok (.aload_n 0, 1) := by decide +kernel
theorem dX6_clip_1 : decode cX6_clip 1 = .ok (.iconst 0, 1) := by decide +kernel
theorem dX6_clip_2 : decode cX6_clip 2 = .ok (.putfield 44, 3) := by decide +kernel
theorem dX6_clip_5 : decode cX6_clip 5 = .ok (.aload_n 0, 1) := by decide +kernel
theorem dX6_clip_6 : decode cX6_clip 6 = .ok (.iload_n 1, 1) := by decide +kernel
theorem dX6_clip_7 : decode cX6_clip 7 = .ok (.invokevirtual 211, 3) := by decide +kernel
theorem dX6_clip_10 : decode cX6_clip 10 = .ok (.ifCond .eq 15, 3) := by decide +kernel
theorem dX6_clip_13 : decode cX6_clip 13 = .ok (.iload_n 2, 1) := by decide +kernel
theorem dX6_clip_14 : decode cX6_clip 14 = .ok (.i2l, 1) := by decide +kernel
theorem dX6_clip_15 : decode cX6_clip 15 = .ok (.lconst 1, 1) := by decide +kernel
theorem dX6_clip_16 : decode cX6_clip 16 = .ok (.ldc2_w 206, 3) := by decide +kernel
theorem dX6_clip_19 : decode cX6_clip 19 = .ok (.invokestatic 54, 3) := by decide +kernel
theorem dX6_clip_22 : decode cX6_clip 22 = .ok (.ifCond .ne 6, 3) := by decide +kernel
theorem dX6_clip_25 : decode cX6_clip 25 = .ok (.ldc 64, 2) := by decide +kernel
theorem dX6_clip_27 : decode cX6_clip 27 = .ok (.ireturn, 1) := by decide +kernel
theorem dX6_clip_28 : decode cX6_clip 28 = .ok (.aload_n 0, 1) := by decide +kernel
theorem dX6_clip_29 : decode cX6_clip 29 = .ok (.iload_n 1, 1) := by decide +kernel
theorem dX6_clip_30 : decode cX6_clip 30 = .ok (.invokevirtual 214, 3) := by decide +kernel
theorem dX6_clip_33 : decode cX6_clip 33 = .ok (.ifCond .ne 6, 3) := by decide +kernel
theorem dX6_clip_36 : decode cX6_clip 36 = .ok (.ldc 205, 2) := by decide +kernel
theorem dX6_clip_38 : decode cX6_clip 38 = .ok (.ireturn, 1) := by decide +kernel
theorem dX6_clip_39 : decode cX6_clip 39 = .ok (.aload_n 0, 1) := by decide +kernel
theorem dX6_clip_40 : decode cX6_clip 40 = .ok (.invokevirtual 208, 3) := by decide +kernel
theorem dX6_clip_43 : decode cX6_clip 43 = .ok (.aload_n 0, 1) := by decide +kernel
theorem dX6_clip_44 : decode cX6_clip 44 = .ok (.getfield 19, 3) := by decide +kernel
theorem dX6_clip_47 : decode cX6_clip 47 = .ok (.bipush 26, 2) := by decide +kernel
theorem dX6_clip_49 : decode cX6_clip 49 = .ok (.iconst 5, 1) := by decide +kernel
theorem dX6_clip_50 : decode cX6_clip 50 = .ok (.iload_n 1, 1) := by decide +kernel
theorem dX6_clip_51 : decode cX6_clip 51 = .ok (.imul, 1) := by decide +kernel
theorem dX6_clip_52 : decode cX6_clip 52 = .ok (.iadd, 1) := by decide +kernel
theorem dX6_clip_53 : decode cX6_clip 53 = .ok (.iconst 4, 1) := by decide +kernel
theorem dX6_clip_54 : decode cX6_clip 54 = .ok (.iadd, 1) := by decide +kernel
theorem dX6_clip_55 : decode cX6_clip 55 = .ok (.dup2, 1) := by decide +kernel
theorem dX6_clip_56 : decode cX6_clip 56 = .ok (.iaload, 1) := by decide +kernel
theorem dX6_clip_57 : decode cX6_clip 57 = .ok (.iload_n 2, 1) := by decide +kernel
theorem dX6_clip_58 : decode cX6_clip 58 = .ok (.iadd, 1) := by decide +kernel
theorem dX6_clip_59 : decode cX6_clip 59 = .ok (.iastore, 1) := by decide +kernel
theorem dX6_clip_60 : decode cX6_clip 60 = .ok (.aload_n 0, 1) := by decide +kernel
theorem dX6_clip_61 : decode cX6_clip 61 = .ok (.iload_n 1, 1) := by decide +kernel
theorem dX6_clip_62 : decode cX6_clip 62 = .ok (.invokevirtual 202, 3) := by decide +kernel
theorem dX6_clip_65 : decode cX6_clip 65 = .ok (.ireturn, 1) := by decide +kernel
theorem dX6_move_0 : decode cX6_move 0 = .ok (.aload_n 0, 1) := by decide +kernel
theorem dX6_move_1 : decode cX6_move 1 = .ok (.iconst 0, 1) := by decide +kernel
theorem dX6_move_2 : decode cX6_move 2 = .ok (.putfield 44, 3) := by decide +kernel
theorem dX6_move_5 : decode cX6_move 5 = .ok (.aload_n 0, 1) := by decide +kernel
theorem dX6_move_6 : decode cX6_move 6 = .ok (.iload_n 1, 1) := by decide +kernel
theorem dX6_move_7 : decode cX6_move 7 = .ok (.invokevirtual 211, 3) := by decide +kernel
theorem dX6_move_10 : decode cX6_move 10 = .ok (.ifCond .eq 15, 3) := by decide +kernel
theorem dX6_move_13 : decode cX6_move 13 = .ok (.iload_n 2, 1) := by decide +kernel
theorem dX6_move_14 : decode cX6_move 14 = .ok (.i2l, 1) := by decide +kernel
theorem dX6_move_15 : decode cX6_move 15 = .ok (.lconst 1, 1) := by decide +kernel
theorem dX6_move_16 : decode cX6_move 16 = .ok (.ldc2_w 217, 3) := by decide +kernel
theorem dX6_move_19 : decode cX6_move 19 = .ok (.invokestatic 54, 3) := by decide +kernel
theorem dX6_move_22 : decode cX6_move 22 = .ok (.ifCond .ne 6, 3) := by decide +kernel
theorem dX6_move_25 : decode cX6_move 25 = .ok (.ldc 64, 2) := by decide +kernel
theorem dX6_move_27 : decode cX6_move 27 = .ok (.ireturn, 1) := by decide +kernel
theorem dX6_move_28 : decode cX6_move 28 = .ok (.aload_n 0, 1) := by decide +kernel
theorem dX6_move_29 : decode cX6_move 29 = .ok (.iload_n 2, 1) := by decide +kernel
theorem dX6_move_30 : decode cX6_move 30 = .ok (.invokevirtual 196, 3) := by decide +kernel
theorem dX6_move_33 : decode cX6_move 33 = .ok (.ldc 80, 2) := by decide +kernel
theorem dX6_move_35 : decode cX6_move 35 = .ok (.if_icmp .eq 6, 3) := by decide +kernel
theorem dX6_move_38 : decode cX6_move 38 = .ok (.ldc 205, 2) := by decide +kernel
theorem dX6_move_40 : decode cX6_move 40 = .ok (.ireturn, 1) := by decide +kernel
theorem dX6_move_41 : decode cX6_move 41 = .ok (.aload_n 0, 1) := by decide +kernel
theorem dX6_move_42 : decode cX6_move 42 = .ok (.invokevirtual 208, 3) := by decide +kernel
theorem dX6_move_45 : decode cX6_move 45 = .ok (.aload_n 0, 1) := by decide +kernel
theorem dX6_move_46 : decode cX6_move 46 = .ok (.iload_n 1, 1) := by decide +kernel
theorem dX6_move_47 : decode cX6_move 47 = .ok (.iconst 1, 1) := by decide +kernel
theorem dX6_move_48 : decode cX6_move 48 = .ok (.invokevirtual 193, 3) := by decide +kernel
theorem dX6_move_51 : decode cX6_move 51 = .ok (.istore_n 3, 1) := by decide +kernel
theorem dX6_move_52 : decode cX6_move 52 = .ok (.aload_n 0, 1) := by decide +kernel
theorem dX6_move_53 : decode cX6_move 53 = .ok (.getfield 19, 3) := by decide +kernel
theorem dX6_move_56 : decode cX6_move 56 = .ok (.bipush 26, 2) := by decide +kernel
theorem dX6_move_58 : decode cX6_move 58 = .ok (.iconst 5, 1) := by decide +kernel
theorem dX6_move_59 : decode cX6_move 59 = .ok (.iload_n 1, 1) := by decide +kernel
theorem dX6_move_60 : decode cX6_move 60 = .ok (.imul, 1) := by decide +kernel
theorem dX6_move_61 : decode cX6_move 61 = .ok (.iadd, 1) := by decide +kernel
theorem dX6_move_62 : decode cX6_move 62 = .ok (.iconst 1, 1) := by decide +kernel
theorem dX6_move_63 : decode cX6_move 63 = .ok (.iadd, 1) := by decide +kernel
theorem dX6_move_64 : decode cX6_move 64 = .ok (.iload_n 2, 1) := by decide +kernel
theorem dX6_move_65 : decode cX6_move 65 = .ok (.iastore, 1) := by decide +kernel
theorem dX6_move_66 : decode cX6_move 66 = .ok (.iload_n 3, 1) := by decide +kernel
theorem dX6_move_67 : decode cX6_move 67 = .ok (.ireturn, 1) := by decide +kernel
theorem dX6_level_0 : decode cX6_level 0 = .ok (.aload_n 0, 1) := by decide +kernel
theorem dX6_level_1 : decode cX6_level 1 = .ok (.iconst 0, 1) := by decide +kernel
theorem dX6_level_2 : decode cX6_level 2 = .ok (.putfield 44, 3) := by decide +kernel
theorem dX6_level_5 : decode cX6_level 5 = .ok (.aload_n 0, 1) := by decide +kernel
theorem dX6_level_6 : decode cX6_level 6 = .ok (.getfield 186, 3) := by decide +kernel
theorem dX6_level_9 : decode cX6_level 9 = .ok (.ifCond .ne 6, 3) := by decide +kernel
theorem dX6_level_12 : decode cX6_level 12 = .ok (.ldc 205, 2) := by decide +kernel
theorem dX6_level_14 : decode cX6_level 14 = .ok (.ireturn, 1) := by decide +kernel
theorem dX6_level_15 : decode cX6_level 15 = .ok (.iload_n 1, 1) := by decide +kernel
theorem dX6_level_16 : decode cX6_level 16 = .ok (.invokestatic 58, 3) := by decide +kernel
theorem dX6_level_19 : decode cX6_level 19 = .ok (.ifCond .ne 6, 3) := by decide +kernel
theorem dX6_level_22 : decode cX6_level 22 = .ok (.ldc 64, 2) := by decide +kernel
theorem dX6_level_24 : decode cX6_level 24 = .ok (.ireturn, 1) := by decide +kernel
theorem dX6_level_25 : decode cX6_level 25 = .ok (.aload_n 0, 1) := by decide +kernel
theorem dX6_level_26 : decode cX6_level 26 = .ok (.getfield 7, 3) := by decide +kernel
theorem dX6_level_29 : decode cX6_level 29 = .ok (.iload_n 1, 1) := by decide +kernel
theorem dX6_level_30 : decode cX6_level 30 = .ok (.iaload, 1) := by decide +kernel
theorem dX6_level_31 : decode cX6_level 31 = .ok (.ifCond .ge 9, 3) := by decide +kernel
theorem dX6_level_34 : decode cX6_level 34 = .ok (.aload_n 0, 1) := by decide +kernel
theorem dX6_level_35 : decode cX6_level 35 = .ok (.iconst 1, 1) := by decide +kernel
theorem dX6_level_36 : decode cX6_level 36 = .ok (.invokevirtual 65, 3) := by decide +kernel
theorem dX6_level_39 : decode cX6_level 39 = .ok (.ireturn, 1) := by decide +kernel
theorem dX6_level_40 : decode cX6_level 40 = .ok (.iload_n 2, 1) := by decide +kernel
theorem dX6_level_41 : decode cX6_level 41 = .ok (.ifCond .lt 20, 3) := by decide +kernel
theorem dX6_level_44 : decode cX6_level 44 = .ok (.iload_n 2, 1) := by decide +kernel
theorem dX6_level_45 : decode cX6_level 45 = .ok (.i2l, 1) := by decide +kernel
theorem dX6_level_46 : decode cX6_level 46 = .ok (.ldc2_w 219, 3) := by decide +kernel
theorem dX6_level_49 : decode cX6_level 49 = .ok (.ladd, 1) := by decide +kernel
theorem dX6_level_50 : decode cX6_level 50 = .ok (.aload_n 0, 1) := by decide +kernel
theorem dX6_level_51 : decode cX6_level 51 = .ok (.getfield 13, 3) := by decide +kernel
theorem dX6_level_54 : decode cX6_level 54 = .ok (.iload_n 1, 1) := by decide +kernel
theorem dX6_level_55 : decode cX6_level 55 = .ok (.iaload, 1) := by decide +kernel
theorem dX6_level_56 : decode cX6_level 56 = .ok (.i2l, 1) := by decide +kernel
theorem dX6_level_57 : decode cX6_level 57 = .ok (.lcmp, 1) := by decide +kernel
theorem dX6_level_58 : decode cX6_level 58 = .ok (.ifCond .le 9, 3) := by decide +kernel
theorem dX6_level_61 : decode cX6_level 61 = .ok (.aload_n 0, 1) := by decide +kernel
theorem dX6_level_62 : decode cX6_level 62 = .ok (.iconst 2, 1) := by decide +kernel
theorem dX6_level_63 : decode cX6_level 63 = .ok (.invokevirtual 65, 3) := by decide +kernel
theorem dX6_level_66 : decode cX6_level 66 = .ok (.ireturn, 1) := by decide +kernel
theorem dX6_level_67 : decode cX6_level 67 = .ok (.iconst 0, 1) := by decide +kernel
theorem dX6_level_68 : decode cX6_level 68 = .ok (.istore_n 3, 1) := by decide +kernel
theorem dX6_level_69 : decode cX6_level 69 = .ok (.iload_n 3, 1) := by decide +kernel
theorem dX6_level_70 : decode cX6_level 70 = .ok (.bipush 20, 2) := by decide +kernel
theorem dX6_level_72 : decode cX6_level 72 = .ok (.if_icmp .ge 36, 3) := by decide +kernel
theorem dX6_level_75 : decode cX6_level 75 = .ok (.aload_n 0, 1) := by decide +kernel
theorem dX6_level_76 : decode cX6_level 76 = .ok (.getfield 16, 3) := by decide +kernel
theorem dX6_level_79 : decode cX6_level 79 = .ok (.bipush 40, 2) := by decide +kernel
theorem dX6_level_81 : decode cX6_level 81 = .ok (.iload_n 1, 1) := by decide +kernel
theorem dX6_level_82 : decode cX6_level 82 = .ok (.imul, 1) := by decide +kernel
theorem dX6_level_83 : decode cX6_level 83 = .ok (.iload_n 2, 1) := by decide +kernel
theorem dX6_level_84 : decode cX6_level 84 = .ok (.iadd, 1) := by decide +kernel
theorem dX6_level_85 : decode cX6_level 85 = .ok (.iload_n 3, 1) := by decide +kernel
theorem dX6_level_86 : decode cX6_level 86 = .ok (.iadd, 1) := by decide +kernel
theorem dX6_level_87 : decode cX6_level 87 = .ok (.iaload, 1) := by decide +kernel
theorem dX6_level_88 : decode cX6_level 88 = .ok (.i2l, 1) := by decide +kernel
theorem dX6_level_89 : decode cX6_level 89 = .ok (.lconst 0, 1) := by decide +kernel
theorem dX6_level_90 : decode cX6_level 90 = .ok (.ldc2_w 221, 3) := by decide +kernel
theorem dX6_level_93 : decode cX6_level 93 = .ok (.invokestatic 54, 3) := by decide +kernel
theorem dX6_level_96 : decode cX6_level 96 = .ok (.ifCond .ne 6, 3) := by decide +kernel
theorem dX6_level_99 : decode cX6_level 99 = .ok (.ldc 64, 2) := by decide +kernel
theorem dX6_level_101 : decode cX6_level 101 = .ok (.ireturn, 1) := by decide +kernel
theorem dX6_level_102 : decode cX6_level 102 = .ok (.iinc 3 1, 3) := by decide +kernel
theorem dX6_level_105 : decode cX6_level 105 = .ok (.goto (-36), 3) := by decide +kernel
theorem dX6_level_108 : decode cX6_level 108 = .ok (.aload_n 0, 1) := by decide +kernel
theorem dX6_level_109 : decode cX6_level 109 = .ok (.iconst 0, 1) := by decide +kernel
theorem dX6_level_110 : decode cX6_level 110 = .ok (.putfield 48, 3) := by decide +kernel
theorem dX6_level_113 : decode cX6_level 113 = .ok (.aload_n 0, 1) := by decide +kernel
theorem dX6_level_114 : decode cX6_level 114 = .ok (.invokevirtual 208, 3) := by decide +kernel
theorem dX6_level_117 : decode cX6_level 117 = .ok (.iconst 0, 1) := by decide +kernel
theorem dX6_level_118 : decode cX6_level 118 = .ok (.istore_n 3, 1) := by decide +kernel
theorem dX6_level_119 : decode cX6_level 119 = .ok (.iload_n 3, 1) := by decide +kernel
theorem dX6_level_120 : decode cX6_level 120 = .ok (.bipush 20, 2) := by decide +kernel
theorem dX6_level_122 : decode cX6_level 122 = .ok (.if_icmp .ge 31, 3) := by decide +kernel
theorem dX6_level_125 : decode cX6_level 125 = .ok (.aload_n 0, 1) := by decide +kernel
theorem dX6_level_126 : decode cX6_level 126 = .ok (.getfield 19, 3) := by decide +kernel
theorem dX6_level_129 : decode cX6_level 129 = .ok (.bipush 6, 2) := by decide +kernel
theorem dX6_level_131 : decode cX6_level 131 = .ok (.iload_n 3, 1) := by decide +kernel
theorem dX6_level_132 : decode cX6_level 132 = .ok (.iadd, 1) := by decide +kernel
theorem dX6_level_133 : decode cX6_level 133 = .ok (.aload_n 0, 1) := by decide +kernel
theorem dX6_level_134 : decode cX6_level 134 = .ok (.getfield 16, 3) := by decide +kernel
theorem dX6_level_137 : decode cX6_level 137 = .ok (.bipush 40, 2) := by decide +kernel
theorem dX6_level_139 : decode cX6_level 139 = .ok (.iload_n 1, 1) := by decide +kernel
theorem dX6_level_140 : decode cX6_level 140 = .ok (.imul, 1) := by decide +kernel
theorem dX6_level_141 : decode cX6_level 141 = .ok (.iload_n 2, 1) := by decide +kernel
theorem dX6_level_142 : decode cX6_level 142 = .ok (.iadd, 1) := by decide +kernel
theorem dX6_level_143 : decode cX6_level 143 = .ok (.iload_n 3, 1) := by decide +kernel
theorem dX6_level_144 : decode cX6_level 144 = .ok (.iadd, 1) := by decide +kernel
theorem dX6_level_145 : decode cX6_level 145 = .ok (.iaload, 1) := by decide +kernel
theorem dX6_level_146 : decode cX6_level 146 = .ok (.iastore, 1) := by decide +kernel
theorem dX6_level_147 : decode cX6_level 147 = .ok (.iinc 3 1, 3) := by decide +kernel
theorem dX6_level_150 : decode cX6_level 150 = .ok (.goto (-31), 3) := by decide +kernel
theorem dX6_level_153 : decode cX6_level 153 = .ok (.iconst 1, 1) := by decide +kernel
theorem dX6_level_154 : decode cX6_level 154 = .ok (.ireturn, 1) := by decide +kernel
theorem dX6_undo_0 : decode cX6_undo 0 = .ok (.aload_n 0, 1) := by decide +kernel
theorem dX6_undo_1 : decode cX6_undo 1 = .ok (.iconst 0, 1) := by decide +kernel
theorem dX6_undo_2 : decode cX6_undo 2 = .ok (.putfield 44, 3) := by decide +kernel
theorem dX6_undo_5 : decode cX6_undo 5 = .ok (.aload_n 0, 1) := by decide +kernel
theorem dX6_undo_6 : decode cX6_undo 6 = .ok (.getfield 190, 3) := by decide +kernel
theorem dX6_undo_9 : decode cX6_undo 9 = .ok (.ifCond .ne 6, 3) := by decide +kernel
theorem dX6_undo_12 : decode cX6_undo 12 = .ok (.ldc 205, 2) := by decide +kernel
theorem dX6_undo_14 : decode cX6_undo 14 = .ok (.ireturn, 1) := by decide +kernel
theorem dX6_undo_15 : decode cX6_undo 15 = .ok (.aload_n 0, 1) := by decide +kernel
theorem dX6_undo_16 : decode cX6_undo 16 = .ok (.dup, 1) := by decide +kernel
theorem dX6_undo_17 : decode cX6_undo 17 = .ok (.getfield 190, 3) := by decide +kernel
theorem dX6_undo_20 : decode cX6_undo 20 = .ok (.iconst 1, 1) := by decide +kernel
theorem dX6_undo_21 : decode cX6_undo 21 = .ok (.isub, 1) := by decide +kernel
theorem dX6_undo_22 : decode cX6_undo 22 = .ok (.putfield 190, 3) := by decide +kernel
theorem dX6_undo_25 : decode cX6_undo 25 = .ok (.iconst 0, 1) := by decide +kernel
theorem dX6_undo_26 : decode cX6_undo 26 = .ok (.istore_n 1, 1) := by decide +kernel
theorem dX6_undo_27 : decode cX6_undo 27 = .ok (.iload_n 1, 1) := by decide +kernel
theorem dX6_undo_28 : decode cX6_undo 28 = .ok (.bipush 74, 2) := by decide +kernel
theorem dX6_undo_30 : decode cX6_undo 30 = .ok (.if_icmp .ge 29, 3) := by decide +kernel
theorem dX6_undo_33 : decode cX6_undo 33 = .ok (.aload_n 0, 1) := by decide +kernel
theorem dX6_undo_34 : decode cX6_undo 34 = .ok (.getfield 19, 3) := by decide +kernel
theorem dX6_undo_37 : decode cX6_undo 37 = .ok (.iload_n 1, 1) := by decide +kernel
theorem dX6_undo_38 : decode cX6_undo 38 = .ok (.aload_n 0, 1) := by decide +kernel
theorem dX6_undo_39 : decode cX6_undo 39 = .ok (.getfield 25, 3) := by decide +kernel
theorem dX6_undo_42 : decode cX6_undo 42 = .ok (.bipush 74, 2) := by decide +kernel
theorem dX6_undo_44 : decode cX6_undo 44 = .ok (.aload_n 0, 1) := by decide +kernel
theorem dX6_undo_45 : decode cX6_undo 45 = .ok (.getfield 190, 3) := by decide +kernel
theorem dX6_undo_48 : decode cX6_undo 48 = .ok (.imul, 1) := by decide +kernel
theorem dX6_undo_49 : decode cX6_undo 49 = .ok (.iload_n 1, 1) := by decide +kernel
theorem dX6_undo_50 : decode cX6_undo 50 = .ok (.iadd, 1) := by decide +kernel
theorem dX6_undo_51 : decode cX6_undo 51 = .ok (.iaload, 1) := by decide +kernel
theorem dX6_undo_52 : decode cX6_undo 52 = .ok (.iastore, 1) := by decide +kernel
theorem dX6_undo_53 : decode cX6_undo 53 = .ok (.iinc 1 1, 3) := by decide +kernel
theorem dX6_undo_56 : decode cX6_undo 56 = .ok (.goto (-29), 3) := by decide +kernel
theorem dX6_undo_59 : decode cX6_undo 59 = .ok (.aload_n 0, 1) := by decide +kernel
theorem dX6_undo_60 : decode cX6_undo 60 = .ok (.getfield 190, 3) := by decide +kernel
theorem dX6_undo_63 : decode cX6_undo 63 = .ok (.ireturn, 1) := by decide +kernel
theorem dX6_tree_0 : decode cX6_tree 0 = .ok (.aload_n 0, 1) := by decide +kernel
theorem dX6_tree_1 : decode cX6_tree 1 = .ok (.iconst 0, 1) := by decide +kernel
theorem dX6_tree_2 : decode cX6_tree 2 = .ok (.putfield 44, 3) := by decide +kernel
theorem dX6_tree_5 : decode cX6_tree 5 = .ok (.aload_n 0, 1) := by decide +kernel
theorem dX6_tree_6 : decode cX6_tree 6 = .ok (.iload_n 1, 1) := by decide +kernel
theorem dX6_tree_7 : decode cX6_tree 7 = .ok (.invokevirtual 211, 3) := by decide +kernel
theorem dX6_tree_10 : decode cX6_tree 10 = .ok (.ifCond .eq 15, 3) := by decide +kernel
theorem dX6_tree_13 : decode cX6_tree 13 = .ok (.iload_n 2, 1) := by decide +kernel
theorem dX6_tree_14 : decode cX6_tree 14 = .ok (.i2l, 1) := by decide +kernel
theorem dX6_tree_15 : decode cX6_tree 15 = .ok (.lconst 0, 1) := by decide +kernel
theorem dX6_tree_16 : decode cX6_tree 16 = .ok (.ldc2_w 223, 3) := by decide +kernel
theorem dX6_tree_19 : decode cX6_tree 19 = .ok (.invokestatic 54, 3) := by decide +kernel
theorem dX6_tree_22 : decode cX6_tree 22 = .ok (.ifCond .ne 6, 3) := by decide +kernel
theorem dX6_tree_25 : decode cX6_tree 25 = .ok (.ldc 64, 2) := by decide +kernel
theorem dX6_tree_27 : decode cX6_tree 27 = .ok (.ireturn, 1) := by decide +kernel
theorem dX6_tree_28 : decode cX6_tree 28 = .ok (.iload_n 2, 1) := by decide +kernel
theorem dX6_tree_29 : decode cX6_tree 29 = .ok (.ifCond .ne 12, 3) := by decide +kernel
theorem dX6_tree_32 : decode cX6_tree 32 = .ok (.aload_n 0, 1) := by decide +kernel
theorem dX6_tree_33 : decode cX6_tree 33 = .ok (.iload_n 1, 1) := by decide +kernel
theorem dX6_tree_34 : decode cX6_tree 34 = .ok (.iconst 1, 1) := by decide +kernel
theorem dX6_tree_35 : decode cX6_tree 35 = .ok (.invokevirtual 193, 3) := by decide +kernel
theorem dX6_tree_38 : decode cX6_tree 38 = .ok (.goto 36, 3) := by decide +kernel
theorem dX6_tree_41 : decode cX6_tree 41 = .ok (.iload_n 2, 1) := by decide +kernel
theorem dX6_tree_42 : decode cX6_tree 42 = .ok (.iconst 1, 1) := by decide +kernel
theorem dX6_tree_43 : decode cX6_tree 43 = .ok (.if_icmp .ne 11, 3) := by decide +kernel
theorem dX6_tree_46 : decode cX6_tree 46 = .ok (.aload_n 0, 1) := by decide +kernel
theorem dX6_tree_47 : decode cX6_tree 47 = .ok (.iload_n 1, 1) := by decide +kernel
theorem dX6_tree_48 : decode cX6_tree 48 = .ok (.invokevirtual 202, 3) := by decide +kernel
theorem dX6_tree_51 : decode cX6_tree 51 = .ok (.goto 23, 3) := by decide +kernel
theorem dX6_tree_54 : decode cX6_tree 54 = .ok (.iload_n 2, 1) := by decide +kernel
theorem dX6_tree_55 : decode cX6_tree 55 = .ok (.iconst 2, 1) := by decide +kernel
theorem dX6_tree_56 : decode cX6_tree 56 = .ok (.if_icmp .ne 12, 3) := by decide +kernel
theorem dX6_tree_59 : decode cX6_tree 59 = .ok (.aload_n 0, 1) := by decide +kernel
theorem dX6_tree_60 : decode cX6_tree 60 = .ok (.iload_n 1, 1) := by decide +kernel
theorem dX6_tree_61 : decode cX6_tree 61 = .ok (.iconst 4, 1) := by decide +kernel
theorem dX6_tree_62 : decode cX6_tree 62 = .ok (.invokevirtual 193, 3) := by decide +kernel
theorem dX6_tree_65 : decode cX6_tree 65 = .ok (.goto 9, 3) := by decide +kernel
theorem dX6_tree_68 : decode cX6_tree 68 = .ok (.aload_n 0, 1) := by decide +kernel
theorem dX6_tree_69 : decode cX6_tree 69 = .ok (.iload_n 1, 1) := by decide +kernel
theorem dX6_tree_70 : decode cX6_tree 70 = .ok (.iconst 3, 1) := by decide +kernel
theorem dX6_tree_71 : decode cX6_tree 71 = .ok (.invokevirtual 193, 3) := by decide +kernel
theorem dX6_tree_74 : decode cX6_tree 74 = .ok (.ireturn, 1) := by decide +kernel
theorem dX6_site_0 : decode cX6_site 0 = .ok (.aload_n 0, 1) := by decide +kernel
theorem dX6_site_1 : decode cX6_site 1 = .ok (.iconst 0, 1) := by decide +kernel
theorem dX6_site_2 : decode cX6_site 2 = .ok (.putfield 44, 3) := by decide +kernel
theorem dX6_site_5 : decode cX6_site 5 = .ok (.aload_n 0, 1) := by decide +kernel
theorem dX6_site_6 : decode cX6_site 6 = .ok (.getfield 186, 3) := by decide +kernel
theorem dX6_site_9 : decode cX6_site 9 = .ok (.ifCond .ne 6, 3) := by decide +kernel
theorem dX6_site_12 : decode cX6_site 12 = .ok (.ldc 205, 2) := by decide +kernel
theorem dX6_site_14 : decode cX6_site 14 = .ok (.ireturn, 1) := by decide +kernel
theorem dX6_site_15 : decode cX6_site 15 = .ok (.iload_n 1, 1) := by decide +kernel
theorem dX6_site_16 : decode cX6_site 16 = .ok (.i2l, 1) := by decide +kernel
theorem dX6_site_17 : decode cX6_site 17 = .ok (.lconst 0, 1) := by decide +kernel
theorem dX6_site_18 : decode cX6_site 18 = .ok (.ldc2_w 225, 3) := by decide +kernel
theorem dX6_site_21 : decode cX6_site 21 = .ok (.invokestatic 54, 3) := by decide +kernel
theorem dX6_site_24 : decode cX6_site 24 = .ok (.ifCond .eq 15, 3) := by decide +kernel
theorem dX6_site_27 : decode cX6_site 27 = .ok (.iload_n 2, 1) := by decide +kernel
theorem dX6_site_28 : decode cX6_site 28 = .ok (.i2l, 1) := by decide +kernel
theorem dX6_site_29 : decode cX6_site 29 = .ok (.lconst 0, 1) := by decide +kernel
theorem dX6_site_30 : decode cX6_site 30 = .ok (.ldc2_w 62, 3) := by decide +kernel
theorem dX6_site_33 : decode cX6_site 33 = .ok (.invokestatic 54, 3) := by decide +kernel
theorem dX6_site_36 : decode cX6_site 36 = .ok (.ifCond .ne 6, 3) := by decide +kernel
theorem dX6_site_39 : decode cX6_site 39 = .ok (.ldc 64, 2) := by decide +kernel
theorem dX6_site_41 : decode cX6_site 41 = .ok (.ireturn, 1) := by decide +kernel
theorem dX6_site_42 : decode cX6_site 42 = .ok (.iload_n 2, 1) := by decide +kernel
theorem dX6_site_43 : decode cX6_site 43 = .ok (.ifCond .ne 11, 3) := by decide +kernel
theorem dX6_site_46 : decode cX6_site 46 = .ok (.aload_n 0, 1) := by decide +kernel
theorem dX6_site_47 : decode cX6_site 47 = .ok (.iload_n 1, 1) := by decide +kernel
theorem dX6_site_48 : decode cX6_site 48 = .ok (.invokevirtual 199, 3) := by decide +kernel
theorem dX6_site_51 : decode cX6_site 51 = .ok (.goto 21, 3) := by decide +kernel
theorem dX6_site_54 : decode cX6_site 54 = .ok (.iload_n 2, 1) := by decide +kernel
theorem dX6_site_55 : decode cX6_site 55 = .ok (.iconst 1, 1) := by decide +kernel
theorem dX6_site_56 : decode cX6_site 56 = .ok (.if_icmp .ne 11, 3) := by decide +kernel
theorem dX6_site_59 : decode cX6_site 59 = .ok (.aload_n 0, 1) := by decide +kernel
theorem dX6_site_60 : decode cX6_site 60 = .ok (.iload_n 1, 1) := by decide +kernel
theorem dX6_site_61 : decode cX6_site 61 = .ok (.invokevirtual 227, 3) := by decide +kernel
theorem dX6_site_64 : decode cX6_site 64 = .ok (.goto 8, 3) := by decide +kernel
theorem dX6_site_67 : decode cX6_site 67 = .ok (.aload_n 0, 1) := by decide +kernel
theorem dX6_site_68 : decode cX6_site 68 = .ok (.iload_n 1, 1) := by decide +kernel
theorem dX6_site_69 : decode cX6_site 69 = .ok (.invokevirtual 196, 3) := by decide +kernel
theorem dX6_site_72 : decode cX6_site 72 = .ok (.ireturn, 1) := by decide +kernel
theorem dX6_isFree_0 : decode cX6_isFree 0 = .ok (.iload_n 1, 1) := by decide +kernel
theorem dX6_isFree_1 : decode cX6_isFree 1 = .ok (.iconst 1, 1) := by decide +kernel
theorem dX6_isFree_2 : decode cX6_isFree 2 = .ok (.iadd, 1) := by decide +kernel
theorem dX6_isFree_3 : decode cX6_isFree 3 = .ok (.istore 5, 2) := by decide +kernel
theorem dX6_isFree_5 : decode cX6_isFree 5 = .ok (.iload 5, 2) := by decide +kernel
theorem dX6_isFree_7 : decode cX6_isFree 7 = .ok (.iload_n 3, 1) := by decide +kernel
theorem dX6_isFree_8 : decode cX6_isFree 8 = .ok (.if_icmp .ge 39, 3) := by decide +kernel
theorem dX6_isFree_11 : decode cX6_isFree 11 = .ok (.iload 4, 2) := by decide +kernel
theorem dX6_isFree_13 : decode cX6_isFree 13 = .ok (.iload_n 2, 1) := by decide +kernel
theorem dX6_isFree_14 : decode cX6_isFree 14 = .ok (.isub, 1) := by decide +kernel
theorem dX6_isFree_15 : decode cX6_isFree 15 = .ok (.iload 5, 2) := by decide +kernel
theorem dX6_isFree_17 : decode cX6_isFree 17 = .ok (.iload_n 1, 1) := by decide +kernel
theorem dX6_isFree_18 : decode cX6_isFree 18 = .ok (.isub, 1) := by decide +kernel
theorem dX6_isFree_19 : decode cX6_isFree 19 = .ok (.imul, 1) := by decide +kernel
theorem dX6_isFree_20 : decode cX6_isFree 20 = .ok (.iload_n 2, 1) := by decide +kernel
theorem dX6_isFree_21 : decode cX6_isFree 21 = .ok (.iload_n 3, 1) := by decide +kernel
theorem dX6_isFree_22 : decode cX6_isFree 22 = .ok (.iload_n 1, 1) := by decide +kernel
theorem dX6_isFree_23 : decode cX6_isFree 23 = .ok (.isub, 1) := by decide +kernel
theorem dX6_isFree_24 : decode cX6_isFree 24 = .ok (.imul, 1) := by decide +kernel
theorem dX6_isFree_25 : decode cX6_isFree 25 = .ok (.iadd, 1) := by decide +kernel
theorem dX6_isFree_26 : decode cX6_isFree 26 = .ok (.aload_n 0, 1) := by decide +kernel
theorem dX6_isFree_27 : decode cX6_isFree 27 = .ok (.iload 5, 2) := by decide +kernel
theorem dX6_isFree_29 : decode cX6_isFree 29 = .ok (.invokevirtual 227, 3) := by decide +kernel
theorem dX6_isFree_32 : decode cX6_isFree 32 = .ok (.iload_n 3, 1) := by decide +kernel
theorem dX6_isFree_33 : decode cX6_isFree 33 = .ok (.iload_n 1, 1) := by decide +kernel
theorem dX6_isFree_34 : decode cX6_isFree 34 = .ok (.isub, 1) := by decide +kernel
theorem dX6_isFree_35 : decode cX6_isFree 35 = .ok (.imul, 1) := by decide +kernel
theorem dX6_isFree_36 : decode cX6_isFree 36 = .ok (.if_icmp .gt 5, 3) := by decide +kernel
theorem dX6_isFree_39 : decode cX6_isFree 39 = .ok (.iconst 0, 1) := by decide +kernel
theorem dX6_isFree_40 : decode cX6_isFree 40 = .ok (.ireturn, 1) := by decide +kernel
theorem dX6_isFree_41 : decode cX6_isFree 41 = .ok (.iinc 5 1, 3) := by decide +kernel
theorem dX6_isFree_44 : decode cX6_isFree 44 = .ok (.goto (-39), 3) := by decide +kernel
theorem dX6_isFree_47 : decode cX6_isFree 47 = .ok (.iconst 1, 1) := by decide +kernel
theorem dX6_isFree_48 : decode cX6_isFree 48 = .ok (.ireturn, 1) := by decide +kernel
theorem dX6_top_0 : decode cX6_top 0 = .ok (.aload_n 0, 1) := by decide +kernel
theorem dX6_top_1 : decode cX6_top 1 = .ok (.aload_n 0, 1) := by decide +kernel
theorem dX6_top_2 : decode cX6_top 2 = .ok (.getfield 19, 3) := by decide +kernel
theorem dX6_top_5 : decode cX6_top 5 = .ok (.bipush 56, 2) := by decide +kernel
theorem dX6_top_7 : decode cX6_top 7 = .ok (.iconst 3, 1) := by decide +kernel
theorem dX6_top_8 : decode cX6_top 8 = .ok (.iload_n 1, 1) := by decide +kernel
theorem dX6_top_9 : decode cX6_top 9 = .ok (.imul, 1) := by decide +kernel
theorem dX6_top_10 : decode cX6_top 10 = .ok (.iadd, 1) := by decide +kernel
theorem dX6_top_11 : decode cX6_top 11 = .ok (.iaload, 1) := by decide +kernel
theorem dX6_top_12 : decode cX6_top 12 = .ok (.invokevirtual 199, 3) := by decide +kernel
theorem dX6_top_15 : decode cX6_top 15 = .ok (.aload_n 0, 1) := by decide +kernel
theorem dX6_top_16 : decode cX6_top 16 = .ok (.getfield 19, 3) := by decide +kernel
theorem dX6_top_19 : decode cX6_top 19 = .ok (.bipush 56, 2) := by decide +kernel
theorem dX6_top_21 : decode cX6_top 21 = .ok (.iconst 3, 1) := by decide +kernel
theorem dX6_top_22 : decode cX6_top 22 = .ok (.iload_n 1, 1) := by decide +kernel
theorem dX6_top_23 : decode cX6_top 23 = .ok (.imul, 1) := by decide +kernel
theorem dX6_top_24 : decode cX6_top 24 = .ok (.iadd, 1) := by decide +kernel
theorem dX6_top_25 : decode cX6_top 25 = .ok (.iconst 1, 1) := by decide +kernel
theorem dX6_top_26 : decode cX6_top 26 = .ok (.iadd, 1) := by decide +kernel
theorem dX6_top_27 : decode cX6_top 27 = .ok (.iaload, 1) := by decide +kernel
theorem dX6_top_28 : decode cX6_top 28 = .ok (.iadd, 1) := by decide +kernel
theorem dX6_top_29 : decode cX6_top 29 = .ok (.ireturn, 1) := by decide +kernel
theorem dX6_isSeen_0 : decode cX6_isSeen 0 = .ok (.aload_n 0, 1) := by decide +kernel
theorem dX6_isSeen_1 : decode cX6_isSeen 1 = .ok (.getfield 19, 3) := by decide +kernel
theorem dX6_isSeen_4 : decode cX6_isSeen 4 = .ok (.bipush 56, 2) := by decide +kernel
theorem dX6_isSeen_6 : decode cX6_isSeen 6 = .ok (.iconst 3, 1) := by decide +kernel
theorem dX6_isSeen_7 : decode cX6_isSeen 7 = .ok (.iload_n 3, 1) := by decide +kernel
theorem dX6_isSeen_8 : decode cX6_isSeen 8 = .ok (.imul, 1) := by decide +kernel
theorem dX6_isSeen_9 : decode cX6_isSeen 9 = .ok (.iadd, 1) := by decide +kernel
theorem dX6_isSeen_10 : decode cX6_isSeen 10 = .ok (.iaload, 1) := by decide +kernel
theorem dX6_isSeen_11 : decode cX6_isSeen 11 = .ok (.istore 4, 2) := by decide +kernel
theorem dX6_isSeen_13 : decode cX6_isSeen 13 = .ok (.iload_n 1, 1) := by decide +kernel
theorem dX6_isSeen_14 : decode cX6_isSeen 14 = .ok (.iload 4, 2) := by decide +kernel
theorem dX6_isSeen_16 : decode cX6_isSeen 16 = .ok (.if_icmp .ge 29, 3) := by decide +kernel
theorem dX6_isSeen_19 : decode cX6_isSeen 19 = .ok (.aload_n 0, 1) := by decide +kernel
theorem dX6_isSeen_20 : decode cX6_isSeen 20 = .ok (.iload_n 1, 1) := by decide +kernel
theorem dX6_isSeen_21 : decode cX6_isSeen 21 = .ok (.aload_n 0, 1) := by decide +kernel
theorem dX6_isSeen_22 : decode cX6_isSeen 22 = .ok (.iload_n 1, 1) := by decide +kernel
theorem dX6_isSeen_23 : decode cX6_isSeen 23 = .ok (.invokevirtual 199, 3) := by decide +kernel
theorem dX6_isSeen_26 : decode cX6_isSeen 26 = .ok (.iload_n 2, 1) := by decide +kernel
theorem dX6_isSeen_27 : decode cX6_isSeen 27 = .ok (.iadd, 1) := by decide +kernel
theorem dX6_isSeen_28 : decode cX6_isSeen 28 = .ok (.iload 4, 2) := by decide +kernel
theorem dX6_isSeen_30 : decode cX6_isSeen 30 = .ok (.aload_n 0, 1) := by decide +kernel
theorem dX6_isSeen_31 : decode cX6_isSeen 31 = .ok (.iload_n 3, 1) := by decide +kernel
theorem dX6_isSeen_32 : decode cX6_isSeen 32 = .ok (.invokevirtual 230, 3) := by decide +kernel
theorem dX6_isSeen_35 : decode cX6_isSeen 35 = .ok (.invokevirtual 233, 3) := by decide +kernel
theorem dX6_isSeen_38 : decode cX6_isSeen 38 = .ok (.ifCond .eq 7, 3) := by decide +kernel
theorem dX6_isSeen_41 : decode cX6_isSeen 41 = .ok (.iconst 1, 1) := by decide +kernel
theorem dX6_isSeen_42 : decode cX6_isSeen 42 = .ok (.goto 4, 3) := by decide +kernel
theorem dX6_isSeen_45 : decode cX6_isSeen 45 = .ok (.iconst 0, 1) := by decide +kernel
theorem dX6_isSeen_46 : decode cX6_isSeen 46 = .ok (.ireturn, 1) := by decide +kernel
theorem dX6_seenFrom_0 : decode cX6_seenFrom 0 = .ok (.iconst 0, 1) := by decide +kernel
theorem dX6_seenFrom_1 : decode cX6_seenFrom 1 = .ok (.istore_n 3, 1) := by decide +kernel
theorem dX6_seenFrom_2 : decode cX6_seenFrom 2 = .ok (.iconst 0, 1) := by decide +kernel
theorem dX6_seenFrom_3 : decode cX6_seenFrom 3 = .ok (.istore 4, 2) := by decide +kernel
theorem dX6_seenFrom_5 : decode cX6_seenFrom 5 = .ok (.iload 4, 2) := by decide +kernel
theorem dX6_seenFrom_7 : decode cX6_seenFrom 7 = .ok (.aload_n 0, 1) := by decide +kernel
theorem dX6_seenFrom_8 : decode cX6_seenFrom 8 = .ok (.getfield 19, 3) := by decide +kernel
theorem dX6_seenFrom_11 : decode cX6_seenFrom 11 = .ok (.iconst 1, 1) := by decide +kernel
theorem dX6_seenFrom_12 : decode cX6_seenFrom 12 = .ok (.iaload, 1) := by decide +kernel
theorem dX6_seenFrom_13 : decode cX6_seenFrom 13 = .ok (.if_icmp .ge 31, 3) := by decide +kernel
theorem dX6_seenFrom_16 : decode cX6_seenFrom 16 = .ok (.iload_n 3, 1) := by decide +kernel
theorem dX6_seenFrom_17 : decode cX6_seenFrom 17 = .ok (.aload_n 0, 1) := by decide +kernel
theorem dX6_seenFrom_18 : decode cX6_seenFrom 18 = .ok (.iload_n 1, 1) := by decide +kernel
theorem dX6_seenFrom_19 : decode cX6_seenFrom 19 = .ok (.iload_n 2, 1) := by decide +kernel
theorem dX6_seenFrom_20 : decode cX6_seenFrom 20 = .ok (.iload 4, 2) := by decide +kernel
theorem dX6_seenFrom_22 : decode cX6_seenFrom 22 = .ok (.invokevirtual 237, 3) := by decide +kernel
theorem dX6_seenFrom_25 : decode cX6_seenFrom 25 = .ok (.ifCond .eq 10, 3) := by decide +kernel
theorem dX6_seenFrom_28 : decode cX6_seenFrom 28 = .ok (.iconst 1, 1) := by decide +kernel
theorem dX6_seenFrom_29 : decode cX6_seenFrom 29 = .ok (.iload 4, 2) := by decide +kernel
theorem dX6_seenFrom_31 : decode cX6_seenFrom 31 = .ok (.ishl, 1) := by decide +kernel
theorem dX6_seenFrom_32 : decode cX6_seenFrom 32 = .ok (.goto 4, 3) := by decide +kernel
theorem dX6_seenFrom_35 : decode cX6_seenFrom 35 = .ok (.iconst 0, 1) := by decide +kernel
theorem dX6_seenFrom_36 : decode cX6_seenFrom 36 = .ok (.ior, 1) := by decide +kernel
theorem dX6_seenFrom_37 : decode cX6_seenFrom 37 = .ok (.istore_n 3, 1) := by decide +kernel
theorem dX6_seenFrom_38 : decode cX6_seenFrom 38 = .ok (.iinc 4 1, 3) := by decide +kernel
theorem dX6_seenFrom_41 : decode cX6_seenFrom 41 = .ok (.goto (-36), 3) := by decide +kernel
theorem dX6_seenFrom_44 : decode cX6_seenFrom 44 = .ok (.iload_n 3, 1) := by decide +kernel
theorem dX6_seenFrom_45 : decode cX6_seenFrom 45 = .ok (.ireturn, 1) := by decide +kernel
theorem dX6_isEye_0 : decode cX6_isEye 0 = .ok (.iload_n 0, 1) := by decide +kernel
theorem dX6_isEye_1 : decode cX6_isEye 1 = .ok (.i2l, 1) := by decide +kernel
theorem dX6_isEye_2 : decode cX6_isEye 2 = .ok (.lconst 0, 1) := by decide +kernel
theorem dX6_isEye_3 : decode cX6_isEye 3 = .ok (.ldc2_w 241, 3) := by decide +kernel
theorem dX6_isEye_6 : decode cX6_isEye 6 = .ok (.invokestatic 54, 3) := by decide +kernel
theorem dX6_isEye_9 : decode cX6_isEye 9 = .ok (.ireturn, 1) := by decide +kernel
theorem dX6_seen_0 : decode cX6_seen 0 = .ok (.aload_n 0, 1) := by decide +kernel
theorem dX6_seen_1 : decode cX6_seen 1 = .ok (.iconst 0, 1) := by decide +kernel
theorem dX6_seen_2 : decode cX6_seen 2 = .ok (.putfield 44, 3) := by decide +kernel
theorem dX6_seen_5 : decode cX6_seen 5 = .ok (.aload_n 0, 1) := by decide +kernel
theorem dX6_seen_6 : decode cX6_seen 6 = .ok (.getfield 186, 3) := by decide +kernel
theorem dX6_seen_9 : decode cX6_seen 9 = .ok (.ifCond .ne 6, 3) := by decide +kernel
theorem dX6_seen_12 : decode cX6_seen 12 = .ok (.ldc 205, 2) := by decide +kernel
theorem dX6_seen_14 : decode cX6_seen 14 = .ok (.ireturn, 1) := by decide +kernel
theorem dX6_seen_15 : decode cX6_seen 15 = .ok (.iload_n 1, 1) := by decide +kernel
theorem dX6_seen_16 : decode cX6_seen 16 = .ok (.i2l, 1) := by decide +kernel
theorem dX6_seen_17 : decode cX6_seen 17 = .ok (.lconst 0, 1) := by decide +kernel
theorem dX6_seen_18 : decode cX6_seen 18 = .ok (.ldc2_w 217, 3) := by decide +kernel
theorem dX6_seen_21 : decode cX6_seen 21 = .ok (.invokestatic 54, 3) := by decide +kernel
theorem dX6_seen_24 : decode cX6_seen 24 = .ok (.ifCond .eq 19, 3) := by decide +kernel
theorem dX6_seen_27 : decode cX6_seen 27 = .ok (.iload_n 2, 1) := by decide +kernel
theorem dX6_seen_28 : decode cX6_seen 28 = .ok (.invokestatic 243, 3) := by decide +kernel
theorem dX6_seen_31 : decode cX6_seen 31 = .ok (.ifCond .eq 12, 3) := by decide +kernel
theorem dX6_seen_34 : decode cX6_seen 34 = .ok (.aload_n 0, 1) := by decide +kernel
theorem dX6_seen_35 : decode cX6_seen 35 = .ok (.iload_n 1, 1) := by decide +kernel
theorem dX6_seen_36 : decode cX6_seen 36 = .ok (.iload_n 2, 1) := by decide +kernel
theorem dX6_seen_37 : decode cX6_seen 37 = .ok (.invokevirtual 246, 3) := by decide +kernel
theorem dX6_seen_40 : decode cX6_seen 40 = .ok (.goto 5, 3) := by decide +kernel
theorem dX6_seen_43 : decode cX6_seen 43 = .ok (.ldc 64, 2) := by decide +kernel
theorem dX6_seen_45 : decode cX6_seen 45 = .ok (.ireturn, 1) := by decide +kernel
theorem dX6_isDoubled_0 : decode cX6_isDoubled 0 = .ok (.aload_n 0, 1) := by decide +kernel
theorem dX6_isDoubled_1 : decode cX6_isDoubled 1 = .ok (.getfield 19, 3) := by decide +kernel
theorem dX6_isDoubled_4 : decode cX6_isDoubled 4 = .ok (.bipush 56, 2) := by decide +kernel
theorem dX6_isDoubled_6 : decode cX6_isDoubled 6 = .ok (.iconst 3, 1) := by decide +kernel
theorem dX6_isDoubled_7 : decode cX6_isDoubled 7 = .ok (.iload_n 2, 1) := by decide +kernel
theorem dX6_isDoubled_8 : decode cX6_isDoubled 8 = .ok (.imul, 1) := by decide +kernel
theorem dX6_isDoubled_9 : decode cX6_isDoubled 9 = .ok (.iadd, 1) := by decide +kernel
theorem dX6_isDoubled_10 : decode cX6_isDoubled 10 = .ok (.iaload, 1) := by decide +kernel
theorem dX6_isDoubled_11 : decode cX6_isDoubled 11 = .ok (.istore_n 3, 1) := by decide +kernel
theorem dX6_isDoubled_12 : decode cX6_isDoubled 12 = .ok (.iconst 0, 1) := by decide +kernel
theorem dX6_isDoubled_13 : decode cX6_isDoubled 13 = .ok (.istore 4, 2) := by decide +kernel
theorem dX6_isDoubled_15 : decode cX6_isDoubled 15 = .ok (.aload_n 0, 1) := by decide +kernel
theorem dX6_isDoubled_16 : decode cX6_isDoubled 16 = .ok (.getfield 19, 3) := by decide +kernel
theorem dX6_isDoubled_19 : decode cX6_isDoubled 19 = .ok (.iconst 4, 1) := by decide +kernel
theorem dX6_isDoubled_20 : decode cX6_isDoubled 20 = .ok (.iaload, 1) := by decide +kernel
theorem dX6_isDoubled_21 : decode cX6_isDoubled 21 = .ok (.istore 5, 2) := by decide +kernel
theorem dX6_isDoubled_23 : decode cX6_isDoubled 23 = .ok (.iload 5, 2) := by decide +kernel
theorem dX6_isDoubled_25 : decode cX6_isDoubled 25 = .ok (.aload_n 0, 1) := by decide +kernel
theorem dX6_isDoubled_26 : decode cX6_isDoubled 26 = .ok (.getfield 19, 3) := by decide +kernel
theorem dX6_isDoubled_29 : decode cX6_isDoubled 29 = .ok (.iconst 5, 1) := by decide +kernel
theorem dX6_isDoubled_30 : decode cX6_isDoubled 30 = .ok (.iaload, 1) := by decide +kernel
theorem dX6_isDoubled_31 : decode cX6_isDoubled 31 = .ok (.if_icmp .gt 76, 3) := by decide +kernel
theorem dX6_isDoubled_34 : decode cX6_isDoubled 34 = .ok (.iload 4, 2) := by decide +kernel
theorem dX6_isDoubled_36 : decode cX6_isDoubled 36 = .ok (.ifCond .ne 58, 3) := by decide +kernel
theorem dX6_isDoubled_39 : decode cX6_isDoubled 39 = .ok (.iload 5, 2) := by decide +kernel
theorem dX6_isDoubled_41 : decode cX6_isDoubled 41 = .ok (.ifCond .le 57, 3) := by decide +kernel
theorem dX6_isDoubled_44 : decode cX6_isDoubled 44 = .ok (.iload 5, 2) := by decide +kernel
theorem dX6_isDoubled_46 : decode cX6_isDoubled 46 = .ok (.iload_n 3, 1) := by decide +kernel
theorem dX6_isDoubled_47 : decode cX6_isDoubled 47 = .ok (.if_icmp .ge 51, 3) := by decide +kernel
theorem dX6_isDoubled_50 : decode cX6_isDoubled 50 = .ok (.aload_n 0, 1) := by decide +kernel
theorem dX6_isDoubled_51 : decode cX6_isDoubled 51 = .ok (.iconst 0, 1) := by decide +kernel
theorem dX6_isDoubled_52 : decode cX6_isDoubled 52 = .ok (.aload_n 0, 1) := by decide +kernel
theorem dX6_isDoubled_53 : decode cX6_isDoubled 53 = .ok (.iconst 0, 1) := by decide +kernel
theorem dX6_isDoubled_54 : decode cX6_isDoubled 54 = .ok (.invokevirtual 199, 3) := by decide +kernel
theorem dX6_isDoubled_57 : decode cX6_isDoubled 57 = .ok (.iload_n 1, 1) := by decide +kernel
theorem dX6_isDoubled_58 : decode cX6_isDoubled 58 = .ok (.iadd, 1) := by decide +kernel
theorem dX6_isDoubled_59 : decode cX6_isDoubled 59 = .ok (.iload 5, 2) := by decide +kernel
theorem dX6_isDoubled_61 : decode cX6_isDoubled 61 = .ok (.aload_n 0, 1) := by decide +kernel
theorem dX6_isDoubled_62 : decode cX6_isDoubled 62 = .ok (.iload 5, 2) := by decide +kernel
theorem dX6_isDoubled_64 : decode cX6_isDoubled 64 = .ok (.invokevirtual 199, 3) := by decide +kernel
theorem dX6_isDoubled_67 : decode cX6_isDoubled 67 = .ok (.invokevirtual 233, 3) := by decide +kernel
theorem dX6_isDoubled_70 : decode cX6_isDoubled 70 = .ok (.ifCond .eq 28, 3) := by decide +kernel
theorem dX6_isDoubled_73 : decode cX6_isDoubled 73 = .ok (.aload_n 0, 1) := by decide +kernel
theorem dX6_isDoubled_74 : decode cX6_isDoubled 74 = .ok (.iload 5, 2) := by decide +kernel
theorem dX6_isDoubled_76 : decode cX6_isDoubled 76 = .ok (.aload_n 0, 1) := by decide +kernel
theorem dX6_isDoubled_77 : decode cX6_isDoubled 77 = .ok (.iload 5, 2) := by decide +kernel
theorem dX6_isDoubled_79 : decode cX6_isDoubled 79 = .ok (.invokevirtual 199, 3) := by decide +kernel
theorem dX6_isDoubled_82 : decode cX6_isDoubled 82 = .ok (.iload_n 3, 1) := by decide +kernel
theorem dX6_isDoubled_83 : decode cX6_isDoubled 83 = .ok (.aload_n 0, 1) := by decide +kernel
theorem dX6_isDoubled_84 : decode cX6_isDoubled 84 = .ok (.iload_n 2, 1) := by decide +kernel
theorem dX6_isDoubled_85 : decode cX6_isDoubled 85 = .ok (.invokevirtual 230, 3) := by decide +kernel
theorem dX6_isDoubled_88 : decode cX6_isDoubled 88 = .ok (.invokevirtual 233, 3) := by decide +kernel
theorem dX6_isDoubled_91 : decode cX6_isDoubled 91 = .ok (.ifCond .eq 7, 3) := by decide +kernel
theorem dX6_isDoubled_94 : decode cX6_isDoubled 94 = .ok (.iconst 1, 1) := by decide +kernel
theorem dX6_isDoubled_95 : decode cX6_isDoubled 95 = .ok (.goto 4, 3) := by decide +kernel
theorem dX6_isDoubled_98 : decode cX6_isDoubled 98 = .ok (.iconst 0, 1) := by decide +kernel
theorem dX6_isDoubled_99 : decode cX6_isDoubled 99 = .ok (.istore 4, 2) := by decide +kernel
theorem dX6_isDoubled_101 : decode cX6_isDoubled 101 = .ok (.iinc 5 1, 3) := by decide +kernel
theorem dX6_isDoubled_104 : decode cX6_isDoubled 104 = .ok (.goto (-81), 3) := by decide +kernel
theorem dX6_isDoubled_107 : decode cX6_isDoubled 107 = .ok (.iload 4, 2) := by decide +kernel
theorem dX6_isDoubled_109 : decode cX6_isDoubled 109 = .ok (.ifCond .eq 17, 3) := by decide +kernel
theorem dX6_isDoubled_112 : decode cX6_isDoubled 112 = .ok (.aload_n 0, 1) := by decide +kernel
theorem dX6_isDoubled_113 : decode cX6_isDoubled 113 = .ok (.iconst 0, 1) := by decide +kernel
theorem dX6_isDoubled_114 : decode cX6_isDoubled 114 = .ok (.iload_n 1, 1) := by decide +kernel
theorem dX6_isDoubled_115 : decode cX6_isDoubled 115 = .ok (.iload_n 2, 1) := by decide +kernel
theorem dX6_isDoubled_116 : decode cX6_isDoubled 116 = .ok (.invokevirtual 237, 3) := by decide +kernel
theorem dX6_isDoubled_119 : decode cX6_isDoubled 119 = .ok (.ifCond .eq 7, 3) := by decide +kernel
theorem dX6_isDoubled_122 : decode cX6_isDoubled 122 = .ok (.iconst 1, 1) := by decide +kernel
theorem dX6_isDoubled_123 : decode cX6_isDoubled 123 = .ok (.goto 4, 3) := by decide +kernel
theorem dX6_isDoubled_126 : decode cX6_isDoubled 126 = .ok (.iconst 0, 1) := by decide +kernel
theorem dX6_isDoubled_127 : decode cX6_isDoubled 127 = .ok (.ireturn, 1) := by decide +kernel
theorem dX6_doubled_0 : decode cX6_doubled 0 = .ok (.aload_n 0, 1) := by decide +kernel
theorem dX6_doubled_1 : decode cX6_doubled 1 = .ok (.iconst 0, 1) := by decide +kernel
theorem dX6_doubled_2 : decode cX6_doubled 2 = .ok (.putfield 44, 3) := by decide +kernel
theorem dX6_doubled_5 : decode cX6_doubled 5 = .ok (.aload_n 0, 1) := by decide +kernel
theorem dX6_doubled_6 : decode cX6_doubled 6 = .ok (.getfield 186, 3) := by decide +kernel
theorem dX6_doubled_9 : decode cX6_doubled 9 = .ok (.ifCond .ne 6, 3) := by decide +kernel
theorem dX6_doubled_12 : decode cX6_doubled 12 = .ok (.ldc 205, 2) := by decide +kernel
theorem dX6_doubled_14 : decode cX6_doubled 14 = .ok (.ireturn, 1) := by decide +kernel
theorem dX6_doubled_15 : decode cX6_doubled 15 = .ok (.iload_n 1, 1) := by decide +kernel
theorem dX6_doubled_16 : decode cX6_doubled 16 = .ok (.invokestatic 243, 3) := by decide +kernel
theorem dX6_doubled_19 : decode cX6_doubled 19 = .ok (.ifCond .ne 6, 3) := by decide +kernel
theorem dX6_doubled_22 : decode cX6_doubled 22 = .ok (.ldc 64, 2) := by decide +kernel
theorem dX6_doubled_24 : decode cX6_doubled 24 = .ok (.ireturn, 1) := by decide +kernel
theorem dX6_doubled_25 : decode cX6_doubled 25 = .ok (.iconst 0, 1) := by decide +kernel
theorem dX6_doubled_26 : decode cX6_doubled 26 = .ok (.istore_n 2, 1) := by decide +kernel
theorem dX6_doubled_27 : decode cX6_doubled 27 = .ok (.iconst 0, 1) := by decide +kernel
theorem dX6_doubled_28 : decode cX6_doubled 28 = .ok (.istore_n 3, 1) := by decide +kernel
theorem dX6_doubled_29 : decode cX6_doubled 29 = .ok (.iload_n 3, 1) := by decide +kernel
theorem dX6_doubled_30 : decode cX6_doubled 30 = .ok (.aload_n 0, 1) := by decide +kernel
theorem dX6_doubled_31 : decode cX6_doubled 31 = .ok (.getfield 19, 3) := by decide +kernel
theorem dX6_doubled_34 : decode cX6_doubled 34 = .ok (.iconst 1, 1) := by decide +kernel
theorem dX6_doubled_35 : decode cX6_doubled 35 = .ok (.iaload, 1) := by decide +kernel
theorem dX6_doubled_36 : decode cX6_doubled 36 = .ok (.if_icmp .ge 28, 3) := by decide +kernel
theorem dX6_doubled_39 : decode cX6_doubled 39 = .ok (.iload_n 2, 1) := by decide +kernel
theorem dX6_doubled_40 : decode cX6_doubled 40 = .ok (.aload_n 0, 1) := by decide +kernel
theorem dX6_doubled_41 : decode cX6_doubled 41 = .ok (.iload_n 1, 1) := by decide +kernel
theorem dX6_doubled_42 : decode cX6_doubled 42 = .ok (.iload_n 3, 1) := by decide +kernel
theorem dX6_doubled_43 : decode cX6_doubled 43 = .ok (.invokevirtual 249, 3) := by decide +kernel
theorem dX6_doubled_46 : decode cX6_doubled 46 = .ok (.ifCond .eq 9, 3) := by decide +kernel
theorem dX6_doubled_49 : decode cX6_doubled 49 = .ok (.iconst 1, 1) := by decide +kernel
theorem dX6_doubled_50 : decode cX6_doubled 50 = .ok (.iload_n 3, 1) := by decide +kernel
theorem dX6_doubled_51 : decode cX6_doubled 51 = .ok (.ishl, 1) := by decide +kernel
theorem dX6_doubled_52 : decode cX6_doubled 52 = .ok (.goto 4, 3) := by decide +kernel
theorem dX6_doubled_55 : decode cX6_doubled 55 = .ok (.iconst 0, 1) := by decide +kernel
theorem dX6_doubled_56 : decode cX6_doubled 56 = .ok (.ior, 1) := by decide +kernel
theorem dX6_doubled_57 : decode cX6_doubled 57 = .ok (.istore_n 2, 1) := by decide +kernel
theorem dX6_doubled_58 : decode cX6_doubled 58 = .ok (.iinc 3 1, 3) := by decide +kernel
theorem dX6_doubled_61 : decode cX6_doubled 61 = .ok (.goto (-32), 3) := by decide +kernel
theorem dX6_doubled_64 : decode cX6_doubled 64 = .ok (.iload_n 2, 1) := by decide +kernel
theorem dX6_doubled_65 : decode cX6_doubled 65 = .ok (.ireturn, 1) := by decide +kernel
theorem dX6_areMet_0 : decode cX6_areMet 0 = .ok (.iconst 1, 1) := by decide +kernel
theorem dX6_areMet_1 : decode cX6_areMet 1 = .ok (.istore_n 2, 1) := by decide +kernel
theorem dX6_areMet_2 : decode cX6_areMet 2 = .ok (.iconst 0, 1) := by decide +kernel
theorem dX6_areMet_3 : decode cX6_areMet 3 = .ok (.istore_n 3, 1) := by decide +kernel
theorem dX6_areMet_4 : decode cX6_areMet 4 = .ok (.iload_n 3, 1) := by decide +kernel
theorem dX6_areMet_5 : decode cX6_areMet 5 = .ok (.aload_n 0, 1) := by decide +kernel
theorem dX6_areMet_6 : decode cX6_areMet 6 = .ok (.getfield 19, 3) := by decide +kernel
theorem dX6_areMet_9 : decode cX6_areMet 9 = .ok (.iconst 1, 1) := by decide +kernel
theorem dX6_areMet_10 : decode cX6_areMet 10 = .ok (.iaload, 1) := by decide +kernel
theorem dX6_areMet_11 : decode cX6_areMet 11 = .ok (.if_icmp .ge 51, 3) := by decide +kernel
theorem dX6_areMet_14 : decode cX6_areMet 14 = .ok (.iload_n 2, 1) := by decide +kernel
theorem dX6_areMet_15 : decode cX6_areMet 15 = .ok (.ifCond .eq 39, 3) := by decide +kernel
theorem dX6_areMet_18 : decode cX6_areMet 18 = .ok (.aload_n 0, 1) := by decide +kernel
theorem dX6_areMet_19 : decode cX6_areMet 19 = .ok (.iconst 0, 1) := by decide +kernel
theorem dX6_areMet_20 : decode cX6_areMet 20 = .ok (.iload_n 1, 1) := by decide +kernel
theorem dX6_areMet_21 : decode cX6_areMet 21 = .ok (.iload_n 3, 1) := by decide +kernel
theorem dX6_areMet_22 : decode cX6_areMet 22 = .ok (.invokevirtual 237, 3) := by decide +kernel
theorem dX6_areMet_25 : decode cX6_areMet 25 = .ok (.aload_n 0, 1) := by decide +kernel
theorem dX6_areMet_26 : decode cX6_areMet 26 = .ok (.getfield 19, 3) := by decide +kernel
theorem dX6_areMet_29 : decode cX6_areMet 29 = .ok (.bipush 56, 2) := by decide +kernel
theorem dX6_areMet_31 : decode cX6_areMet 31 = .ok (.iconst 3, 1) := by decide +kernel
theorem dX6_areMet_32 : decode cX6_areMet 32 = .ok (.iload_n 3, 1) := by decide +kernel
theorem dX6_areMet_33 : decode cX6_areMet 33 = .ok (.imul, 1) := by decide +kernel
theorem dX6_areMet_34 : decode cX6_areMet 34 = .ok (.iadd, 1) := by decide +kernel
theorem dX6_areMet_35 : decode cX6_areMet 35 = .ok (.iconst 2, 1) := by decide +kernel
theorem dX6_areMet_36 : decode cX6_areMet 36 = .ok (.iadd, 1) := by decide +kernel
theorem dX6_areMet_37 : decode cX6_areMet 37 = .ok (.iaload, 1) := by decide +kernel
theorem dX6_areMet_38 : decode cX6_areMet 38 = .ok (.iconst 1, 1) := by decide +kernel
theorem dX6_areMet_39 : decode cX6_areMet 39 = .ok (.if_icmp .ne 7, 3) := by decide +kernel
theorem dX6_areMet_42 : decode cX6_areMet 42 = .ok (.iconst 1, 1) := by decide +kernel
theorem dX6_areMet_43 : decode cX6_areMet 43 = .ok (.goto 4, 3) := by decide +kernel
theorem dX6_areMet_46 : decode cX6_areMet 46 = .ok (.iconst 0, 1) := by decide +kernel
theorem dX6_areMet_47 : decode cX6_areMet 47 = .ok (.if_icmp .ne 7, 3) := by decide +kernel
theorem dX6_areMet_50 : decode cX6_areMet 50 = .ok (.iconst 1, 1) := by decide +kernel
theorem dX6_areMet_51 : decode cX6_areMet 51 = .ok (.goto 4, 3) := by decide +kernel
theorem dX6_areMet_54 : decode cX6_areMet 54 = .ok (.iconst 0, 1) := by decide +kernel
theorem dX6_areMet_55 : decode cX6_areMet 55 = .ok (.istore_n 2, 1) := by decide +kernel
theorem dX6_areMet_56 : decode cX6_areMet 56 = .ok (.iinc 3 1, 3) := by decide +kernel
theorem dX6_areMet_59 : decode cX6_areMet 59 = .ok (.goto (-55), 3) := by decide +kernel
theorem dX6_areMet_62 : decode cX6_areMet 62 = .ok (.iload_n 2, 1) := by decide +kernel
theorem dX6_areMet_63 : decode cX6_areMet 63 = .ok (.ireturn, 1) := by decide +kernel
theorem dX6_metBy_0 : decode cX6_metBy 0 = .ok (.iconst 0, 1) := by decide +kernel
theorem dX6_metBy_1 : decode cX6_metBy 1 = .ok (.istore_n 2, 1) := by decide +kernel
theorem dX6_metBy_2 : decode cX6_metBy 2 = .ok (.iconst 0, 1) := by decide +kernel
theorem dX6_metBy_3 : decode cX6_metBy 3 = .ok (.istore_n 3, 1) := by decide +kernel
theorem dX6_metBy_4 : decode cX6_metBy 4 = .ok (.iload_n 3, 1) := by decide +kernel
theorem dX6_metBy_5 : decode cX6_metBy 5 = .ok (.bipush 31, 2) := by decide +kernel
theorem dX6_metBy_7 : decode cX6_metBy 7 = .ok (.if_icmp .ge 36, 3) := by decide +kernel
theorem dX6_metBy_10 : decode cX6_metBy 10 = .ok (.iload_n 2, 1) := by decide +kernel
theorem dX6_metBy_11 : decode cX6_metBy 11 = .ok (.iload_n 1, 1) := by decide +kernel
theorem dX6_metBy_12 : decode cX6_metBy 12 = .ok (.iload_n 3, 1) := by decide +kernel
theorem dX6_metBy_13 : decode cX6_metBy 13 = .ok (.ishr, 1) := by decide +kernel
theorem dX6_metBy_14 : decode cX6_metBy 14 = .ok (.iconst 1, 1) := by decide +kernel
theorem dX6_metBy_15 : decode cX6_metBy 15 = .ok (.iand, 1) := by decide +kernel
theorem dX6_metBy_16 : decode cX6_metBy 16 = .ok (.iconst 1, 1) := by decide +kernel
theorem dX6_metBy_17 : decode cX6_metBy 17 = .ok (.if_icmp .ne 17, 3) := by decide +kernel
theorem dX6_metBy_20 : decode cX6_metBy 20 = .ok (.aload_n 0, 1) := by decide +kernel
theorem dX6_metBy_21 : decode cX6_metBy 21 = .ok (.iload_n 3, 1) := by decide +kernel
theorem dX6_metBy_22 : decode cX6_metBy 22 = .ok (.invokevirtual 253, 3) := by decide +kernel
theorem dX6_metBy_25 : decode cX6_metBy 25 = .ok (.ifCond .eq 9, 3) := by decide +kernel
theorem dX6_metBy_28 : decode cX6_metBy 28 = .ok (.iconst 1, 1) := by decide +kernel
theorem dX6_metBy_29 : decode cX6_metBy 29 = .ok (.iload_n 3, 1) := by decide +kernel
theorem dX6_metBy_30 : decode cX6_metBy 30 = .ok (.ishl, 1) := by decide +kernel
theorem dX6_metBy_31 : decode cX6_metBy 31 = .ok (.goto 4, 3) := by decide +kernel
theorem dX6_metBy_34 : decode cX6_metBy 34 = .ok (.iconst 0, 1) := by decide +kernel
theorem dX6_metBy_35 : decode cX6_metBy 35 = .ok (.ior, 1) := by decide +kernel
theorem dX6_metBy_36 : decode cX6_metBy 36 = .ok (.istore_n 2, 1) := by decide +kernel
theorem dX6_metBy_37 : decode cX6_metBy 37 = .ok (.iinc 3 1, 3) := by decide +kernel
theorem dX6_metBy_40 : decode cX6_metBy 40 = .ok (.goto (-36), 3) := by decide +kernel
theorem dX6_metBy_43 : decode cX6_metBy 43 = .ok (.iload_n 2, 1) := by decide +kernel
theorem dX6_metBy_44 : decode cX6_metBy 44 = .ok (.ireturn, 1) := by decide +kernel
theorem dX6_met_0 : decode cX6_met 0 = .ok (.aload_n 0, 1) := by decide +kernel
theorem dX6_met_1 : decode cX6_met 1 = .ok (.iconst 0, 1) := by decide +kernel
theorem dX6_met_2 : decode cX6_met 2 = .ok (.putfield 44, 3) := by decide +kernel
theorem dX6_met_5 : decode cX6_met 5 = .ok (.aload_n 0, 1) := by decide +kernel
theorem dX6_met_6 : decode cX6_met 6 = .ok (.getfield 186, 3) := by decide +kernel
theorem dX6_met_9 : decode cX6_met 9 = .ok (.ifCond .ne 6, 3) := by decide +kernel
theorem dX6_met_12 : decode cX6_met 12 = .ok (.ldc 205, 2) := by decide +kernel
theorem dX6_met_14 : decode cX6_met 14 = .ok (.ireturn, 1) := by decide +kernel
theorem dX6_met_15 : decode cX6_met 15 = .ok (.iload_n 1, 1) := by decide +kernel
theorem dX6_met_16 : decode cX6_met 16 = .ok (.ifCond .ge 8, 3) := by decide +kernel
theorem dX6_met_19 : decode cX6_met 19 = .ok (.ldc 64, 2) := by decide +kernel
theorem dX6_met_21 : decode cX6_met 21 = .ok (.goto 8, 3) := by decide +kernel
theorem dX6_met_24 : decode cX6_met 24 = .ok (.aload_n 0, 1) := by decide +kernel
theorem dX6_met_25 : decode cX6_met 25 = .ok (.iload_n 1, 1) := by decide +kernel
theorem dX6_met_26 : decode cX6_met 26 = .ok (.invokevirtual 256, 3) := by decide +kernel
theorem dX6_met_29 : decode cX6_met 29 = .ok (.ireturn, 1) := by decide +kernel
theorem dX6_cut_0 : decode cX6_cut 0 = .ok (.aload_n 0, 1) := by decide +kernel
theorem dX6_cut_1 : decode cX6_cut 1 = .ok (.iconst 0, 1) := by decide +kernel
theorem dX6_cut_2 : decode cX6_cut 2 = .ok (.putfield 44, 3) := by decide +kernel
theorem dX6_cut_5 : decode cX6_cut 5 = .ok (.iload_n 1, 1) := by decide +kernel
theorem dX6_cut_6 : decode cX6_cut 6 = .ok (.ifCond .lt 51, 3) := by decide +kernel
theorem dX6_cut_9 : decode cX6_cut 9 = .ok (.aload_n 0, 1) := by decide +kernel
theorem dX6_cut_10 : decode cX6_cut 10 = .ok (.iload_n 2, 1) := by decide +kernel
theorem dX6_cut_11 : decode cX6_cut 11 = .ok (.invokevirtual 211, 3) := by decide +kernel
theorem dX6_cut_14 : decode cX6_cut 14 = .ok (.ifCond .eq 43, 3) := by decide +kernel
theorem dX6_cut_17 : decode cX6_cut 17 = .ok (.aload_n 0, 1) := by decide +kernel
theorem dX6_cut_18 : decode cX6_cut 18 = .ok (.iload_n 3, 1) := by decide +kernel
theorem dX6_cut_19 : decode cX6_cut 19 = .ok (.invokevirtual 211, 3) := by decide +kernel
theorem dX6_cut_22 : decode cX6_cut 22 = .ok (.ifCond .eq 35, 3) := by decide +kernel
theorem dX6_cut_25 : decode cX6_cut 25 = .ok (.iload_n 2, 1) := by decide +kernel
theorem dX6_cut_26 : decode cX6_cut 26 = .ok (.iload_n 3, 1) := by decide +kernel
theorem dX6_cut_27 : decode cX6_cut 27 = .ok (.if_icmp .eq 30, 3) := by decide +kernel
theorem dX6_cut_30 : decode cX6_cut 30 = .ok (.aload_n 0, 1) := by decide +kernel
theorem dX6_cut_31 : decode cX6_cut 31 = .ok (.iload_n 2, 1) := by decide +kernel
theorem dX6_cut_32 : decode cX6_cut 32 = .ok (.invokevirtual 214, 3) := by decide +kernel
theorem dX6_cut_35 : decode cX6_cut 35 = .ok (.ifCond .eq 22, 3) := by decide +kernel
theorem dX6_cut_38 : decode cX6_cut 38 = .ok (.aload_n 0, 1) := by decide +kernel
theorem dX6_cut_39 : decode cX6_cut 39 = .ok (.iload_n 3, 1) := by decide +kernel
theorem dX6_cut_40 : decode cX6_cut 40 = .ok (.invokevirtual 214, 3) := by decide +kernel
theorem dX6_cut_43 : decode cX6_cut 43 = .ok (.ifCond .eq 14, 3) := by decide +kernel
theorem dX6_cut_46 : decode cX6_cut 46 = .ok (.iload 4, 2) := by decide +kernel
theorem dX6_cut_48 : decode cX6_cut 48 = .ok (.i2l, 1) := by decide +kernel
theorem dX6_cut_49 : decode cX6_cut 49 = .ok (.lconst 0, 1) := by decide +kernel
theorem dX6_cut_50 : decode cX6_cut 50 = .ok (.lconst 1, 1) := by decide +kernel
theorem dX6_cut_51 : decode cX6_cut 51 = .ok (.invokestatic 54, 3) := by decide +kernel
theorem dX6_cut_54 : decode cX6_cut 54 = .ok (.ifCond .ne 6, 3) := by decide +kernel
theorem dX6_cut_57 : decode cX6_cut 57 = .ok (.ldc 64, 2) := by decide +kernel
theorem dX6_cut_59 : decode cX6_cut 59 = .ok (.ireturn, 1) := by decide +kernel
theorem dX6_cut_60 : decode cX6_cut 60 = .ok (.aload_n 0, 1) := by decide +kernel
theorem dX6_cut_61 : decode cX6_cut 61 = .ok (.iload_n 2, 1) := by decide +kernel
theorem dX6_cut_62 : decode cX6_cut 62 = .ok (.invokevirtual 202, 3) := by decide +kernel
theorem dX6_cut_65 : decode cX6_cut 65 = .ok (.istore 5, 2) := by decide +kernel
theorem dX6_cut_67 : decode cX6_cut 67 = .ok (.aload_n 0, 1) := by decide +kernel
theorem dX6_cut_68 : decode cX6_cut 68 = .ok (.iload_n 3, 1) := by decide +kernel
theorem dX6_cut_69 : decode cX6_cut 69 = .ok (.invokevirtual 202, 3) := by decide +kernel
theorem dX6_cut_72 : decode cX6_cut 72 = .ok (.istore 6, 2) := by decide +kernel
theorem dX6_cut_74 : decode cX6_cut 74 = .ok (.ldc 80, 2) := by decide +kernel
theorem dX6_cut_76 : decode cX6_cut 76 = .ok (.istore 7, 2) := by decide +kernel
theorem dX6_cut_78 : decode cX6_cut 78 = .ok (.ldc 80, 2) := by decide +kernel
theorem dX6_cut_80 : decode cX6_cut 80 = .ok (.istore 8, 2) := by decide +kernel
theorem dX6_cut_82 : decode cX6_cut 82 = .ok (.iconst 0, 1) := by decide +kernel
theorem dX6_cut_83 : decode cX6_cut 83 = .ok (.istore 9, 2) := by decide +kernel
theorem dX6_cut_85 : decode cX6_cut 85 = .ok (.iload 9, 2) := by decide +kernel
theorem dX6_cut_87 : decode cX6_cut 87 = .ok (.iload 5, 2) := by decide +kernel
theorem dX6_cut_89 : decode cX6_cut 89 = .ok (.iload 6, 2) := by decide +kernel
theorem dX6_cut_91 : decode cX6_cut 91 = .ok (.iadd, 1) := by decide +kernel
theorem dX6_cut_92 : decode cX6_cut 92 = .ok (.if_icmp .gt 110, 3) := by decide +kernel
theorem dX6_cut_95 : decode cX6_cut 95 = .ok (.iload 7, 2) := by decide +kernel
theorem dX6_cut_97 : decode cX6_cut 97 = .ok (.ldc 80, 2) := by decide +kernel
theorem dX6_cut_99 : decode cX6_cut 99 = .ok (.if_icmp .ne 103, 3) := by decide +kernel
theorem dX6_cut_102 : decode cX6_cut 102 = .ok (.iconst 0, 1) := by decide +kernel
theorem dX6_cut_103 : decode cX6_cut 103 = .ok (.istore 10, 2) := by decide +kernel
theorem dX6_cut_105 : decode cX6_cut 105 = .ok (.iload 10, 2) := by decide +kernel
theorem dX6_cut_107 : decode cX6_cut 107 = .ok (.iload 9, 2) := by decide +kernel
theorem dX6_cut_109 : decode cX6_cut 109 = .ok (.if_icmp .gt 87, 3) := by decide +kernel
theorem dX6_cut_112 : decode cX6_cut 112 = .ok (.iload 7, 2) := by decide +kernel
theorem dX6_cut_114 : decode cX6_cut 114 = .ok (.ldc 80, 2) := by decide +kernel
theorem dX6_cut_116 : decode cX6_cut 116 = .ok (.if_icmp .ne 80, 3) := by decide +kernel
theorem dX6_cut_119 : decode cX6_cut 119 = .ok (.iload 10, 2) := by decide +kernel
theorem dX6_cut_121 : decode cX6_cut 121 = .ok (.iload 5, 2) := by decide +kernel
theorem dX6_cut_123 : decode cX6_cut 123 = .ok (.if_icmp .gt 67, 3) := by decide +kernel
theorem dX6_cut_126 : decode cX6_cut 126 = .ok (.iload 9, 2) := by decide +kernel
theorem dX6_cut_128 : decode cX6_cut 128 = .ok (.iload 10, 2) := by decide +kernel
theorem dX6_cut_130 : decode cX6_cut 130 = .ok (.isub, 1) := by decide +kernel
theorem dX6_cut_131 : decode cX6_cut 131 = .ok (.iload 6, 2) := by decide +kernel
theorem dX6_cut_133 : decode cX6_cut 133 = .ok (.if_icmp .gt 57, 3) := by decide +kernel
theorem dX6_cut_136 : decode cX6_cut 136 = .ok (.aload_n 0, 1) := by decide +kernel
theorem dX6_cut_137 : decode cX6_cut 137 = .ok (.getfield 31, 3) := by decide +kernel
theorem dX6_cut_140 : decode cX6_cut 140 = .ok (.iload_n 2, 1) := by decide +kernel
theorem dX6_cut_141 : decode cX6_cut 141 = .ok (.iload 10, 2) := by decide +kernel
theorem dX6_cut_143 : decode cX6_cut 143 = .ok (.ineg, 1) := by decide +kernel
theorem dX6_cut_144 : decode cX6_cut 144 = .ok (.iastore, 1) := by decide +kernel
theorem dX6_cut_145 : decode cX6_cut 145 = .ok (.aload_n 0, 1) := by decide +kernel
theorem dX6_cut_146 : decode cX6_cut 146 = .ok (.getfield 31, 3) := by decide +kernel
theorem dX6_cut_149 : decode cX6_cut 149 = .ok (.iload_n 3, 1) := by decide +kernel
theorem dX6_cut_150 : decode cX6_cut 150 = .ok (.iload 10, 2) := by decide +kernel
theorem dX6_cut_152 : decode cX6_cut 152 = .ok (.iload 9, 2) := by decide +kernel
theorem dX6_cut_154 : decode cX6_cut 154 = .ok (.isub, 1) := by decide +kernel
theorem dX6_cut_155 : decode cX6_cut 155 = .ok (.iastore, 1) := by decide +kernel
theorem dX6_cut_156 : decode cX6_cut 156 = .ok (.aload_n 0, 1) := by decide +kernel
theorem dX6_cut_157 : decode cX6_cut 157 = .ok (.iload_n 1, 1) := by decide +kernel
theorem dX6_cut_158 : decode cX6_cut 158 = .ok (.invokevirtual 256, 3) := by decide +kernel
theorem dX6_cut_161 : decode cX6_cut 161 = .ok (.iload_n 1, 1) := by decide +kernel
theorem dX6_cut_162 : decode cX6_cut 162 = .ok (.if_icmp .ne 8, 3) := by decide +kernel
theorem dX6_cut_165 : decode cX6_cut 165 = .ok (.iload 10, 2) := by decide +kernel
theorem dX6_cut_167 : decode cX6_cut 167 = .ok (.goto 5, 3) := by decide +kernel
theorem dX6_cut_170 : decode cX6_cut 170 = .ok (.ldc 80, 2) := by decide +kernel
theorem dX6_cut_172 : decode cX6_cut 172 = .ok (.istore 7, 2) := by decide +kernel
theorem dX6_cut_174 : decode cX6_cut 174 = .ok (.iload 7, 2) := by decide +kernel
theorem dX6_cut_176 : decode cX6_cut 176 = .ok (.ldc 80, 2) := by decide +kernel
theorem dX6_cut_178 : decode cX6_cut 178 = .ok (.if_icmp .ne 8, 3) := by decide +kernel
theorem dX6_cut_181 : decode cX6_cut 181 = .ok (.ldc 80, 2) := by decide +kernel
theorem dX6_cut_183 : decode cX6_cut 183 = .ok (.goto 5, 3) := by decide +kernel
theorem dX6_cut_186 : decode cX6_cut 186 = .ok (.iload 9, 2) := by decide +kernel
theorem dX6_cut_188 : decode cX6_cut 188 = .ok (.istore 8, 2) := by decide +kernel
theorem dX6_cut_190 : decode cX6_cut 190 = .ok (.iinc 10 1, 3) := by decide +kernel
theorem dX6_cut_193 : decode cX6_cut 193 = .ok (.goto (-88), 3) := by decide +kernel
theorem dX6_cut_196 : decode cX6_cut 196 = .ok (.iinc 9 1, 3) := by decide +kernel
theorem dX6_cut_199 : decode cX6_cut 199 = .ok (.goto (-114), 3) := by decide +kernel
theorem dX6_cut_202 : decode cX6_cut 202 = .ok (.aload_n 0, 1) := by decide +kernel
theorem dX6_cut_203 : decode cX6_cut 203 = .ok (.getfield 31, 3) := by decide +kernel
theorem dX6_cut_206 : decode cX6_cut 206 = .ok (.iload_n 2, 1) := by decide +kernel
theorem dX6_cut_207 : decode cX6_cut 207 = .ok (.iconst 0, 1) := by decide +kernel
theorem dX6_cut_208 : decode cX6_cut 208 = .ok (.iastore, 1) := by decide +kernel
theorem dX6_cut_209 : decode cX6_cut 209 = .ok (.aload_n 0, 1) := by decide +kernel
theorem dX6_cut_210 : decode cX6_cut 210 = .ok (.getfield 31, 3) := by decide +kernel
theorem dX6_cut_213 : decode cX6_cut 213 = .ok (.iload_n 3, 1) := by decide +kernel
theorem dX6_cut_214 : decode cX6_cut 214 = .ok (.iconst 0, 1) := by decide +kernel
theorem dX6_cut_215 : decode cX6_cut 215 = .ok (.iastore, 1) := by decide +kernel
theorem dX6_cut_216 : decode cX6_cut 216 = .ok (.iload 4, 2) := by decide +kernel
theorem dX6_cut_218 : decode cX6_cut 218 = .ok (.ifCond .ne 8, 3) := by decide +kernel
theorem dX6_cut_221 : decode cX6_cut 221 = .ok (.iload 8, 2) := by decide +kernel
theorem dX6_cut_223 : decode cX6_cut 223 = .ok (.goto 5, 3) := by decide +kernel
theorem dX6_cut_226 : decode cX6_cut 226 = .ok (.iload 7, 2) := by decide +kernel
theorem dX6_cut_228 : decode cX6_cut 228 = .ok (.ireturn, 1) := by decide +kernel
theorem dX6_kindOfSort_0 : decode cX6_kindOfSort 0 = .ok (.iload_n 0, 1) := by decide +kernel
theorem dX6_kindOfSort_1 : decode cX6_kindOfSort 1 = .ok (.ifCond .ne 7, 3) := by decide +kernel
theorem dX6_kindOfSort_4 : decode cX6_kindOfSort 4 = .ok (.iconst 1, 1) := by decide +kernel
theorem dX6_kindOfSort_5 : decode cX6_kindOfSort 5 = .ok (.goto 31, 3) := by decide +kernel
theorem dX6_kindOfSort_8 : decode cX6_kindOfSort 8 = .ok (.iload_n 0, 1) := by decide +kernel
theorem dX6_kindOfSort_9 : decode cX6_kindOfSort 9 = .ok (.iconst 1, 1) := by decide +kernel
theorem dX6_kindOfSort_10 : decode cX6_kindOfSort 10 = .ok (.if_icmp .ne 7, 3) := by decide +kernel
theorem dX6_kindOfSort_13 : decode cX6_kindOfSort 13 = .ok (.iconst 3, 1) := by decide +kernel
theorem dX6_kindOfSort_14 : decode cX6_kindOfSort 14 = .ok (.goto 22, 3) := by decide +kernel
theorem dX6_kindOfSort_17 : decode cX6_kindOfSort 17 = .ok (.iload_n 0, 1) := by decide +kernel
theorem dX6_kindOfSort_18 : decode cX6_kindOfSort 18 = .ok (.iconst 2, 1) := by decide +kernel
theorem dX6_kindOfSort_19 : decode cX6_kindOfSort 19 = .ok (.if_icmp .ne 7, 3) := by decide +kernel
theorem dX6_kindOfSort_22 : decode cX6_kindOfSort 22 = .ok (.iconst 2, 1) := by decide +kernel
theorem dX6_kindOfSort_23 : decode cX6_kindOfSort 23 = .ok (.goto 13, 3) := by decide +kernel
theorem dX6_kindOfSort_26 : decode cX6_kindOfSort 26 = .ok (.iload_n 0, 1) := by decide +kernel
theorem dX6_kindOfSort_27 : decode cX6_kindOfSort 27 = .ok (.iconst 3, 1) := by decide +kernel
theorem dX6_kindOfSort_28 : decode cX6_kindOfSort 28 = .ok (.if_icmp .ne 7, 3) := by decide +kernel
theorem dX6_kindOfSort_31 : decode cX6_kindOfSort 31 = .ok (.iconst 4, 1) := by decide +kernel
theorem dX6_kindOfSort_32 : decode cX6_kindOfSort 32 = .ok (.goto 4, 3) := by decide +kernel
theorem dX6_kindOfSort_35 : decode cX6_kindOfSort 35 = .ok (.iconst 5, 1) := by decide +kernel
theorem dX6_kindOfSort_36 : decode cX6_kindOfSort 36 = .ok (.ireturn, 1) := by decide +kernel
theorem dX6_plant_0 : decode cX6_plant 0 = .ok (.aload_n 0, 1) := by decide +kernel
theorem dX6_plant_1 : decode cX6_plant 1 = .ok (.iconst 0, 1) := by decide +kernel
theorem dX6_plant_2 : decode cX6_plant 2 = .ok (.putfield 44, 3) := by decide +kernel
theorem dX6_plant_5 : decode cX6_plant 5 = .ok (.aload_n 0, 1) := by decide +kernel
theorem dX6_plant_6 : decode cX6_plant 6 = .ok (.getfield 186, 3) := by decide +kernel
theorem dX6_plant_9 : decode cX6_plant 9 = .ok (.ifCond .ne 6, 3) := by decide +kernel
theorem dX6_plant_12 : decode cX6_plant 12 = .ok (.ldc 205, 2) := by decide +kernel
theorem dX6_plant_14 : decode cX6_plant 14 = .ok (.ireturn, 1) := by decide +kernel
theorem dX6_plant_15 : decode cX6_plant 15 = .ok (.iload_n 1, 1) := by decide +kernel
theorem dX6_plant_16 : decode cX6_plant 16 = .ok (.ifCond .lt 40, 3) := by decide +kernel
theorem dX6_plant_19 : decode cX6_plant 19 = .ok (.iload_n 2, 1) := by decide +kernel
theorem dX6_plant_20 : decode cX6_plant 20 = .ok (.i2l, 1) := by decide +kernel
theorem dX6_plant_21 : decode cX6_plant 21 = .ok (.lconst 0, 1) := by decide +kernel
theorem dX6_plant_22 : decode cX6_plant 22 = .ok (.ldc2_w 259, 3) := by decide +kernel
theorem dX6_plant_25 : decode cX6_plant 25 = .ok (.invokestatic 54, 3) := by decide +kernel
theorem dX6_plant_28 : decode cX6_plant 28 = .ok (.ifCond .eq 28, 3) := by decide +kernel
theorem dX6_plant_31 : decode cX6_plant 31 = .ok (.iload_n 3, 1) := by decide +kernel
theorem dX6_plant_32 : decode cX6_plant 32 = .ok (.i2l, 1) := by decide +kernel
theorem dX6_plant_33 : decode cX6_plant 33 = .ok (.lconst 0, 1) := by decide +kernel
theorem dX6_plant_34 : decode cX6_plant 34 = .ok (.ldc2_w 261, 3) := by decide +kernel
theorem dX6_plant_37 : decode cX6_plant 37 = .ok (.invokestatic 54, 3) := by decide +kernel
theorem dX6_plant_40 : decode cX6_plant 40 = .ok (.ifCond .eq 16, 3) := by decide +kernel
theorem dX6_plant_43 : decode cX6_plant 43 = .ok (.iload 4, 2) := by decide +kernel
theorem dX6_plant_45 : decode cX6_plant 45 = .ok (.i2l, 1) := by decide +kernel
theorem dX6_plant_46 : decode cX6_plant 46 = .ok (.lconst 0, 1) := by decide +kernel
theorem dX6_plant_47 : decode cX6_plant 47 = .ok (.ldc2_w 206, 3) := by decide +kernel
theorem dX6_plant_50 : decode cX6_plant 50 = .ok (.invokestatic 54, 3) := by decide +kernel
theorem dX6_plant_53 : decode cX6_plant 53 = .ok (.ifCond .ne 6, 3) := by decide +kernel
theorem dX6_plant_56 : decode cX6_plant 56 = .ok (.ldc 64, 2) := by decide +kernel
theorem dX6_plant_58 : decode cX6_plant 58 = .ok (.ireturn, 1) := by decide +kernel
theorem dX6_plant_59 : decode cX6_plant 59 = .ok (.aload_n 0, 1) := by decide +kernel
theorem dX6_plant_60 : decode cX6_plant 60 = .ok (.getfield 19, 3) := by decide +kernel
theorem dX6_plant_63 : decode cX6_plant 63 = .ok (.iconst 0, 1) := by decide +kernel
theorem dX6_plant_64 : decode cX6_plant 64 = .ok (.iaload, 1) := by decide +kernel
theorem dX6_plant_65 : decode cX6_plant 65 = .ok (.bipush 6, 2) := by decide +kernel
theorem dX6_plant_67 : decode cX6_plant 67 = .ok (.if_icmp .ne 6, 3) := by decide +kernel
theorem dX6_plant_70 : decode cX6_plant 70 = .ok (.ldc 80, 2) := by decide +kernel
theorem dX6_plant_72 : decode cX6_plant 72 = .ok (.ireturn, 1) := by decide +kernel
theorem dX6_plant_73 : decode cX6_plant 73 = .ok (.bipush 26, 2) := by decide +kernel
theorem dX6_plant_75 : decode cX6_plant 75 = .ok (.iconst 5, 1) := by decide +kernel
theorem dX6_plant_76 : decode cX6_plant 76 = .ok (.aload_n 0, 1) := by decide +kernel
theorem dX6_plant_77 : decode cX6_plant 77 = .ok (.getfield 19, 3) := by decide +kernel
theorem dX6_plant_80 : decode cX6_plant 80 = .ok (.iconst 0, 1) := by decide +kernel
theorem dX6_plant_81 : decode cX6_plant 81 = .ok (.iaload, 1) := by decide +kernel
theorem dX6_plant_82 : decode cX6_plant 82 = .ok (.imul, 1) := by decide +kernel
theorem dX6_plant_83 : decode cX6_plant 83 = .ok (.iadd, 1) := by decide +kernel
theorem dX6_plant_84 : decode cX6_plant 84 = .ok (.istore 5, 2) := by decide +kernel
theorem dX6_plant_86 : decode cX6_plant 86 = .ok (.aload_n 0, 1) := by decide +kernel
theorem dX6_plant_87 : decode cX6_plant 87 = .ok (.getfield 19, 3) := by decide +kernel
theorem dX6_plant_90 : decode cX6_plant 90 = .ok (.iconst 3, 1) := by decide +kernel
theorem dX6_plant_91 : decode cX6_plant 91 = .ok (.iaload, 1) := by decide +kernel
theorem dX6_plant_92 : decode cX6_plant 92 = .ok (.istore 6, 2) := by decide +kernel
theorem dX6_plant_94 : decode cX6_plant 94 = .ok (.aload_n 0, 1) := by decide +kernel
theorem dX6_plant_95 : decode cX6_plant 95 = .ok (.getfield 19, 3) := by decide +kernel
theorem dX6_plant_98 : decode cX6_plant 98 = .ok (.iload 5, 2) := by decide +kernel
theorem dX6_plant_100 : decode cX6_plant 100 = .ok (.iload_n 2, 1) := by decide +kernel
theorem dX6_plant_101 : decode cX6_plant 101 = .ok (.invokestatic 263, 3) := by decide +kernel
theorem dX6_plant_104 : decode cX6_plant 104 = .ok (.iastore, 1) := by decide +kernel
theorem dX6_plant_105 : decode cX6_plant 105 = .ok (.aload_n 0, 1) := by decide +kernel
theorem dX6_plant_106 : decode cX6_plant 106 = .ok (.getfield 19, 3) := by decide +kernel
theorem dX6_plant_109 : decode cX6_plant 109 = .ok (.iload 5, 2) := by decide +kernel
theorem dX6_plant_111 : decode cX6_plant 111 = .ok (.iconst 2, 1) := by decide +kernel
theorem dX6_plant_112 : decode cX6_plant 112 = .ok (.iadd, 1) := by decide +kernel
theorem dX6_plant_113 : decode cX6_plant 113 = .ok (.iload_n 2, 1) := by decide +kernel
theorem dX6_plant_114 : decode cX6_plant 114 = .ok (.iconst 3, 1) := by decide +kernel
theorem dX6_plant_115 : decode cX6_plant 115 = .ok (.if_icmp .ge 16, 3) := by decide +kernel
theorem dX6_plant_118 : decode cX6_plant 118 = .ok (.iconst 5, 1) := by decide +kernel
theorem dX6_plant_119 : decode cX6_plant 119 = .ok (.iload_n 3, 1) := by decide +kernel
theorem dX6_plant_120 : decode cX6_plant 120 = .ok (.aload_n 0, 1) := by decide +kernel
theorem dX6_plant_121 : decode cX6_plant 121 = .ok (.getfield 19, 3) := by decide +kernel
theorem dX6_plant_124 : decode cX6_plant 124 = .ok (.iconst 2, 1) := by decide +kernel
theorem dX6_plant_125 : decode cX6_plant 125 = .ok (.iaload, 1) := by decide +kernel
theorem dX6_plant_126 : decode cX6_plant 126 = .ok (.imul, 1) := by decide +kernel
theorem dX6_plant_127 : decode cX6_plant 127 = .ok (.isub, 1) := by decide +kernel
theorem dX6_plant_128 : decode cX6_plant 128 = .ok (.goto 4, 3) := by decide +kernel
theorem dX6_plant_131 : decode cX6_plant 131 = .ok (.iconst 5, 1) := by decide +kernel
theorem dX6_plant_132 : decode cX6_plant 132 = .ok (.iastore, 1) := by decide +kernel
theorem dX6_plant_133 : decode cX6_plant 133 = .ok (.aload_n 0, 1) := by decide +kernel
theorem dX6_plant_134 : decode cX6_plant 134 = .ok (.getfield 19, 3) := by decide +kernel
theorem dX6_plant_137 : decode cX6_plant 137 = .ok (.iload 5, 2) := by decide +kernel
theorem dX6_plant_139 : decode cX6_plant 139 = .ok (.iconst 3, 1) := by decide +kernel
theorem dX6_plant_140 : decode cX6_plant 140 = .ok (.iadd, 1) := by decide +kernel
theorem dX6_plant_141 : decode cX6_plant 141 = .ok (.iload_n 3, 1) := by decide +kernel
theorem dX6_plant_142 : decode cX6_plant 142 = .ok (.iastore, 1) := by decide +kernel
theorem dX6_plant_143 : decode cX6_plant 143 = .ok (.aload_n 0, 1) := by decide +kernel
theorem dX6_plant_144 : decode cX6_plant 144 = .ok (.getfield 19, 3) := by decide +kernel
theorem dX6_plant_147 : decode cX6_plant 147 = .ok (.iload 5, 2) := by decide +kernel
theorem dX6_plant_149 : decode cX6_plant 149 = .ok (.iconst 4, 1) := by decide +kernel
theorem dX6_plant_150 : decode cX6_plant 150 = .ok (.iadd, 1) := by decide +kernel
theorem dX6_plant_151 : decode cX6_plant 151 = .ok (.iconst 0, 1) := by decide +kernel
theorem dX6_plant_152 : decode cX6_plant 152 = .ok (.iastore, 1) := by decide +kernel
theorem dX6_plant_153 : decode cX6_plant 153 = .ok (.aload_n 0, 1) := by decide +kernel
theorem dX6_plant_154 : decode cX6_plant 154 = .ok (.getfield 19, 3) := by decide +kernel
theorem dX6_plant_157 : decode cX6_plant 157 = .ok (.iconst 3, 1) := by decide +kernel
theorem dX6_plant_158 : decode cX6_plant 158 = .ok (.iconst 0, 1) := by decide +kernel
theorem dX6_plant_159 : decode cX6_plant 159 = .ok (.iastore, 1) := by decide +kernel
theorem dX6_plant_160 : decode cX6_plant 160 = .ok (.aload_n 0, 1) := by decide +kernel
theorem dX6_plant_161 : decode cX6_plant 161 = .ok (.getfield 19, 3) := by decide +kernel
theorem dX6_plant_164 : decode cX6_plant 164 = .ok (.iconst 2, 1) := by decide +kernel
theorem dX6_plant_165 : decode cX6_plant 165 = .ok (.dup2, 1) := by decide +kernel
theorem dX6_plant_166 : decode cX6_plant 166 = .ok (.iaload, 1) := by decide +kernel
theorem dX6_plant_167 : decode cX6_plant 167 = .ok (.iload 4, 2) := by decide +kernel
theorem dX6_plant_169 : decode cX6_plant 169 = .ok (.iadd, 1) := by decide +kernel
theorem dX6_plant_170 : decode cX6_plant 170 = .ok (.iastore, 1) := by decide +kernel
theorem dX6_plant_171 : decode cX6_plant 171 = .ok (.ldc 80, 2) := by decide +kernel
theorem dX6_plant_173 : decode cX6_plant 173 = .ok (.istore 7, 2) := by decide +kernel
theorem dX6_plant_175 : decode cX6_plant 175 = .ok (.iconst 1, 1) := by decide +kernel
theorem dX6_plant_176 : decode cX6_plant 176 = .ok (.istore 8, 2) := by decide +kernel
theorem dX6_plant_178 : decode cX6_plant 178 = .ok (.iload 8, 2) := by decide +kernel
theorem dX6_plant_180 : decode cX6_plant 180 = .ok (.bipush 18, 2) := by decide +kernel
theorem dX6_plant_182 : decode cX6_plant 182 = .ok (.if_icmp .gt 76, 3) := by decide +kernel
theorem dX6_plant_185 : decode cX6_plant 185 = .ok (.iload 7, 2) := by decide +kernel
theorem dX6_plant_187 : decode cX6_plant 187 = .ok (.ldc 80, 2) := by decide +kernel
theorem dX6_plant_189 : decode cX6_plant 189 = .ok (.if_icmp .ne 69, 3) := by decide +kernel
theorem dX6_plant_192 : decode cX6_plant 192 = .ok (.aload_n 0, 1) := by decide +kernel
theorem dX6_plant_193 : decode cX6_plant 193 = .ok (.iload 8, 2) := by decide +kernel
theorem dX6_plant_195 : decode cX6_plant 195 = .ok (.invokevirtual 196, 3) := by decide +kernel
theorem dX6_plant_198 : decode cX6_plant 198 = .ok (.ldc 80, 2) := by decide +kernel
theorem dX6_plant_200 : decode cX6_plant 200 = .ok (.if_icmp .ne 52, 3) := by decide +kernel
theorem dX6_plant_203 : decode cX6_plant 203 = .ok (.aload_n 0, 1) := by decide +kernel
theorem dX6_plant_204 : decode cX6_plant 204 = .ok (.getfield 19, 3) := by decide +kernel
theorem dX6_plant_207 : decode cX6_plant 207 = .ok (.iload 5, 2) := by decide +kernel
theorem dX6_plant_209 : decode cX6_plant 209 = .ok (.iconst 1, 1) := by decide +kernel
theorem dX6_plant_210 : decode cX6_plant 210 = .ok (.iadd, 1) := by decide +kernel
theorem dX6_plant_211 : decode cX6_plant 211 = .ok (.iload 8, 2) := by decide +kernel
theorem dX6_plant_213 : decode cX6_plant 213 = .ok (.iastore, 1) := by decide +kernel
theorem dX6_plant_214 : decode cX6_plant 214 = .ok (.aload_n 0, 1) := by decide +kernel
theorem dX6_plant_215 : decode cX6_plant 215 = .ok (.getfield 19, 3) := by decide +kernel
theorem dX6_plant_218 : decode cX6_plant 218 = .ok (.iconst 0, 1) := by decide +kernel
theorem dX6_plant_219 : decode cX6_plant 219 = .ok (.dup2, 1) := by decide +kernel
theorem dX6_plant_220 : decode cX6_plant 220 = .ok (.iaload, 1) := by decide +kernel
theorem dX6_plant_221 : decode cX6_plant 221 = .ok (.iconst 1, 1) := by decide +kernel
theorem dX6_plant_222 : decode cX6_plant 222 = .ok (.iadd, 1) := by decide +kernel
theorem dX6_plant_223 : decode cX6_plant 223 = .ok (.iastore, 1) := by decide +kernel
theorem dX6_plant_224 : decode cX6_plant 224 = .ok (.aload_n 0, 1) := by decide +kernel
theorem dX6_plant_225 : decode cX6_plant 225 = .ok (.iload_n 1, 1) := by decide +kernel
theorem dX6_plant_226 : decode cX6_plant 226 = .ok (.invokevirtual 256, 3) := by decide +kernel
theorem dX6_plant_229 : decode cX6_plant 229 = .ok (.iload_n 1, 1) := by decide +kernel
theorem dX6_plant_230 : decode cX6_plant 230 = .ok (.if_icmp .ne 8, 3) := by decide +kernel
theorem dX6_plant_233 : decode cX6_plant 233 = .ok (.iload 8, 2) := by decide +kernel
theorem dX6_plant_235 : decode cX6_plant 235 = .ok (.goto 5, 3) := by decide +kernel
theorem dX6_plant_238 : decode cX6_plant 238 = .ok (.ldc 80, 2) := by decide +kernel
theorem dX6_plant_240 : decode cX6_plant 240 = .ok (.istore 7, 2) := by decide +kernel
theorem dX6_plant_242 : decode cX6_plant 242 = .ok (.aload_n 0, 1) := by decide +kernel
theorem dX6_plant_243 : decode cX6_plant 243 = .ok (.getfield 19, 3) := by decide +kernel
theorem dX6_plant_246 : decode cX6_plant 246 = .ok (.iconst 0, 1) := by decide +kernel
theorem dX6_plant_247 : decode cX6_plant 247 = .ok (.dup2, 1) := by decide +kernel
theorem dX6_plant_248 : decode cX6_plant 248 = .ok (.iaload, 1) := by decide +kernel
theorem dX6_plant_249 : decode cX6_plant 249 = .ok (.iconst 1, 1) := by decide +kernel
theorem dX6_plant_250 : decode cX6_plant 250 = .ok (.isub, 1) := by decide +kernel
theorem dX6_plant_251 : decode cX6_plant 251 = .ok (.iastore, 1) := by decide +kernel
theorem dX6_plant_252 : decode cX6_plant 252 = .ok (.iinc 8 1, 3) := by decide +kernel
theorem dX6_plant_255 : decode cX6_plant 255 = .ok (.goto (-77), 3) := by decide +kernel
theorem dX6_plant_258 : decode cX6_plant 258 = .ok (.aload_n 0, 1) := by decide +kernel
theorem dX6_plant_259 : decode cX6_plant 259 = .ok (.getfield 19, 3) := by decide +kernel
theorem dX6_plant_262 : decode cX6_plant 262 = .ok (.iconst 3, 1) := by decide +kernel
theorem dX6_plant_263 : decode cX6_plant 263 = .ok (.iload 6, 2) := by decide +kernel
theorem dX6_plant_265 : decode cX6_plant 265 = .ok (.iastore, 1) := by decide +kernel
theorem dX6_plant_266 : decode cX6_plant 266 = .ok (.aload_n 0, 1) := by decide +kernel
theorem dX6_plant_267 : decode cX6_plant 267 = .ok (.getfield 19, 3) := by decide +kernel
theorem dX6_plant_270 : decode cX6_plant 270 = .ok (.iconst 2, 1) := by decide +kernel
theorem dX6_plant_271 : decode cX6_plant 271 = .ok (.dup2, 1) := by decide +kernel
theorem dX6_plant_272 : decode cX6_plant 272 = .ok (.iaload, 1) := by decide +kernel
theorem dX6_plant_273 : decode cX6_plant 273 = .ok (.iload 4, 2) := by decide +kernel
theorem dX6_plant_275 : decode cX6_plant 275 = .ok (.isub, 1) := by decide +kernel
theorem dX6_plant_276 : decode cX6_plant 276 = .ok (.iastore, 1) := by decide +kernel
theorem dX6_plant_277 : decode cX6_plant 277 = .ok (.iload 7, 2) := by decide +kernel
theorem dX6_plant_279 : decode cX6_plant 279 = .ok (.ireturn, 1) := by decide +kernel
theorem dX6_moon_0 : decode cX6_moon 0 = .ok (.aload_n 0, 1) := by decide +kernel
theorem dX6_moon_1 : decode cX6_moon 1 = .ok (.iconst 0, 1) := by decide +kernel
theorem dX6_moon_2 : decode cX6_moon 2 = .ok (.putfield 44, 3) := by decide +kernel
theorem dX6_moon_5 : decode cX6_moon 5 = .ok (.aload_n 0, 1) := by decide +kernel
theorem dX6_moon_6 : decode cX6_moon 6 = .ok (.getfield 186, 3) := by decide +kernel
theorem dX6_moon_9 : decode cX6_moon 9 = .ok (.ifCond .ne 6, 3) := by decide +kernel
theorem dX6_moon_12 : decode cX6_moon 12 = .ok (.ldc 205, 2) := by decide +kernel
theorem dX6_moon_14 : decode cX6_moon 14 = .ok (.ireturn, 1) := by decide +kernel
theorem dX6_moon_15 : decode cX6_moon 15 = .ok (.iload_n 1, 1) := by decide +kernel
theorem dX6_moon_16 : decode cX6_moon 16 = .ok (.invokestatic 243, 3) := by decide +kernel
theorem dX6_moon_19 : decode cX6_moon 19 = .ok (.ifCond .ne 6, 3) := by decide +kernel
theorem dX6_moon_22 : decode cX6_moon 22 = .ok (.ldc 64, 2) := by decide +kernel
theorem dX6_moon_24 : decode cX6_moon 24 = .ok (.ireturn, 1) := by decide +kernel
theorem dX6_moon_25 : decode cX6_moon 25 = .ok (.iconst 0, 1) := by decide +kernel
theorem dX6_moon_26 : decode cX6_moon 26 = .ok (.istore_n 2, 1) := by decide +kernel
theorem dX6_moon_27 : decode cX6_moon 27 = .ok (.iconst 0, 1) := by decide +kernel
theorem dX6_moon_28 : decode cX6_moon 28 = .ok (.istore_n 3, 1) := by decide +kernel
theorem dX6_moon_29 : decode cX6_moon 29 = .ok (.iload_n 3, 1) := by decide +kernel
theorem dX6_moon_30 : decode cX6_moon 30 = .ok (.bipush 12, 2) := by decide +kernel
theorem dX6_moon_32 : decode cX6_moon 32 = .ok (.if_icmp .gt 49, 3) := by decide +kernel
theorem dX6_moon_35 : decode cX6_moon 35 = .ok (.iload_n 2, 1) := by decide +kernel
theorem dX6_moon_36 : decode cX6_moon 36 = .ok (.aload_n 0, 1) := by decide +kernel
theorem dX6_moon_37 : decode cX6_moon 37 = .ok (.iconst 0, 1) := by decide +kernel
theorem dX6_moon_38 : decode cX6_moon 38 = .ok (.aload_n 0, 1) := by decide +kernel
theorem dX6_moon_39 : decode cX6_moon 39 = .ok (.iconst 0, 1) := by decide +kernel
theorem dX6_moon_40 : decode cX6_moon 40 = .ok (.invokevirtual 199, 3) := by decide +kernel
theorem dX6_moon_43 : decode cX6_moon 43 = .ok (.iload_n 1, 1) := by decide +kernel
theorem dX6_moon_44 : decode cX6_moon 44 = .ok (.iadd, 1) := by decide +kernel
theorem dX6_moon_45 : decode cX6_moon 45 = .ok (.bipush 19, 2) := by decide +kernel
theorem dX6_moon_47 : decode cX6_moon 47 = .ok (.aload_n 0, 1) := by decide +kernel
theorem dX6_moon_48 : decode cX6_moon 48 = .ok (.bipush 19, 2) := by decide +kernel
theorem dX6_moon_50 : decode cX6_moon 50 = .ok (.invokevirtual 199, 3) := by decide +kernel
theorem dX6_moon_53 : decode cX6_moon 53 = .ok (.bipush 20, 2) := by decide +kernel
theorem dX6_moon_55 : decode cX6_moon 55 = .ok (.iadd, 1) := by decide +kernel
theorem dX6_moon_56 : decode cX6_moon 56 = .ok (.iconst 3, 1) := by decide +kernel
theorem dX6_moon_57 : decode cX6_moon 57 = .ok (.iload_n 3, 1) := by decide +kernel
theorem dX6_moon_58 : decode cX6_moon 58 = .ok (.imul, 1) := by decide +kernel
theorem dX6_moon_59 : decode cX6_moon 59 = .ok (.iadd, 1) := by decide +kernel
theorem dX6_moon_60 : decode cX6_moon 60 = .ok (.invokevirtual 233, 3) := by decide +kernel
theorem dX6_moon_63 : decode cX6_moon 63 = .ok (.ifCond .eq 9, 3) := by decide +kernel
theorem dX6_moon_66 : decode cX6_moon 66 = .ok (.iconst 1, 1) := by decide +kernel
theorem dX6_moon_67 : decode cX6_moon 67 = .ok (.iload_n 3, 1) := by decide +kernel
theorem dX6_moon_68 : decode cX6_moon 68 = .ok (.ishl, 1) := by decide +kernel
theorem dX6_moon_69 : decode cX6_moon 69 = .ok (.goto 4, 3) := by decide +kernel
theorem dX6_moon_72 : decode cX6_moon 72 = .ok (.iconst 0, 1) := by decide +kernel
theorem dX6_moon_73 : decode cX6_moon 73 = .ok (.ior, 1) := by decide +kernel
theorem dX6_moon_74 : decode cX6_moon 74 = .ok (.istore_n 2, 1) := by decide +kernel
theorem dX6_moon_75 : decode cX6_moon 75 = .ok (.iinc 3 1, 3) := by decide +kernel
theorem dX6_moon_78 : decode cX6_moon 78 = .ok (.goto (-49), 3) := by decide +kernel
theorem dX6_moon_81 : decode cX6_moon 81 = .ok (.iload_n 2, 1) := by decide +kernel
theorem dX6_moon_82 : decode cX6_moon 82 = .ok (.ireturn, 1) := by decide +kernel
theorem dX6_areThings_0 : decode cX6_areThings 0 = .ok (.iload_n 1, 1) := by decide +kernel
theorem dX6_areThings_1 : decode cX6_areThings 1 = .ok (.i2l, 1) := by decide +kernel
theorem dX6_areThings_2 : decode cX6_areThings 2 = .ok (.lconst 0, 1) := by decide +kernel
theorem dX6_areThings_3 : decode cX6_areThings 3 = .ok (.iconst 1, 1) := by decide +kernel
theorem dX6_areThings_4 : decode cX6_areThings 4 = .ok (.aload_n 0, 1) := by decide +kernel
theorem dX6_areThings_5 : decode cX6_areThings 5 = .ok (.getfield 19, 3) := by decide +kernel
theorem dX6_areThings_8 : decode cX6_areThings 8 = .ok (.iconst 1, 1) := by decide +kernel
theorem dX6_areThings_9 : decode cX6_areThings 9 = .ok (.iaload, 1) := by decide +kernel
theorem dX6_areThings_10 : decode cX6_areThings 10 = .ok (.ishl, 1) := by decide +kernel
theorem dX6_areThings_11 : decode cX6_areThings 11 = .ok (.iconst 1, 1) := by decide +kernel
theorem dX6_areThings_12 : decode cX6_areThings 12 = .ok (.isub, 1) := by decide +kernel
theorem dX6_areThings_13 : decode cX6_areThings 13 = .ok (.i2l, 1) := by decide +kernel
theorem dX6_areThings_14 : decode cX6_areThings 14 = .ok (.invokestatic 54, 3) := by decide +kernel
theorem dX6_areThings_17 : decode cX6_areThings 17 = .ok (.ireturn, 1) := by decide +kernel
theorem dX6_path_0 : decode cX6_path 0 = .ok (.aload_n 0, 1) := by decide +kernel
theorem dX6_path_1 : decode cX6_path 1 = .ok (.iconst 0, 1) := by decide +kernel
theorem dX6_path_2 : decode cX6_path 2 = .ok (.putfield 44, 3) := by decide +kernel
theorem dX6_path_5 : decode cX6_path 5 = .ok (.aload_n 0, 1) := by decide +kernel
theorem dX6_path_6 : decode cX6_path 6 = .ok (.getfield 186, 3) := by decide +kernel
theorem dX6_path_9 : decode cX6_path 9 = .ok (.ifCond .ne 6, 3) := by decide +kernel
theorem dX6_path_12 : decode cX6_path 12 = .ok (.ldc 205, 2) := by decide +kernel
theorem dX6_path_14 : decode cX6_path 14 = .ok (.ireturn, 1) := by decide +kernel
theorem dX6_path_15 : decode cX6_path 15 = .ok (.iload_n 1, 1) := by decide +kernel
theorem dX6_path_16 : decode cX6_path 16 = .ok (.invokestatic 243, 3) := by decide +kernel
theorem dX6_path_19 : decode cX6_path 19 = .ok (.ifCond .eq 11, 3) := by decide +kernel
theorem dX6_path_22 : decode cX6_path 22 = .ok (.aload_n 0, 1) := by decide +kernel
theorem dX6_path_23 : decode cX6_path 23 = .ok (.iload_n 2, 1) := by decide +kernel
theorem dX6_path_24 : decode cX6_path 24 = .ok (.invokevirtual 266, 3) := by decide +kernel
theorem dX6_path_27 : decode cX6_path 27 = .ok (.ifCond .ne 6, 3) := by decide +kernel
theorem dX6_path_30 : decode cX6_path 30 = .ok (.ldc 64, 2) := by decide +kernel
theorem dX6_path_32 : decode cX6_path 32 = .ok (.ireturn, 1) := by decide +kernel
theorem dX6_path_33 : decode cX6_path 33 = .ok (.iconst 0, 1) := by decide +kernel
theorem dX6_path_34 : decode cX6_path 34 = .ok (.istore_n 3, 1) := by decide +kernel
theorem dX6_path_35 : decode cX6_path 35 = .ok (.iconst 0, 1) := by decide +kernel
theorem dX6_path_36 : decode cX6_path 36 = .ok (.istore 4, 2) := by decide +kernel
theorem dX6_path_38 : decode cX6_path 38 = .ok (.iload 4, 2) := by decide +kernel
theorem dX6_path_40 : decode cX6_path 40 = .ok (.bipush 18, 2) := by decide +kernel
theorem dX6_path_42 : decode cX6_path 42 = .ok (.if_icmp .gt 32, 3) := by decide +kernel
theorem dX6_path_45 : decode cX6_path 45 = .ok (.iload_n 3, 1) := by decide +kernel
theorem dX6_path_46 : decode cX6_path 46 = .ok (.aload_n 0, 1) := by decide +kernel
theorem dX6_path_47 : decode cX6_path 47 = .ok (.iload 4, 2) := by decide +kernel
theorem dX6_path_49 : decode cX6_path 49 = .ok (.iload_n 1, 1) := by decide +kernel
theorem dX6_path_50 : decode cX6_path 50 = .ok (.invokevirtual 246, 3) := by decide +kernel
theorem dX6_path_53 : decode cX6_path 53 = .ok (.iload_n 2, 1) := by decide +kernel
theorem dX6_path_54 : decode cX6_path 54 = .ok (.iand, 1) := by decide +kernel
theorem dX6_path_55 : decode cX6_path 55 = .ok (.ifCond .ne 10, 3) := by decide +kernel
theorem dX6_path_58 : decode cX6_path 58 = .ok (.iconst 1, 1) := by decide +kernel
theorem dX6_path_59 : decode cX6_path 59 = .ok (.iload 4, 2) := by decide +kernel
theorem dX6_path_61 : decode cX6_path 61 = .ok (.ishl, 1) := by decide +kernel
theorem dX6_path_62 : decode cX6_path 62 = .ok (.goto 4, 3) := by decide +kernel
theorem dX6_path_65 : decode cX6_path 65 = .ok (.iconst 0, 1) := by decide +kernel
theorem dX6_path_66 : decode cX6_path 66 = .ok (.ior, 1) := by decide +kernel
theorem dX6_path_67 : decode cX6_path 67 = .ok (.istore_n 3, 1) := by decide +kernel
theorem dX6_path_68 : decode cX6_path 68 = .ok (.iinc 4 1, 3) := by decide +kernel
theorem dX6_path_71 : decode cX6_path 71 = .ok (.goto (-33), 3) := by decide +kernel
theorem dX6_path_74 : decode cX6_path 74 = .ok (.iload_n 3, 1) := by decide +kernel
theorem dX6_path_75 : decode cX6_path 75 = .ok (.ireturn, 1) := by decide +kernel
theorem dX6_picture_0 : decode cX6_picture 0 = .ok (.aload_n 0, 1) := by decide +kernel
theorem dX6_picture_1 : decode cX6_picture 1 = .ok (.iconst 0, 1) := by decide +kernel
theorem dX6_picture_2 : decode cX6_picture 2 = .ok (.putfield 44, 3) := by decide +kernel
theorem dX6_picture_5 : decode cX6_picture 5 = .ok (.aload_n 0, 1) := by decide +kernel
theorem dX6_picture_6 : decode cX6_picture 6 = .ok (.getfield 186, 3) := by decide +kernel
theorem dX6_picture_9 : decode cX6_picture 9 = .ok (.ifCond .ne 6, 3) := by decide +kernel
theorem dX6_picture_12 : decode cX6_picture 12 = .ok (.ldc 205, 2) := by decide +kernel
theorem dX6_picture_14 : decode cX6_picture 14 = .ok (.ireturn, 1) := by decide +kernel
theorem dX6_picture_15 : decode cX6_picture 15 = .ok (.iload_n 1, 1) := by decide +kernel
theorem dX6_picture_16 : decode cX6_picture 16 = .ok (.invokestatic 243, 3) := by decide +kernel
theorem dX6_picture_19 : decode cX6_picture 19 = .ok (.ifCond .eq 11, 3) := by decide +kernel
theorem dX6_picture_22 : decode cX6_picture 22 = .ok (.aload_n 0, 1) := by decide +kernel
theorem dX6_picture_23 : decode cX6_picture 23 = .ok (.iload_n 2, 1) := by decide +kernel
theorem dX6_picture_24 : decode cX6_picture 24 = .ok (.invokevirtual 266, 3) := by decide +kernel
theorem dX6_picture_27 : decode cX6_picture 27 = .ok (.ifCond .ne 6, 3) := by decide +kernel
theorem dX6_picture_30 : decode cX6_picture 30 = .ok (.ldc 64, 2) := by decide +kernel
theorem dX6_picture_32 : decode cX6_picture 32 = .ok (.ireturn, 1) := by decide +kernel
theorem dX6_picture_33 : decode cX6_picture 33 = .ok (.iconst 0, 1) := by decide +kernel
theorem dX6_picture_34 : decode cX6_picture 34 = .ok (.istore_n 3, 1) := by decide +kernel
theorem dX6_picture_35 : decode cX6_picture 35 = .ok (.iconst 0, 1) := by decide +kernel
theorem dX6_picture_36 : decode cX6_picture 36 = .ok (.istore 4, 2) := by decide +kernel
theorem dX6_picture_38 : decode cX6_picture 38 = .ok (.iload 4, 2) := by decide +kernel
theorem dX6_picture_40 : decode cX6_picture 40 = .ok (.bipush 18, 2) := by decide +kernel
theorem dX6_picture_42 : decode cX6_picture 42 = .ok (.if_icmp .gt 31, 3) := by decide +kernel
theorem dX6_picture_45 : decode cX6_picture 45 = .ok (.iload_n 3, 1) := by decide +kernel
theorem dX6_picture_46 : decode cX6_picture 46 = .ok (.aload_n 0, 1) := by decide +kernel
theorem dX6_picture_47 : decode cX6_picture 47 = .ok (.iload 4, 2) := by decide +kernel
theorem dX6_picture_49 : decode cX6_picture 49 = .ok (.iload_n 1, 1) := by decide +kernel
theorem dX6_picture_50 : decode cX6_picture 50 = .ok (.invokevirtual 246, 3) := by decide +kernel
theorem dX6_picture_53 : decode cX6_picture 53 = .ok (.iload_n 2, 1) := by decide +kernel
theorem dX6_picture_54 : decode cX6_picture 54 = .ok (.if_icmp .ne 10, 3) := by decide +kernel
theorem dX6_picture_57 : decode cX6_picture 57 = .ok (.iconst 1, 1) := by decide +kernel
theorem dX6_picture_58 : decode cX6_picture 58 = .ok (.iload 4, 2) := by decide +kernel
theorem dX6_picture_60 : decode cX6_picture 60 = .ok (.ishl, 1) := by decide +kernel
theorem dX6_picture_61 : decode cX6_picture 61 = .ok (.goto 4, 3) := by decide +kernel
theorem dX6_picture_64 : decode cX6_picture 64 = .ok (.iconst 0, 1) := by decide +kernel
theorem dX6_picture_65 : decode cX6_picture 65 = .ok (.ior, 1) := by decide +kernel
theorem dX6_picture_66 : decode cX6_picture 66 = .ok (.istore_n 3, 1) := by decide +kernel
theorem dX6_picture_67 : decode cX6_picture 67 = .ok (.iinc 4 1, 3) := by decide +kernel
theorem dX6_picture_70 : decode cX6_picture 70 = .ok (.goto (-32), 3) := by decide +kernel
theorem dX6_picture_73 : decode cX6_picture 73 = .ok (.iload_n 3, 1) := by decide +kernel
theorem dX6_picture_74 : decode cX6_picture 74 = .ok (.ireturn, 1) := by decide +kernel
theorem dX6_moreOf_0 : decode cX6_moreOf 0 = .ok (.aload_n 0, 1) := by decide +kernel
theorem dX6_moreOf_1 : decode cX6_moreOf 1 = .ok (.iload_n 1, 1) := by decide +kernel
theorem dX6_moreOf_2 : decode cX6_moreOf 2 = .ok (.iconst 1, 1) := by decide +kernel
theorem dX6_moreOf_3 : decode cX6_moreOf 3 = .ok (.invokevirtual 193, 3) := by decide +kernel
theorem dX6_moreOf_6 : decode cX6_moreOf 6 = .ok (.istore 4, 2) := by decide +kernel
theorem dX6_moreOf_8 : decode cX6_moreOf 8 = .ok (.iload 4, 2) := by decide +kernel
theorem dX6_moreOf_10 : decode cX6_moreOf 10 = .ok (.i2l, 1) := by decide +kernel
theorem dX6_moreOf_11 : decode cX6_moreOf 11 = .ok (.lconst 1, 1) := by decide +kernel
theorem dX6_moreOf_12 : decode cX6_moreOf 12 = .ok (.ldc2_w 269, 3) := by decide +kernel
theorem dX6_moreOf_15 : decode cX6_moreOf 15 = .ok (.invokestatic 54, 3) := by decide +kernel
theorem dX6_moreOf_18 : decode cX6_moreOf 18 = .ok (.ifCond .eq 35, 3) := by decide +kernel
theorem dX6_moreOf_21 : decode cX6_moreOf 21 = .ok (.aload_n 0, 1) := by decide +kernel
theorem dX6_moreOf_22 : decode cX6_moreOf 22 = .ok (.iload_n 1, 1) := by decide +kernel
theorem dX6_moreOf_23 : decode cX6_moreOf 23 = .ok (.invokevirtual 214, 3) := by decide +kernel
theorem dX6_moreOf_26 : decode cX6_moreOf 26 = .ok (.ifCond .eq 27, 3) := by decide +kernel
theorem dX6_moreOf_29 : decode cX6_moreOf 29 = .ok (.aload_n 0, 1) := by decide +kernel
theorem dX6_moreOf_30 : decode cX6_moreOf 30 = .ok (.iload_n 1, 1) := by decide +kernel
theorem dX6_moreOf_31 : decode cX6_moreOf 31 = .ok (.iconst 0, 1) := by decide +kernel
theorem dX6_moreOf_32 : decode cX6_moreOf 32 = .ok (.invokevirtual 193, 3) := by decide +kernel
theorem dX6_moreOf_35 : decode cX6_moreOf 35 = .ok (.iconst 1, 1) := by decide +kernel
theorem dX6_moreOf_36 : decode cX6_moreOf 36 = .ok (.if_icmp .ne 13, 3) := by decide +kernel
theorem dX6_moreOf_39 : decode cX6_moreOf 39 = .ok (.aload_n 0, 1) := by decide +kernel
theorem dX6_moreOf_40 : decode cX6_moreOf 40 = .ok (.getfield 19, 3) := by decide +kernel
theorem dX6_moreOf_43 : decode cX6_moreOf 43 = .ok (.iconst 3, 1) := by decide +kernel
theorem dX6_moreOf_44 : decode cX6_moreOf 44 = .ok (.iaload, 1) := by decide +kernel
theorem dX6_moreOf_45 : decode cX6_moreOf 45 = .ok (.iconst 1, 1) := by decide +kernel
theorem dX6_moreOf_46 : decode cX6_moreOf 46 = .ok (.if_icmp .eq 7, 3) := by decide +kernel
theorem dX6_moreOf_49 : decode cX6_moreOf 49 = .ok (.iconst 1, 1) := by decide +kernel
theorem dX6_moreOf_50 : decode cX6_moreOf 50 = .ok (.goto 4, 3) := by decide +kernel
theorem dX6_moreOf_53 : decode cX6_moreOf 53 = .ok (.iconst 0, 1) := by decide +kernel
theorem dX6_moreOf_54 : decode cX6_moreOf 54 = .ok (.istore 5, 2) := by decide +kernel
theorem dX6_moreOf_56 : decode cX6_moreOf 56 = .ok (.iload_n 3, 1) := by decide +kernel
theorem dX6_moreOf_57 : decode cX6_moreOf 57 = .ok (.iload_n 2, 1) := by decide +kernel
theorem dX6_moreOf_58 : decode cX6_moreOf 58 = .ok (.isub, 1) := by decide +kernel
theorem dX6_moreOf_59 : decode cX6_moreOf 59 = .ok (.iload 4, 2) := by decide +kernel
theorem dX6_moreOf_61 : decode cX6_moreOf 61 = .ok (.imul, 1) := by decide +kernel
theorem dX6_moreOf_62 : decode cX6_moreOf 62 = .ok (.iload_n 2, 1) := by decide +kernel
theorem dX6_moreOf_63 : decode cX6_moreOf 63 = .ok (.bipush 18, 2) := by decide +kernel
theorem dX6_moreOf_65 : decode cX6_moreOf 65 = .ok (.imul, 1) := by decide +kernel
theorem dX6_moreOf_66 : decode cX6_moreOf 66 = .ok (.iadd, 1) := by decide +kernel
theorem dX6_moreOf_67 : decode cX6_moreOf 67 = .ok (.istore 6, 2) := by decide +kernel
theorem dX6_moreOf_69 : decode cX6_moreOf 69 = .ok (.iload 6, 2) := by decide +kernel
theorem dX6_moreOf_71 : decode cX6_moreOf 71 = .ok (.bipush 17, 2) := by decide +kernel
theorem dX6_moreOf_73 : decode cX6_moreOf 73 = .ok (.iadd, 1) := by decide +kernel
theorem dX6_moreOf_74 : decode cX6_moreOf 74 = .ok (.bipush 18, 2) := by decide +kernel
theorem dX6_moreOf_76 : decode cX6_moreOf 76 = .ok (.idiv, 1) := by decide +kernel
theorem dX6_moreOf_77 : decode cX6_moreOf 77 = .ok (.aload_n 0, 1) := by decide +kernel
theorem dX6_moreOf_78 : decode cX6_moreOf 78 = .ok (.iload 4, 2) := by decide +kernel
theorem dX6_moreOf_80 : decode cX6_moreOf 80 = .ok (.invokevirtual 199, 3) := by decide +kernel
theorem dX6_moreOf_83 : decode cX6_moreOf 83 = .ok (.isub, 1) := by decide +kernel
theorem dX6_moreOf_84 : decode cX6_moreOf 84 = .ok (.istore 7, 2) := by decide +kernel
theorem dX6_moreOf_86 : decode cX6_moreOf 86 = .ok (.iload 6, 2) := by decide +kernel
theorem dX6_moreOf_88 : decode cX6_moreOf 88 = .ok (.ifCond .ge 7, 3) := by decide +kernel
theorem dX6_moreOf_91 : decode cX6_moreOf 91 = .ok (.iconst 0, 1) := by decide +kernel
theorem dX6_moreOf_92 : decode cX6_moreOf 92 = .ok (.goto 5, 3) := by decide +kernel
theorem dX6_moreOf_95 : decode cX6_moreOf 95 = .ok (.iload 7, 2) := by decide +kernel
theorem dX6_moreOf_97 : decode cX6_moreOf 97 = .ok (.istore 7, 2) := by decide +kernel
theorem dX6_moreOf_99 : decode cX6_moreOf 99 = .ok (.iload 5, 2) := by decide +kernel
theorem dX6_moreOf_101 : decode cX6_moreOf 101 = .ok (.ifCond .eq 21, 3) := by decide +kernel
theorem dX6_moreOf_104 : decode cX6_moreOf 104 = .ok (.iload 7, 2) := by decide +kernel
theorem dX6_moreOf_106 : decode cX6_moreOf 106 = .ok (.bipush 99, 2) := by decide +kernel
theorem dX6_moreOf_108 : decode cX6_moreOf 108 = .ok (.if_icmp .gt 14, 3) := by decide +kernel
theorem dX6_moreOf_111 : decode cX6_moreOf 111 = .ok (.iload 7, 2) := by decide +kernel
theorem dX6_moreOf_113 : decode cX6_moreOf 113 = .ok (.aload_n 0, 1) := by decide +kernel
theorem dX6_moreOf_114 : decode cX6_moreOf 114 = .ok (.iload_n 1, 1) := by decide +kernel
theorem dX6_moreOf_115 : decode cX6_moreOf 115 = .ok (.invokevirtual 202, 3) := by decide +kernel
theorem dX6_moreOf_118 : decode cX6_moreOf 118 = .ok (.isub, 1) := by decide +kernel
theorem dX6_moreOf_119 : decode cX6_moreOf 119 = .ok (.goto 5, 3) := by decide +kernel
theorem dX6_moreOf_122 : decode cX6_moreOf 122 = .ok (.ldc 80, 2) := by decide +kernel
theorem dX6_moreOf_124 : decode cX6_moreOf 124 = .ok (.ireturn, 1) := by decide +kernel
theorem dX6_rival_0 : decode cX6_rival 0 = .ok (.aload_n 0, 1) := by decide +kernel
theorem dX6_rival_1 : decode cX6_rival 1 = .ok (.iconst 0, 1) := by decide +kernel
theorem dX6_rival_2 : decode cX6_rival 2 = .ok (.putfield 44, 3) := by decide +kernel
theorem dX6_rival_5 : decode cX6_rival 5 = .ok (.aload_n 0, 1) := by decide +kernel
theorem dX6_rival_6 : decode cX6_rival 6 = .ok (.getfield 186, 3) := by decide +kernel
theorem dX6_rival_9 : decode cX6_rival 9 = .ok (.ifCond .ne 6, 3) := by decide +kernel
theorem dX6_rival_12 : decode cX6_rival 12 = .ok (.ldc 205, 2) := by decide +kernel
theorem dX6_rival_14 : decode cX6_rival 14 = .ok (.ireturn, 1) := by decide +kernel
theorem dX6_rival_15 : decode cX6_rival 15 = .ok (.iload_n 1, 1) := by decide +kernel
theorem dX6_rival_16 : decode cX6_rival 16 = .ok (.invokestatic 243, 3) := by decide +kernel
theorem dX6_rival_19 : decode cX6_rival 19 = .ok (.ifCond .eq 15, 3) := by decide +kernel
theorem dX6_rival_22 : decode cX6_rival 22 = .ok (.iload_n 2, 1) := by decide +kernel
theorem dX6_rival_23 : decode cX6_rival 23 = .ok (.i2l, 1) := by decide +kernel
theorem dX6_rival_24 : decode cX6_rival 24 = .ok (.lconst 1, 1) := by decide +kernel
theorem dX6_rival_25 : decode cX6_rival 25 = .ok (.ldc2_w 261, 3) := by decide +kernel
theorem dX6_rival_28 : decode cX6_rival 28 = .ok (.invokestatic 54, 3) := by decide +kernel
theorem dX6_rival_31 : decode cX6_rival 31 = .ok (.ifCond .ne 6, 3) := by decide +kernel
theorem dX6_rival_34 : decode cX6_rival 34 = .ok (.ldc 64, 2) := by decide +kernel
theorem dX6_rival_36 : decode cX6_rival 36 = .ok (.ireturn, 1) := by decide +kernel
theorem dX6_rival_37 : decode cX6_rival 37 = .ok (.aload_n 0, 1) := by decide +kernel
theorem dX6_rival_38 : decode cX6_rival 38 = .ok (.iconst 0, 1) := by decide +kernel
theorem dX6_rival_39 : decode cX6_rival 39 = .ok (.invokevirtual 199, 3) := by decide +kernel
theorem dX6_rival_42 : decode cX6_rival 42 = .ok (.iload_n 1, 1) := by decide +kernel
theorem dX6_rival_43 : decode cX6_rival 43 = .ok (.iadd, 1) := by decide +kernel
theorem dX6_rival_44 : decode cX6_rival 44 = .ok (.istore_n 3, 1) := by decide +kernel
theorem dX6_rival_45 : decode cX6_rival 45 = .ok (.iconst 0, 1) := by decide +kernel
theorem dX6_rival_46 : decode cX6_rival 46 = .ok (.istore 4, 2) := by decide +kernel
theorem dX6_rival_48 : decode cX6_rival 48 = .ok (.iconst 1, 1) := by decide +kernel
theorem dX6_rival_49 : decode cX6_rival 49 = .ok (.istore 5, 2) := by decide +kernel
theorem dX6_rival_51 : decode cX6_rival 51 = .ok (.iload 5, 2) := by decide +kernel
theorem dX6_rival_53 : decode cX6_rival 53 = .ok (.iload_n 2, 1) := by decide +kernel
theorem dX6_rival_54 : decode cX6_rival 54 = .ok (.if_icmp .gt 159, 3) := by decide +kernel
theorem dX6_rival_57 : decode cX6_rival 57 = .ok (.iload 4, 2) := by decide +kernel
theorem dX6_rival_59 : decode cX6_rival 59 = .ok (.ldc 80, 2) := by decide +kernel
theorem dX6_rival_61 : decode cX6_rival 61 = .ok (.if_icmp .eq 152, 3) := by decide +kernel
theorem dX6_rival_64 : decode cX6_rival 64 = .ok (.aload_n 0, 1) := by decide +kernel
theorem dX6_rival_65 : decode cX6_rival 65 = .ok (.bipush 18, 2) := by decide +kernel
theorem dX6_rival_67 : decode cX6_rival 67 = .ok (.invokevirtual 199, 3) := by decide +kernel
theorem dX6_rival_70 : decode cX6_rival 70 = .ok (.bipush 10, 2) := by decide +kernel
theorem dX6_rival_72 : decode cX6_rival 72 = .ok (.iload 5, 2) := by decide +kernel
theorem dX6_rival_74 : decode cX6_rival 74 = .ok (.imul, 1) := by decide +kernel
theorem dX6_rival_75 : decode cX6_rival 75 = .ok (.iadd, 1) := by decide +kernel
theorem dX6_rival_76 : decode cX6_rival 76 = .ok (.istore 6, 2) := by decide +kernel
theorem dX6_rival_78 : decode cX6_rival 78 = .ok (.aload_n 0, 1) := by decide +kernel
theorem dX6_rival_79 : decode cX6_rival 79 = .ok (.iconst 0, 1) := by decide +kernel
theorem dX6_rival_80 : decode cX6_rival 80 = .ok (.iload_n 3, 1) := by decide +kernel
theorem dX6_rival_81 : decode cX6_rival 81 = .ok (.bipush 18, 2) := by decide +kernel
theorem dX6_rival_83 : decode cX6_rival 83 = .ok (.iload 6, 2) := by decide +kernel
theorem dX6_rival_85 : decode cX6_rival 85 = .ok (.invokevirtual 233, 3) := by decide +kernel
theorem dX6_rival_88 : decode cX6_rival 88 = .ok (.ifCond .eq 119, 3) := by decide +kernel
theorem dX6_rival_91 : decode cX6_rival 91 = .ok (.ldc 80, 2) := by decide +kernel
theorem dX6_rival_93 : decode cX6_rival 93 = .ok (.istore 7, 2) := by decide +kernel
theorem dX6_rival_95 : decode cX6_rival 95 = .ok (.iconst 0, 1) := by decide +kernel
theorem dX6_rival_96 : decode cX6_rival 96 = .ok (.istore 8, 2) := by decide +kernel
theorem dX6_rival_98 : decode cX6_rival 98 = .ok (.iload 8, 2) := by decide +kernel
theorem dX6_rival_100 : decode cX6_rival 100 = .ok (.aload_n 0, 1) := by decide +kernel
theorem dX6_rival_101 : decode cX6_rival 101 = .ok (.getfield 19, 3) := by decide +kernel
theorem dX6_rival_104 : decode cX6_rival 104 = .ok (.iconst 0, 1) := by decide +kernel
theorem dX6_rival_105 : decode cX6_rival 105 = .ok (.iaload, 1) := by decide +kernel
theorem dX6_rival_106 : decode cX6_rival 106 = .ok (.if_icmp .ge 57, 3) := by decide +kernel
theorem dX6_rival_109 : decode cX6_rival 109 = .ok (.aload_n 0, 1) := by decide +kernel
theorem dX6_rival_110 : decode cX6_rival 110 = .ok (.iload 8, 2) := by decide +kernel
theorem dX6_rival_112 : decode cX6_rival 112 = .ok (.iload_n 3, 1) := by decide +kernel
theorem dX6_rival_113 : decode cX6_rival 113 = .ok (.iload 6, 2) := by decide +kernel
theorem dX6_rival_115 : decode cX6_rival 115 = .ok (.invokevirtual 271, 3) := by decide +kernel
theorem dX6_rival_118 : decode cX6_rival 118 = .ok (.istore 9, 2) := by decide +kernel
theorem dX6_rival_120 : decode cX6_rival 120 = .ok (.iload 9, 2) := by decide +kernel
theorem dX6_rival_122 : decode cX6_rival 122 = .ok (.ldc 80, 2) := by decide +kernel
theorem dX6_rival_124 : decode cX6_rival 124 = .ok (.if_icmp .eq 29, 3) := by decide +kernel
theorem dX6_rival_127 : decode cX6_rival 127 = .ok (.iload 7, 2) := by decide +kernel
theorem dX6_rival_129 : decode cX6_rival 129 = .ok (.ldc 80, 2) := by decide +kernel
theorem dX6_rival_131 : decode cX6_rival 131 = .ok (.if_icmp .eq 17, 3) := by decide +kernel
theorem dX6_rival_134 : decode cX6_rival 134 = .ok (.iload 9, 2) := by decide +kernel
theorem dX6_rival_136 : decode cX6_rival 136 = .ok (.aload_n 0, 1) := by decide +kernel
theorem dX6_rival_137 : decode cX6_rival 137 = .ok (.iload 7, 2) := by decide +kernel
theorem dX6_rival_139 : decode cX6_rival 139 = .ok (.iload_n 3, 1) := by decide +kernel
theorem dX6_rival_140 : decode cX6_rival 140 = .ok (.iload 6, 2) := by decide +kernel
theorem dX6_rival_142 : decode cX6_rival 142 = .ok (.invokevirtual 271, 3) := by decide +kernel
theorem dX6_rival_145 : decode cX6_rival 145 = .ok (.if_icmp .ge 8, 3) := by decide +kernel
theorem dX6_rival_148 : decode cX6_rival 148 = .ok (.iload 8, 2) := by decide +kernel
theorem dX6_rival_150 : decode cX6_rival 150 = .ok (.goto 5, 3) := by decide +kernel
theorem dX6_rival_153 : decode cX6_rival 153 = .ok (.iload 7, 2) := by decide +kernel
theorem dX6_rival_155 : decode cX6_rival 155 = .ok (.istore 7, 2) := by decide +kernel
theorem dX6_rival_157 : decode cX6_rival 157 = .ok (.iinc 8 1, 3) := by decide +kernel
theorem dX6_rival_160 : decode cX6_rival 160 = .ok (.goto (-62), 3) := by decide +kernel
theorem dX6_rival_163 : decode cX6_rival 163 = .ok (.iload 7, 2) := by decide +kernel
theorem dX6_rival_165 : decode cX6_rival 165 = .ok (.ldc 80, 2) := by decide +kernel
theorem dX6_rival_167 : decode cX6_rival 167 = .ok (.if_icmp .ne 10, 3) := by decide +kernel
theorem dX6_rival_170 : decode cX6_rival 170 = .ok (.ldc 80, 2) := by decide +kernel
theorem dX6_rival_172 : decode cX6_rival 172 = .ok (.istore 4, 2) := by decide +kernel
theorem dX6_rival_174 : decode cX6_rival 174 = .ok (.goto 33, 3) := by decide +kernel
theorem dX6_rival_177 : decode cX6_rival 177 = .ok (.aload_n 0, 1) := by decide +kernel
theorem dX6_rival_178 : decode cX6_rival 178 = .ok (.iload 7, 2) := by decide +kernel
theorem dX6_rival_180 : decode cX6_rival 180 = .ok (.iload_n 3, 1) := by decide +kernel
theorem dX6_rival_181 : decode cX6_rival 181 = .ok (.iload 6, 2) := by decide +kernel
theorem dX6_rival_183 : decode cX6_rival 183 = .ok (.invokevirtual 271, 3) := by decide +kernel
theorem dX6_rival_186 : decode cX6_rival 186 = .ok (.istore 8, 2) := by decide +kernel
theorem dX6_rival_188 : decode cX6_rival 188 = .ok (.aload_n 0, 1) := by decide +kernel
theorem dX6_rival_189 : decode cX6_rival 189 = .ok (.getfield 31, 3) := by decide +kernel
theorem dX6_rival_192 : decode cX6_rival 192 = .ok (.iload 7, 2) := by decide +kernel
theorem dX6_rival_194 : decode cX6_rival 194 = .ok (.dup2, 1) := by decide +kernel
theorem dX6_rival_195 : decode cX6_rival 195 = .ok (.iaload, 1) := by decide +kernel
theorem dX6_rival_196 : decode cX6_rival 196 = .ok (.iload 8, 2) := by decide +kernel
theorem dX6_rival_198 : decode cX6_rival 198 = .ok (.iadd, 1) := by decide +kernel
theorem dX6_rival_199 : decode cX6_rival 199 = .ok (.iastore, 1) := by decide +kernel
theorem dX6_rival_200 : decode cX6_rival 200 = .ok (.iload 4, 2) := by decide +kernel
theorem dX6_rival_202 : decode cX6_rival 202 = .ok (.iload 8, 2) := by decide +kernel
theorem dX6_rival_204 : decode cX6_rival 204 = .ok (.iadd, 1) := by decide +kernel
theorem dX6_rival_205 : decode cX6_rival 205 = .ok (.istore 4, 2) := by decide +kernel
theorem dX6_rival_207 : decode cX6_rival 207 = .ok (.iinc 5 1, 3) := by decide +kernel
theorem dX6_rival_210 : decode cX6_rival 210 = .ok (.goto (-159), 3) := by decide +kernel
theorem dX6_rival_213 : decode cX6_rival 213 = .ok (.iconst 0, 1) := by decide +kernel
theorem dX6_rival_214 : decode cX6_rival 214 = .ok (.istore 5, 2) := by decide +kernel
theorem dX6_rival_216 : decode cX6_rival 216 = .ok (.iload 5, 2) := by decide +kernel
theorem dX6_rival_218 : decode cX6_rival 218 = .ok (.bipush 6, 2) := by decide +kernel
theorem dX6_rival_220 : decode cX6_rival 220 = .ok (.if_icmp .ge 17, 3) := by decide +kernel
theorem dX6_rival_223 : decode cX6_rival 223 = .ok (.aload_n 0, 1) := by decide +kernel
theorem dX6_rival_224 : decode cX6_rival 224 = .ok (.getfield 31, 3) := by decide +kernel
theorem dX6_rival_227 : decode cX6_rival 227 = .ok (.iload 5, 2) := by decide +kernel
theorem dX6_rival_229 : decode cX6_rival 229 = .ok (.iconst 0, 1) := by decide +kernel
theorem dX6_rival_230 : decode cX6_rival 230 = .ok (.iastore, 1) := by decide +kernel
theorem dX6_rival_231 : decode cX6_rival 231 = .ok (.iinc 5 1, 3) := by decide +kernel
theorem dX6_rival_234 : decode cX6_rival 234 = .ok (.goto (-18), 3) := by decide +kernel
theorem dX6_rival_237 : decode cX6_rival 237 = .ok (.iload 4, 2) := by decide +kernel
theorem dX6_rival_239 : decode cX6_rival 239 = .ok (.ireturn, 1) := by decide +kernel
theorem dX6_image_0 : decode cX6_image 0 = .ok (.aload_n 0, 1) := by decide +kernel
theorem dX6_image_1 : decode cX6_image 1 = .ok (.iconst 0, 1) := by decide +kernel
theorem dX6_image_2 : decode cX6_image 2 = .ok (.putfield 44, 3) := by decide +kernel
theorem dX6_image_5 : decode cX6_image 5 = .ok (.iload_n 1, 1) := by decide +kernel
theorem dX6_image_6 : decode cX6_image 6 = .ok (.i2l, 1) := by decide +kernel
theorem dX6_image_7 : decode cX6_image 7 = .ok (.lconst 0, 1) := by decide +kernel
theorem dX6_image_8 : decode cX6_image 8 = .ok (.lconst 1, 1) := by decide +kernel
theorem dX6_image_9 : decode cX6_image 9 = .ok (.invokestatic 54, 3) := by decide +kernel
theorem dX6_image_12 : decode cX6_image 12 = .ok (.ifCond .ne 6, 3) := by decide +kernel
theorem dX6_image_15 : decode cX6_image 15 = .ok (.ldc 64, 2) := by decide +kernel
theorem dX6_image_17 : decode cX6_image 17 = .ok (.ireturn, 1) := by decide +kernel
theorem dX6_image_18 : decode cX6_image 18 = .ok (.aload_n 0, 1) := by decide +kernel
theorem dX6_image_19 : decode cX6_image 19 = .ok (.getfield 186, 3) := by decide +kernel
theorem dX6_image_22 : decode cX6_image 22 = .ok (.ifCond .ne 6, 3) := by decide +kernel
theorem dX6_image_25 : decode cX6_image 25 = .ok (.ldc 205, 2) := by decide +kernel
theorem dX6_image_27 : decode cX6_image 27 = .ok (.ireturn, 1) := by decide +kernel
theorem dX6_image_28 : decode cX6_image 28 = .ok (.iconst 0, 1) := by decide +kernel
theorem dX6_image_29 : decode cX6_image 29 = .ok (.istore_n 2, 1) := by decide +kernel
theorem dX6_image_30 : decode cX6_image 30 = .ok (.iload_n 2, 1) := by decide +kernel
theorem dX6_image_31 : decode cX6_image 31 = .ok (.bipush 74, 2) := by decide +kernel
theorem dX6_image_33 : decode cX6_image 33 = .ok (.if_icmp .ge 26, 3) := by decide +kernel
theorem dX6_image_36 : decode cX6_image 36 = .ok (.aload_n 0, 1) := by decide +kernel
theorem dX6_image_37 : decode cX6_image 37 = .ok (.getfield 38, 3) := by decide +kernel
theorem dX6_image_40 : decode cX6_image 40 = .ok (.bipush 74, 2) := by decide +kernel
theorem dX6_image_42 : decode cX6_image 42 = .ok (.iload_n 1, 1) := by decide +kernel
theorem dX6_image_43 : decode cX6_image 43 = .ok (.imul, 1) := by decide +kernel
theorem dX6_image_44 : decode cX6_image 44 = .ok (.iload_n 2, 1) := by decide +kernel
theorem dX6_image_45 : decode cX6_image 45 = .ok (.iadd, 1) := by decide +kernel
theorem dX6_image_46 : decode cX6_image 46 = .ok (.aload_n 0, 1) := by decide +kernel
theorem dX6_image_47 : decode cX6_image 47 = .ok (.getfield 19, 3) := by decide +kernel
theorem dX6_image_50 : decode cX6_image 50 = .ok (.iload_n 2, 1) := by decide +kernel
theorem dX6_image_51 : decode cX6_image 51 = .ok (.iaload, 1) := by decide +kernel
theorem dX6_image_52 : decode cX6_image 52 = .ok (.iastore, 1) := by decide +kernel
theorem dX6_image_53 : decode cX6_image 53 = .ok (.iinc 2 1, 3) := by decide +kernel
theorem dX6_image_56 : decode cX6_image 56 = .ok (.goto (-26), 3) := by decide +kernel
theorem dX6_image_59 : decode cX6_image 59 = .ok (.aload_n 0, 1) := by decide +kernel
theorem dX6_image_60 : decode cX6_image 60 = .ok (.getfield 34, 3) := by decide +kernel
theorem dX6_image_63 : decode cX6_image 63 = .ok (.iload_n 1, 1) := by decide +kernel
theorem dX6_image_64 : decode cX6_image 64 = .ok (.iconst 1, 1) := by decide +kernel
theorem dX6_image_65 : decode cX6_image 65 = .ok (.bastore, 1) := by decide +kernel
theorem dX6_image_66 : decode cX6_image 66 = .ok (.iconst 1, 1) := by decide +kernel
theorem dX6_image_67 : decode cX6_image 67 = .ok (.ireturn, 1) := by decide +kernel
theorem dX6_restore_0 : decode cX6_restore 0 = .ok (.aload_n 0, 1) := by decide +kernel
theorem dX6_restore_1 : decode cX6_restore 1 = .ok (.iconst 0, 1) := by decide +kernel
theorem dX6_restore_2 : decode cX6_restore 2 = .ok (.putfield 44, 3) := by decide +kernel
theorem dX6_restore_5 : decode cX6_restore 5 = .ok (.iload_n 1, 1) := by decide +kernel
theorem dX6_restore_6 : decode cX6_restore 6 = .ok (.i2l, 1) := by decide +kernel
theorem dX6_restore_7 : decode cX6_restore 7 = .ok (.lconst 0, 1) := by decide +kernel
theorem dX6_restore_8 : decode cX6_restore 8 = .ok (.lconst 1, 1) := by decide +kernel
theorem dX6_restore_9 : decode cX6_restore 9 = .ok (.invokestatic 54, 3) := by decide +kernel
theorem dX6_restore_12 : decode cX6_restore 12 = .ok (.ifCond .ne 6, 3) := by decide +kernel
theorem dX6_restore_15 : decode cX6_restore 15 = .ok (.ldc 64, 2) := by decide +kernel
theorem dX6_restore_17 : decode cX6_restore 17 = .ok (.ireturn, 1) := by decide +kernel
theorem dX6_restore_18 : decode cX6_restore 18 = .ok (.aload_n 0, 1) := by decide +kernel
theorem dX6_restore_19 : decode cX6_restore 19 = .ok (.getfield 34, 3) := by decide +kernel
theorem dX6_restore_22 : decode cX6_restore 22 = .ok (.iload_n 1, 1) := by decide +kernel
theorem dX6_restore_23 : decode cX6_restore 23 = .ok (.baload, 1) := by decide +kernel
theorem dX6_restore_24 : decode cX6_restore 24 = .ok (.ifCond .ne 6, 3) := by decide +kernel
theorem dX6_restore_27 : decode cX6_restore 27 = .ok (.ldc 205, 2) := by decide +kernel
theorem dX6_restore_29 : decode cX6_restore 29 = .ok (.ireturn, 1) := by decide +kernel
theorem dX6_restore_30 : decode cX6_restore 30 = .ok (.iconst 0, 1) := by decide +kernel
theorem dX6_restore_31 : decode cX6_restore 31 = .ok (.istore_n 2, 1) := by decide +kernel
theorem dX6_restore_32 : decode cX6_restore 32 = .ok (.iload_n 2, 1) := by decide +kernel
theorem dX6_restore_33 : decode cX6_restore 33 = .ok (.bipush 74, 2) := by decide +kernel
theorem dX6_restore_35 : decode cX6_restore 35 = .ok (.if_icmp .ge 26, 3) := by decide +kernel
theorem dX6_restore_38 : decode cX6_restore 38 = .ok (.aload_n 0, 1) := by decide +kernel
theorem dX6_restore_39 : decode cX6_restore 39 = .ok (.getfield 19, 3) := by decide +kernel
theorem dX6_restore_42 : decode cX6_restore 42 = .ok (.iload_n 2, 1) := by decide +kernel
theorem dX6_restore_43 : decode cX6_restore 43 = .ok (.aload_n 0, 1) := by decide +kernel
theorem dX6_restore_44 : decode cX6_restore 44 = .ok (.getfield 38, 3) := by decide +kernel
theorem dX6_restore_47 : decode cX6_restore 47 = .ok (.bipush 74, 2) := by decide +kernel
theorem dX6_restore_49 : decode cX6_restore 49 = .ok (.iload_n 1, 1) := by decide +kernel
theorem dX6_restore_50 : decode cX6_restore 50 = .ok (.imul, 1) := by decide +kernel
theorem dX6_restore_51 : decode cX6_restore 51 = .ok (.iload_n 2, 1) := by decide +kernel
theorem dX6_restore_52 : decode cX6_restore 52 = .ok (.iadd, 1) := by decide +kernel
theorem dX6_restore_53 : decode cX6_restore 53 = .ok (.iaload, 1) := by decide +kernel
theorem dX6_restore_54 : decode cX6_restore 54 = .ok (.iastore, 1) := by decide +kernel
theorem dX6_restore_55 : decode cX6_restore 55 = .ok (.iinc 2 1, 3) := by decide +kernel
theorem dX6_restore_58 : decode cX6_restore 58 = .ok (.goto (-26), 3) := by decide +kernel
theorem dX6_restore_61 : decode cX6_restore 61 = .ok (.aload_n 0, 1) := by decide +kernel
theorem dX6_restore_62 : decode cX6_restore 62 = .ok (.iconst 0, 1) := by decide +kernel
theorem dX6_restore_63 : decode cX6_restore 63 = .ok (.putfield 190, 3) := by decide +kernel
theorem dX6_restore_66 : decode cX6_restore 66 = .ok (.iconst 1, 1) := by decide +kernel
theorem dX6_restore_67 : decode cX6_restore 67 = .ok (.ireturn, 1) := by decide +kernel
theorem dX6_isOf_0 : decode cX6_isOf 0 = .ok (.iload_n 1, 1) := by decide +kernel
theorem dX6_isOf_1 : decode cX6_isOf 1 = .ok (.ifCond .eq 28, 3) := by decide +kernel
theorem dX6_isOf_4 : decode cX6_isOf 4 = .ok (.iload_n 0, 1) := by decide +kernel
theorem dX6_isOf_5 : decode cX6_isOf 5 = .ok (.iload_n 1, 1) := by decide +kernel
theorem dX6_isOf_6 : decode cX6_isOf 6 = .ok (.if_icmp .eq 23, 3) := by decide +kernel
theorem dX6_isOf_9 : decode cX6_isOf 9 = .ok (.iload_n 1, 1) := by decide +kernel
theorem dX6_isOf_10 : decode cX6_isOf 10 = .ok (.iconst 1, 1) := by decide +kernel
theorem dX6_isOf_11 : decode cX6_isOf 11 = .ok (.if_icmp .ne 8, 3) := by decide +kernel
theorem dX6_isOf_14 : decode cX6_isOf 14 = .ok (.iload_n 0, 1) := by decide +kernel
theorem dX6_isOf_15 : decode cX6_isOf 15 = .ok (.iconst 2, 1) := by decide +kernel
theorem dX6_isOf_16 : decode cX6_isOf 16 = .ok (.if_icmp .eq 13, 3) := by decide +kernel
theorem dX6_isOf_19 : decode cX6_isOf 19 = .ok (.iload_n 1, 1) := by decide +kernel
theorem dX6_isOf_20 : decode cX6_isOf 20 = .ok (.iconst 4, 1) := by decide +kernel
theorem dX6_isOf_21 : decode cX6_isOf 21 = .ok (.if_icmp .ne 12, 3) := by decide +kernel
theorem dX6_isOf_24 : decode cX6_isOf 24 = .ok (.iload_n 0, 1) := by decide +kernel
theorem dX6_isOf_25 : decode cX6_isOf 25 = .ok (.iconst 5, 1) := by decide +kernel
theorem dX6_isOf_26 : decode cX6_isOf 26 = .ok (.if_icmp .ne 7, 3) := by decide +kernel
theorem dX6_isOf_29 : decode cX6_isOf 29 = .ok (.iconst 1, 1) := by decide +kernel
theorem dX6_isOf_30 : decode cX6_isOf 30 = .ok (.goto 4, 3) := by decide +kernel
theorem dX6_isOf_33 : decode cX6_isOf 33 = .ok (.iconst 0, 1) := by decide +kernel
theorem dX6_isOf_34 : decode cX6_isOf 34 = .ok (.ireturn, 1) := by decide +kernel
theorem dX6_kind_0 : decode cX6_kind 0 = .ok (.aload_n 0, 1) := by decide +kernel
theorem dX6_kind_1 : decode cX6_kind 1 = .ok (.iconst 0, 1) := by decide +kernel
theorem dX6_kind_2 : decode cX6_kind 2 = .ok (.putfield 44, 3) := by decide +kernel
theorem dX6_kind_5 : decode cX6_kind 5 = .ok (.aload_n 0, 1) := by decide +kernel
theorem dX6_kind_6 : decode cX6_kind 6 = .ok (.iload_n 1, 1) := by decide +kernel
theorem dX6_kind_7 : decode cX6_kind 7 = .ok (.invokevirtual 211, 3) := by decide +kernel
theorem dX6_kind_10 : decode cX6_kind 10 = .ok (.ifCond .eq 12, 3) := by decide +kernel
theorem dX6_kind_13 : decode cX6_kind 13 = .ok (.aload_n 0, 1) := by decide +kernel
theorem dX6_kind_14 : decode cX6_kind 14 = .ok (.iload_n 1, 1) := by decide +kernel
theorem dX6_kind_15 : decode cX6_kind 15 = .ok (.iconst 0, 1) := by decide +kernel
theorem dX6_kind_16 : decode cX6_kind 16 = .ok (.invokevirtual 193, 3) := by decide +kernel
theorem dX6_kind_19 : decode cX6_kind 19 = .ok (.goto 5, 3) := by decide +kernel
theorem dX6_kind_22 : decode cX6_kind 22 = .ok (.ldc 64, 2) := by decide +kernel
theorem dX6_kind_24 : decode cX6_kind 24 = .ok (.ireturn, 1) := by decide +kernel
theorem dX6_as_0 : decode cX6_as 0 = .ok (.aload_n 0, 1) := by decide +kernel
theorem dX6_as_1 : decode cX6_as 1 = .ok (.iconst 0, 1) := by decide +kernel
theorem dX6_as_2 : decode cX6_as 2 = .ok (.putfield 44, 3) := by decide +kernel
theorem dX6_as_5 : decode cX6_as 5 = .ok (.aload_n 0, 1) := by decide +kernel
theorem dX6_as_6 : decode cX6_as 6 = .ok (.iload_n 1, 1) := by decide +kernel
theorem dX6_as_7 : decode cX6_as 7 = .ok (.invokevirtual 211, 3) := by decide +kernel
theorem dX6_as_10 : decode cX6_as 10 = .ok (.ifCond .eq 15, 3) := by decide +kernel
theorem dX6_as_13 : decode cX6_as 13 = .ok (.iload_n 2, 1) := by decide +kernel
theorem dX6_as_14 : decode cX6_as 14 = .ok (.i2l, 1) := by decide +kernel
theorem dX6_as_15 : decode cX6_as 15 = .ok (.lconst 0, 1) := by decide +kernel
theorem dX6_as_16 : decode cX6_as 16 = .ok (.ldc2_w 275, 3) := by decide +kernel
theorem dX6_as_19 : decode cX6_as 19 = .ok (.invokestatic 54, 3) := by decide +kernel
theorem dX6_as_22 : decode cX6_as 22 = .ok (.ifCond .ne 6, 3) := by decide +kernel
theorem dX6_as_25 : decode cX6_as 25 = .ok (.ldc 64, 2) := by decide +kernel
theorem dX6_as_27 : decode cX6_as 27 = .ok (.ireturn, 1) := by decide +kernel
theorem dX6_as_28 : decode cX6_as 28 = .ok (.aload_n 0, 1) := by decide +kernel
theorem dX6_as_29 : decode cX6_as 29 = .ok (.iconst 0, 1) := by decide +kernel
theorem dX6_as_30 : decode cX6_as 30 = .ok (.putfield 48, 3) := by decide +kernel
theorem dX6_as_33 : decode cX6_as 33 = .ok (.aload_n 0, 1) := by decide +kernel
theorem dX6_as_34 : decode cX6_as 34 = .ok (.iload_n 1, 1) := by decide +kernel
theorem dX6_as_35 : decode cX6_as 35 = .ok (.iconst 0, 1) := by decide +kernel
theorem dX6_as_36 : decode cX6_as 36 = .ok (.invokevirtual 193, 3) := by decide +kernel
theorem dX6_as_39 : decode cX6_as 39 = .ok (.iload_n 2, 1) := by decide +kernel
theorem dX6_as_40 : decode cX6_as 40 = .ok (.invokestatic 277, 3) := by decide +kernel
theorem dX6_as_43 : decode cX6_as 43 = .ok (.ifCond .eq 7, 3) := by decide +kernel
theorem dX6_as_46 : decode cX6_as 46 = .ok (.iload_n 1, 1) := by decide +kernel
theorem dX6_as_47 : decode cX6_as 47 = .ok (.goto 8, 3) := by decide +kernel
theorem dX6_as_50 : decode cX6_as 50 = .ok (.aload_n 0, 1) := by decide +kernel
theorem dX6_as_51 : decode cX6_as 51 = .ok (.iconst 3, 1) := by decide +kernel
theorem dX6_as_52 : decode cX6_as 52 = .ok (.invokevirtual 65, 3) := by decide +kernel
theorem dX6_as_55 : decode cX6_as 55 = .ok (.ireturn, 1) := by decide +kernel
theorem dX6_began_0 : decode cX6_began 0 = .ok (.aload_n 0, 1) := by decide +kernel
theorem dX6_began_1 : decode cX6_began 1 = .ok (.getfield 280, 3) := by decide +kernel
theorem dX6_began_4 : decode cX6_began 4 = .ok (.bipush 16, 2) := by decide +kernel
theorem dX6_began_6 : decode cX6_began 6 = .ok (.if_icmp .ge 23, 3) := by decide +kernel
theorem dX6_began_9 : decode cX6_began 9 = .ok (.aload_n 0, 1) := by decide +kernel
theorem dX6_began_10 : decode cX6_began 10 = .ok (.getfield 41, 3) := by decide +kernel
theorem dX6_began_13 : decode cX6_began 13 = .ok (.aload_n 0, 1) := by decide +kernel
theorem dX6_began_14 : decode cX6_began 14 = .ok (.getfield 280, 3) := by decide +kernel
theorem dX6_began_17 : decode cX6_began 17 = .ok (.iload_n 1, 1) := by decide +kernel
theorem dX6_began_18 : decode cX6_began 18 = .ok (.iastore, 1) := by decide +kernel
theorem dX6_began_19 : decode cX6_began 19 = .ok (.aload_n 0, 1) := by decide +kernel
theorem dX6_began_20 : decode cX6_began 20 = .ok (.dup, 1) := by decide +kernel
theorem dX6_began_21 : decode cX6_began 21 = .ok (.getfield 280, 3) := by decide +kernel
theorem dX6_began_24 : decode cX6_began 24 = .ok (.iconst 1, 1) := by decide +kernel
theorem dX6_began_25 : decode cX6_began 25 = .ok (.iadd, 1) := by decide +kernel
theorem dX6_began_26 : decode cX6_began 26 = .ok (.putfield 280, 3) := by decide +kernel
theorem dX6_began_29 : decode cX6_began 29 = .ok (.return_, 1) := by decide +kernel
theorem dX6_plainSize_0 : decode cX6_plainSize 0 = .ok (.aload_n 0, 1) := by decide +kernel
theorem dX6_plainSize_1 : decode cX6_plainSize 1 = .ok (.bipush 10, 2) := by decide +kernel
theorem dX6_plainSize_3 : decode cX6_plainSize 3 = .ok (.invokevirtual 283, 3) := by decide +kernel
theorem dX6_plainSize_6 : decode cX6_plainSize 6 = .ok (.aload_n 0, 1) := by decide +kernel
theorem dX6_plainSize_7 : decode cX6_plainSize 7 = .ok (.iload_n 1, 1) := by decide +kernel
theorem dX6_plainSize_8 : decode cX6_plainSize 8 = .ok (.invokevirtual 202, 3) := by decide +kernel
theorem dX6_plainSize_11 : decode cX6_plainSize 11 = .ok (.ireturn, 1) := by decide +kernel
theorem dX6_markOf_0 : decode cX6_markOf 0 = .ok (.aload_n 0, 1) := by decide +kernel
theorem dX6_markOf_1 : decode cX6_markOf 1 = .ok (.iload_n 1, 1) := by decide +kernel
theorem dX6_markOf_2 : decode cX6_markOf 2 = .ok (.iconst 0, 1) := by decide +kernel
theorem dX6_markOf_3 : decode cX6_markOf 3 = .ok (.invokevirtual 193, 3) := by decide +kernel
theorem dX6_markOf_6 : decode cX6_markOf 6 = .ok (.istore_n 2, 1) := by decide +kernel
theorem dX6_markOf_7 : decode cX6_markOf 7 = .ok (.iload_n 2, 1) := by decide +kernel
theorem dX6_markOf_8 : decode cX6_markOf 8 = .ok (.iconst 2, 1) := by decide +kernel
theorem dX6_markOf_9 : decode cX6_markOf 9 = .ok (.if_icmp .ne 9, 3) := by decide +kernel
theorem dX6_markOf_12 : decode cX6_markOf 12 = .ok (.aload_n 0, 1) := by decide +kernel
theorem dX6_markOf_13 : decode cX6_markOf 13 = .ok (.bipush 24, 2) := by decide +kernel
theorem dX6_markOf_15 : decode cX6_markOf 15 = .ok (.invokevirtual 283, 3) := by decide +kernel
theorem dX6_markOf_18 : decode cX6_markOf 18 = .ok (.aload_n 0, 1) := by decide +kernel
theorem dX6_markOf_19 : decode cX6_markOf 19 = .ok (.iload_n 2, 1) := by decide +kernel
theorem dX6_markOf_20 : decode cX6_markOf 20 = .ok (.iconst 3, 1) := by decide +kernel
theorem dX6_markOf_21 : decode cX6_markOf 21 = .ok (.if_icmp .ge 8, 3) := by decide +kernel
theorem dX6_markOf_24 : decode cX6_markOf 24 = .ok (.bipush 21, 2) := by decide +kernel
theorem dX6_markOf_26 : decode cX6_markOf 26 = .ok (.goto 15, 3) := by decide +kernel
theorem dX6_markOf_29 : decode cX6_markOf 29 = .ok (.iload_n 2, 1) := by decide +kernel
theorem dX6_markOf_30 : decode cX6_markOf 30 = .ok (.iconst 3, 1) := by decide +kernel
theorem dX6_markOf_31 : decode cX6_markOf 31 = .ok (.if_icmp .ne 8, 3) := by decide +kernel
theorem dX6_markOf_34 : decode cX6_markOf 34 = .ok (.bipush 22, 2) := by decide +kernel
theorem dX6_markOf_36 : decode cX6_markOf 36 = .ok (.goto 5, 3) := by decide +kernel
theorem dX6_markOf_39 : decode cX6_markOf 39 = .ok (.bipush 23, 2) := by decide +kernel
theorem dX6_markOf_41 : decode cX6_markOf 41 = .ok (.invokevirtual 283, 3) := by decide +kernel
theorem dX6_markOf_44 : decode cX6_markOf 44 = .ok (.aload_n 0, 1) := by decide +kernel
theorem dX6_markOf_45 : decode cX6_markOf 45 = .ok (.bipush 20, 2) := by decide +kernel
theorem dX6_markOf_47 : decode cX6_markOf 47 = .ok (.invokevirtual 283, 3) := by decide +kernel
theorem dX6_markOf_50 : decode cX6_markOf 50 = .ok (.iload_n 2, 1) := by decide +kernel
theorem dX6_markOf_51 : decode cX6_markOf 51 = .ok (.iconst 3, 1) := by decide +kernel
theorem dX6_markOf_52 : decode cX6_markOf 52 = .ok (.if_icmp .ne 11, 3) := by decide +kernel
theorem dX6_markOf_55 : decode cX6_markOf 55 = .ok (.iload_n 1, 1) := by decide +kernel
theorem dX6_markOf_56 : decode cX6_markOf 56 = .ok (.aload_n 0, 1) := by decide +kernel
theorem dX6_markOf_57 : decode cX6_markOf 57 = .ok (.iload_n 1, 1) := by decide +kernel
theorem dX6_markOf_58 : decode cX6_markOf 58 = .ok (.invokevirtual 286, 3) := by decide +kernel
theorem dX6_markOf_61 : decode cX6_markOf 61 = .ok (.isub, 1) := by decide +kernel
theorem dX6_markOf_62 : decode cX6_markOf 62 = .ok (.ireturn, 1) := by decide +kernel
theorem dX6_markOf_63 : decode cX6_markOf 63 = .ok (.iload_n 2, 1) := by decide +kernel
theorem dX6_markOf_64 : decode cX6_markOf 64 = .ok (.iconst 3, 1) := by decide +kernel
theorem dX6_markOf_65 : decode cX6_markOf 65 = .ok (.if_icmp .le 14, 3) := by decide +kernel
theorem dX6_markOf_68 : decode cX6_markOf 68 = .ok (.iload_n 1, 1) := by decide +kernel
theorem dX6_markOf_69 : decode cX6_markOf 69 = .ok (.aload_n 0, 1) := by decide +kernel
theorem dX6_markOf_70 : decode cX6_markOf 70 = .ok (.iload_n 1, 1) := by decide +kernel
theorem dX6_markOf_71 : decode cX6_markOf 71 = .ok (.iconst 3, 1) := by decide +kernel
theorem dX6_markOf_72 : decode cX6_markOf 72 = .ok (.invokevirtual 193, 3) := by decide +kernel
theorem dX6_markOf_75 : decode cX6_markOf 75 = .ok (.iadd, 1) := by decide +kernel
theorem dX6_markOf_76 : decode cX6_markOf 76 = .ok (.goto 24, 3) := by decide +kernel
theorem dX6_markOf_79 : decode cX6_markOf 79 = .ok (.iload_n 1, 1) := by decide +kernel
theorem dX6_markOf_80 : decode cX6_markOf 80 = .ok (.aload_n 0, 1) := by decide +kernel
theorem dX6_markOf_81 : decode cX6_markOf 81 = .ok (.iload_n 1, 1) := by decide +kernel
theorem dX6_markOf_82 : decode cX6_markOf 82 = .ok (.iconst 1, 1) := by decide +kernel
theorem dX6_markOf_83 : decode cX6_markOf 83 = .ok (.invokevirtual 193, 3) := by decide +kernel
theorem dX6_markOf_86 : decode cX6_markOf 86 = .ok (.iadd, 1) := by decide +kernel
theorem dX6_markOf_87 : decode cX6_markOf 87 = .ok (.iload_n 2, 1) := by decide +kernel
theorem dX6_markOf_88 : decode cX6_markOf 88 = .ok (.iconst 2, 1) := by decide +kernel
theorem dX6_markOf_89 : decode cX6_markOf 89 = .ok (.if_icmp .ne 9, 3) := by decide +kernel
theorem dX6_markOf_92 : decode cX6_markOf 92 = .ok (.sipush 1000, 3) := by decide +kernel
theorem dX6_markOf_95 : decode cX6_markOf 95 = .ok (.goto 4, 3) := by decide +kernel
theorem dX6_markOf_98 : decode cX6_markOf 98 = .ok (.iconst 0, 1) := by decide +kernel
theorem dX6_markOf_99 : decode cX6_markOf 99 = .ok (.iadd, 1) := by decide +kernel
theorem dX6_markOf_100 : decode cX6_markOf 100 = .ok (.ireturn, 1) := by decide +kernel
theorem dX6_sizeOf_0 : decode cX6_sizeOf 0 = .ok (.aload_n 0, 1) := by decide +kernel
theorem dX6_sizeOf_1 : decode cX6_sizeOf 1 = .ok (.iload_n 1, 1) := by decide +kernel
theorem dX6_sizeOf_2 : decode cX6_sizeOf 2 = .ok (.iconst 0, 1) := by decide +kernel
theorem dX6_sizeOf_3 : decode cX6_sizeOf 3 = .ok (.invokevirtual 193, 3) := by decide +kernel
theorem dX6_sizeOf_6 : decode cX6_sizeOf 6 = .ok (.istore_n 2, 1) := by decide +kernel
theorem dX6_sizeOf_7 : decode cX6_sizeOf 7 = .ok (.iload_n 2, 1) := by decide +kernel
theorem dX6_sizeOf_8 : decode cX6_sizeOf 8 = .ok (.iconst 3, 1) := by decide +kernel
theorem dX6_sizeOf_9 : decode cX6_sizeOf 9 = .ok (.if_icmp .ne 9, 3) := by decide +kernel
theorem dX6_sizeOf_12 : decode cX6_sizeOf 12 = .ok (.aload_n 0, 1) := by decide +kernel
theorem dX6_sizeOf_13 : decode cX6_sizeOf 13 = .ok (.iload_n 1, 1) := by decide +kernel
theorem dX6_sizeOf_14 : decode cX6_sizeOf 14 = .ok (.invokevirtual 286, 3) := by decide +kernel
theorem dX6_sizeOf_17 : decode cX6_sizeOf 17 = .ok (.ireturn, 1) := by decide +kernel
theorem dX6_sizeOf_18 : decode cX6_sizeOf 18 = .ok (.iload_n 2, 1) := by decide +kernel
theorem dX6_sizeOf_19 : decode cX6_sizeOf 19 = .ok (.iconst 2, 1) := by decide +kernel
theorem dX6_sizeOf_20 : decode cX6_sizeOf 20 = .ok (.if_icmp .eq 8, 3) := by decide +kernel
theorem dX6_sizeOf_23 : decode cX6_sizeOf 23 = .ok (.iload_n 2, 1) := by decide +kernel
theorem dX6_sizeOf_24 : decode cX6_sizeOf 24 = .ok (.iconst 5, 1) := by decide +kernel
theorem dX6_sizeOf_25 : decode cX6_sizeOf 25 = .ok (.if_icmp .ne 19, 3) := by decide +kernel
theorem dX6_sizeOf_28 : decode cX6_sizeOf 28 = .ok (.aload_n 0, 1) := by decide +kernel
theorem dX6_sizeOf_29 : decode cX6_sizeOf 29 = .ok (.iload_n 2, 1) := by decide +kernel
theorem dX6_sizeOf_30 : decode cX6_sizeOf 30 = .ok (.iconst 2, 1) := by decide +kernel
theorem dX6_sizeOf_31 : decode cX6_sizeOf 31 = .ok (.if_icmp .ne 8, 3) := by decide +kernel
theorem dX6_sizeOf_34 : decode cX6_sizeOf 34 = .ok (.bipush 12, 2) := by decide +kernel
theorem dX6_sizeOf_36 : decode cX6_sizeOf 36 = .ok (.goto 5, 3) := by decide +kernel
theorem dX6_sizeOf_39 : decode cX6_sizeOf 39 = .ok (.bipush 14, 2) := by decide +kernel
theorem dX6_sizeOf_41 : decode cX6_sizeOf 41 = .ok (.invokevirtual 283, 3) := by decide +kernel
theorem dX6_sizeOf_44 : decode cX6_sizeOf 44 = .ok (.aload_n 0, 1) := by decide +kernel
theorem dX6_sizeOf_45 : decode cX6_sizeOf 45 = .ok (.iload_n 2, 1) := by decide +kernel
theorem dX6_sizeOf_46 : decode cX6_sizeOf 46 = .ok (.iconst 3, 1) := by decide +kernel
theorem dX6_sizeOf_47 : decode cX6_sizeOf 47 = .ok (.if_icmp .ge 8, 3) := by decide +kernel
theorem dX6_sizeOf_50 : decode cX6_sizeOf 50 = .ok (.bipush 11, 2) := by decide +kernel
theorem dX6_sizeOf_52 : decode cX6_sizeOf 52 = .ok (.goto 5, 3) := by decide +kernel
theorem dX6_sizeOf_55 : decode cX6_sizeOf 55 = .ok (.bipush 13, 2) := by decide +kernel
theorem dX6_sizeOf_57 : decode cX6_sizeOf 57 = .ok (.invokevirtual 283, 3) := by decide +kernel
theorem dX6_sizeOf_60 : decode cX6_sizeOf 60 = .ok (.aload_n 0, 1) := by decide +kernel
theorem dX6_sizeOf_61 : decode cX6_sizeOf 61 = .ok (.iload_n 1, 1) := by decide +kernel
theorem dX6_sizeOf_62 : decode cX6_sizeOf 62 = .ok (.invokevirtual 286, 3) := by decide +kernel
theorem dX6_sizeOf_65 : decode cX6_sizeOf 65 = .ok (.istore_n 3, 1) := by decide +kernel
theorem dX6_sizeOf_66 : decode cX6_sizeOf 66 = .ok (.iload_n 3, 1) := by decide +kernel
theorem dX6_sizeOf_67 : decode cX6_sizeOf 67 = .ok (.iload_n 2, 1) := by decide +kernel
theorem dX6_sizeOf_68 : decode cX6_sizeOf 68 = .ok (.iconst 3, 1) := by decide +kernel
theorem dX6_sizeOf_69 : decode cX6_sizeOf 69 = .ok (.if_icmp .ge 11, 3) := by decide +kernel
theorem dX6_sizeOf_72 : decode cX6_sizeOf 72 = .ok (.aload_n 0, 1) := by decide +kernel
theorem dX6_sizeOf_73 : decode cX6_sizeOf 73 = .ok (.iload_n 1, 1) := by decide +kernel
theorem dX6_sizeOf_74 : decode cX6_sizeOf 74 = .ok (.invokevirtual 289, 3) := by decide +kernel
theorem dX6_sizeOf_77 : decode cX6_sizeOf 77 = .ok (.goto 5, 3) := by decide +kernel
theorem dX6_sizeOf_80 : decode cX6_sizeOf 80 = .ok (.bipush (-100), 2) := by decide +kernel
theorem dX6_sizeOf_82 : decode cX6_sizeOf 82 = .ok (.iadd, 1) := by decide +kernel
theorem dX6_sizeOf_83 : decode cX6_sizeOf 83 = .ok (.istore_n 3, 1) := by decide +kernel
theorem dX6_sizeOf_84 : decode cX6_sizeOf 84 = .ok (.iload_n 2, 1) := by decide +kernel
theorem dX6_sizeOf_85 : decode cX6_sizeOf 85 = .ok (.iconst 2, 1) := by decide +kernel
theorem dX6_sizeOf_86 : decode cX6_sizeOf 86 = .ok (.if_icmp .ne 8, 3) := by decide +kernel
theorem dX6_sizeOf_89 : decode cX6_sizeOf 89 = .ok (.iload_n 3, 1) := by decide +kernel
theorem dX6_sizeOf_90 : decode cX6_sizeOf 90 = .ok (.ineg, 1) := by decide +kernel
theorem dX6_sizeOf_91 : decode cX6_sizeOf 91 = .ok (.goto 15, 3) := by decide +kernel
theorem dX6_sizeOf_94 : decode cX6_sizeOf 94 = .ok (.iload_n 2, 1) := by decide +kernel
theorem dX6_sizeOf_95 : decode cX6_sizeOf 95 = .ok (.iconst 5, 1) := by decide +kernel
theorem dX6_sizeOf_96 : decode cX6_sizeOf 96 = .ok (.if_icmp .ne 9, 3) := by decide +kernel
theorem dX6_sizeOf_99 : decode cX6_sizeOf 99 = .ok (.iconst 2, 1) := by decide +kernel
theorem dX6_sizeOf_100 : decode cX6_sizeOf 100 = .ok (.iload_n 3, 1) := by decide +kernel
theorem dX6_sizeOf_101 : decode cX6_sizeOf 101 = .ok (.imul, 1) := by decide +kernel
theorem dX6_sizeOf_102 : decode cX6_sizeOf 102 = .ok (.goto 4, 3) := by decide +kernel
theorem dX6_sizeOf_105 : decode cX6_sizeOf 105 = .ok (.iload_n 3, 1) := by decide +kernel
theorem dX6_sizeOf_106 : decode cX6_sizeOf 106 = .ok (.ireturn, 1) := by decide +kernel
theorem dX6_ask_0 : decode cX6_ask 0 = .ok (.aload_n 0, 1) := by decide +kernel
theorem dX6_ask_1 : decode cX6_ask 1 = .ok (.iconst 0, 1) := by decide +kernel
theorem dX6_ask_2 : decode cX6_ask 2 = .ok (.putfield 44, 3) := by decide +kernel
theorem dX6_ask_5 : decode cX6_ask 5 = .ok (.aload_n 0, 1) := by decide +kernel
theorem dX6_ask_6 : decode cX6_ask 6 = .ok (.iload_n 1, 1) := by decide +kernel
theorem dX6_ask_7 : decode cX6_ask 7 = .ok (.invokevirtual 211, 3) := by decide +kernel
theorem dX6_ask_10 : decode cX6_ask 10 = .ok (.ifCond .eq 13, 3) := by decide +kernel
theorem dX6_ask_13 : decode cX6_ask 13 = .ok (.iload_n 2, 1) := by decide +kernel
theorem dX6_ask_14 : decode cX6_ask 14 = .ok (.i2l, 1) := by decide +kernel
theorem dX6_ask_15 : decode cX6_ask 15 = .ok (.lconst 0, 1) := by decide +kernel
theorem dX6_ask_16 : decode cX6_ask 16 = .ok (.lconst 1, 1) := by decide +kernel
theorem dX6_ask_17 : decode cX6_ask 17 = .ok (.invokestatic 54, 3) := by decide +kernel
theorem dX6_ask_20 : decode cX6_ask 20 = .ok (.ifCond .ne 6, 3) := by decide +kernel
theorem dX6_ask_23 : decode cX6_ask 23 = .ok (.ldc 64, 2) := by decide +kernel
theorem dX6_ask_25 : decode cX6_ask 25 = .ok (.ireturn, 1) := by decide +kernel
theorem dX6_ask_26 : decode cX6_ask 26 = .ok (.aload_n 0, 1) := by decide +kernel
theorem dX6_ask_27 : decode cX6_ask 27 = .ok (.iconst 0, 1) := by decide +kernel
theorem dX6_ask_28 : decode cX6_ask 28 = .ok (.putfield 280, 3) := by decide +kernel
theorem dX6_ask_31 : decode cX6_ask 31 = .ok (.iload_n 2, 1) := by decide +kernel
theorem dX6_ask_32 : decode cX6_ask 32 = .ok (.ifCond .ne 11, 3) := by decide +kernel
theorem dX6_ask_35 : decode cX6_ask 35 = .ok (.aload_n 0, 1) := by decide +kernel
theorem dX6_ask_36 : decode cX6_ask 36 = .ok (.iload_n 1, 1) := by decide +kernel
theorem dX6_ask_37 : decode cX6_ask 37 = .ok (.invokevirtual 292, 3) := by decide +kernel
theorem dX6_ask_40 : decode cX6_ask 40 = .ok (.goto 8, 3) := by decide +kernel
theorem dX6_ask_43 : decode cX6_ask 43 = .ok (.aload_n 0, 1) := by decide +kernel
theorem dX6_ask_44 : decode cX6_ask 44 = .ok (.iload_n 1, 1) := by decide +kernel
theorem dX6_ask_45 : decode cX6_ask 45 = .ok (.invokevirtual 289, 3) := by decide +kernel
theorem dX6_ask_48 : decode cX6_ask 48 = .ok (.ireturn, 1) := by decide +kernel
theorem dX6_trace_0 : decode cX6_trace 0 = .ok (.aload_n 0, 1) := by decide +kernel
theorem dX6_trace_1 : decode cX6_trace 1 = .ok (.iconst 0, 1) := by decide +kernel
theorem dX6_trace_2 : decode cX6_trace 2 = .ok (.putfield 44, 3) := by decide +kernel
theorem dX6_trace_5 : decode cX6_trace 5 = .ok (.iload_n 1, 1) := by decide +kernel
theorem dX6_trace_6 : decode cX6_trace 6 = .ok (.i2l, 1) := by decide +kernel
theorem dX6_trace_7 : decode cX6_trace 7 = .ok (.lconst 0, 1) := by decide +kernel
theorem dX6_trace_8 : decode cX6_trace 8 = .ok (.aload_n 0, 1) := by decide +kernel
theorem dX6_trace_9 : decode cX6_trace 9 = .ok (.getfield 280, 3) := by decide +kernel
theorem dX6_trace_12 : decode cX6_trace 12 = .ok (.iconst 1, 1) := by decide +kernel
theorem dX6_trace_13 : decode cX6_trace 13 = .ok (.isub, 1) := by decide +kernel
theorem dX6_trace_14 : decode cX6_trace 14 = .ok (.i2l, 1) := by decide +kernel
theorem dX6_trace_15 : decode cX6_trace 15 = .ok (.invokestatic 54, 3) := by decide +kernel
theorem dX6_trace_18 : decode cX6_trace 18 = .ok (.ifCond .eq 12, 3) := by decide +kernel
theorem dX6_trace_21 : decode cX6_trace 21 = .ok (.aload_n 0, 1) := by decide +kernel
theorem dX6_trace_22 : decode cX6_trace 22 = .ok (.getfield 41, 3) := by decide +kernel
theorem dX6_trace_25 : decode cX6_trace 25 = .ok (.iload_n 1, 1) := by decide +kernel
theorem dX6_trace_26 : decode cX6_trace 26 = .ok (.iaload, 1) := by decide +kernel
theorem dX6_trace_27 : decode cX6_trace 27 = .ok (.goto 5, 3) := by decide +kernel
theorem dX6_trace_30 : decode cX6_trace 30 = .ok (.ldc 80, 2) := by decide +kernel
theorem dX6_trace_32 : decode cX6_trace 32 = .ok (.ireturn, 1) := by decide +kernel
theorem dX6_count_0 : decode cX6_count 0 = .ok (.aload_n 0, 1) := by decide +kernel
theorem dX6_count_1 : decode cX6_count 1 = .ok (.iconst 0, 1) := by decide +kernel
theorem dX6_count_2 : decode cX6_count 2 = .ok (.putfield 44, 3) := by decide +kernel
theorem dX6_count_5 : decode cX6_count 5 = .ok (.iconst 0, 1) := by decide +kernel
theorem dX6_count_6 : decode cX6_count 6 = .ok (.istore_n 2, 1) := by decide +kernel
theorem dX6_count_7 : decode cX6_count 7 = .ok (.iload_n 1, 1) := by decide +kernel
theorem dX6_count_8 : decode cX6_count 8 = .ok (.tableswitch 103 0 6 #[44, 77, 77, 77, 86, 91, 98], 44) := by decide +kernel
theorem dX6_count_52 : decode cX6_count 52 = .ok (.iconst 0, 1) := by decide +kernel
theorem dX6_count_53 : decode cX6_count 53 = .ok (.istore_n 3, 1) := by decide +kernel
theorem dX6_count_54 : decode cX6_count 54 = .ok (.iload_n 3, 1) := by decide +kernel
theorem dX6_count_55 : decode cX6_count 55 = .ok (.bipush 8, 2) := by decide +kernel
theorem dX6_count_57 : decode cX6_count 57 = .ok (.if_icmp .ge 26, 3) := by decide +kernel
theorem dX6_count_60 : decode cX6_count 60 = .ok (.iload_n 2, 1) := by decide +kernel
theorem dX6_count_61 : decode cX6_count 61 = .ok (.aload_n 0, 1) := by decide +kernel
theorem dX6_count_62 : decode cX6_count 62 = .ok (.getfield 7, 3) := by decide +kernel
theorem dX6_count_65 : decode cX6_count 65 = .ok (.iload_n 3, 1) := by decide +kernel
theorem dX6_count_66 : decode cX6_count 66 = .ok (.iaload, 1) := by decide +kernel
theorem dX6_count_67 : decode cX6_count 67 = .ok (.ifCond .lt 7, 3) := by decide +kernel
theorem dX6_count_70 : decode cX6_count 70 = .ok (.iconst 1, 1) := by decide +kernel
theorem dX6_count_71 : decode cX6_count 71 = .ok (.goto 4, 3) := by decide +kernel
theorem dX6_count_74 : decode cX6_count 74 = .ok (.iconst 0, 1) := by decide +kernel
theorem dX6_count_75 : decode cX6_count 75 = .ok (.iadd, 1) := by decide +kernel
theorem dX6_count_76 : decode cX6_count 76 = .ok (.istore_n 2, 1) := by decide +kernel
theorem dX6_count_77 : decode cX6_count 77 = .ok (.iinc 3 1, 3) := by decide +kernel
theorem dX6_count_80 : decode cX6_count 80 = .ok (.goto (-26), 3) := by decide +kernel
theorem dX6_count_83 : decode cX6_count 83 = .ok (.iload_n 2, 1) := by decide +kernel
theorem dX6_count_84 : decode cX6_count 84 = .ok (.ireturn, 1) := by decide +kernel
theorem dX6_count_85 : decode cX6_count 85 = .ok (.aload_n 0, 1) := by decide +kernel
theorem dX6_count_86 : decode cX6_count 86 = .ok (.getfield 19, 3) := by decide +kernel
theorem dX6_count_89 : decode cX6_count 89 = .ok (.iload_n 1, 1) := by decide +kernel
theorem dX6_count_90 : decode cX6_count 90 = .ok (.iconst 1, 1) := by decide +kernel
theorem dX6_count_91 : decode cX6_count 91 = .ok (.isub, 1) := by decide +kernel
theorem dX6_count_92 : decode cX6_count 92 = .ok (.iaload, 1) := by decide +kernel
theorem dX6_count_93 : decode cX6_count 93 = .ok (.ireturn, 1) := by decide +kernel
theorem dX6_count_94 : decode cX6_count 94 = .ok (.aload_n 0, 1) := by decide +kernel
theorem dX6_count_95 : decode cX6_count 95 = .ok (.getfield 190, 3) := by decide +kernel
theorem dX6_count_98 : decode cX6_count 98 = .ok (.ireturn, 1) := by decide +kernel
theorem dX6_count_99 : decode cX6_count 99 = .ok (.aload_n 0, 1) := by decide +kernel
theorem dX6_count_100 : decode cX6_count 100 = .ok (.getfield 19, 3) := by decide +kernel
theorem dX6_count_103 : decode cX6_count 103 = .ok (.iconst 3, 1) := by decide +kernel
theorem dX6_count_104 : decode cX6_count 104 = .ok (.iaload, 1) := by decide +kernel
theorem dX6_count_105 : decode cX6_count 105 = .ok (.ireturn, 1) := by decide +kernel
theorem dX6_count_106 : decode cX6_count 106 = .ok (.aload_n 0, 1) := by decide +kernel
theorem dX6_count_107 : decode cX6_count 107 = .ok (.getfield 71, 3) := by decide +kernel
theorem dX6_count_110 : decode cX6_count 110 = .ok (.ireturn, 1) := by decide +kernel
theorem dX6_count_111 : decode cX6_count 111 = .ok (.ldc 64, 2) := by decide +kernel
theorem dX6_count_113 : decode cX6_count 113 = .ok (.ireturn, 1) := by decide +kernel
theorem dX6_status_0 : decode cX6_status 0 = .ok (.aload_n 0, 1) := by decide +kernel
theorem dX6_status_1 : decode cX6_status 1 = .ok (.iconst 0, 1) := by decide +kernel
theorem dX6_status_2 : decode cX6_status 2 = .ok (.putfield 44, 3) := by decide +kernel
theorem dX6_status_5 : decode cX6_status 5 = .ok (.aload_n 0, 1) := by decide +kernel
theorem dX6_status_6 : decode cX6_status 6 = .ok (.getfield 48, 3) := by decide +kernel
theorem dX6_status_9 : decode cX6_status 9 = .ok (.ireturn, 1) := by decide +kernel
end
section
/-! NUMBERS: an int as a natural (nI), as an integer (zI), as a truth (xb) -/
def zI (z : Int) : Int32 := Int32.ofInt z
def xb (P : Prop) [Decidable P] : Int32 := if P then 1 else 0
theorem zN (n : Nat) : nI n = zI (n : Int) := rfl
theorem zI_add (a b : Int) : zI a + zI b = zI (a + b) := by simp [zI, Int32.ofInt_add]
theorem zI_mul (a b : Int) : zI a * zI b = zI (a * b) := by simp [zI, Int32.ofInt_mul]
theorem zI_neg (a : Int) : - zI a = zI (-a) := by simp [zI, Int32.ofInt_neg]
theorem zI_sub (a b : Int) : zI a - zI b = zI (a - b) := by rw [Int32.sub_eq_add_neg, zI_neg, zI_add, Int.sub_eq_add_neg]
theorem zI_toInt {z : Int} (h1 : -2147483648 ≤ z) (h2 : z < 2147483648) : (zI z).toInt = z := by
  show (Int32.ofInt z).toInt = z
  rw [Int32.toInt_ofInt, show Int32.size = 4294967296 from rfl]
  exact Int.bmod_eq_of_le (by omega) (by omega)
theorem zI_of (x : Int32) : zI x.toInt = x := Int32.ofInt_toInt x
theorem xnat {x : Int32} {n : Nat} (h0 : 0 ≤ x.toInt) (h1 : x.toInt < n) : ∃ j : Nat, j < n ∧ x = nI j := by
  refine ⟨x.toInt.toNat, by omega, ?_⟩
  rw [zN, show ((x.toInt.toNat : Nat) : Int) = x.toInt by omega, zI_of]
theorem nI_sub {a b : Nat} (h : b ≤ a) : nI a - nI b = nI (a - b) := by
  rw [zN, zN, zN, zI_sub, show ((a - b : Nat) : Int) = (a : Int) - b by omega]
theorem nI_mul (a b : Nat) : nI a * nI b = nI (a * b) := by rw [zN, zN, zN, zI_mul]; congr 1
theorem nI_inj {a b : Nat} (ha : a < 2147483648) (hb : b < 2147483648) (h : nI a = nI b) : a = b := by
  have := congrArg Int32.toInt h
  rw [nI_toInt (by omega), nI_toInt (by omega)] at this
  omega
theorem xb_t {P : Prop} [Decidable P] (h : P) : xb P = 1 := if_pos h
theorem xb_f {P : Prop} [Decidable P] (h : ¬ P) : xb P = 0 := if_neg h
theorem xb_n1 {P : Prop} [Decidable P] (h : P) : nI 1 = xb P := (if_pos h).symm
theorem xb_n0 {P : Prop} [Decidable P] (h : ¬ P) : nI 0 = xb P := (if_neg h).symm
theorem xb_iff {P Q : Prop} [Decidable P] [Decidable Q] (h : P ↔ Q) : xb P = xb Q := by unfold xb; simp [h]
theorem xb_toInt {P : Prop} [Decidable P] : (xb P).toInt = if P then 1 else 0 := by unfold xb; split <;> rfl
theorem xb_nar {P : Prop} [Decidable P] : narrow .boolean (.int (xb P)) = .int (xb P) := by unfold xb; split <;> rfl
theorem xb_fit {P : Prop} [Decidable P] : fits .boolean (.int (xb P)) = true := by unfold xb; split <;> rfl
theorem toInt_eq {x y : Int32} : x = y ↔ x.toInt = y.toInt := Int32.toInt_inj.symm
theorem i64_of (x : Int32) : x.toInt64.toInt = x.toInt := Int32.toInt_toInt64 x
section
variable {X : xX} {own : String} {cc : ByteArray} {nL lv kc ks n cs sl pc : Nat} {I : xM} {R : xR} {L : List (Nat × Value)} {st : List Value}
theorem i0 : (0 : Int32).toInt = 0 := rfl
theorem g_cz_eq (hX : xOK X own cc nL lv kc ks) {x : Int32} {a : Int} {off : Int} {tgt : Nat} (hd : decode cc pc = .ok (.ifCond .eq off, 3)) (ht : (pc : Int) + off = (tgt : Int)) (ha : x.toInt = a) (kt : a = 0 → G X n cs sl I R tgt L st) (kf : a ≠ 0 → G X n cs sl I R (pc + 3) L st) : G X n cs sl I R pc L (.int x :: st) := g_if_eq hX hd ht (fun h => kt (by rw [← ha, h]; rfl)) (fun h => kf (fun e => h (toInt_eq.mpr (by rw [ha, e]; rfl))))
theorem g_cz_ne (hX : xOK X own cc nL lv kc ks) {x : Int32} {a : Int} {off : Int} {tgt : Nat} (hd : decode cc pc = .ok (.ifCond .ne off, 3)) (ht : (pc : Int) + off = (tgt : Int)) (ha : x.toInt = a) (kt : a ≠ 0 → G X n cs sl I R tgt L st) (kf : a = 0 → G X n cs sl I R (pc + 3) L st) : G X n cs sl I R pc L (.int x :: st) := g_if_ne hX hd ht (fun h => kt (fun e => h (toInt_eq.mpr (by rw [ha, e]; rfl)))) (fun h => kf (by rw [← ha, h]; rfl))
theorem g_cz_lt (hX : xOK X own cc nL lv kc ks) {x : Int32} {a : Int} {off : Int} {tgt : Nat} (hd : decode cc pc = .ok (.ifCond .lt off, 3)) (ht : (pc : Int) + off = (tgt : Int)) (ha : x.toInt = a) (kt : a < 0 → G X n cs sl I R tgt L st) (kf : 0 ≤ a → G X n cs sl I R (pc + 3) L st) : G X n cs sl I R pc L (.int x :: st) := g_if_lt hX hd ht (fun h => kt (by rw [← ha]; exact Int32.lt_iff_toInt_lt.mp h)) (fun h => kf (by rw [← ha]; exact Int.not_lt.mp (fun z => h (Int32.lt_iff_toInt_lt.mpr z))))
theorem g_cz_ge (hX : xOK X own cc nL lv kc ks) {x : Int32} {a : Int} {off : Int} {tgt : Nat} (hd : decode cc pc = .ok (.ifCond .ge off, 3)) (ht : (pc : Int) + off = (tgt : Int)) (ha : x.toInt = a) (kt : 0 ≤ a → G X n cs sl I R tgt L st) (kf : a < 0 → G X n cs sl I R (pc + 3) L st) : G X n cs sl I R pc L (.int x :: st) := g_if_ge hX hd ht (fun h => kt (by rw [← ha]; exact Int32.le_iff_toInt_le.mp h)) (fun h => kf (by rw [← ha]; exact Int.not_le.mp (fun z => h (Int32.le_iff_toInt_le.mpr z))))
theorem g_cz_gt (hX : xOK X own cc nL lv kc ks) {x : Int32} {a : Int} {off : Int} {tgt : Nat} (hd : decode cc pc = .ok (.ifCond .gt off, 3)) (ht : (pc : Int) + off = (tgt : Int)) (ha : x.toInt = a) (kt : 0 < a → G X n cs sl I R tgt L st) (kf : a ≤ 0 → G X n cs sl I R (pc + 3) L st) : G X n cs sl I R pc L (.int x :: st) := g_if_gt hX hd ht (fun h => kt (by rw [← ha]; exact Int32.lt_iff_toInt_lt.mp h)) (fun h => kf (by rw [← ha]; exact Int.not_lt.mp (fun z => h (Int32.lt_iff_toInt_lt.mpr z))))
theorem g_cz_le (hX : xOK X own cc nL lv kc ks) {x : Int32} {a : Int} {off : Int} {tgt : Nat} (hd : decode cc pc = .ok (.ifCond .le off, 3)) (ht : (pc : Int) + off = (tgt : Int)) (ha : x.toInt = a) (kt : a ≤ 0 → G X n cs sl I R tgt L st) (kf : 0 < a → G X n cs sl I R (pc + 3) L st) : G X n cs sl I R pc L (.int x :: st) := g_if_le hX hd ht (fun h => kt (by rw [← ha]; exact Int32.le_iff_toInt_le.mp h)) (fun h => kf (by rw [← ha]; exact Int.not_le.mp (fun z => h (Int32.le_iff_toInt_le.mpr z))))
theorem g_ci_eq (hX : xOK X own cc nL lv kc ks) {x y : Int32} {a b : Int} {off : Int} {tgt : Nat} (hd : decode cc pc = .ok (.if_icmp .eq off, 3)) (ht : (pc : Int) + off = (tgt : Int)) (ha : x.toInt = a) (hb : y.toInt = b) (kt : a = b → G X n cs sl I R tgt L st) (kf : a ≠ b → G X n cs sl I R (pc + 3) L st) : G X n cs sl I R pc L (.int y :: .int x :: st) := g_icmp_eq hX hd ht (fun h => kt (by rw [← ha, ← hb, h])) (fun h => kf (fun e => h (toInt_eq.mpr (by rw [ha, hb, e]))))
theorem g_ci_ne (hX : xOK X own cc nL lv kc ks) {x y : Int32} {a b : Int} {off : Int} {tgt : Nat} (hd : decode cc pc = .ok (.if_icmp .ne off, 3)) (ht : (pc : Int) + off = (tgt : Int)) (ha : x.toInt = a) (hb : y.toInt = b) (kt : a ≠ b → G X n cs sl I R tgt L st) (kf : a = b → G X n cs sl I R (pc + 3) L st) : G X n cs sl I R pc L (.int y :: .int x :: st) := g_icmp_ne hX hd ht (fun h => kt (fun e => h (toInt_eq.mpr (by rw [ha, hb, e])))) (fun h => kf (by rw [← ha, ← hb, h]))
theorem g_ci_lt (hX : xOK X own cc nL lv kc ks) {x y : Int32} {a b : Int} {off : Int} {tgt : Nat} (hd : decode cc pc = .ok (.if_icmp .lt off, 3)) (ht : (pc : Int) + off = (tgt : Int)) (ha : x.toInt = a) (hb : y.toInt = b) (kt : a < b → G X n cs sl I R tgt L st) (kf : b ≤ a → G X n cs sl I R (pc + 3) L st) : G X n cs sl I R pc L (.int y :: .int x :: st) := g_icmp_lt hX hd ht (fun h => kt (by rw [← ha, ← hb]; exact Int32.lt_iff_toInt_lt.mp h)) (fun h => kf (by rw [← ha, ← hb]; exact Int.not_lt.mp (fun z => h (Int32.lt_iff_toInt_lt.mpr z))))
theorem g_ci_ge (hX : xOK X own cc nL lv kc ks) {x y : Int32} {a b : Int} {off : Int} {tgt : Nat} (hd : decode cc pc = .ok (.if_icmp .ge off, 3)) (ht : (pc : Int) + off = (tgt : Int)) (ha : x.toInt = a) (hb : y.toInt = b) (kt : b ≤ a → G X n cs sl I R tgt L st) (kf : a < b → G X n cs sl I R (pc + 3) L st) : G X n cs sl I R pc L (.int y :: .int x :: st) := g_icmp_ge hX hd ht (fun h => kt (by rw [← ha, ← hb]; exact Int32.le_iff_toInt_le.mp h)) (fun h => kf (by rw [← ha, ← hb]; exact Int.not_le.mp (fun z => h (Int32.le_iff_toInt_le.mpr z))))
theorem g_ci_gt (hX : xOK X own cc nL lv kc ks) {x y : Int32} {a b : Int} {off : Int} {tgt : Nat} (hd : decode cc pc = .ok (.if_icmp .gt off, 3)) (ht : (pc : Int) + off = (tgt : Int)) (ha : x.toInt = a) (hb : y.toInt = b) (kt : b < a → G X n cs sl I R tgt L st) (kf : a ≤ b → G X n cs sl I R (pc + 3) L st) : G X n cs sl I R pc L (.int y :: .int x :: st) := g_icmp_gt hX hd ht (fun h => kt (by rw [← ha, ← hb]; exact Int32.lt_iff_toInt_lt.mp h)) (fun h => kf (by rw [← ha, ← hb]; exact Int.not_lt.mp (fun z => h (Int32.lt_iff_toInt_lt.mpr z))))
theorem g_ci_le (hX : xOK X own cc nL lv kc ks) {x y : Int32} {a b : Int} {off : Int} {tgt : Nat} (hd : decode cc pc = .ok (.if_icmp .le off, 3)) (ht : (pc : Int) + off = (tgt : Int)) (ha : x.toInt = a) (hb : y.toInt = b) (kt : a ≤ b → G X n cs sl I R tgt L st) (kf : b < a → G X n cs sl I R (pc + 3) L st) : G X n cs sl I R pc L (.int y :: .int x :: st) := g_icmp_le hX hd ht (fun h => kt (by rw [← ha, ← hb]; exact Int32.le_iff_toInt_le.mp h)) (fun h => kf (by rw [← ha, ← hb]; exact Int.not_le.mp (fun z => h (Int32.le_iff_toInt_le.mpr z))))
theorem g_cb_eq (hX : xOK X own cc nL lv kc ks) {P : Prop} [Decidable P] {off : Int} {tgt : Nat} (hd : decode cc pc = .ok (.ifCond .eq off, 3)) (ht : (pc : Int) + off = (tgt : Int)) (kt : ¬ P → G X n cs sl I R tgt L st) (kf : P → G X n cs sl I R (pc + 3) L st) : G X n cs sl I R pc L (.int (xb P) :: st) := by
  by_cases h : P
  · exact g_if_eq hX hd ht (fun e => absurd e (by rw [xb_t h]; decide)) (fun _ => kf h)
  · exact g_if_eq hX hd ht (fun _ => kt h) (fun e => absurd (xb_f h) e)
theorem g_cb_ne (hX : xOK X own cc nL lv kc ks) {P : Prop} [Decidable P] {off : Int} {tgt : Nat} (hd : decode cc pc = .ok (.ifCond .ne off, 3)) (ht : (pc : Int) + off = (tgt : Int)) (kt : P → G X n cs sl I R tgt L st) (kf : ¬ P → G X n cs sl I R (pc + 3) L st) : G X n cs sl I R pc L (.int (xb P) :: st) := by
  by_cases h : P
  · exact g_if_ne hX hd ht (fun _ => kt h) (fun e => absurd e (by rw [xb_t h]; decide))
  · exact g_if_ne hX hd ht (fun e => absurd (xb_f h) e) (fun _ => kf h)
/-- the sign of a comparison of longs -/
theorem lcmp_lt {x y : Int64} : (lg_cmp x y).toInt < 0 ↔ x.toInt < y.toInt := by
  unfold lg_cmp
  by_cases h1 : x > y
  · have : y.toInt < x.toInt := Int64.lt_iff_toInt_lt.mp h1
    simp [h1]; first | omega | (constructor <;> intro h <;> first | omega | (exfalso; revert h; decide))
  · have h1' : x.toInt ≤ y.toInt := Int.not_lt.mp (fun z => h1 (Int64.lt_iff_toInt_lt.mpr z))
    by_cases h2 : x = y
    · subst h2; simp [h1]
    · have h3 : x.toInt ≠ y.toInt := fun e => h2 (Int64.toInt_inj.mp e)
      simp [h1, h2]; first | omega | (constructor <;> intro h <;> first | omega | decide)
theorem lcmp_gt {x y : Int64} : 0 < (lg_cmp x y).toInt ↔ y.toInt < x.toInt := by
  unfold lg_cmp
  by_cases h1 : x > y
  · have : y.toInt < x.toInt := Int64.lt_iff_toInt_lt.mp h1
    simp [h1]; first | omega | (constructor <;> intro h <;> first | omega | decide)
  · have h1' : x.toInt ≤ y.toInt := Int.not_lt.mp (fun z => h1 (Int64.lt_iff_toInt_lt.mpr z))
    by_cases h2 : x = y
    · subst h2; simp [h1]
    · have h3 : x.toInt ≠ y.toInt := fun e => h2 (Int64.toInt_inj.mp e)
      simp [h1, h2]; first | omega | (constructor <;> intro h <;> first | omega | (exfalso; revert h; decide))
end
end
section
/-! WHERE THINGS LIE, once both objects are made -/
/-- a garden's number: the one that stands, the spare one, the days', the images' -/
def xG (g : Nat) : Prop := g = 8 ∨ g = 18 ∨ ∃ k, k < 26 ∧ g = 47 + 10 * k
theorem xG_n {g : Nat} (h : xG g) {j : Nat} (hj : j < 10) : g + j < 319 := by rcases h with h | h | ⟨k, h1, h⟩ <;> omega
theorem xG_d {j : Nat} : ∀ k, k < 26 → xK (47 + 10 * k + j) = xK (47 + 10 * k + j) := fun _ _ => rfl
theorem xG_kd : ∀ k, k < 26 → ∀ j, j < 10 → xK (47 + 10 * k + j) = xK2.getD j 99 ∧ xN (47 + 10 * k + j) = xN2.getD j 0 := by decide +kernel
theorem xG_ks : ∀ j, j < 10 → (xK (8 + j) = xK2.getD j 99 ∧ xN (8 + j) = xN2.getD j 0) ∧ (xK (18 + j) = xK2.getD j 99 ∧ xN (18 + j) = xN2.getD j 0) := by decide +kernel
theorem xG_kn {g : Nat} (h : xG g) (j : Nat) (hj : j < 10) : xK (g + j) = xK2.getD j 99 ∧ xN (g + j) = xN2.getD j 0 := by
  rcases h with rfl | rfl | ⟨k, h1, rfl⟩
  · exact (xG_ks j hj).1
  · exact (xG_ks j hj).2
  · exact xG_kd k h1 j hj
theorem xG_K0 {g : Nat} (h : xG g) : xK g = 0 := (xG_kn h 0 (by decide)).1
theorem xG_K1 {g : Nat} (h : xG g) : xK (g + 1) = 8 := (xG_kn h 1 (by decide)).1
theorem xG_K2 {g : Nat} (h : xG g) : xK (g + 2) = 8 := (xG_kn h 2 (by decide)).1
theorem xG_K3 {g : Nat} (h : xG g) : xK (g + 3) = 8 := (xG_kn h 3 (by decide)).1
theorem xG_K4 {g : Nat} (h : xG g) : xK (g + 4) = 8 := (xG_kn h 4 (by decide)).1
theorem xG_K5 {g : Nat} (h : xG g) : xK (g + 5) = 8 := (xG_kn h 5 (by decide)).1
theorem xG_K6 {g : Nat} (h : xG g) : xK (g + 6) = 8 := (xG_kn h 6 (by decide)).1
theorem xG_K7 {g : Nat} (h : xG g) : xK (g + 7) = 8 := (xG_kn h 7 (by decide)).1
theorem xG_K8 {g : Nat} (h : xG g) : xK (g + 8) = 8 := (xG_kn h 8 (by decide)).1
theorem xG_K9 {g : Nat} (h : xG g) : xK (g + 9) = 9 := (xG_kn h 9 (by decide)).1
theorem xG_N1 {g : Nat} (h : xG g) : xN (g + 1) = 20 := (xG_kn h 1 (by decide)).2
theorem xG_N2 {g : Nat} (h : xG g) : xN (g + 2) = 6 := (xG_kn h 2 (by decide)).2
theorem xG_N3 {g : Nat} (h : xG g) : xN (g + 3) = 6 := (xG_kn h 3 (by decide)).2
theorem xG_N4 {g : Nat} (h : xG g) : xN (g + 4) = 6 := (xG_kn h 4 (by decide)).2
theorem xG_N5 {g : Nat} (h : xG g) : xN (g + 5) = 6 := (xG_kn h 5 (by decide)).2
theorem xG_N6 {g : Nat} (h : xG g) : xN (g + 6) = 6 := (xG_kn h 6 (by decide)).2
theorem xG_N7 {g : Nat} (h : xG g) : xN (g + 7) = 6 := (xG_kn h 7 (by decide)).2
theorem xG_N8 {g : Nat} (h : xG g) : xN (g + 8) = 6 := (xG_kn h 8 (by decide)).2
theorem xG_N9 {g : Nat} (h : xG g) : xN (g + 9) = 6 := (xG_kn h 9 (by decide)).2
theorem xW_kd : ∀ r, r < 8 → xK (31 + 2 * r) = 2 ∧ xK (32 + 2 * r) = 8 ∧ xN (32 + 2 * r) = 40 := by decide +kernel
theorem xW_n {r : Nat} (h : r < 8) {j : Nat} (hj : j < 2) : 31 + 2 * r + j < 319 := by omega
theorem xW_K0 {r : Nat} (h : r < 8) : xK (31 + 2 * r) = 2 := (xW_kd r h).1
theorem xW_K1 {r : Nat} (h : r < 8) : xK (32 + 2 * r) = 8 := (xW_kd r h).2.1
theorem xW_N1 {r : Nat} (h : r < 8) : xN (32 + 2 * r) = 40 := (xW_kd r h).2.2
def xRL (nw sp : Nat) : xR := fun i k =>
  if i = 307 then ([none, none, some 308, some 309, some 310, some 311, some 312, none, some 313, none, some 314, none, none, none, none, none, none, none, none, none, some 315, some 316, some 317, some 318] : List (Option Nat)).getD k none
  else if i = 0 then ([some 1, some 2, some 4, some 6, some nw, some sp, none, some 28, none, none, some 29, some 30] : List (Option Nat)).getD k none
  else if i = 1 then (if k < 8 then some (31 + 2 * k) else none)
  else if i = 2 then (if k = 0 then some 3 else none)
  else if i = 4 then (if k = 0 then some 5 else none)
  else if i = 6 then (if k = 0 then some 7 else none)
  else if i = 28 then (if k < 24 then some (47 + 10 * k) else none)
  else if i = 29 then (if k < 2 then some (287 + 10 * k) else none)
  else if xK i = 0 then (([some 1, none, none, none, some 2, some 3, some 4, some 5, some 6, none, some 7, some 8, some 9] : List (Option Nat)).getD k none).map (fun o => i + o)
  else if xK i = 2 then (if k = 3 then some (i + 1) else none)
  else none
theorem xRL_g {g : Nat} (h : xG g) (nw sp k : Nat) : xRL nw sp g k = (([some 1, none, none, none, some 2, some 3, some 4, some 5, some 6, none, some 7, some 8, some 9] : List (Option Nat)).getD k none).map (fun o => g + o) := by
  have hk := xG_K0 h
  have h0 : g ≠ 307 ∧ g ≠ 0 ∧ g ≠ 1 ∧ g ≠ 2 ∧ g ≠ 4 ∧ g ≠ 6 ∧ g ≠ 28 ∧ g ≠ 29 := by rcases h with h | h | ⟨k, h1, h⟩ <;> omega
  simp only [xRL, hk, h0.1, h0.2.1, h0.2.2.1, h0.2.2.2.1, h0.2.2.2.2.1, h0.2.2.2.2.2.1, h0.2.2.2.2.2.2.1, h0.2.2.2.2.2.2.2, if_false, if_true]
theorem xRL_g0 {nw sp g : Nat} (h : xG g) : xRL nw sp g 0 = some (g + 1) := xRL_g h nw sp 0
theorem xRL_g4 {nw sp g : Nat} (h : xG g) : xRL nw sp g 4 = some (g + 2) := xRL_g h nw sp 4
theorem xRL_g5 {nw sp g : Nat} (h : xG g) : xRL nw sp g 5 = some (g + 3) := xRL_g h nw sp 5
theorem xRL_g6 {nw sp g : Nat} (h : xG g) : xRL nw sp g 6 = some (g + 4) := xRL_g h nw sp 6
theorem xRL_g7 {nw sp g : Nat} (h : xG g) : xRL nw sp g 7 = some (g + 5) := xRL_g h nw sp 7
theorem xRL_g8 {nw sp g : Nat} (h : xG g) : xRL nw sp g 8 = some (g + 6) := xRL_g h nw sp 8
theorem xRL_g10 {nw sp g : Nat} (h : xG g) : xRL nw sp g 10 = some (g + 7) := xRL_g h nw sp 10
theorem xRL_g11 {nw sp g : Nat} (h : xG g) : xRL nw sp g 11 = some (g + 8) := xRL_g h nw sp 11
theorem xRL_g12 {nw sp g : Nat} (h : xG g) : xRL nw sp g 12 = some (g + 9) := xRL_g h nw sp 12
theorem xRL_w {nw sp r : Nat} (h : r < 8) : xRL nw sp (31 + 2 * r) 3 = some (32 + 2 * r) := by
  have hk := xW_K0 h
  have h0 : 31 + 2 * r ≠ 307 ∧ 31 + 2 * r ≠ 0 ∧ 31 + 2 * r ≠ 1 ∧ 31 + 2 * r ≠ 2 ∧ 31 + 2 * r ≠ 4 ∧ 31 + 2 * r ≠ 6 ∧ 31 + 2 * r ≠ 28 ∧ 31 + 2 * r ≠ 29 := by omega
  simp only [xRL, hk, h0.1, h0.2.1, h0.2.2.1, h0.2.2.2.1, h0.2.2.2.2.1, h0.2.2.2.2.2.1, h0.2.2.2.2.2.2.1, h0.2.2.2.2.2.2.2, if_false, if_true, show ¬ (2 : Nat) = 0 by decide]
  congr 1
  omega
theorem xRL_rows {nw sp r : Nat} (h : r < 8) : xRL nw sp 1 r = some (31 + 2 * r) := by simp [xRL, h]
theorem xRL_days {nw sp k : Nat} (h : k < 24) : xRL nw sp 28 k = some (47 + 10 * k) := by simp [xRL, h]
theorem xRL_images {nw sp k : Nat} (h : k < 2) : xRL nw sp 29 k = some (287 + 10 * k) := by simp [xRL, h]
theorem xput_e {I : xM} {a k : Nat} {v : Int32} : xput I a k v a k = v := by simp [xput, va_up, upd]
theorem xput_i {I : xM} {a k j : Nat} {v w : Int32} (h : j ≠ k) (e : I a j = w) : xput I a k v a j = w := by simp [xput, va_up, upd, h, e]
theorem xput_o {I : xM} {a b k j : Nat} {v w : Int32} (h : b ≠ a) (e : I b j = w) : xput I a k v b j = w := by simp [xput, va_up, h, e]
theorem xrow_o {I : xM} {a b : Nat} {f : Nat → Int32} (h : b ≠ a) : xrow I a f b = I b := va_up_ne _ _ h
theorem xrow_e {I : xM} {a : Nat} {f : Nat → Int32} : xrow I a f a = f := va_up_self _ _ _
theorem xb_nar9 {P : Prop} [Decidable P] : vp_nar .boolean (xb P) = xb P := by unfold xb; split <;> decide
/-! ENDS, by kind -/
def xpI (e : Int32) (n : Nat) (I : xM) (R : xR) : xP := fun v n' I' R' => v = some (.int e) ∧ n' = n ∧ I' = I ∧ R' = R
def xpJ (e : Int64) (n : Nat) (I : xM) (R : xR) : xP := fun v n' I' R' => v = some (.long e) ∧ n' = n ∧ I' = I ∧ R' = R
def xpV (n : Nat) (I : xM) (R : xR) : xP := fun v n' I' R' => v = none ∧ n' = n ∧ I' = I ∧ R' = R
def xpR (n : Nat) (R : xR) (P : Int32 → xM → Prop) : xP := fun v n' I' R' => ∃ r, v = some (.int r) ∧ n' = n ∧ P r I' ∧ R' = R
def xpW (n : Nat) (R : xR) (P : xM → Prop) : xP := fun v n' I' R' => v = none ∧ n' = n ∧ P I' ∧ R' = R
section
variable {X : xX} {own : String} {cc : ByteArray} {nL lv kc ks n cs sl pc : Nat} {I J : xM} {R : xR} {L : List (Nat × Value)} {st stk : List Value}
variable {y : MethodName} {b : ByteArray} {maxL lvc np index : Nat} {ret : Option FieldType} {as : List Value}
theorem g_callVi (hX : xOK X own cc nL lv kc ks) {i c N : Nat} {C : String} {T : u_T} {ty : Nat → FieldType} {e : Int32} (hM : ∀ l, xC l lvc 0 0 y b maxL ret n (.ref i :: as) I R (xpI e n J R)) (hy : xMt y b maxL ret np) (hv : xMv y) (hlk : xLm own index y) (hn : i < n) (hc : xK i = c) (hC : xCl c C T N ty) (hyC : y.cls = C) (hlen : as.length = np) (hd : decode cc pc = .ok (.invokevirtual index, 3)) (hst : stk = as.reverse ++ .ref i :: st) (hlv : lvc + 1 ≤ lv) (hroom : (st.map fun v => v.category).sum ≤ 8) (hcs : cs ≤ kc) (hsl : sl ≤ ks)
    (kk : G X n cs sl J R (pc + 3) L (.int e :: st)) : G X n cs sl I R pc L stk := by
  refine g_callV hX hM hy hv hlk hn hc hC hyC hlen hd hst hlv hroom hcs hsl (fun v n' I' R' h => ?_)
  obtain ⟨rfl, rfl, rfl, rfl⟩ := h
  exact ⟨rfl, kk⟩
theorem g_callVl (hX : xOK X own cc nL lv kc ks) {i c N : Nat} {C : String} {T : u_T} {ty : Nat → FieldType} {e : Int64} (hM : ∀ l, xC l lvc 0 0 y b maxL ret n (.ref i :: as) I R (xpJ e n J R)) (hy : xMt y b maxL ret np) (hv : xMv y) (hlk : xLm own index y) (hn : i < n) (hc : xK i = c) (hC : xCl c C T N ty) (hyC : y.cls = C) (hlen : as.length = np) (hd : decode cc pc = .ok (.invokevirtual index, 3)) (hst : stk = as.reverse ++ .ref i :: st) (hlv : lvc + 1 ≤ lv) (hroom : (st.map fun v => v.category).sum ≤ 8) (hcs : cs ≤ kc) (hsl : sl ≤ ks)
    (kk : G X n cs sl J R (pc + 3) L (.long e :: st)) : G X n cs sl I R pc L stk := by
  refine g_callV hX hM hy hv hlk hn hc hC hyC hlen hd hst hlv hroom hcs hsl (fun v n' I' R' h => ?_)
  obtain ⟨rfl, rfl, rfl, rfl⟩ := h
  exact ⟨rfl, kk⟩
theorem g_callVv (hX : xOK X own cc nL lv kc ks) {i c N : Nat} {C : String} {T : u_T} {ty : Nat → FieldType} (hM : ∀ l, xC l lvc 0 0 y b maxL ret n (.ref i :: as) I R (xpV n J R)) (hy : xMt y b maxL ret np) (hv : xMv y) (hlk : xLm own index y) (hn : i < n) (hc : xK i = c) (hC : xCl c C T N ty) (hyC : y.cls = C) (hlen : as.length = np) (hd : decode cc pc = .ok (.invokevirtual index, 3)) (hst : stk = as.reverse ++ .ref i :: st) (hlv : lvc + 1 ≤ lv) (hroom : (st.map fun v => v.category).sum ≤ 8) (hcs : cs ≤ kc) (hsl : sl ≤ ks)
    (kk : G X n cs sl J R (pc + 3) L st) : G X n cs sl I R pc L stk := by
  refine g_callV hX hM hy hv hlk hn hc hC hyC hlen hd hst hlv hroom hcs hsl (fun v n' I' R' h => ?_)
  obtain ⟨rfl, rfl, rfl, rfl⟩ := h
  exact ⟨rfl, kk⟩
theorem g_callVr (hX : xOK X own cc nL lv kc ks) {i c N : Nat} {C : String} {T : u_T} {ty : Nat → FieldType} {P : Int32 → xM → Prop} (hM : ∀ l, xC l lvc 0 0 y b maxL ret n (.ref i :: as) I R (xpR n R P)) (hy : xMt y b maxL ret np) (hv : xMv y) (hlk : xLm own index y) (hn : i < n) (hc : xK i = c) (hC : xCl c C T N ty) (hyC : y.cls = C) (hlen : as.length = np) (hd : decode cc pc = .ok (.invokevirtual index, 3)) (hst : stk = as.reverse ++ .ref i :: st) (hlv : lvc + 1 ≤ lv) (hroom : (st.map fun v => v.category).sum ≤ 8) (hcs : cs ≤ kc) (hsl : sl ≤ ks)
    (kk : ∀ (e : Int32) (J : xM), P e J → G X n cs sl J R (pc + 3) L (.int e :: st)) : G X n cs sl I R pc L stk := by
  refine g_callV hX hM hy hv hlk hn hc hC hyC hlen hd hst hlv hroom hcs hsl (fun v n' I' R' h => ?_)
  obtain ⟨e, rfl, rfl, hp, rfl⟩ := h
  exact ⟨rfl, kk e I' hp⟩
theorem g_callVrv (hX : xOK X own cc nL lv kc ks) {i c N : Nat} {C : String} {T : u_T} {ty : Nat → FieldType} {P : xM → Prop} (hM : ∀ l, xC l lvc 0 0 y b maxL ret n (.ref i :: as) I R (xpW n R P)) (hy : xMt y b maxL ret np) (hv : xMv y) (hlk : xLm own index y) (hn : i < n) (hc : xK i = c) (hC : xCl c C T N ty) (hyC : y.cls = C) (hlen : as.length = np) (hd : decode cc pc = .ok (.invokevirtual index, 3)) (hst : stk = as.reverse ++ .ref i :: st) (hlv : lvc + 1 ≤ lv) (hroom : (st.map fun v => v.category).sum ≤ 8) (hcs : cs ≤ kc) (hsl : sl ≤ ks)
    (kk : ∀ (J : xM), P J → G X n cs sl J R (pc + 3) L st) : G X n cs sl I R pc L stk := by
  refine g_callV hX hM hy hv hlk hn hc hC hyC hlen hd hst hlv hroom hcs hsl (fun v n' I' R' h => ?_)
  obtain ⟨rfl, rfl, hp, rfl⟩ := h
  exact ⟨rfl, kk I' hp⟩
theorem g_callSi (hX : xOK X own cc nL lv kc ks) {e : Int32} (hM : ∀ l, xC l lvc 0 0 y b maxL ret n as I R (xpI e n J R)) (hy : xMt y b maxL ret np) (hv : Cond.static y ∈ xgw) (hlk : xLm own index y) (hlen : as.length = np) (hd : decode cc pc = .ok (.invokestatic index, 3)) (hst : stk = as.reverse ++ st) (hlv : lvc + 1 ≤ lv) (hroom : (st.map fun v => v.category).sum ≤ 8) (hcs : cs ≤ kc) (hsl : sl ≤ ks)
    (kk : G X n cs sl J R (pc + 3) L (.int e :: st)) : G X n cs sl I R pc L stk := by
  refine g_callS hX hM hy hv hlk hlen hd hst hlv hroom hcs hsl (fun v n' I' R' h => ?_)
  obtain ⟨rfl, rfl, rfl, rfl⟩ := h
  exact ⟨rfl, kk⟩
theorem g_callSv (hX : xOK X own cc nL lv kc ks) (hM : ∀ l, xC l lvc 0 0 y b maxL ret n as I R (xpV n J R)) (hy : xMt y b maxL ret np) (hv : Cond.static y ∈ xgw) (hlk : xLm own index y) (hlen : as.length = np) (hd : decode cc pc = .ok (.invokestatic index, 3)) (hst : stk = as.reverse ++ st) (hlv : lvc + 1 ≤ lv) (hroom : (st.map fun v => v.category).sum ≤ 8) (hcs : cs ≤ kc) (hsl : sl ≤ ks)
    (kk : G X n cs sl J R (pc + 3) L st) : G X n cs sl I R pc L stk := by
  refine g_callS hX hM hy hv hlk hlen hd hst hlv hroom hcs hsl (fun v n' I' R' h => ?_)
  obtain ⟨rfl, rfl, rfl, rfl⟩ := h
  exact ⟨rfl, kk⟩
theorem g_callSr (hX : xOK X own cc nL lv kc ks) {P : Int32 → xM → Prop} (hM : ∀ l, xC l lvc 0 0 y b maxL ret n as I R (xpR n R P)) (hy : xMt y b maxL ret np) (hv : Cond.static y ∈ xgw) (hlk : xLm own index y) (hlen : as.length = np) (hd : decode cc pc = .ok (.invokestatic index, 3)) (hst : stk = as.reverse ++ st) (hlv : lvc + 1 ≤ lv) (hroom : (st.map fun v => v.category).sum ≤ 8) (hcs : cs ≤ kc) (hsl : sl ≤ ks)
    (kk : ∀ (e : Int32) (J : xM), P e J → G X n cs sl J R (pc + 3) L (.int e :: st)) : G X n cs sl I R pc L stk := by
  refine g_callS hX hM hy hv hlk hlen hd hst hlv hroom hcs hsl (fun v n' I' R' h => ?_)
  obtain ⟨e, rfl, rfl, hp, rfl⟩ := h
  exact ⟨rfl, kk e I' hp⟩
theorem g_tsI (hX : xOK X own cc nL lv kc ks) {dflt lo hi : Int} {offs : Array Int} {len : Nat} {x : Int32} {a v off : Int} {tgt : Nat} (hd : decode cc pc = .ok (.tableswitch dflt lo hi offs, len)) (ha : x.toInt = a) (hv : a = v) (h1 : lo ≤ v) (h2 : v ≤ hi) (ho : offs[(v - lo).toNat]? = some off) (ht : (pc : Int) + off = (tgt : Int)) (k : G X n cs sl I R tgt L st) : G X n cs sl I R pc L (.int x :: st) :=
  g_tin hX hd (by omega) (by omega) (by rw [ha, hv]; exact ho) ht k
theorem g_tsO (hX : xOK X own cc nL lv kc ks) {dflt lo hi : Int} {offs : Array Int} {len : Nat} {x : Int32} {a : Int} {tgt : Nat} (hd : decode cc pc = .ok (.tableswitch dflt lo hi offs, len)) (ha : x.toInt = a) (h : a < lo ∨ hi < a) (ht : (pc : Int) + dflt = (tgt : Int)) (k : G X n cs sl I R tgt L st) : G X n cs sl I R pc L (.int x :: st) :=
  g_tout hX hd (by rw [ha]; exact h) ht k
end
theorem xb_iffI {v lo hi : Int64} {a b c : Int} (h1 : v.toInt = a) (h2 : lo.toInt = b) (h3 : hi.toInt = c) : xb (Int64.toInt lo ≤ Int64.toInt v ∧ Int64.toInt v ≤ Int64.toInt hi) = xb (b ≤ a ∧ a ≤ c) := by subst h1; subst h2; subst h3; rfl
end
section
theorem c_X6_in (l : Launch) {nw sp : Nat} {I : xM} {v lo hi : Int64}  : xC l 1 0 0 yX6_in cX6_in 6 (some .boolean) 319 [.long v, .long lo, .long hi] I (xRL nw sp) (xpI (xb (Int64.toInt lo ≤ Int64.toInt v ∧ Int64.toInt v ≤ Int64.toInt hi)) 319 I (xRL nw sp)) := by
  refine xC_of (by decide) (Nat.le_of_ble_eq_true rfl) (fun X hXl hX hR => ?_)
  have hX : xOK X RX6 cX6_in 6 1 0 0 := hX
  show G X 319 0 0 I (xRL nw sp) 0 [(0, .long v), (2, .long lo), (4, .long hi)] []
  have e1 := @lcmp_lt v lo
  have e2 := @lcmp_gt v hi
  refine g_lload_n hX dX6_in_0 rfl 0 rfl ?_
  refine g_lload_n hX dX6_in_1 rfl 1 rfl ?_
  refine g_lcmp (v := lg_cmp v lo) hX dX6_in_2 rfl ?_
  refine g_cz_lt (a := (lg_cmp v lo).toInt) (tgt := 17) hX dX6_in_3 (by decide) rfl (fun h3 => ?_) (fun h3 => ?_)
  · refine g_iconst (v := nI 0) hX dX6_in_17 (by decide) ?_
    exact g_zret hX hR dX6_in_18 (by decide) (by decide) (by decide) ⟨congrArg (fun z => some (Value.int z)) (xb_n0 (by omega)), rfl, rfl, rfl⟩
  · refine g_lload_n hX dX6_in_6 rfl 0 rfl ?_
    refine g_lload hX dX6_in_7 2 rfl ?_
    refine g_lcmp (v := lg_cmp v hi) hX dX6_in_9 rfl ?_
    refine g_cz_gt (a := (lg_cmp v hi).toInt) (tgt := 17) hX dX6_in_10 (by decide) rfl (fun h10 => ?_) (fun h10 => ?_)
    · refine g_iconst (v := nI 0) hX dX6_in_17 (by decide) ?_
      exact g_zret hX hR dX6_in_18 (by decide) (by decide) (by decide) ⟨congrArg (fun z => some (Value.int z)) (xb_n0 (by omega)), rfl, rfl, rfl⟩
    · refine g_iconst (v := nI 1) hX dX6_in_13 (by decide) ?_
      refine g_goto (tgt := 18) hX dX6_in_14 (by decide) ?_
      exact g_zret hX hR dX6_in_18 (by decide) (by decide) (by decide) ⟨congrArg (fun z => some (Value.int z)) (xb_n1 (by omega)), rfl, rfl, rfl⟩

theorem c_X6_isRow (l : Launch) {nw sp : Nat} {I : xM} {x : Int32}  : xC l 2 0 0 yX6_isRow cX6_isRow 1 (some .boolean) 319 [.int x] I (xRL nw sp) (xpI (xb ((0 : Int) ≤ x.toInt ∧ x.toInt ≤ (7 : Int))) 319 I (xRL nw sp)) := by
  refine xC_of (by decide) (Nat.le_of_ble_eq_true rfl) (fun X hXl hX hR => ?_)
  have hX : xOK X RX6 cX6_isRow 1 2 0 0 := hX
  show G X 319 0 0 I (xRL nw sp) 0 [(0, .int x)] []
  refine g_iload_n hX dX6_isRow_0 rfl 0 rfl ?_
  refine g_i2l (v := x.toInt64) hX dX6_isRow_1 rfl ?_
  refine g_lconst (v := 0) hX dX6_isRow_2 (by decide) ?_
  refine g_ldc2 (v := 7) hX cX6_52 dX6_isRow_3 ?_
  refine g_callSi (as := [.long x.toInt64, .long 0, .long ((7))]) hX (fun l => c_X6_in l) mX6_in sX6_in lX6_54 rfl dX6_isRow_6 rfl (by decide) (by decide) (by decide) (by decide) ?_
  refine g_top (y := xb ((0 : Int) ≤ x.toInt ∧ x.toInt ≤ (7 : Int))) (xb_iffI ((i64_of _).trans rfl) (by decide) (by decide)) ?_
  exact g_zret hX hR dX6_isRow_9 xb_nar (by decide) (by decide) ⟨congrArg (fun z => some (Value.int z)) rfl, rfl, rfl, rfl⟩

theorem c_X6_isEye (l : Launch) {nw sp : Nat} {I : xM} {x : Int32}  : xC l 2 0 0 yX6_isEye cX6_isEye 1 (some .boolean) 319 [.int x] I (xRL nw sp) (xpI (xb ((0 : Int) ≤ x.toInt ∧ x.toInt ≤ (30 : Int))) 319 I (xRL nw sp)) := by
  refine xC_of (by decide) (Nat.le_of_ble_eq_true rfl) (fun X hXl hX hR => ?_)
  have hX : xOK X RX6 cX6_isEye 1 2 0 0 := hX
  show G X 319 0 0 I (xRL nw sp) 0 [(0, .int x)] []
  refine g_iload_n hX dX6_isEye_0 rfl 0 rfl ?_
  refine g_i2l (v := x.toInt64) hX dX6_isEye_1 rfl ?_
  refine g_lconst (v := 0) hX dX6_isEye_2 (by decide) ?_
  refine g_ldc2 (v := 30) hX cX6_241 dX6_isEye_3 ?_
  refine g_callSi (as := [.long x.toInt64, .long 0, .long ((30))]) hX (fun l => c_X6_in l) mX6_in sX6_in lX6_54 rfl dX6_isEye_6 rfl (by decide) (by decide) (by decide) (by decide) ?_
  refine g_top (y := xb ((0 : Int) ≤ x.toInt ∧ x.toInt ≤ (30 : Int))) (xb_iffI ((i64_of _).trans rfl) (by decide) (by decide)) ?_
  exact g_zret hX hR dX6_isEye_9 xb_nar (by decide) (by decide) ⟨congrArg (fun z => some (Value.int z)) rfl, rfl, rfl, rfl⟩

theorem c_X6_isLetter (l : Launch) {nw sp : Nat} {I : xM} {x : Int32}  : xC l 1 0 0 yX6_isLetter cX6_isLetter 1 (some .boolean) 319 [.int x] I (xRL nw sp) (xpI (xb ((97 : Int) ≤ x.toInt ∧ x.toInt ≤ (122 : Int))) 319 I (xRL nw sp)) := by
  refine xC_of (by decide) (Nat.le_of_ble_eq_true rfl) (fun X hXl hX hR => ?_)
  have hX : xOK X RX6 cX6_isLetter 1 1 0 0 := hX
  show G X 319 0 0 I (xRL nw sp) 0 [(0, .int x)] []
  refine g_iload_n hX dX6_isLetter_0 rfl 0 rfl ?_
  refine g_bipush (v := nI 97) hX dX6_isLetter_1 (by decide) ?_
  refine g_ci_lt (a := x.toInt) (b := (97 : Int)) (tgt := 16) hX dX6_isLetter_3 (by decide) rfl (by decide) (fun h3 => ?_) (fun h3 => ?_)
  · refine g_iconst (v := nI 0) hX dX6_isLetter_16 (by decide) ?_
    exact g_zret hX hR dX6_isLetter_17 (by decide) (by decide) (by decide) ⟨congrArg (fun z => some (Value.int z)) (xb_n0 (by omega)), rfl, rfl, rfl⟩
  · refine g_iload_n hX dX6_isLetter_6 rfl 0 rfl ?_
    refine g_bipush (v := nI 122) hX dX6_isLetter_7 (by decide) ?_
    refine g_ci_gt (a := x.toInt) (b := (122 : Int)) (tgt := 16) hX dX6_isLetter_9 (by decide) rfl (by decide) (fun h9 => ?_) (fun h9 => ?_)
    · refine g_iconst (v := nI 0) hX dX6_isLetter_16 (by decide) ?_
      exact g_zret hX hR dX6_isLetter_17 (by decide) (by decide) (by decide) ⟨congrArg (fun z => some (Value.int z)) (xb_n0 (by omega)), rfl, rfl, rfl⟩
    · refine g_iconst (v := nI 1) hX dX6_isLetter_12 (by decide) ?_
      refine g_goto (tgt := 17) hX dX6_isLetter_13 (by decide) ?_
      exact g_zret hX hR dX6_isLetter_17 (by decide) (by decide) (by decide) ⟨congrArg (fun z => some (Value.int z)) (xb_n1 (by omega)), rfl, rfl, rfl⟩

theorem c_X6_isFigure (l : Launch) {nw sp : Nat} {I : xM} {x : Int32}  : xC l 1 0 0 yX6_isFigure cX6_isFigure 1 (some .boolean) 319 [.int x] I (xRL nw sp) (xpI (xb ((48 : Int) ≤ x.toInt ∧ x.toInt ≤ (57 : Int))) 319 I (xRL nw sp)) := by
  refine xC_of (by decide) (Nat.le_of_ble_eq_true rfl) (fun X hXl hX hR => ?_)
  have hX : xOK X RX6 cX6_isFigure 1 1 0 0 := hX
  show G X 319 0 0 I (xRL nw sp) 0 [(0, .int x)] []
  refine g_iload_n hX dX6_isFigure_0 rfl 0 rfl ?_
  refine g_bipush (v := nI 48) hX dX6_isFigure_1 (by decide) ?_
  refine g_ci_lt (a := x.toInt) (b := (48 : Int)) (tgt := 16) hX dX6_isFigure_3 (by decide) rfl (by decide) (fun h3 => ?_) (fun h3 => ?_)
  · refine g_iconst (v := nI 0) hX dX6_isFigure_16 (by decide) ?_
    exact g_zret hX hR dX6_isFigure_17 (by decide) (by decide) (by decide) ⟨congrArg (fun z => some (Value.int z)) (xb_n0 (by omega)), rfl, rfl, rfl⟩
  · refine g_iload_n hX dX6_isFigure_6 rfl 0 rfl ?_
    refine g_bipush (v := nI 57) hX dX6_isFigure_7 (by decide) ?_
    refine g_ci_gt (a := x.toInt) (b := (57 : Int)) (tgt := 16) hX dX6_isFigure_9 (by decide) rfl (by decide) (fun h9 => ?_) (fun h9 => ?_)
    · refine g_iconst (v := nI 0) hX dX6_isFigure_16 (by decide) ?_
      exact g_zret hX hR dX6_isFigure_17 (by decide) (by decide) (by decide) ⟨congrArg (fun z => some (Value.int z)) (xb_n0 (by omega)), rfl, rfl, rfl⟩
    · refine g_iconst (v := nI 1) hX dX6_isFigure_12 (by decide) ?_
      refine g_goto (tgt := 17) hX dX6_isFigure_13 (by decide) ?_
      exact g_zret hX hR dX6_isFigure_17 (by decide) (by decide) (by decide) ⟨congrArg (fun z => some (Value.int z)) (xb_n1 (by omega)), rfl, rfl, rfl⟩

theorem c_X6_finding (l : Launch) {nw sp : Nat} {I : xM} {x : Int32}  : xC l 1 0 0 yX6_finding cX6_finding 2 (some .int) 319 [.ref 307, .int x] I (xRL nw sp) (xpI ((-1000010) - x) 319 (xput I 307 1 x) (xRL nw sp)) := by
  refine xC_of (by decide) (Nat.le_of_ble_eq_true rfl) (fun X hXl hX hR => ?_)
  have hX : xOK X RX6 cX6_finding 2 1 0 0 := hX
  show G X 319 0 0 I (xRL nw sp) 0 [(0, .ref 307), (1, .int x)] []
  refine g_aload_n hX dX6_finding_0 rfl 0 rfl ?_
  refine g_iload_n hX dX6_finding_1 rfl 1 rfl ?_
  refine g_putI hX (by decide) (by decide) xCl6 1 (by decide) (by decide) (by decide) kX6_48 dX6_finding_2 rfl rfl ?_
  refine g_ldc (v := -1000010) hX cX6_51 dX6_finding_5 ?_
  refine g_iload_n hX dX6_finding_7 rfl 1 rfl ?_
  refine g_isub (v := ((-1000010)) - x) hX dX6_finding_8 rfl ?_
  exact g_iret hX hR dX6_finding_9 (by decide) (by decide) ⟨congrArg (fun z => some (Value.int z)) rfl, rfl, rfl, rfl⟩
end
