theorem c_X6_in (l : Launch) {nw sp : Nat} {I : xM} {v lo hi : Int64}  : xC l 1 0 0 yX6_in cX6_in 6 (some .boolean) 319 [.long v, .long lo, .long hi] I (xRL nw sp) (xpI (xb (Int64.toInt lo ≤ Int64.toInt v ∧ Int64.toInt v ≤ Int64.toInt hi)) 319 I (xRL nw sp)) := by
  refine xC_of (by decide) (Nat.le_of_ble_eq_true rfl) (fun X hXl hX hR => ?_)
  have hX : xOK X RX6 cX6_in 6 1 0 0 := hX
  show G X 319 0 0 I (xRL nw sp) 0 [(0, .long v), (2, .long lo), (4, .long hi)] []
  have e1 := @lcmp_lt v lo
  have e2 := @lcmp_gt v hi
  refine g_lload_n hX dX6_in_0 rfl 0 rfl ?_
  refine g_lload_n hX dX6_in_1 rfl 1 rfl ?_
  refine g_lcmp (v := lg_cmp v lo) hX dX6_in_2 rfl ?_
  refine g_cz_lt (a := (lg_cmp v lo).toInt) (tgt := 17) hX dX6_in_3 (by decide) rfl (fun h3 => ?_) (fun h3 => ?_)
  · refine g_iconst (v := nI 0) hX dX6_in_17 (by decide) ?_
    exact g_zret hX hR dX6_in_18 (by decide) (by decide) (by decide) ⟨congrArg (fun z => some (Value.int z)) (xb_n0 (by omega)), rfl, rfl, rfl⟩
  · refine g_lload_n hX dX6_in_6 rfl 0 rfl ?_
    refine g_lload hX dX6_in_7 2 rfl ?_
    refine g_lcmp (v := lg_cmp v hi) hX dX6_in_9 rfl ?_
    refine g_cz_gt (a := (lg_cmp v hi).toInt) (tgt := 17) hX dX6_in_10 (by decide) rfl (fun h10 => ?_) (fun h10 => ?_)
    · refine g_iconst (v := nI 0) hX dX6_in_17 (by decide) ?_
      exact g_zret hX hR dX6_in_18 (by decide) (by decide) (by decide) ⟨congrArg (fun z => some (Value.int z)) (xb_n0 (by omega)), rfl, rfl, rfl⟩
    · refine g_iconst (v := nI 1) hX dX6_in_13 (by decide) ?_
      refine g_goto (tgt := 18) hX dX6_in_14 (by decide) ?_
      exact g_zret hX hR dX6_in_18 (by decide) (by decide) (by decide) ⟨congrArg (fun z => some (Value.int z)) (xb_n1 (by omega)), rfl, rfl, rfl⟩

theorem c_X6_isRow (l : Launch) {nw sp : Nat} {I : xM} {x : Int32}  : xC l 2 0 0 yX6_isRow cX6_isRow 1 (some .boolean) 319 [.int x] I (xRL nw sp) (xpI (xb ((0 : Int) ≤ x.toInt ∧ x.toInt ≤ (7 : Int))) 319 I (xRL nw sp)) := by
  refine xC_of (by decide) (Nat.le_of_ble_eq_true rfl) (fun X hXl hX hR => ?_)
  have hX : xOK X RX6 cX6_isRow 1 2 0 0 := hX
  show G X 319 0 0 I (xRL nw sp) 0 [(0, .int x)] []
  refine g_iload_n hX dX6_isRow_0 rfl 0 rfl ?_
  refine g_i2l (v := x.toInt64) hX dX6_isRow_1 rfl ?_
  refine g_lconst (v := 0) hX dX6_isRow_2 (by decide) ?_
  refine g_ldc2 (v := 7) hX cX6_52 dX6_isRow_3 ?_
  refine g_callSi (as := [.long x.toInt64, .long 0, .long ((7))]) hX (fun l => c_X6_in l) mX6_in sX6_in lX6_54 rfl dX6_isRow_6 rfl (by decide) (by decide) (by decide) (by decide) ?_
  refine g_top (y := xb ((0 : Int) ≤ x.toInt ∧ x.toInt ≤ (7 : Int))) (xb_iffI ((i64_of _).trans rfl) (by decide) (by decide)) ?_
  exact g_zret hX hR dX6_isRow_9 xb_nar (by decide) (by decide) ⟨congrArg (fun z => some (Value.int z)) rfl, rfl, rfl, rfl⟩

theorem c_X6_isEye (l : Launch) {nw sp : Nat} {I : xM} {x : Int32}  : xC l 2 0 0 yX6_isEye cX6_isEye 1 (some .boolean) 319 [.int x] I (xRL nw sp) (xpI (xb ((0 : Int) ≤ x.toInt ∧ x.toInt ≤ (30 : Int))) 319 I (xRL nw sp)) := by
  refine xC_of (by decide) (Nat.le_of_ble_eq_true rfl) (fun X hXl hX hR => ?_)
  have hX : xOK X RX6 cX6_isEye 1 2 0 0 := hX
  show G X 319 0 0 I (xRL nw sp) 0 [(0, .int x)] []
  refine g_iload_n hX dX6_isEye_0 rfl 0 rfl ?_
  refine g_i2l (v := x.toInt64) hX dX6_isEye_1 rfl ?_
  refine g_lconst (v := 0) hX dX6_isEye_2 (by decide) ?_
  refine g_ldc2 (v := 30) hX cX6_241 dX6_isEye_3 ?_
  refine g_callSi (as := [.long x.toInt64, .long 0, .long ((30))]) hX (fun l => c_X6_in l) mX6_in sX6_in lX6_54 rfl dX6_isEye_6 rfl (by decide) (by decide) (by decide) (by decide) ?_
  refine g_top (y := xb ((0 : Int) ≤ x.toInt ∧ x.toInt ≤ (30 : Int))) (xb_iffI ((i64_of _).trans rfl) (by decide) (by decide)) ?_
  exact g_zret hX hR dX6_isEye_9 xb_nar (by decide) (by decide) ⟨congrArg (fun z => some (Value.int z)) rfl, rfl, rfl, rfl⟩

theorem c_X6_isLetter (l : Launch) {nw sp : Nat} {I : xM} {x : Int32}  : xC l 1 0 0 yX6_isLetter cX6_isLetter 1 (some .boolean) 319 [.int x] I (xRL nw sp) (xpI (xb ((97 : Int) ≤ x.toInt ∧ x.toInt ≤ (122 : Int))) 319 I (xRL nw sp)) := by
  refine xC_of (by decide) (Nat.le_of_ble_eq_true rfl) (fun X hXl hX hR => ?_)
  have hX : xOK X RX6 cX6_isLetter 1 1 0 0 := hX
  show G X 319 0 0 I (xRL nw sp) 0 [(0, .int x)] []
  refine g_iload_n hX dX6_isLetter_0 rfl 0 rfl ?_
  refine g_bipush (v := nI 97) hX dX6_isLetter_1 (by decide) ?_
  refine g_ci_lt (a := x.toInt) (b := (97 : Int)) (tgt := 16) hX dX6_isLetter_3 (by decide) rfl (by decide) (fun h3 => ?_) (fun h3 => ?_)
  · refine g_iconst (v := nI 0) hX dX6_isLetter_16 (by decide) ?_
    exact g_zret hX hR dX6_isLetter_17 (by decide) (by decide) (by decide) ⟨congrArg (fun z => some (Value.int z)) (xb_n0 (by omega)), rfl, rfl, rfl⟩
  · refine g_iload_n hX dX6_isLetter_6 rfl 0 rfl ?_
    refine g_bipush (v := nI 122) hX dX6_isLetter_7 (by decide) ?_
    refine g_ci_gt (a := x.toInt) (b := (122 : Int)) (tgt := 16) hX dX6_isLetter_9 (by decide) rfl (by decide) (fun h9 => ?_) (fun h9 => ?_)
    · refine g_iconst (v := nI 0) hX dX6_isLetter_16 (by decide) ?_
      exact g_zret hX hR dX6_isLetter_17 (by decide) (by decide) (by decide) ⟨congrArg (fun z => some (Value.int z)) (xb_n0 (by omega)), rfl, rfl, rfl⟩
    · refine g_iconst (v := nI 1) hX dX6_isLetter_12 (by decide) ?_
      refine g_goto (tgt := 17) hX dX6_isLetter_13 (by decide) ?_
      exact g_zret hX hR dX6_isLetter_17 (by decide) (by decide) (by decide) ⟨congrArg (fun z => some (Value.int z)) (xb_n1 (by omega)), rfl, rfl, rfl⟩

theorem c_X6_isFigure (l : Launch) {nw sp : Nat} {I : xM} {x : Int32}  : xC l 1 0 0 yX6_isFigure cX6_isFigure 1 (some .boolean) 319 [.int x] I (xRL nw sp) (xpI (xb ((48 : Int) ≤ x.toInt ∧ x.toInt ≤ (57 : Int))) 319 I (xRL nw sp)) := by
  refine xC_of (by decide) (Nat.le_of_ble_eq_true rfl) (fun X hXl hX hR => ?_)
  have hX : xOK X RX6 cX6_isFigure 1 1 0 0 := hX
  show G X 319 0 0 I (xRL nw sp) 0 [(0, .int x)] []
  refine g_iload_n hX dX6_isFigure_0 rfl 0 rfl ?_
  refine g_bipush (v := nI 48) hX dX6_isFigure_1 (by decide) ?_
  refine g_ci_lt (a := x.toInt) (b := (48 : Int)) (tgt := 16) hX dX6_isFigure_3 (by decide) rfl (by decide) (fun h3 => ?_) (fun h3 => ?_)
  · refine g_iconst (v := nI 0) hX dX6_isFigure_16 (by decide) ?_
    exact g_zret hX hR dX6_isFigure_17 (by decide) (by decide) (by decide) ⟨congrArg (fun z => some (Value.int z)) (xb_n0 (by omega)), rfl, rfl, rfl⟩
  · refine g_iload_n hX dX6_isFigure_6 rfl 0 rfl ?_
    refine g_bipush (v := nI 57) hX dX6_isFigure_7 (by decide) ?_
    refine g_ci_gt (a := x.toInt) (b := (57 : Int)) (tgt := 16) hX dX6_isFigure_9 (by decide) rfl (by decide) (fun h9 => ?_) (fun h9 => ?_)
    · refine g_iconst (v := nI 0) hX dX6_isFigure_16 (by decide) ?_
      exact g_zret hX hR dX6_isFigure_17 (by decide) (by decide) (by decide) ⟨congrArg (fun z => some (Value.int z)) (xb_n0 (by omega)), rfl, rfl, rfl⟩
    · refine g_iconst (v := nI 1) hX dX6_isFigure_12 (by decide) ?_
      refine g_goto (tgt := 17) hX dX6_isFigure_13 (by decide) ?_
      exact g_zret hX hR dX6_isFigure_17 (by decide) (by decide) (by decide) ⟨congrArg (fun z => some (Value.int z)) (xb_n1 (by omega)), rfl, rfl, rfl⟩

theorem c_X6_finding (l : Launch) {nw sp : Nat} {I : xM} {x : Int32}  : xC l 1 0 0 yX6_finding cX6_finding 2 (some .int) 319 [.ref 307, .int x] I (xRL nw sp) (xpI ((-1000010) - x) 319 (xput I 307 1 x) (xRL nw sp)) := by
  refine xC_of (by decide) (Nat.le_of_ble_eq_true rfl) (fun X hXl hX hR => ?_)
  have hX : xOK X RX6 cX6_finding 2 1 0 0 := hX
  show G X 319 0 0 I (xRL nw sp) 0 [(0, .ref 307), (1, .int x)] []
  refine g_aload_n hX dX6_finding_0 rfl 0 rfl ?_
  refine g_iload_n hX dX6_finding_1 rfl 1 rfl ?_
  refine g_putI hX (by decide) (by decide) xCl6 1 (by decide) (by decide) (by decide) kX6_48 dX6_finding_2 rfl rfl ?_
  refine g_ldc (v := -1000010) hX cX6_51 dX6_finding_5 ?_
  refine g_iload_n hX dX6_finding_7 rfl 1 rfl ?_
  refine g_isub (v := ((-1000010)) - x) hX dX6_finding_8 rfl ?_
  exact g_iret hX hR dX6_finding_9 (by decide) (by decide) ⟨congrArg (fun z => some (Value.int z)) rfl, rfl, rfl, rfl⟩
