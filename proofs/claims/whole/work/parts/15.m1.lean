theorem c_X6_in (l : Launch) {nw sp : Nat} {I : xM} {v lo hi : Int64}  : xC l 1 0 0 yX6_in cX6_in 6 (some .boolean) 319 [.long v, .long lo, .long hi] I (xRL nw sp) (xpI (xb (Int64.toInt lo ≤ Int64.toInt v ∧ Int64.toInt v ≤ Int64.toInt hi)) 319 I (xRL nw sp)) := by
  refine xC_of (by decide) (Nat.le_of_ble_eq_true rfl) (fun X hXl hX hR => ?_)
  have hX : xOK X RX6 cX6_in 6 1 0 0 := hX
  show G X 319 0 0 I (xRL nw sp) 0 [(0, .long v), (2, .long lo), (4, .long hi)] []
  have e1 := @lcmp_lt v lo
  have e2 := @lcmp_gt v hi
  refine g_lload_n hX dX6_in_0 rfl 0 rfl ?_
  refine g_lload_n hX dX6_in_1 rfl 1 rfl ?_
  refine g_lcmp (v := lg_cmp v lo) hX dX6_in_2 rfl ?_
  refine g_cz_lt (a := (lg_cmp v lo).toInt) (tgt := 17) hX dX6_in_3 (by decide) rfl (fun h3 => ?_) (fun h3 => ?_)
  · refine g_iconst (v := nI 0) hX dX6_in_17 (by decide) ?_
    exact g_zret hX hR dX6_in_18 (by decide) (by decide) (by decide) ⟨congrArg (fun z => some (Value.int z)) (xb_n0 (by omega)), rfl, rfl, rfl⟩
  · refine g_lload_n hX dX6_in_6 rfl 0 rfl ?_
    refine g_lload hX dX6_in_7 2 rfl ?_
    refine g_lcmp (v := lg_cmp v hi) hX dX6_in_9 rfl ?_
    refine g_cz_gt (a := (lg_cmp v hi).toInt) (tgt := 17) hX dX6_in_10 (by decide) rfl (fun h10 => ?_) (fun h10 => ?_)
    · refine g_iconst (v := nI 0) hX dX6_in_17 (by decide) ?_
      exact g_zret hX hR dX6_in_18 (by decide) (by decide) (by decide) ⟨congrArg (fun z => some (Value.int z)) (xb_n0 (by omega)), rfl, rfl, rfl⟩
    · refine g_iconst (v := nI 1) hX dX6_in_13 (by decide) ?_
      refine g_goto (tgt := 18) hX dX6_in_14 (by decide) ?_
      exact g_zret hX hR dX6_in_18 (by decide) (by decide) (by decide) ⟨congrArg (fun z => some (Value.int z)) (xb_n1 (by omega)), rfl, rfl, rfl⟩

theorem c_X6_isRow (l : Launch) {nw sp : Nat} {I : xM} {x : Int32}  : xC l 2 0 0 yX6_isRow cX6_isRow 1 (some .boolean) 319 [.int x] I (xRL nw sp) (xpI (xb ((0 : Int) ≤ x.toInt ∧ x.toInt ≤ (7 : Int))) 319 I (xRL nw sp)) := by
  refine xC_of (by decide) (Nat.le_of_ble_eq_true rfl) (fun X hXl hX hR => ?_)
  have hX : xOK X RX6 cX6_isRow 1 2 0 0 := hX
  show G X 319 0 0 I (xRL nw sp) 0 [(0, .int x)] []
  refine g_iload_n hX dX6_isRow_0 rfl 0 rfl ?_
  refine g_i2l (v := x.toInt64) hX dX6_isRow_1 rfl ?_
  refine g_lconst (v := 0) hX dX6_isRow_2 (by decide) ?_
  refine g_ldc2 (v := 7) hX cX6_52 dX6_isRow_3 ?_
  refine g_callSi (as := [.long x.toInt64, .long 0, .long (7)]) hX (fun l => c_X6_in l) mX6_in sX6_in lX6_54 rfl dX6_isRow_6 rfl (by decide) (Nat.le_of_ble_eq_true rfl) (by decide) (by decide) ?_
  refine g_top (y := xb ((0 : Int) ≤ x.toInt ∧ x.toInt ≤ (7 : Int))) (xb_iffI ((i64_of _).trans rfl) (by decide) (by decide)) ?_
  exact g_zret hX hR dX6_isRow_9 xb_nar (by decide) (by decide) ⟨congrArg (fun z => some (Value.int z)) rfl, rfl, rfl, rfl⟩

theorem c_X6_isEye (l : Launch) {nw sp : Nat} {I : xM} {x : Int32}  : xC l 2 0 0 yX6_isEye cX6_isEye 1 (some .boolean) 319 [.int x] I (xRL nw sp) (xpI (xb ((0 : Int) ≤ x.toInt ∧ x.toInt ≤ (30 : Int))) 319 I (xRL nw sp)) := by
  refine xC_of (by decide) (Nat.le_of_ble_eq_true rfl) (fun X hXl hX hR => ?_)
  have hX : xOK X RX6 cX6_isEye 1 2 0 0 := hX
  show G X 319 0 0 I (xRL nw sp) 0 [(0, .int x)] []
  refine g_iload_n hX dX6_isEye_0 rfl 0 rfl ?_
  refine g_i2l (v := x.toInt64) hX dX6_isEye_1 rfl ?_
  refine g_lconst (v := 0) hX dX6_isEye_2 (by decide) ?_
  refine g_ldc2 (v := 30) hX cX6_241 dX6_isEye_3 ?_
  refine g_callSi (as := [.long x.toInt64, .long 0, .long (30)]) hX (fun l => c_X6_in l) mX6_in sX6_in lX6_54 rfl dX6_isEye_6 rfl (by decide) (Nat.le_of_ble_eq_true rfl) (by decide) (by decide) ?_
  refine g_top (y := xb ((0 : Int) ≤ x.toInt ∧ x.toInt ≤ (30 : Int))) (xb_iffI ((i64_of _).trans rfl) (by decide) (by decide)) ?_
  exact g_zret hX hR dX6_isEye_9 xb_nar (by decide) (by decide) ⟨congrArg (fun z => some (Value.int z)) rfl, rfl, rfl, rfl⟩

theorem c_X6_isLetter (l : Launch) {nw sp : Nat} {I : xM} {x : Int32}  : xC l 1 0 0 yX6_isLetter cX6_isLetter 1 (some .boolean) 319 [.int x] I (xRL nw sp) (xpI (xb ((97 : Int) ≤ x.toInt ∧ x.toInt ≤ (122 : Int))) 319 I (xRL nw sp)) := by
  refine xC_of (by decide) (Nat.le_of_ble_eq_true rfl) (fun X hXl hX hR => ?_)
  have hX : xOK X RX6 cX6_isLetter 1 1 0 0 := hX
  show G X 319 0 0 I (xRL nw sp) 0 [(0, .int x)] []
  refine g_iload_n hX dX6_isLetter_0 rfl 0 rfl ?_
  refine g_bipush (v := nI 97) hX dX6_isLetter_1 (by decide) ?_
  refine g_ci_lt (a := x.toInt) (b := (97 : Int)) (tgt := 16) hX dX6_isLetter_3 (by decide) rfl (by decide) (fun h3 => ?_) (fun h3 => ?_)
  · refine g_iconst (v := nI 0) hX dX6_isLetter_16 (by decide) ?_
    exact g_zret hX hR dX6_isLetter_17 (by decide) (by decide) (by decide) ⟨congrArg (fun z => some (Value.int z)) (xb_n0 (by omega)), rfl, rfl, rfl⟩
  · refine g_iload_n hX dX6_isLetter_6 rfl 0 rfl ?_
    refine g_bipush (v := nI 122) hX dX6_isLetter_7 (by decide) ?_
    refine g_ci_gt (a := x.toInt) (b := (122 : Int)) (tgt := 16) hX dX6_isLetter_9 (by decide) rfl (by decide) (fun h9 => ?_) (fun h9 => ?_)
    · refine g_iconst (v := nI 0) hX dX6_isLetter_16 (by decide) ?_
      exact g_zret hX hR dX6_isLetter_17 (by decide) (by decide) (by decide) ⟨congrArg (fun z => some (Value.int z)) (xb_n0 (by omega)), rfl, rfl, rfl⟩
    · refine g_iconst (v := nI 1) hX dX6_isLetter_12 (by decide) ?_
      refine g_goto (tgt := 17) hX dX6_isLetter_13 (by decide) ?_
      exact g_zret hX hR dX6_isLetter_17 (by decide) (by decide) (by decide) ⟨congrArg (fun z => some (Value.int z)) (xb_n1 (by omega)), rfl, rfl, rfl⟩

theorem c_X6_isFigure (l : Launch) {nw sp : Nat} {I : xM} {x : Int32}  : xC l 1 0 0 yX6_isFigure cX6_isFigure 1 (some .boolean) 319 [.int x] I (xRL nw sp) (xpI (xb ((48 : Int) ≤ x.toInt ∧ x.toInt ≤ (57 : Int))) 319 I (xRL nw sp)) := by
  refine xC_of (by decide) (Nat.le_of_ble_eq_true rfl) (fun X hXl hX hR => ?_)
  have hX : xOK X RX6 cX6_isFigure 1 1 0 0 := hX
  show G X 319 0 0 I (xRL nw sp) 0 [(0, .int x)] []
  refine g_iload_n hX dX6_isFigure_0 rfl 0 rfl ?_
  refine g_bipush (v := nI 48) hX dX6_isFigure_1 (by decide) ?_
  refine g_ci_lt (a := x.toInt) (b := (48 : Int)) (tgt := 16) hX dX6_isFigure_3 (by decide) rfl (by decide) (fun h3 => ?_) (fun h3 => ?_)
  · refine g_iconst (v := nI 0) hX dX6_isFigure_16 (by decide) ?_
    exact g_zret hX hR dX6_isFigure_17 (by decide) (by decide) (by decide) ⟨congrArg (fun z => some (Value.int z)) (xb_n0 (by omega)), rfl, rfl, rfl⟩
  · refine g_iload_n hX dX6_isFigure_6 rfl 0 rfl ?_
    refine g_bipush (v := nI 57) hX dX6_isFigure_7 (by decide) ?_
    refine g_ci_gt (a := x.toInt) (b := (57 : Int)) (tgt := 16) hX dX6_isFigure_9 (by decide) rfl (by decide) (fun h9 => ?_) (fun h9 => ?_)
    · refine g_iconst (v := nI 0) hX dX6_isFigure_16 (by decide) ?_
      exact g_zret hX hR dX6_isFigure_17 (by decide) (by decide) (by decide) ⟨congrArg (fun z => some (Value.int z)) (xb_n0 (by omega)), rfl, rfl, rfl⟩
    · refine g_iconst (v := nI 1) hX dX6_isFigure_12 (by decide) ?_
      refine g_goto (tgt := 17) hX dX6_isFigure_13 (by decide) ?_
      exact g_zret hX hR dX6_isFigure_17 (by decide) (by decide) (by decide) ⟨congrArg (fun z => some (Value.int z)) (xb_n1 (by omega)), rfl, rfl, rfl⟩

theorem c_X6_finding (l : Launch) {nw sp : Nat} {I : xM} {x : Int32}  : xC l 1 0 0 yX6_finding cX6_finding 2 (some .int) 319 [.ref 307, .int x] I (xRL nw sp) (xpI ((-1000010) - x) 319 (xput I 307 1 x) (xRL nw sp)) := by
  refine xC_of (by decide) (Nat.le_of_ble_eq_true rfl) (fun X hXl hX hR => ?_)
  have hX : xOK X RX6 cX6_finding 2 1 0 0 := hX
  show G X 319 0 0 I (xRL nw sp) 0 [(0, .ref 307), (1, .int x)] []
  refine g_aload_n hX dX6_finding_0 rfl 0 rfl ?_
  refine g_iload_n hX dX6_finding_1 rfl 1 rfl ?_
  refine g_putI hX (by decide) (by decide) xCl6 1 (by decide) (by decide) (by decide) kX6_48 dX6_finding_2 rfl rfl ?_
  refine g_ldc (v := -1000010) hX cX6_51 dX6_finding_5 ?_
  refine g_iload_n hX dX6_finding_7 rfl 1 rfl ?_
  refine g_isub (v := (-1000010) - x) hX dX6_finding_8 rfl ?_
  exact g_iret hX hR dX6_finding_9 (by decide) (by decide) ⟨congrArg (fun z => some (Value.int z)) rfl, rfl, rfl, rfl⟩

theorem c_X6_row_bad (l : Launch) {nw sp : Nat} {I : xM} {x y z : Int32} (hb : ¬ (0 ≤ x.toInt ∧ x.toInt ≤ 7 ∧ 0 ≤ y.toInt ∧ y.toInt ≤ 2 ∧ z.toInt ≤ 40)) : xC l 3 0 0 yX6_row cX6_row 5 (some .int) 319 [.ref 307, .int x, .int y, .int z] I (xRL nw sp) (xpI (-1000001) 319 (xput I 307 0 (nI 0)) (xRL nw sp)) := by
  refine xC_of (by decide) (Nat.le_of_ble_eq_true rfl) (fun X hXl hX hR => ?_)
  have hX : xOK X RX6 cX6_row 5 3 0 0 := hX
  show G X 319 0 0 I (xRL nw sp) 0 [(0, .ref 307), (1, .int x), (2, .int y), (3, .int z)] []
  refine g_aload_n hX dX6_row_0 rfl 0 rfl ?_
  refine g_iconst (v := nI 0) hX dX6_row_1 (by decide) ?_
  refine g_putI hX (by decide) (by decide) xCl6 0 (by decide) (by decide) (by decide) kX6_44 dX6_row_2 rfl rfl ?_
  refine g_iload_n hX dX6_row_5 rfl 1 rfl ?_
  refine g_callSi hX (as := [.int x]) (fun l => c_X6_isRow l (I := (xput I 307 0 (nI 0))) (x := x) ) mX6_isRow sX6_isRow lX6_58 rfl dX6_row_6 rfl (by decide) (Nat.le_of_ble_eq_true rfl) (by decide) (by decide) ?_
  refine g_cb_eq (tgt := 30) hX dX6_row_9 (by decide) (fun h9 => ?_) (fun h9 => ?_)
  · refine g_ldc (v := -1000001) hX cX6_64 dX6_row_30 ?_
    exact g_iret hX hR dX6_row_32 (by decide) (by decide) ⟨congrArg (fun z => some (Value.int z)) rfl, rfl, rfl, rfl⟩
  · refine g_iload_n hX dX6_row_12 rfl 2 rfl ?_
    refine g_i2l (v := y.toInt64) hX dX6_row_13 rfl ?_
    refine g_lconst (v := 0) hX dX6_row_14 (by decide) ?_
    refine g_ldc2 (v := 2) hX cX6_62 dX6_row_15 ?_
    refine g_callSi (as := [.long y.toInt64, .long 0, .long (2)]) hX (fun l => c_X6_in l) mX6_in sX6_in lX6_54 rfl dX6_row_18 rfl (by decide) (Nat.le_of_ble_eq_true rfl) (by decide) (by decide) ?_
    refine g_top (y := xb ((0 : Int) ≤ y.toInt ∧ y.toInt ≤ (2 : Int))) (xb_iffI ((i64_of _).trans rfl) (by decide) (by decide)) ?_
    refine g_cb_eq (tgt := 30) hX dX6_row_21 (by decide) (fun h21 => ?_) (fun h21 => ?_)
    · refine g_ldc (v := -1000001) hX cX6_64 dX6_row_30 ?_
      exact g_iret hX hR dX6_row_32 (by decide) (by decide) ⟨congrArg (fun z => some (Value.int z)) rfl, rfl, rfl, rfl⟩
    · refine g_iload_n hX dX6_row_24 rfl 3 rfl ?_
      refine g_bipush (v := nI 40) hX dX6_row_25 (by decide) ?_
      refine g_ci_le (a := z.toInt) (b := (40 : Int)) (tgt := 33) hX dX6_row_27 (by decide) rfl (by decide) (fun h27 => ?_) (fun h27 => ?_)
      · exfalso; omega
      · refine g_ldc (v := -1000001) hX cX6_64 dX6_row_30 ?_
        exact g_iret hX hR dX6_row_32 (by decide) (by decide) ⟨congrArg (fun z => some (Value.int z)) rfl, rfl, rfl, rfl⟩

theorem c_X6_row_neg (l : Launch) {nw sp : Nat} {I : xM} {x y z : Int32} (hb : 0 ≤ x.toInt ∧ x.toInt ≤ 7 ∧ 0 ≤ y.toInt ∧ y.toInt ≤ 2 ∧ z.toInt < 0) : xC l 3 0 0 yX6_row cX6_row 5 (some .int) 319 [.ref 307, .int x, .int y, .int z] I (xRL nw sp) (xpI (-1000014) 319 (xput (xput (xput I 307 0 (nI 0)) 307 1 (nI 0)) 307 1 (nI 4)) (xRL nw sp)) := by
  refine xC_of (by decide) (Nat.le_of_ble_eq_true rfl) (fun X hXl hX hR => ?_)
  have hX : xOK X RX6 cX6_row 5 3 0 0 := hX
  show G X 319 0 0 I (xRL nw sp) 0 [(0, .ref 307), (1, .int x), (2, .int y), (3, .int z)] []
  refine g_aload_n hX dX6_row_0 rfl 0 rfl ?_
  refine g_iconst (v := nI 0) hX dX6_row_1 (by decide) ?_
  refine g_putI hX (by decide) (by decide) xCl6 0 (by decide) (by decide) (by decide) kX6_44 dX6_row_2 rfl rfl ?_
  refine g_iload_n hX dX6_row_5 rfl 1 rfl ?_
  refine g_callSi hX (as := [.int x]) (fun l => c_X6_isRow l (I := (xput I 307 0 (nI 0))) (x := x) ) mX6_isRow sX6_isRow lX6_58 rfl dX6_row_6 rfl (by decide) (Nat.le_of_ble_eq_true rfl) (by decide) (by decide) ?_
  refine g_cb_eq (tgt := 30) hX dX6_row_9 (by decide) (fun h9 => ?_) (fun h9 => ?_)
  · exfalso; omega
  · refine g_iload_n hX dX6_row_12 rfl 2 rfl ?_
    refine g_i2l (v := y.toInt64) hX dX6_row_13 rfl ?_
    refine g_lconst (v := 0) hX dX6_row_14 (by decide) ?_
    refine g_ldc2 (v := 2) hX cX6_62 dX6_row_15 ?_
    refine g_callSi (as := [.long y.toInt64, .long 0, .long (2)]) hX (fun l => c_X6_in l) mX6_in sX6_in lX6_54 rfl dX6_row_18 rfl (by decide) (Nat.le_of_ble_eq_true rfl) (by decide) (by decide) ?_
    refine g_top (y := xb ((0 : Int) ≤ y.toInt ∧ y.toInt ≤ (2 : Int))) (xb_iffI ((i64_of _).trans rfl) (by decide) (by decide)) ?_
    refine g_cb_eq (tgt := 30) hX dX6_row_21 (by decide) (fun h21 => ?_) (fun h21 => ?_)
    · exfalso; omega
    · refine g_iload_n hX dX6_row_24 rfl 3 rfl ?_
      refine g_bipush (v := nI 40) hX dX6_row_25 (by decide) ?_
      refine g_ci_le (a := z.toInt) (b := (40 : Int)) (tgt := 33) hX dX6_row_27 (by decide) rfl (by decide) (fun h27 => ?_) (fun h27 => ?_)
      · refine g_aload_n hX dX6_row_33 rfl 0 rfl ?_
        refine g_iconst (v := nI 0) hX dX6_row_34 (by decide) ?_
        refine g_putI hX (by decide) (by decide) xCl6 1 (by decide) (by decide) (by decide) kX6_48 dX6_row_35 rfl rfl ?_
        refine g_iload_n hX dX6_row_38 rfl 3 rfl ?_
        refine g_cz_ge (a := z.toInt) (tgt := 48) hX dX6_row_39 (by decide) rfl (fun h39 => ?_) (fun h39 => ?_)
        · exfalso; omega
        · refine g_aload_n hX dX6_row_42 rfl 0 rfl ?_
          refine g_iconst (v := nI 4) hX dX6_row_43 (by decide) ?_
          refine g_callVi hX (as := [.int (nI 4)]) (fun l => c_X6_finding l (I := (xput (xput I 307 0 (nI 0)) 307 1 (nI 0))) (x := (nI 4)) ) mX6_finding vX6_finding lX6_65 (by decide) (by decide) xCl6 rfl rfl dX6_row_44 rfl (by decide) (Nat.le_of_ble_eq_true rfl) (by decide) (by decide) ?_
          exact g_iret hX hR dX6_row_47 (by decide) (by decide) ⟨congrArg (fun z => some (Value.int z)) rfl, rfl, rfl, rfl⟩
      · exfalso; omega

theorem c_X6_row_ok (l : Launch) {nw sp : Nat} {I : xM} {r ln n : Nat} (hr : r < 8) (hl : ln < 3) (hn : n ≤ 40) : xC l 3 0 0 yX6_row cX6_row 5 (some .int) 319 [.ref 307, .int (nI r), .int (nI ln), .int (nI n)] I (xRL nw sp) (xpI (nI n) 319 (xrow (xput (xput (xput (xput I 307 0 (nI 0)) 307 1 (nI 0)) 308 r (nI ln)) 309 r (nI n)) 310 (xfill (I 310) (fun _ => nI 0) (40 * r) 40)) (xRL nw sp)) := by
  refine xC_of (by decide) (Nat.le_of_ble_eq_true rfl) (fun X hXl hX hR => ?_)
  have hX : xOK X RX6 cX6_row 5 3 0 0 := hX
  show G X 319 0 0 I (xRL nw sp) 0 [(0, .ref 307), (1, .int (nI r)), (2, .int (nI ln)), (3, .int (nI n))] []
  refine g_aload_n hX dX6_row_0 rfl 0 rfl ?_
  refine g_iconst (v := nI 0) hX dX6_row_1 (by decide) ?_
  refine g_putI hX (by decide) (by decide) xCl6 0 (by decide) (by decide) (by decide) kX6_44 dX6_row_2 rfl rfl ?_
  refine g_iload_n hX dX6_row_5 rfl 1 rfl ?_
  refine g_callSi hX (as := [.int (nI r)]) (fun l => c_X6_isRow l (I := (xput I 307 0 (nI 0))) (x := (nI r)) ) mX6_isRow sX6_isRow lX6_58 rfl dX6_row_6 rfl (by decide) (Nat.le_of_ble_eq_true rfl) (by decide) (by decide) ?_
  refine g_top (y := xb ((0 : Int) ≤ ((r : Nat) : Int) ∧ ((r : Nat) : Int) ≤ (7 : Int))) (by rw [nI_toInt (n := r) (by omega)]) ?_
  refine g_cb_eq (tgt := 30) hX dX6_row_9 (by decide) (fun h9 => ?_) (fun h9 => ?_)
  · exfalso; omega
  · refine g_iload_n hX dX6_row_12 rfl 2 rfl ?_
    refine g_i2l (v := (nI ln).toInt64) hX dX6_row_13 rfl ?_
    refine g_lconst (v := 0) hX dX6_row_14 (by decide) ?_
    refine g_ldc2 (v := 2) hX cX6_62 dX6_row_15 ?_
    refine g_callSi (as := [.long ((nI ln).toInt64), .long 0, .long (2)]) hX (fun l => c_X6_in l) mX6_in sX6_in lX6_54 rfl dX6_row_18 rfl (by decide) (Nat.le_of_ble_eq_true rfl) (by decide) (by decide) ?_
    refine g_top (y := xb ((0 : Int) ≤ ((ln : Nat) : Int) ∧ ((ln : Nat) : Int) ≤ (2 : Int))) (xb_iffI ((i64_of _).trans (nI_toInt (by omega))) (by decide) (by decide)) ?_
    refine g_cb_eq (tgt := 30) hX dX6_row_21 (by decide) (fun h21 => ?_) (fun h21 => ?_)
    · exfalso; omega
    · refine g_iload_n hX dX6_row_24 rfl 3 rfl ?_
      refine g_bipush (v := nI 40) hX dX6_row_25 (by decide) ?_
      refine g_ci_le (a := ((n : Nat) : Int)) (b := (40 : Int)) (tgt := 33) hX dX6_row_27 (by decide) (nI_toInt (by omega)) (by decide) (fun h27 => ?_) (fun h27 => ?_)
      · refine g_aload_n hX dX6_row_33 rfl 0 rfl ?_
        refine g_iconst (v := nI 0) hX dX6_row_34 (by decide) ?_
        refine g_putI hX (by decide) (by decide) xCl6 1 (by decide) (by decide) (by decide) kX6_48 dX6_row_35 rfl rfl ?_
        refine g_iload_n hX dX6_row_38 rfl 3 rfl ?_
        refine g_cz_ge (a := ((n : Nat) : Int)) (tgt := 48) hX dX6_row_39 (by decide) (nI_toInt (by omega)) (fun h39 => ?_) (fun h39 => ?_)
        · refine g_aload_n hX dX6_row_48 rfl 0 rfl ?_
          refine g_getR (j := 308) hX (by decide) (by decide) xCl6 2 (by decide) (by decide) kX6_7 dX6_row_49 rfl ?_
          refine g_iload_n hX dX6_row_52 rfl 1 rfl ?_
          refine g_iload_n hX dX6_row_53 rfl 2 rfl ?_
          refine g_iast hX (by decide) (by decide) r rfl (by rw [(show xN 308 = 8 by decide)]; omega) dX6_row_54 ?_
          refine g_aload_n hX dX6_row_55 rfl 0 rfl ?_
          refine g_getR (j := 309) hX (by decide) (by decide) xCl6 3 (by decide) (by decide) kX6_13 dX6_row_56 rfl ?_
          refine g_iload_n hX dX6_row_59 rfl 1 rfl ?_
          refine g_iload_n hX dX6_row_60 rfl 3 rfl ?_
          refine g_iast hX (by decide) (by decide) r rfl (by rw [(show xN 309 = 8 by decide)]; omega) dX6_row_61 ?_
          refine g_iconst (v := nI 0) hX dX6_row_62 (by decide) ?_
          refine g_istore (L' := [(0, .ref 307), (1, .int (nI r)), (2, .int (nI ln)), (3, .int (nI n)), (4, .int (nI 0))]) hX dX6_row_63 (by decide) rfl ?_
          have cut65 : ∀ (fuel : Nat) (i : Nat) (J : xM) (hi : i ≤ 40) (hJ : J = xrow (xput (xput (xput (xput I 307 0 (nI 0)) 307 1 (nI 0)) 308 r (nI ln)) 309 r (nI n)) 310 (xfill (I 310) (fun _ => nI 0) (40 * r) i)), 40 - i < fuel → G X 319 0 0 J (xRL nw sp) 65 [(0, .ref 307), (1, .int (nI r)), (2, .int (nI ln)), (3, .int (nI n)), (4, .int (nI i))] [] := by
            intro fuel
            induction fuel with
            | zero => intro i J hi hJ hfuel; omega
            | succ fuel ih =>
              intro i J hi hJ hfuel
              refine g_iload hX dX6_row_65 4 rfl ?_
              refine g_bipush (v := nI 40) hX dX6_row_67 (by decide) ?_
              refine g_ci_ge (a := ((i : Nat) : Int)) (b := (40 : Int)) (tgt := 91) hX dX6_row_69 (by decide) (nI_toInt (by omega)) (by decide) (fun h69 => ?_) (fun h69 => ?_)
              · refine g_iload_n hX dX6_row_91 rfl 3 rfl ?_
                exact g_iret hX hR dX6_row_92 (by decide) (by decide) ⟨congrArg (fun z => some (Value.int z)) rfl, rfl, (by rw [hJ, show i = 40 by omega]), rfl⟩
              · refine g_aload_n hX dX6_row_72 rfl 0 rfl ?_
                refine g_getR (j := 310) hX (by decide) (by decide) xCl6 4 (by decide) (by decide) kX6_16 dX6_row_73 rfl ?_
                refine g_bipush (v := nI 40) hX dX6_row_76 (by decide) ?_
                refine g_iload_n hX dX6_row_78 rfl 1 rfl ?_
                refine g_imul (v := nI (40 * r)) hX dX6_row_79 (nI_mul 40 r) ?_
                refine g_iload hX dX6_row_80 4 rfl ?_
                refine g_iadd (v := nI ((40 * r) + i)) hX dX6_row_82 (nI_add (40 * r) i) ?_
                refine g_iconst (v := nI 0) hX dX6_row_83 (by decide) ?_
                refine g_iast hX (by decide) (by decide) ((40 * r) + i) rfl (by rw [(show xN 310 = 320 by decide)]; omega) dX6_row_84 ?_
                refine g_iinc (v := nI (i + 1)) (L' := [(0, .ref 307), (1, .int (nI r)), (2, .int (nI ln)), (3, .int (nI n)), (4, .int (nI (i + 1)))]) hX dX6_row_85 (by decide) 4 rfl (nI_add i 1) rfl ?_
                refine g_goto (tgt := 65) hX dX6_row_88 (by decide) ?_
                exact ih (i + 1) (xput J 310 ((40 * r) + i) (nI 0)) (by first | assumption | omega) (xfill_step hJ rfl rfl) (by omega)
          exact cut65 _ 0 (xput (xput (xput (xput I 307 0 (nI 0)) 307 1 (nI 0)) 308 r (nI ln)) 309 r (nI n)) (by first | assumption | omega) (xfill_start rfl) (Nat.lt_succ_self _)
        · exfalso; omega
      · exfalso; omega
