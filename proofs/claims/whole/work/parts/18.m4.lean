theorem c_J7_fill_53178 (l : Launch) {nw sp : Nat} {I : xM} {a n : Nat} {v : Int32} (hn : a < 319) (hK : xK a = 8) (hN : xN a = n) (hn2 : n ≤ 1776) : xC l 1 0 0 yJ7_fill_53178 cJ7_fill_53178 4 none 319 [.ref a, .int v] I (xRL nw sp) (xpV 319 (xrow I a (xfill (I a) (fun _ => v) 0 n)) (xRL nw sp)) := by
  refine xC_of (by decide) (Nat.le_of_ble_eq_true rfl) (fun X hXl hX hR => ?_)
  have hX : xOK X RJ7 cJ7_fill_53178 4 1 0 0 := hX
  show G X 319 0 0 I (xRL nw sp) 0 [(0, .ref a), (1, .int v)] []
  refine g_iconst (v := nI 0) hX dJ7_fill_53178_0 (by decide) ?_
  refine g_istore_n (L' := [(0, .ref a), (1, .int v), (2, .int (nI 0))]) hX dJ7_fill_53178_1 rfl (by decide) rfl ?_
  refine g_aload_n hX dJ7_fill_53178_2 rfl 0 rfl ?_
  refine g_alen (v := nI n) hX hn hK (by decide) (by decide) dJ7_fill_53178_3 (by rw [hN]) ?_
  refine g_istore_n (L' := [(0, .ref a), (1, .int v), (2, .int (nI 0)), (3, .int (nI n))]) hX dJ7_fill_53178_4 rfl (by decide) rfl ?_
  have cut5 : ∀ (fuel : Nat) (q : Nat) (J : xM) (hq : q ≤ n) (hJ : J = xrow I a (xfill (I a) (fun _ => v) 0 q)), n - q < fuel → G X 319 0 0 J (xRL nw sp) 5 [(0, .ref a), (1, .int v), (2, .int (nI q)), (3, .int (nI n))] [] := by
    intro fuel
    induction fuel with
    | zero => intro q J hq hJ hfuel; omega
    | succ fuel ih =>
      intro q J hq hJ hfuel
      refine g_iload_n hX dJ7_fill_53178_5 rfl 2 rfl ?_
      refine g_iload_n hX dJ7_fill_53178_6 rfl 3 rfl ?_
      refine g_ci_ge (a := ((q : Nat) : Int)) (b := ((n : Nat) : Int)) (tgt := 20) hX dJ7_fill_53178_7 (by decide) (nI_toInt (by omega)) (nI_toInt (by omega)) (fun h7 => ?_) (fun h7 => ?_)
      · exact g_vret hX hR dJ7_fill_53178_20 (by decide) (by decide) ⟨rfl, rfl, (by rw [hJ, show q = n by omega]), rfl⟩
      · refine g_aload_n hX dJ7_fill_53178_10 rfl 0 rfl ?_
        refine g_iload_n hX dJ7_fill_53178_11 rfl 2 rfl ?_
        refine g_iload_n hX dJ7_fill_53178_12 rfl 1 rfl ?_
        refine g_iast hX hn hK q rfl (by rw [hN]; omega) dJ7_fill_53178_13 ?_
        refine g_iinc (v := nI (q + 1)) (L' := [(0, .ref a), (1, .int v), (2, .int (nI (q + 1))), (3, .int (nI n))]) hX dJ7_fill_53178_14 (by decide) 2 rfl (nI_add q 1) rfl ?_
        refine g_goto (tgt := 5) hX dJ7_fill_53178_17 (by decide) ?_
        exact ih (q + 1) (xput J a q v) (by first | assumption | omega) (xfill_step hJ (Nat.zero_add _).symm rfl) (by omega)
  exact cut5 _ 0 I (by first | assumption | omega) (xfill_start rfl) (Nat.lt_succ_self _)

theorem c_X2_begin (l : Launch) {nw sp : Nat} {I : xM} {r : Nat} {ln n : Int32} (hr : r < 8) : xC l 2 0 0 yX2_begin cX2_begin 3 none 319 [.ref (31 + 2 * r), .int ln, .int n] I (xRL nw sp) (xpV 319 (xrow (xput (xput (xput I (31 + 2 * r) 0 (nI 1)) (31 + 2 * r) 1 ln) (31 + 2 * r) 2 n) (32 + 2 * r) (xfill (I (32 + 2 * r)) (fun _ => nI 0) 0 40)) (xRL nw sp)) := by
  refine xC_of (by decide) (Nat.le_of_ble_eq_true rfl) (fun X hXl hX hR => ?_)
  have hX : xOK X RX2 cX2_begin 3 2 0 0 := hX
  show G X 319 0 0 I (xRL nw sp) 0 [(0, .ref (31 + 2 * r)), (1, .int ln), (2, .int n)] []
  refine g_aload_n hX dX2_begin_0 rfl 0 rfl ?_
  refine g_iconst (v := nI 1) hX dX2_begin_1 (by decide) ?_
  refine g_putI hX (by omega) (xW_K0 hr) xCl2 0 (by decide) (by decide) (by decide) kX2_9 dX2_begin_2 (by decide) (by decide) ?_
  refine g_aload_n hX dX2_begin_5 rfl 0 rfl ?_
  refine g_iload_n hX dX2_begin_6 rfl 1 rfl ?_
  refine g_putI hX (by omega) (xW_K0 hr) xCl2 1 (by decide) (by decide) (by decide) kX2_15 dX2_begin_7 rfl rfl ?_
  refine g_aload_n hX dX2_begin_10 rfl 0 rfl ?_
  refine g_iload_n hX dX2_begin_11 rfl 2 rfl ?_
  refine g_putI hX (by omega) (xW_K0 hr) xCl2 2 (by decide) (by decide) (by decide) kX2_19 dX2_begin_12 rfl rfl ?_
  refine g_aload_n hX dX2_begin_15 rfl 0 rfl ?_
  refine g_getR (j := 32 + 2 * r) hX (by omega) (xW_K0 hr) xCl2 3 (by decide) (by decide) kX2_22 dX2_begin_16 (xRL_w hr) ?_
  refine g_iconst (v := nI 0) hX dX2_begin_19 (by decide) ?_
  refine g_callSv hX (as := [.ref (32 + 2 * r), .int (nI 0)]) (fun l => c_J7_fill_53178 l (I := (xput (xput (xput I (31 + 2 * r) 0 (nI 1)) (31 + 2 * r) 1 ln) (31 + 2 * r) 2 n)) (a := (32 + 2 * r)) (n := 40) (v := (nI 0)) (hn := (by omega)) (hK := (xW_K1 hr)) (hN := (xW_N1 hr)) (hn2 := (by first | assumption | omega))) mJ7_fill_53178 sJ7_fill_53178 lX2_26 rfl dX2_begin_20 rfl (by decide) (Nat.le_of_ble_eq_true rfl) (by decide) (by decide) ?_
  exact g_vret hX hR dX2_begin_23 (by decide) (by decide) ⟨rfl, rfl, (by rw [xput_ne (show 32 + 2 * r ≠ 31 + 2 * r by omega), xput_ne (show 32 + 2 * r ≠ 31 + 2 * r by omega), xput_ne (show 32 + 2 * r ≠ 31 + 2 * r by omega)]), rfl⟩

theorem c_X2_cutToLane (l : Launch) {nw sp : Nat} {I : xM} {r ln : Nat} {v : Int32} (hr : r < 8) (hl : I (31 + 2 * r) 1 = nI ln) (hln : ln < 3) : xC l 1 0 0 yX2_cutToLane cX2_cutToLane 2 (some .int) 319 [.ref (31 + 2 * r), .int v] I (xRL nw sp) (xpI (lcut ln v) 319 I (xRL nw sp)) := by
  refine xC_of (by decide) (Nat.le_of_ble_eq_true rfl) (fun X hXl hX hR => ?_)
  have hX : xOK X RX2 cX2_cutToLane 2 1 0 0 := hX
  show G X 319 0 0 I (xRL nw sp) 0 [(0, .ref (31 + 2 * r)), (1, .int v)] []
  refine g_aload_n hX dX2_cutToLane_0 rfl 0 rfl ?_
  refine g_getI (v := nI ln) hX (by omega) (xW_K0 hr) xCl2 1 (by decide) (by decide) kX2_15 dX2_cutToLane_1 hl ?_
  refine g_cz_ne (a := ((ln : Nat) : Int)) (tgt := 10) hX dX2_cutToLane_4 (by decide) (nI_toInt (by omega)) (fun h4 => ?_) (fun h4 => ?_)
  · refine g_aload_n hX dX2_cutToLane_10 rfl 0 rfl ?_
    refine g_getI (v := nI ln) hX (by omega) (xW_K0 hr) xCl2 1 (by decide) (by decide) kX2_15 dX2_cutToLane_11 hl ?_
    refine g_iconst (v := nI 1) hX dX2_cutToLane_14 (by decide) ?_
    refine g_ci_ne (a := ((ln : Nat) : Int)) (b := (1 : Int)) (tgt := 23) hX dX2_cutToLane_15 (by decide) (nI_toInt (by omega)) (by decide) (fun h15 => ?_) (fun h15 => ?_)
    · obtain rfl : ln = 2 := by omega
      refine g_iload_n hX dX2_cutToLane_23 rfl 1 rfl ?_
      exact g_iret hX hR dX2_cutToLane_24 (by decide) (by decide) ⟨congrArg (fun z => some (Value.int z)) rfl, rfl, rfl, rfl⟩
    · obtain rfl : ln = 1 := by omega
      refine g_iload_n hX dX2_cutToLane_18 rfl 1 rfl ?_
      refine g_i2s (v := v.toInt16.toInt32) hX dX2_cutToLane_19 rfl ?_
      refine g_goto (tgt := 24) hX dX2_cutToLane_20 (by decide) ?_
      exact g_iret hX hR dX2_cutToLane_24 (by decide) (by decide) ⟨congrArg (fun z => some (Value.int z)) rfl, rfl, rfl, rfl⟩
  · obtain rfl : ln = 0 := by omega
    refine g_iload_n hX dX2_cutToLane_7 rfl 1 rfl ?_
    refine g_i2b (v := v.toInt8.toInt32) hX dX2_cutToLane_8 rfl ?_
    exact g_iret hX hR dX2_cutToLane_9 (by decide) (by decide) ⟨congrArg (fun z => some (Value.int z)) rfl, rfl, rfl, rfl⟩

theorem c_X2_has (l : Launch) {nw sp : Nat} {I : xM} {r m : Nat} {x y : Int32} (hr : r < 8) (hm : I (31 + 2 * r) 2 = nI m) (hm4 : m ≤ 40) : xC l 1 0 0 yX2_has cX2_has 3 (some .boolean) 319 [.ref (31 + 2 * r), .int x, .int y] I (xRL nw sp) (xpI (xb (0 ≤ x.toInt ∧ 0 ≤ y.toInt ∧ x.toInt + y.toInt ≤ m)) 319 I (xRL nw sp)) := by
  refine xC_of (by decide) (Nat.le_of_ble_eq_true rfl) (fun X hXl hX hR => ?_)
  have hX : xOK X RX2 cX2_has 3 1 0 0 := hX
  show G X 319 0 0 I (xRL nw sp) 0 [(0, .ref (31 + 2 * r)), (1, .int x), (2, .int y)] []
  refine g_iload_n hX dX2_has_0 rfl 1 rfl ?_
  refine g_cz_lt (a := x.toInt) (tgt := 30) hX dX2_has_1 (by decide) rfl (fun h1 => ?_) (fun h1 => ?_)
  · refine g_iconst (v := nI 0) hX dX2_has_30 (by decide) ?_
    exact g_zret hX hR dX2_has_31 (by decide) (by decide) (by decide) ⟨congrArg (fun z => some (Value.int z)) (xb_n0 (by omega)), rfl, rfl, rfl⟩
  · refine g_iload_n hX dX2_has_4 rfl 2 rfl ?_
    refine g_cz_lt (a := y.toInt) (tgt := 30) hX dX2_has_5 (by decide) rfl (fun h5 => ?_) (fun h5 => ?_)
    · refine g_iconst (v := nI 0) hX dX2_has_30 (by decide) ?_
      exact g_zret hX hR dX2_has_31 (by decide) (by decide) (by decide) ⟨congrArg (fun z => some (Value.int z)) (xb_n0 (by omega)), rfl, rfl, rfl⟩
    · refine g_iload_n hX dX2_has_8 rfl 2 rfl ?_
      refine g_aload_n hX dX2_has_9 rfl 0 rfl ?_
      refine g_getI (v := nI m) hX (by omega) (xW_K0 hr) xCl2 2 (by decide) (by decide) kX2_19 dX2_has_10 hm ?_
      refine g_ci_gt (a := y.toInt) (b := ((m : Nat) : Int)) (tgt := 30) hX dX2_has_13 (by decide) rfl (nI_toInt (by omega)) (fun h13 => ?_) (fun h13 => ?_)
      · refine g_iconst (v := nI 0) hX dX2_has_30 (by decide) ?_
        exact g_zret hX hR dX2_has_31 (by decide) (by decide) (by decide) ⟨congrArg (fun z => some (Value.int z)) (xb_n0 (by omega)), rfl, rfl, rfl⟩
      · refine g_iload_n hX dX2_has_16 rfl 1 rfl ?_
        refine g_aload_n hX dX2_has_17 rfl 0 rfl ?_
        refine g_getI (v := nI m) hX (by omega) (xW_K0 hr) xCl2 2 (by decide) (by decide) kX2_19 dX2_has_18 hm ?_
        refine g_iload_n hX dX2_has_21 rfl 2 rfl ?_
        refine g_isub (v := (nI m) - y) hX dX2_has_22 rfl ?_
        refine g_ci_gt (a := x.toInt) (b := (m : Int) - y.toInt) (tgt := 30) hX dX2_has_23 (by decide) rfl (by rw [i32_sub (by rw [nI_toInt (by omega)]; omega) (by rw [nI_toInt (by omega)]; omega), nI_toInt (by omega)]) (fun h23 => ?_) (fun h23 => ?_)
        · refine g_iconst (v := nI 0) hX dX2_has_30 (by decide) ?_
          exact g_zret hX hR dX2_has_31 (by decide) (by decide) (by decide) ⟨congrArg (fun z => some (Value.int z)) (xb_n0 (by omega)), rfl, rfl, rfl⟩
        · refine g_iconst (v := nI 1) hX dX2_has_26 (by decide) ?_
          refine g_goto (tgt := 31) hX dX2_has_27 (by decide) ?_
          exact g_zret hX hR dX2_has_31 (by decide) (by decide) (by decide) ⟨congrArg (fun z => some (Value.int z)) (xb_n1 (by omega)), rfl, rfl, rfl⟩

theorem c_X5_isRow (l : Launch) {nw sp : Nat} {I : xM} {x : Int32}  : xC l 1 0 0 yX5_isRow cX5_isRow 1 (some .boolean) 319 [.int x] I (xRL nw sp) (xpI (xb ((0 : Int) ≤ x.toInt ∧ x.toInt ≤ (7 : Int))) 319 I (xRL nw sp)) := by
  refine xC_of (by decide) (Nat.le_of_ble_eq_true rfl) (fun X hXl hX hR => ?_)
  have hX : xOK X RX5 cX5_isRow 1 1 0 0 := hX
  show G X 319 0 0 I (xRL nw sp) 0 [(0, .int x)] []
  refine g_iload_n hX dX5_isRow_0 rfl 0 rfl ?_
  refine g_cz_lt (a := x.toInt) (tgt := 14) hX dX5_isRow_1 (by decide) rfl (fun h1 => ?_) (fun h1 => ?_)
  · refine g_iconst (v := nI 0) hX dX5_isRow_14 (by decide) ?_
    exact g_zret hX hR dX5_isRow_15 (by decide) (by decide) (by decide) ⟨congrArg (fun z => some (Value.int z)) (xb_n0 (by omega)), rfl, rfl, rfl⟩
  · refine g_iload_n hX dX5_isRow_4 rfl 0 rfl ?_
    refine g_bipush (v := nI 8) hX dX5_isRow_5 (by decide) ?_
    refine g_ci_ge (a := x.toInt) (b := (8 : Int)) (tgt := 14) hX dX5_isRow_7 (by decide) rfl (by decide) (fun h7 => ?_) (fun h7 => ?_)
    · refine g_iconst (v := nI 0) hX dX5_isRow_14 (by decide) ?_
      exact g_zret hX hR dX5_isRow_15 (by decide) (by decide) (by decide) ⟨congrArg (fun z => some (Value.int z)) (xb_n0 (by omega)), rfl, rfl, rfl⟩
    · refine g_iconst (v := nI 1) hX dX5_isRow_10 (by decide) ?_
      refine g_goto (tgt := 15) hX dX5_isRow_11 (by decide) ?_
      exact g_zret hX hR dX5_isRow_15 (by decide) (by decide) (by decide) ⟨congrArg (fun z => some (Value.int z)) (xb_n1 (by omega)), rfl, rfl, rfl⟩

theorem c_X5_found (l : Launch) {nw sp : Nat} {I : xM} {x : Int32}  : xC l 1 0 0 yX5_found cX5_found 2 (some .int) 319 [.ref 0, .int x] I (xRL nw sp) (xpI ((-1000010) - x) 319 (xput I 0 13 x) (xRL nw sp)) := by
  refine xC_of (by decide) (Nat.le_of_ble_eq_true rfl) (fun X hXl hX hR => ?_)
  have hX : xOK X RX5 cX5_found 2 1 0 0 := hX
  show G X 319 0 0 I (xRL nw sp) 0 [(0, .ref 0), (1, .int x)] []
  refine g_aload_n hX dX5_found_0 rfl 0 rfl ?_
  refine g_iload_n hX dX5_found_1 rfl 1 rfl ?_
  refine g_putI hX (by decide) (by decide) xCl5 13 (by decide) (by decide) (by decide) kX5_71 dX5_found_2 rfl rfl ?_
  refine g_ldcw (v := -1000010) hX cX5_270 dX5_found_5 ?_
  refine g_iload_n hX dX5_found_8 rfl 1 rfl ?_
  refine g_isub (v := (-1000010) - x) hX dX5_found_9 rfl ?_
  exact g_iret hX hR dX5_found_10 (by decide) (by decide) ⟨congrArg (fun z => some (Value.int z)) rfl, rfl, rfl, rfl⟩

theorem c_X5_unfound (l : Launch) {nw sp : Nat} {I : xM} {x : Int32}  : xC l 1 0 0 yX5_unfound cX5_unfound 2 (some .int) 319 [.ref 0, .int x] I (xRL nw sp) (xpI x 319 (xput I 0 13 (nI 0)) (xRL nw sp)) := by
  refine xC_of (by decide) (Nat.le_of_ble_eq_true rfl) (fun X hXl hX hR => ?_)
  have hX : xOK X RX5 cX5_unfound 2 1 0 0 := hX
  show G X 319 0 0 I (xRL nw sp) 0 [(0, .ref 0), (1, .int x)] []
  refine g_aload_n hX dX5_unfound_0 rfl 0 rfl ?_
  refine g_iconst (v := nI 0) hX dX5_unfound_1 (by decide) ?_
  refine g_putI hX (by decide) (by decide) xCl5 13 (by decide) (by decide) (by decide) kX5_71 dX5_unfound_2 rfl rfl ?_
  refine g_iload_n hX dX5_unfound_5 rfl 1 rfl ?_
  exact g_iret hX hR dX5_unfound_6 (by decide) (by decide) ⟨congrArg (fun z => some (Value.int z)) rfl, rfl, rfl, rfl⟩

theorem c_X5_row_bad (l : Launch) {nw sp : Nat} {I : xM} {x y z : Int32} (hb : ¬ (0 ≤ x.toInt ∧ x.toInt ≤ 7 ∧ 0 ≤ y.toInt ∧ y.toInt ≤ 2 ∧ z.toInt ≤ 40)) : xC l 2 0 0 yX5_row cX5_row 4 (some .int) 319 [.ref 0, .int x, .int y, .int z] I (xRL nw sp) (xpI (-1000001) 319 I (xRL nw sp)) := by
  refine xC_of (by decide) (Nat.le_of_ble_eq_true rfl) (fun X hXl hX hR => ?_)
  have hX : xOK X RX5 cX5_row 4 2 0 0 := hX
  show G X 319 0 0 I (xRL nw sp) 0 [(0, .ref 0), (1, .int x), (2, .int y), (3, .int z)] []
  refine g_iload_n hX dX5_row_0 rfl 1 rfl ?_
  refine g_callSi hX (as := [.int x]) (fun l => c_X5_isRow l (I := I) (x := x) ) mX5_isRow sX5_isRow lX5_75 rfl dX5_row_1 rfl (by decide) (Nat.le_of_ble_eq_true rfl) (by decide) (by decide) ?_
  refine g_cb_eq (tgt := 22) hX dX5_row_4 (by decide) (fun h4 => ?_) (fun h4 => ?_)
  · refine g_ldc (v := -1000001) hX cX5_79 dX5_row_22 ?_
    exact g_iret hX hR dX5_row_24 (by decide) (by decide) ⟨congrArg (fun z => some (Value.int z)) rfl, rfl, rfl, rfl⟩
  · refine g_iload_n hX dX5_row_7 rfl 2 rfl ?_
    refine g_cz_lt (a := y.toInt) (tgt := 22) hX dX5_row_8 (by decide) rfl (fun h8 => ?_) (fun h8 => ?_)
    · refine g_ldc (v := -1000001) hX cX5_79 dX5_row_22 ?_
      exact g_iret hX hR dX5_row_24 (by decide) (by decide) ⟨congrArg (fun z => some (Value.int z)) rfl, rfl, rfl, rfl⟩
    · refine g_iload_n hX dX5_row_11 rfl 2 rfl ?_
      refine g_iconst (v := nI 2) hX dX5_row_12 (by decide) ?_
      refine g_ci_gt (a := y.toInt) (b := (2 : Int)) (tgt := 22) hX dX5_row_13 (by decide) rfl (by decide) (fun h13 => ?_) (fun h13 => ?_)
      · refine g_ldc (v := -1000001) hX cX5_79 dX5_row_22 ?_
        exact g_iret hX hR dX5_row_24 (by decide) (by decide) ⟨congrArg (fun z => some (Value.int z)) rfl, rfl, rfl, rfl⟩
      · refine g_iload_n hX dX5_row_16 rfl 3 rfl ?_
        refine g_bipush (v := nI 40) hX dX5_row_17 (by decide) ?_
        refine g_ci_le (a := z.toInt) (b := (40 : Int)) (tgt := 25) hX dX5_row_19 (by decide) rfl (by decide) (fun h19 => ?_) (fun h19 => ?_)
        · exfalso; omega
        · refine g_ldc (v := -1000001) hX cX5_79 dX5_row_22 ?_
          exact g_iret hX hR dX5_row_24 (by decide) (by decide) ⟨congrArg (fun z => some (Value.int z)) rfl, rfl, rfl, rfl⟩

theorem c_X5_row_neg (l : Launch) {nw sp : Nat} {I : xM} {x y z : Int32} (hb : 0 ≤ x.toInt ∧ x.toInt ≤ 7 ∧ 0 ≤ y.toInt ∧ y.toInt ≤ 2 ∧ z.toInt < 0) : xC l 2 0 0 yX5_row cX5_row 4 (some .int) 319 [.ref 0, .int x, .int y, .int z] I (xRL nw sp) (xpI (-1000014) 319 (xput I 0 13 (nI 4)) (xRL nw sp)) := by
  refine xC_of (by decide) (Nat.le_of_ble_eq_true rfl) (fun X hXl hX hR => ?_)
  have hX : xOK X RX5 cX5_row 4 2 0 0 := hX
  show G X 319 0 0 I (xRL nw sp) 0 [(0, .ref 0), (1, .int x), (2, .int y), (3, .int z)] []
  refine g_iload_n hX dX5_row_0 rfl 1 rfl ?_
  refine g_callSi hX (as := [.int x]) (fun l => c_X5_isRow l (I := I) (x := x) ) mX5_isRow sX5_isRow lX5_75 rfl dX5_row_1 rfl (by decide) (Nat.le_of_ble_eq_true rfl) (by decide) (by decide) ?_
  refine g_cb_eq (tgt := 22) hX dX5_row_4 (by decide) (fun h4 => ?_) (fun h4 => ?_)
  · exfalso; omega
  · refine g_iload_n hX dX5_row_7 rfl 2 rfl ?_
    refine g_cz_lt (a := y.toInt) (tgt := 22) hX dX5_row_8 (by decide) rfl (fun h8 => ?_) (fun h8 => ?_)
    · exfalso; omega
    · refine g_iload_n hX dX5_row_11 rfl 2 rfl ?_
      refine g_iconst (v := nI 2) hX dX5_row_12 (by decide) ?_
      refine g_ci_gt (a := y.toInt) (b := (2 : Int)) (tgt := 22) hX dX5_row_13 (by decide) rfl (by decide) (fun h13 => ?_) (fun h13 => ?_)
      · exfalso; omega
      · refine g_iload_n hX dX5_row_16 rfl 3 rfl ?_
        refine g_bipush (v := nI 40) hX dX5_row_17 (by decide) ?_
        refine g_ci_le (a := z.toInt) (b := (40 : Int)) (tgt := 25) hX dX5_row_19 (by decide) rfl (by decide) (fun h19 => ?_) (fun h19 => ?_)
        · refine g_iload_n hX dX5_row_25 rfl 3 rfl ?_
          refine g_cz_ge (a := z.toInt) (tgt := 35) hX dX5_row_26 (by decide) rfl (fun h26 => ?_) (fun h26 => ?_)
          · exfalso; omega
          · refine g_aload_n hX dX5_row_29 rfl 0 rfl ?_
            refine g_iconst (v := nI 4) hX dX5_row_30 (by decide) ?_
            refine g_callVi hX (as := [.int (nI 4)]) (fun l => c_X5_found l (I := I) (x := (nI 4)) ) mX5_found vX5_found lX5_80 (by decide) (by decide) xCl5 rfl rfl dX5_row_31 rfl (by decide) (Nat.le_of_ble_eq_true rfl) (by decide) (by decide) ?_
            exact g_iret hX hR dX5_row_34 (by decide) (by decide) ⟨congrArg (fun z => some (Value.int z)) rfl, rfl, rfl, rfl⟩
        · exfalso; omega

theorem c_X5_row_ok (l : Launch) {nw sp : Nat} {I : xM} {r ln n : Nat} (hr : r < 8) (hl : ln < 3) (hn : n ≤ 40) : xC l 3 0 0 yX5_row cX5_row 4 (some .int) 319 [.ref 0, .int (nI r), .int (nI ln), .int (nI n)] I (xRL nw sp) (xpI (nI n) 319 (xput (xrow (xput (xput (xput I (31 + 2 * r) 0 (nI 1)) (31 + 2 * r) 1 (nI ln)) (31 + 2 * r) 2 (nI n)) (32 + 2 * r) (xfill (I (32 + 2 * r)) (fun _ => nI 0) 0 40)) 0 13 (nI 0)) (xRL nw sp)) := by
  refine xC_of (by decide) (Nat.le_of_ble_eq_true rfl) (fun X hXl hX hR => ?_)
  have hX : xOK X RX5 cX5_row 4 3 0 0 := hX
  show G X 319 0 0 I (xRL nw sp) 0 [(0, .ref 0), (1, .int (nI r)), (2, .int (nI ln)), (3, .int (nI n))] []
  refine g_iload_n hX dX5_row_0 rfl 1 rfl ?_
  refine g_callSi hX (as := [.int (nI r)]) (fun l => c_X5_isRow l (I := I) (x := (nI r)) ) mX5_isRow sX5_isRow lX5_75 rfl dX5_row_1 rfl (by decide) (Nat.le_of_ble_eq_true rfl) (by decide) (by decide) ?_
  refine g_top (y := xb ((0 : Int) ≤ ((r : Nat) : Int) ∧ ((r : Nat) : Int) ≤ (7 : Int))) (by rw [nI_toInt (n := r) (by omega)]) ?_
  refine g_cb_eq (tgt := 22) hX dX5_row_4 (by decide) (fun h4 => ?_) (fun h4 => ?_)
  · exfalso; omega
  · refine g_iload_n hX dX5_row_7 rfl 2 rfl ?_
    refine g_cz_lt (a := ((ln : Nat) : Int)) (tgt := 22) hX dX5_row_8 (by decide) (nI_toInt (by omega)) (fun h8 => ?_) (fun h8 => ?_)
    · exfalso; omega
    · refine g_iload_n hX dX5_row_11 rfl 2 rfl ?_
      refine g_iconst (v := nI 2) hX dX5_row_12 (by decide) ?_
      refine g_ci_gt (a := ((ln : Nat) : Int)) (b := (2 : Int)) (tgt := 22) hX dX5_row_13 (by decide) (nI_toInt (by omega)) (by decide) (fun h13 => ?_) (fun h13 => ?_)
      · exfalso; omega
      · refine g_iload_n hX dX5_row_16 rfl 3 rfl ?_
        refine g_bipush (v := nI 40) hX dX5_row_17 (by decide) ?_
        refine g_ci_le (a := ((n : Nat) : Int)) (b := (40 : Int)) (tgt := 25) hX dX5_row_19 (by decide) (nI_toInt (by omega)) (by decide) (fun h19 => ?_) (fun h19 => ?_)
        · refine g_iload_n hX dX5_row_25 rfl 3 rfl ?_
          refine g_cz_ge (a := ((n : Nat) : Int)) (tgt := 35) hX dX5_row_26 (by decide) (nI_toInt (by omega)) (fun h26 => ?_) (fun h26 => ?_)
          · refine g_aload_n hX dX5_row_35 rfl 0 rfl ?_
            refine g_getR (j := 1) hX (by decide) (by decide) xCl5 0 (by decide) (by decide) kX5_11 dX5_row_36 rfl ?_
            refine g_iload_n hX dX5_row_39 rfl 1 rfl ?_
            refine g_aald (j := 31 + 2 * r) hX (by decide) (by decide) (Or.inr rfl) r rfl (by rw [(show xN 1 = 8 by decide)]; omega) dX5_row_40 (xRL_rows hr) ?_
            refine g_iload_n hX dX5_row_41 rfl 2 rfl ?_
            refine g_iload_n hX dX5_row_42 rfl 3 rfl ?_
            refine g_callVv hX (as := [.int (nI ln), .int (nI n)]) (fun l => c_X2_begin l (I := I) (r := r) (ln := (nI ln)) (n := (nI n)) (hr := hr)) mX2_begin vX2_begin lX5_84 (by omega) (xW_K0 hr) xCl2 rfl rfl dX5_row_43 rfl (by decide) (Nat.le_of_ble_eq_true rfl) (by decide) (by decide) ?_
            refine g_aload_n hX dX5_row_46 rfl 0 rfl ?_
            refine g_iload_n hX dX5_row_47 rfl 3 rfl ?_
            refine g_callVi hX (as := [.int (nI n)]) (fun l => c_X5_unfound l (I := (xrow (xput (xput (xput I (31 + 2 * r) 0 (nI 1)) (31 + 2 * r) 1 (nI ln)) (31 + 2 * r) 2 (nI n)) (32 + 2 * r) (xfill (I (32 + 2 * r)) (fun _ => nI 0) 0 40))) (x := (nI n)) ) mX5_unfound vX5_unfound lX5_88 (by decide) (by decide) xCl5 rfl rfl dX5_row_48 rfl (by decide) (Nat.le_of_ble_eq_true rfl) (by decide) (by decide) ?_
            exact g_iret hX hR dX5_row_51 (by decide) (by decide) ⟨congrArg (fun z => some (Value.int z)) rfl, rfl, rfl, rfl⟩
          · exfalso; omega
        · exfalso; omega

theorem c_X5_set_bad (l : Launch) {nw sp : Nat} {I : xM} {x y z : Int32} (hb : ¬ (0 ≤ x.toInt ∧ x.toInt ≤ 7)) : xC l 2 0 0 yX5_set cX5_set 5 (some .int) 319 [.ref 0, .int x, .int y, .int z] I (xRL nw sp) (xpI (-1000001) 319 I (xRL nw sp)) := by
  refine xC_of (by decide) (Nat.le_of_ble_eq_true rfl) (fun X hXl hX hR => ?_)
  have hX : xOK X RX5 cX5_set 5 2 0 0 := hX
  show G X 319 0 0 I (xRL nw sp) 0 [(0, .ref 0), (1, .int x), (2, .int y), (3, .int z)] []
  refine g_iload_n hX dX5_set_0 rfl 1 rfl ?_
  refine g_callSi hX (as := [.int x]) (fun l => c_X5_isRow l (I := I) (x := x) ) mX5_isRow sX5_isRow lX5_75 rfl dX5_set_1 rfl (by decide) (Nat.le_of_ble_eq_true rfl) (by decide) (by decide) ?_
  refine g_cb_ne (tgt := 10) hX dX5_set_4 (by decide) (fun h4 => ?_) (fun h4 => ?_)
  · exfalso; omega
  · refine g_ldc (v := -1000001) hX cX5_79 dX5_set_7 ?_
    exact g_iret hX hR dX5_set_9 (by decide) (by decide) ⟨congrArg (fun z => some (Value.int z)) rfl, rfl, rfl, rfl⟩

theorem c_X5_set_null (l : Launch) {nw sp : Nat} {I : xM} {r : Nat} {y z : Int32} (hr : r < 8) (ht : I (31 + 2 * r) 0 = nI 0) : xC l 2 0 0 yX5_set cX5_set 5 (some .int) 319 [.ref 0, .int (nI r), .int y, .int z] I (xRL nw sp) (xpI (-1000011) 319 (xput I 0 13 (nI 1)) (xRL nw sp)) := by
  refine xC_of (by decide) (Nat.le_of_ble_eq_true rfl) (fun X hXl hX hR => ?_)
  have hX : xOK X RX5 cX5_set 5 2 0 0 := hX
  show G X 319 0 0 I (xRL nw sp) 0 [(0, .ref 0), (1, .int (nI r)), (2, .int y), (3, .int z)] []
  refine g_iload_n hX dX5_set_0 rfl 1 rfl ?_
  refine g_callSi hX (as := [.int (nI r)]) (fun l => c_X5_isRow l (I := I) (x := (nI r)) ) mX5_isRow sX5_isRow lX5_75 rfl dX5_set_1 rfl (by decide) (Nat.le_of_ble_eq_true rfl) (by decide) (by decide) ?_
  refine g_top (y := xb ((0 : Int) ≤ ((r : Nat) : Int) ∧ ((r : Nat) : Int) ≤ (7 : Int))) (by rw [nI_toInt (n := r) (by omega)]) ?_
  refine g_cb_ne (tgt := 10) hX dX5_set_4 (by decide) (fun h4 => ?_) (fun h4 => ?_)
  · refine g_aload_n hX dX5_set_10 rfl 0 rfl ?_
    refine g_getR (j := 1) hX (by decide) (by decide) xCl5 0 (by decide) (by decide) kX5_11 dX5_set_11 rfl ?_
    refine g_iload_n hX dX5_set_14 rfl 1 rfl ?_
    refine g_aald (j := 31 + 2 * r) hX (by decide) (by decide) (Or.inr rfl) r rfl (by rw [(show xN 1 = 8 by decide)]; omega) dX5_set_15 (xRL_rows hr) ?_
    refine g_astore (L' := [(0, .ref 0), (1, .int (nI r)), (2, .int y), (3, .int z), (4, .ref (31 + 2 * r))]) hX dX5_set_16 (by decide) rfl ?_
    refine g_aload hX dX5_set_18 4 rfl ?_
    refine g_getI (v := nI 0) hX (by omega) (xW_K0 hr) xCl2 0 (by decide) (by decide) kX5_91 dX5_set_20 ht ?_
    refine g_cz_ne (a := (0 : Int)) (tgt := 32) hX dX5_set_23 (by decide) (by decide) (fun q => absurd q (by decide)) (fun _ => ?_)
    refine g_aload_n hX dX5_set_26 rfl 0 rfl ?_
    refine g_iconst (v := nI 1) hX dX5_set_27 (by decide) ?_
    refine g_callVi hX (as := [.int (nI 1)]) (fun l => c_X5_found l (I := I) (x := (nI 1)) ) mX5_found vX5_found lX5_80 (by decide) (by decide) xCl5 rfl rfl dX5_set_28 rfl (by decide) (Nat.le_of_ble_eq_true rfl) (by decide) (by decide) ?_
    exact g_iret hX hR dX5_set_31 (by decide) (by decide) ⟨congrArg (fun z => some (Value.int z)) rfl, rfl, rfl, rfl⟩
  · exfalso; omega

theorem c_X5_set_place (l : Launch) {nw sp : Nat} {I : xM} {r ln m : Nat} {y z : Int32} (hr : r < 8) (ht : I (31 + 2 * r) 0 = nI 1) (hl : I (31 + 2 * r) 1 = nI ln) (hln : ln < 3) (hm : I (31 + 2 * r) 2 = nI m) (hm4 : m ≤ 40) (hy : ¬ (0 ≤ y.toInt ∧ y.toInt < m)) : xC l 2 0 0 yX5_set cX5_set 5 (some .int) 319 [.ref 0, .int (nI r), .int y, .int z] I (xRL nw sp) (xpI (-1000012) 319 (xput I 0 13 (nI 2)) (xRL nw sp)) := by
  refine xC_of (by decide) (Nat.le_of_ble_eq_true rfl) (fun X hXl hX hR => ?_)
  have hX : xOK X RX5 cX5_set 5 2 0 0 := hX
  show G X 319 0 0 I (xRL nw sp) 0 [(0, .ref 0), (1, .int (nI r)), (2, .int y), (3, .int z)] []
  refine g_iload_n hX dX5_set_0 rfl 1 rfl ?_
  refine g_callSi hX (as := [.int (nI r)]) (fun l => c_X5_isRow l (I := I) (x := (nI r)) ) mX5_isRow sX5_isRow lX5_75 rfl dX5_set_1 rfl (by decide) (Nat.le_of_ble_eq_true rfl) (by decide) (by decide) ?_
  refine g_top (y := xb ((0 : Int) ≤ ((r : Nat) : Int) ∧ ((r : Nat) : Int) ≤ (7 : Int))) (by rw [nI_toInt (n := r) (by omega)]) ?_
  refine g_cb_ne (tgt := 10) hX dX5_set_4 (by decide) (fun h4 => ?_) (fun h4 => ?_)
  · refine g_aload_n hX dX5_set_10 rfl 0 rfl ?_
    refine g_getR (j := 1) hX (by decide) (by decide) xCl5 0 (by decide) (by decide) kX5_11 dX5_set_11 rfl ?_
    refine g_iload_n hX dX5_set_14 rfl 1 rfl ?_
    refine g_aald (j := 31 + 2 * r) hX (by decide) (by decide) (Or.inr rfl) r rfl (by rw [(show xN 1 = 8 by decide)]; omega) dX5_set_15 (xRL_rows hr) ?_
    refine g_astore (L' := [(0, .ref 0), (1, .int (nI r)), (2, .int y), (3, .int z), (4, .ref (31 + 2 * r))]) hX dX5_set_16 (by decide) rfl ?_
    refine g_aload hX dX5_set_18 4 rfl ?_
    refine g_getI (v := nI 1) hX (by omega) (xW_K0 hr) xCl2 0 (by decide) (by decide) kX5_91 dX5_set_20 ht ?_
    refine g_cz_ne (a := (1 : Int)) (tgt := 32) hX dX5_set_23 (by decide) (by decide) (fun _ => ?_) (fun q => absurd q (by decide))
    refine g_iload_n hX dX5_set_32 rfl 2 rfl ?_
    refine g_cz_lt (a := y.toInt) (tgt := 45) hX dX5_set_33 (by decide) rfl (fun h33 => ?_) (fun h33 => ?_)
    · refine g_aload_n hX dX5_set_45 rfl 0 rfl ?_
      refine g_iconst (v := nI 2) hX dX5_set_46 (by decide) ?_
      refine g_callVi hX (as := [.int (nI 2)]) (fun l => c_X5_found l (I := I) (x := (nI 2)) ) mX5_found vX5_found lX5_80 (by decide) (by decide) xCl5 rfl rfl dX5_set_47 rfl (by decide) (Nat.le_of_ble_eq_true rfl) (by decide) (by decide) ?_
      exact g_iret hX hR dX5_set_50 (by decide) (by decide) ⟨congrArg (fun z => some (Value.int z)) rfl, rfl, rfl, rfl⟩
    · refine g_iload_n hX dX5_set_36 rfl 2 rfl ?_
      refine g_aload hX dX5_set_37 4 rfl ?_
      refine g_getI (v := nI m) hX (by omega) (xW_K0 hr) xCl2 2 (by decide) (by decide) kX5_94 dX5_set_39 hm ?_
      refine g_ci_lt (a := y.toInt) (b := ((m : Nat) : Int)) (tgt := 51) hX dX5_set_42 (by decide) rfl (nI_toInt (by omega)) (fun h42 => ?_) (fun h42 => ?_)
      · exfalso; omega
      · refine g_aload_n hX dX5_set_45 rfl 0 rfl ?_
        refine g_iconst (v := nI 2) hX dX5_set_46 (by decide) ?_
        refine g_callVi hX (as := [.int (nI 2)]) (fun l => c_X5_found l (I := I) (x := (nI 2)) ) mX5_found vX5_found lX5_80 (by decide) (by decide) xCl5 rfl rfl dX5_set_47 rfl (by decide) (Nat.le_of_ble_eq_true rfl) (by decide) (by decide) ?_
        exact g_iret hX hR dX5_set_50 (by decide) (by decide) ⟨congrArg (fun z => some (Value.int z)) rfl, rfl, rfl, rfl⟩
  · exfalso; omega

theorem c_X5_set_ok (l : Launch) {nw sp : Nat} {I : xM} {r i ln m : Nat} {z : Int32} (hr : r < 8) (ht : I (31 + 2 * r) 0 = nI 1) (hl : I (31 + 2 * r) 1 = nI ln) (hln : ln < 3) (hm : I (31 + 2 * r) 2 = nI m) (hm4 : m ≤ 40) (hi : i < m) : xC l 2 0 0 yX5_set cX5_set 5 (some .int) 319 [.ref 0, .int (nI r), .int (nI i), .int z] I (xRL nw sp) (xpI (lcut ln z) 319 (xput (xput I (32 + 2 * r) i (lcut ln z)) 0 13 (nI 0)) (xRL nw sp)) := by
  refine xC_of (by decide) (Nat.le_of_ble_eq_true rfl) (fun X hXl hX hR => ?_)
  have hX : xOK X RX5 cX5_set 5 2 0 0 := hX
  show G X 319 0 0 I (xRL nw sp) 0 [(0, .ref 0), (1, .int (nI r)), (2, .int (nI i)), (3, .int z)] []
  refine g_iload_n hX dX5_set_0 rfl 1 rfl ?_
  refine g_callSi hX (as := [.int (nI r)]) (fun l => c_X5_isRow l (I := I) (x := (nI r)) ) mX5_isRow sX5_isRow lX5_75 rfl dX5_set_1 rfl (by decide) (Nat.le_of_ble_eq_true rfl) (by decide) (by decide) ?_
  refine g_top (y := xb ((0 : Int) ≤ ((r : Nat) : Int) ∧ ((r : Nat) : Int) ≤ (7 : Int))) (by rw [nI_toInt (n := r) (by omega)]) ?_
  refine g_cb_ne (tgt := 10) hX dX5_set_4 (by decide) (fun h4 => ?_) (fun h4 => ?_)
  · refine g_aload_n hX dX5_set_10 rfl 0 rfl ?_
    refine g_getR (j := 1) hX (by decide) (by decide) xCl5 0 (by decide) (by decide) kX5_11 dX5_set_11 rfl ?_
    refine g_iload_n hX dX5_set_14 rfl 1 rfl ?_
    refine g_aald (j := 31 + 2 * r) hX (by decide) (by decide) (Or.inr rfl) r rfl (by rw [(show xN 1 = 8 by decide)]; omega) dX5_set_15 (xRL_rows hr) ?_
    refine g_astore (L' := [(0, .ref 0), (1, .int (nI r)), (2, .int (nI i)), (3, .int z), (4, .ref (31 + 2 * r))]) hX dX5_set_16 (by decide) rfl ?_
    refine g_aload hX dX5_set_18 4 rfl ?_
    refine g_getI (v := nI 1) hX (by omega) (xW_K0 hr) xCl2 0 (by decide) (by decide) kX5_91 dX5_set_20 ht ?_
    refine g_cz_ne (a := (1 : Int)) (tgt := 32) hX dX5_set_23 (by decide) (by decide) (fun _ => ?_) (fun q => absurd q (by decide))
    refine g_iload_n hX dX5_set_32 rfl 2 rfl ?_
    refine g_cz_lt (a := ((i : Nat) : Int)) (tgt := 45) hX dX5_set_33 (by decide) (nI_toInt (by omega)) (fun h33 => ?_) (fun h33 => ?_)
    · exfalso; omega
    · refine g_iload_n hX dX5_set_36 rfl 2 rfl ?_
      refine g_aload hX dX5_set_37 4 rfl ?_
      refine g_getI (v := nI m) hX (by omega) (xW_K0 hr) xCl2 2 (by decide) (by decide) kX5_94 dX5_set_39 hm ?_
      refine g_ci_lt (a := ((i : Nat) : Int)) (b := ((m : Nat) : Int)) (tgt := 51) hX dX5_set_42 (by decide) (nI_toInt (by omega)) (nI_toInt (by omega)) (fun h42 => ?_) (fun h42 => ?_)
      · refine g_aload hX dX5_set_51 4 rfl ?_
        refine g_getR (j := 32 + 2 * r) hX (by omega) (xW_K0 hr) xCl2 3 (by decide) (by decide) kX5_97 dX5_set_53 (xRL_w hr) ?_
        refine g_iload_n hX dX5_set_56 rfl 2 rfl ?_
        refine g_aload hX dX5_set_57 4 rfl ?_
        refine g_iload_n hX dX5_set_59 rfl 3 rfl ?_
        refine g_callVi hX (as := [.int z]) (fun l => c_X2_cutToLane l (I := I) (r := r) (ln := ln) (v := z) (hr := hr) (hl := (by first | assumption | omega)) (hln := (by first | assumption | omega))) mX2_cutToLane vX2_cutToLane lX5_101 (by omega) (xW_K0 hr) xCl2 rfl rfl dX5_set_60 rfl (by decide) (Nat.le_of_ble_eq_true rfl) (by decide) (by decide) ?_
        refine g_iast hX (by omega) (xW_K1 hr) i rfl (by rw [(xW_N1 hr)]; omega) dX5_set_63 ?_
        refine g_aload_n hX dX5_set_64 rfl 0 rfl ?_
        refine g_aload hX dX5_set_65 4 rfl ?_
        refine g_getR (j := 32 + 2 * r) hX (by omega) (xW_K0 hr) xCl2 3 (by decide) (by decide) kX5_97 dX5_set_67 (xRL_w hr) ?_
        refine g_iload_n hX dX5_set_70 rfl 2 rfl ?_
        refine g_iald (v := lcut ln z) hX (by omega) (xW_K1 hr) i rfl (by rw [(xW_N1 hr)]; omega) dX5_set_71 xput_e ?_
        refine g_callVi hX (as := [.int (lcut ln z)]) (fun l => c_X5_unfound l (I := (xput I (32 + 2 * r) i (lcut ln z))) (x := (lcut ln z)) ) mX5_unfound vX5_unfound lX5_88 (by decide) (by decide) xCl5 rfl rfl dX5_set_72 rfl (by decide) (Nat.le_of_ble_eq_true rfl) (by decide) (by decide) ?_
        exact g_iret hX hR dX5_set_75 (by decide) (by decide) ⟨congrArg (fun z => some (Value.int z)) rfl, rfl, rfl, rfl⟩
      · exfalso; omega
  · exfalso; omega

theorem c_X5_drop_bad (l : Launch) {nw sp : Nat} {I : xM} {x : Int32} (hb : ¬ (0 ≤ x.toInt ∧ x.toInt ≤ 7)) : xC l 2 0 0 yX5_drop cX5_drop 3 (some .int) 319 [.ref 0, .int x] I (xRL nw sp) (xpI (-1000001) 319 I (xRL nw sp)) := by
  refine xC_of (by decide) (Nat.le_of_ble_eq_true rfl) (fun X hXl hX hR => ?_)
  have hX : xOK X RX5 cX5_drop 3 2 0 0 := hX
  show G X 319 0 0 I (xRL nw sp) 0 [(0, .ref 0), (1, .int x)] []
  refine g_iload_n hX dX5_drop_0 rfl 1 rfl ?_
  refine g_callSi hX (as := [.int x]) (fun l => c_X5_isRow l (I := I) (x := x) ) mX5_isRow sX5_isRow lX5_75 rfl dX5_drop_1 rfl (by decide) (Nat.le_of_ble_eq_true rfl) (by decide) (by decide) ?_
  refine g_cb_ne (tgt := 10) hX dX5_drop_4 (by decide) (fun h4 => ?_) (fun h4 => ?_)
  · exfalso; omega
  · refine g_ldc (v := -1000001) hX cX5_79 dX5_drop_7 ?_
    exact g_iret hX hR dX5_drop_9 (by decide) (by decide) ⟨congrArg (fun z => some (Value.int z)) rfl, rfl, rfl, rfl⟩

theorem c_X5_drop_null (l : Launch) {nw sp : Nat} {I : xM} {r : Nat} (hr : r < 8) (ht : I (31 + 2 * r) 0 = nI 0) : xC l 2 0 0 yX5_drop cX5_drop 3 (some .int) 319 [.ref 0, .int (nI r)] I (xRL nw sp) (xpI (-1000011) 319 (xput I 0 13 (nI 1)) (xRL nw sp)) := by
  refine xC_of (by decide) (Nat.le_of_ble_eq_true rfl) (fun X hXl hX hR => ?_)
  have hX : xOK X RX5 cX5_drop 3 2 0 0 := hX
  show G X 319 0 0 I (xRL nw sp) 0 [(0, .ref 0), (1, .int (nI r))] []
  refine g_iload_n hX dX5_drop_0 rfl 1 rfl ?_
  refine g_callSi hX (as := [.int (nI r)]) (fun l => c_X5_isRow l (I := I) (x := (nI r)) ) mX5_isRow sX5_isRow lX5_75 rfl dX5_drop_1 rfl (by decide) (Nat.le_of_ble_eq_true rfl) (by decide) (by decide) ?_
  refine g_top (y := xb ((0 : Int) ≤ ((r : Nat) : Int) ∧ ((r : Nat) : Int) ≤ (7 : Int))) (by rw [nI_toInt (n := r) (by omega)]) ?_
  refine g_cb_ne (tgt := 10) hX dX5_drop_4 (by decide) (fun h4 => ?_) (fun h4 => ?_)
  · refine g_aload_n hX dX5_drop_10 rfl 0 rfl ?_
    refine g_getR (j := 1) hX (by decide) (by decide) xCl5 0 (by decide) (by decide) kX5_11 dX5_drop_11 rfl ?_
    refine g_iload_n hX dX5_drop_14 rfl 1 rfl ?_
    refine g_aald (j := 31 + 2 * r) hX (by decide) (by decide) (Or.inr rfl) r rfl (by rw [(show xN 1 = 8 by decide)]; omega) dX5_drop_15 (xRL_rows hr) ?_
    refine g_astore_n (L' := [(0, .ref 0), (1, .int (nI r)), (2, .ref (31 + 2 * r))]) hX dX5_drop_16 rfl (by decide) rfl ?_
    refine g_aload_n hX dX5_drop_17 rfl 2 rfl ?_
    refine g_getI (v := nI 0) hX (by omega) (xW_K0 hr) xCl2 0 (by decide) (by decide) kX5_91 dX5_drop_18 ht ?_
    refine g_cz_ne (a := (0 : Int)) (tgt := 30) hX dX5_drop_21 (by decide) (by decide) (fun q => absurd q (by decide)) (fun _ => ?_)
    refine g_aload_n hX dX5_drop_24 rfl 0 rfl ?_
    refine g_iconst (v := nI 1) hX dX5_drop_25 (by decide) ?_
    refine g_callVi hX (as := [.int (nI 1)]) (fun l => c_X5_found l (I := I) (x := (nI 1)) ) mX5_found vX5_found lX5_80 (by decide) (by decide) xCl5 rfl rfl dX5_drop_26 rfl (by decide) (Nat.le_of_ble_eq_true rfl) (by decide) (by decide) ?_
    exact g_iret hX hR dX5_drop_29 (by decide) (by decide) ⟨congrArg (fun z => some (Value.int z)) rfl, rfl, rfl, rfl⟩
  · exfalso; omega

theorem c_X5_drop_ok (l : Launch) {nw sp : Nat} {I : xM} {r : Nat} (hr : r < 8) (ht : I (31 + 2 * r) 0 = nI 1) : xC l 2 0 0 yX5_drop cX5_drop 3 (some .int) 319 [.ref 0, .int (nI r)] I (xRL nw sp) (xpI (I (31 + 2 * r) 2) 319 (xput (xput I (31 + 2 * r) 0 (nI 0)) 0 13 (nI 0)) (xRL nw sp)) := by
  refine xC_of (by decide) (Nat.le_of_ble_eq_true rfl) (fun X hXl hX hR => ?_)
  have hX : xOK X RX5 cX5_drop 3 2 0 0 := hX
  show G X 319 0 0 I (xRL nw sp) 0 [(0, .ref 0), (1, .int (nI r))] []
  refine g_iload_n hX dX5_drop_0 rfl 1 rfl ?_
  refine g_callSi hX (as := [.int (nI r)]) (fun l => c_X5_isRow l (I := I) (x := (nI r)) ) mX5_isRow sX5_isRow lX5_75 rfl dX5_drop_1 rfl (by decide) (Nat.le_of_ble_eq_true rfl) (by decide) (by decide) ?_
  refine g_top (y := xb ((0 : Int) ≤ ((r : Nat) : Int) ∧ ((r : Nat) : Int) ≤ (7 : Int))) (by rw [nI_toInt (n := r) (by omega)]) ?_
  refine g_cb_ne (tgt := 10) hX dX5_drop_4 (by decide) (fun h4 => ?_) (fun h4 => ?_)
  · refine g_aload_n hX dX5_drop_10 rfl 0 rfl ?_
    refine g_getR (j := 1) hX (by decide) (by decide) xCl5 0 (by decide) (by decide) kX5_11 dX5_drop_11 rfl ?_
    refine g_iload_n hX dX5_drop_14 rfl 1 rfl ?_
    refine g_aald (j := 31 + 2 * r) hX (by decide) (by decide) (Or.inr rfl) r rfl (by rw [(show xN 1 = 8 by decide)]; omega) dX5_drop_15 (xRL_rows hr) ?_
    refine g_astore_n (L' := [(0, .ref 0), (1, .int (nI r)), (2, .ref (31 + 2 * r))]) hX dX5_drop_16 rfl (by decide) rfl ?_
    refine g_aload_n hX dX5_drop_17 rfl 2 rfl ?_
    refine g_getI (v := nI 1) hX (by omega) (xW_K0 hr) xCl2 0 (by decide) (by decide) kX5_91 dX5_drop_18 ht ?_
    refine g_cz_ne (a := (1 : Int)) (tgt := 30) hX dX5_drop_21 (by decide) (by decide) (fun _ => ?_) (fun q => absurd q (by decide))
    refine g_aload_n hX dX5_drop_30 rfl 2 rfl ?_
    refine g_iconst (v := nI 0) hX dX5_drop_31 (by decide) ?_
    refine g_putI hX (by omega) (xW_K0 hr) xCl2 0 (by decide) (by decide) (by decide) kX5_91 dX5_drop_32 (by decide) (by decide) ?_
    refine g_aload_n hX dX5_drop_35 rfl 0 rfl ?_
    refine g_aload_n hX dX5_drop_36 rfl 2 rfl ?_
    refine g_getI (v := I (31 + 2 * r) 2) hX (by omega) (xW_K0 hr) xCl2 2 (by decide) (by decide) kX5_94 dX5_drop_37 (xput_i (by decide) rfl) ?_
    refine g_callVi hX (as := [.int (I (31 + 2 * r) 2)]) (fun l => c_X5_unfound l (I := (xput I (31 + 2 * r) 0 (nI 0))) (x := (I (31 + 2 * r) 2)) ) mX5_unfound vX5_unfound lX5_88 (by decide) (by decide) xCl5 rfl rfl dX5_drop_40 rfl (by decide) (Nat.le_of_ble_eq_true rfl) (by decide) (by decide) ?_
    exact g_iret hX hR dX5_drop_43 (by decide) (by decide) ⟨congrArg (fun z => some (Value.int z)) rfl, rfl, rfl, rfl⟩
  · exfalso; omega

theorem c_X5_copy_bad (l : Launch) {nw sp : Nat} {I : xM} {a i b j n : Int32} (hb : ¬ (0 ≤ a.toInt ∧ a.toInt ≤ 7 ∧ 0 ≤ b.toInt ∧ b.toInt ≤ 7)) : xC l 2 0 0 yX5_copy cX5_copy 8 (some .int) 319 [.ref 0, .int a, .int i, .int b, .int j, .int n] I (xRL nw sp) (xpI (-1000001) 319 I (xRL nw sp)) := by
  refine xC_of (by decide) (Nat.le_of_ble_eq_true rfl) (fun X hXl hX hR => ?_)
  have hX : xOK X RX5 cX5_copy 8 2 0 0 := hX
  show G X 319 0 0 I (xRL nw sp) 0 [(0, .ref 0), (1, .int a), (2, .int i), (3, .int b), (4, .int j), (5, .int n)] []
  refine g_iload_n hX dX5_copy_0 rfl 1 rfl ?_
  refine g_callSi hX (as := [.int a]) (fun l => c_X5_isRow l (I := I) (x := a) ) mX5_isRow sX5_isRow lX5_75 rfl dX5_copy_1 rfl (by decide) (Nat.le_of_ble_eq_true rfl) (by decide) (by decide) ?_
  refine g_cb_eq (tgt := 14) hX dX5_copy_4 (by decide) (fun h4 => ?_) (fun h4 => ?_)
  · refine g_ldc (v := -1000001) hX cX5_79 dX5_copy_14 ?_
    exact g_iret hX hR dX5_copy_16 (by decide) (by decide) ⟨congrArg (fun z => some (Value.int z)) rfl, rfl, rfl, rfl⟩
  · refine g_iload_n hX dX5_copy_7 rfl 3 rfl ?_
    refine g_callSi hX (as := [.int b]) (fun l => c_X5_isRow l (I := I) (x := b) ) mX5_isRow sX5_isRow lX5_75 rfl dX5_copy_8 rfl (by decide) (Nat.le_of_ble_eq_true rfl) (by decide) (by decide) ?_
    refine g_cb_ne (tgt := 17) hX dX5_copy_11 (by decide) (fun h11 => ?_) (fun h11 => ?_)
    · exfalso; omega
    · refine g_ldc (v := -1000001) hX cX5_79 dX5_copy_14 ?_
      exact g_iret hX hR dX5_copy_16 (by decide) (by decide) ⟨congrArg (fun z => some (Value.int z)) rfl, rfl, rfl, rfl⟩

theorem c_X5_copy_null (l : Launch) {nw sp : Nat} {I : xM} {a b : Nat} {i j n : Int32} {pa pb : Bool} (ha : a < 8) (hb : b < 8) (hta : I (31 + 2 * a) 0 = xb (pa = true)) (htb : I (31 + 2 * b) 0 = xb (pb = true)) (hp : ¬ (pa = true ∧ pb = true)) : xC l 2 0 0 yX5_copy cX5_copy 8 (some .int) 319 [.ref 0, .int (nI a), .int i, .int (nI b), .int j, .int n] I (xRL nw sp) (xpI (-1000011) 319 (xput I 0 13 (nI 1)) (xRL nw sp)) := by
  refine xC_of (by decide) (Nat.le_of_ble_eq_true rfl) (fun X hXl hX hR => ?_)
  have hX : xOK X RX5 cX5_copy 8 2 0 0 := hX
  show G X 319 0 0 I (xRL nw sp) 0 [(0, .ref 0), (1, .int (nI a)), (2, .int i), (3, .int (nI b)), (4, .int j), (5, .int n)] []
  refine g_iload_n hX dX5_copy_0 rfl 1 rfl ?_
  refine g_callSi hX (as := [.int (nI a)]) (fun l => c_X5_isRow l (I := I) (x := (nI a)) ) mX5_isRow sX5_isRow lX5_75 rfl dX5_copy_1 rfl (by decide) (Nat.le_of_ble_eq_true rfl) (by decide) (by decide) ?_
  refine g_top (y := xb ((0 : Int) ≤ ((a : Nat) : Int) ∧ ((a : Nat) : Int) ≤ (7 : Int))) (by rw [nI_toInt (n := a) (by omega)]) ?_
  refine g_cb_eq (tgt := 14) hX dX5_copy_4 (by decide) (fun h4 => ?_) (fun h4 => ?_)
  · exfalso; omega
  · refine g_iload_n hX dX5_copy_7 rfl 3 rfl ?_
    refine g_callSi hX (as := [.int (nI b)]) (fun l => c_X5_isRow l (I := I) (x := (nI b)) ) mX5_isRow sX5_isRow lX5_75 rfl dX5_copy_8 rfl (by decide) (Nat.le_of_ble_eq_true rfl) (by decide) (by decide) ?_
    refine g_top (y := xb ((0 : Int) ≤ ((b : Nat) : Int) ∧ ((b : Nat) : Int) ≤ (7 : Int))) (by rw [nI_toInt (n := b) (by omega)]) ?_
    refine g_cb_ne (tgt := 17) hX dX5_copy_11 (by decide) (fun h11 => ?_) (fun h11 => ?_)
    · refine g_aload_n hX dX5_copy_17 rfl 0 rfl ?_
      refine g_getR (j := 1) hX (by decide) (by decide) xCl5 0 (by decide) (by decide) kX5_11 dX5_copy_18 rfl ?_
      refine g_iload_n hX dX5_copy_21 rfl 1 rfl ?_
      refine g_aald (j := 31 + 2 * a) hX (by decide) (by decide) (Or.inr rfl) a rfl (by rw [(show xN 1 = 8 by decide)]; omega) dX5_copy_22 (xRL_rows ha) ?_
      refine g_astore (L' := [(0, .ref 0), (1, .int (nI a)), (2, .int i), (3, .int (nI b)), (4, .int j), (5, .int n), (6, .ref (31 + 2 * a))]) hX dX5_copy_23 (by decide) rfl ?_
      refine g_aload_n hX dX5_copy_25 rfl 0 rfl ?_
      refine g_getR (j := 1) hX (by decide) (by decide) xCl5 0 (by decide) (by decide) kX5_11 dX5_copy_26 rfl ?_
      refine g_iload_n hX dX5_copy_29 rfl 3 rfl ?_
      refine g_aald (j := 31 + 2 * b) hX (by decide) (by decide) (Or.inr rfl) b rfl (by rw [(show xN 1 = 8 by decide)]; omega) dX5_copy_30 (xRL_rows hb) ?_
      refine g_astore (L' := [(0, .ref 0), (1, .int (nI a)), (2, .int i), (3, .int (nI b)), (4, .int j), (5, .int n), (6, .ref (31 + 2 * a)), (7, .ref (31 + 2 * b))]) hX dX5_copy_31 (by decide) rfl ?_
      refine g_aload hX dX5_copy_33 6 rfl ?_
      refine g_getI (v := xb (pa = true)) hX (by omega) (xW_K0 ha) xCl2 0 (by decide) (by decide) kX5_91 dX5_copy_35 hta ?_
      refine g_cb_eq (tgt := 49) hX dX5_copy_38 (by decide) (fun h38 => ?_) (fun h38 => ?_)
      · refine g_aload_n hX dX5_copy_49 rfl 0 rfl ?_
        refine g_iconst (v := nI 1) hX dX5_copy_50 (by decide) ?_
        refine g_callVi hX (as := [.int (nI 1)]) (fun l => c_X5_found l (I := I) (x := (nI 1)) ) mX5_found vX5_found lX5_80 (by decide) (by decide) xCl5 rfl rfl dX5_copy_51 rfl (by decide) (Nat.le_of_ble_eq_true rfl) (by decide) (by decide) ?_
        exact g_iret hX hR dX5_copy_54 (by decide) (by decide) ⟨congrArg (fun z => some (Value.int z)) rfl, rfl, rfl, rfl⟩
      · refine g_aload hX dX5_copy_41 7 rfl ?_
        refine g_getI (v := xb (pb = true)) hX (by omega) (xW_K0 hb) xCl2 0 (by decide) (by decide) kX5_91 dX5_copy_43 htb ?_
        refine g_cb_ne (tgt := 55) hX dX5_copy_46 (by decide) (fun h46 => ?_) (fun h46 => ?_)
        · exact absurd ⟨h38, h46⟩ hp
        · refine g_aload_n hX dX5_copy_49 rfl 0 rfl ?_
          refine g_iconst (v := nI 1) hX dX5_copy_50 (by decide) ?_
          refine g_callVi hX (as := [.int (nI 1)]) (fun l => c_X5_found l (I := I) (x := (nI 1)) ) mX5_found vX5_found lX5_80 (by decide) (by decide) xCl5 rfl rfl dX5_copy_51 rfl (by decide) (Nat.le_of_ble_eq_true rfl) (by decide) (by decide) ?_
          exact g_iret hX hR dX5_copy_54 (by decide) (by decide) ⟨congrArg (fun z => some (Value.int z)) rfl, rfl, rfl, rfl⟩
    · exfalso; omega

theorem c_X5_copy_store (l : Launch) {nw sp : Nat} {I : xM} {a b la lb : Nat} {i j n : Int32} (ha : a < 8) (hb : b < 8) (hta : I (31 + 2 * a) 0 = nI 1) (htb : I (31 + 2 * b) 0 = nI 1) (hla : I (31 + 2 * a) 1 = nI la) (hla3 : la < 3) (hlb : I (31 + 2 * b) 1 = nI lb) (hlb3 : lb < 3) (hne : la ≠ lb) : xC l 2 0 0 yX5_copy cX5_copy 8 (some .int) 319 [.ref 0, .int (nI a), .int i, .int (nI b), .int j, .int n] I (xRL nw sp) (xpI (-1000015) 319 (xput I 0 13 (nI 5)) (xRL nw sp)) := by
  refine xC_of (by decide) (Nat.le_of_ble_eq_true rfl) (fun X hXl hX hR => ?_)
  have hX : xOK X RX5 cX5_copy 8 2 0 0 := hX
  show G X 319 0 0 I (xRL nw sp) 0 [(0, .ref 0), (1, .int (nI a)), (2, .int i), (3, .int (nI b)), (4, .int j), (5, .int n)] []
  refine g_iload_n hX dX5_copy_0 rfl 1 rfl ?_
  refine g_callSi hX (as := [.int (nI a)]) (fun l => c_X5_isRow l (I := I) (x := (nI a)) ) mX5_isRow sX5_isRow lX5_75 rfl dX5_copy_1 rfl (by decide) (Nat.le_of_ble_eq_true rfl) (by decide) (by decide) ?_
  refine g_top (y := xb ((0 : Int) ≤ ((a : Nat) : Int) ∧ ((a : Nat) : Int) ≤ (7 : Int))) (by rw [nI_toInt (n := a) (by omega)]) ?_
  refine g_cb_eq (tgt := 14) hX dX5_copy_4 (by decide) (fun h4 => ?_) (fun h4 => ?_)
  · exfalso; omega
  · refine g_iload_n hX dX5_copy_7 rfl 3 rfl ?_
    refine g_callSi hX (as := [.int (nI b)]) (fun l => c_X5_isRow l (I := I) (x := (nI b)) ) mX5_isRow sX5_isRow lX5_75 rfl dX5_copy_8 rfl (by decide) (Nat.le_of_ble_eq_true rfl) (by decide) (by decide) ?_
    refine g_top (y := xb ((0 : Int) ≤ ((b : Nat) : Int) ∧ ((b : Nat) : Int) ≤ (7 : Int))) (by rw [nI_toInt (n := b) (by omega)]) ?_
    refine g_cb_ne (tgt := 17) hX dX5_copy_11 (by decide) (fun h11 => ?_) (fun h11 => ?_)
    · refine g_aload_n hX dX5_copy_17 rfl 0 rfl ?_
      refine g_getR (j := 1) hX (by decide) (by decide) xCl5 0 (by decide) (by decide) kX5_11 dX5_copy_18 rfl ?_
      refine g_iload_n hX dX5_copy_21 rfl 1 rfl ?_
      refine g_aald (j := 31 + 2 * a) hX (by decide) (by decide) (Or.inr rfl) a rfl (by rw [(show xN 1 = 8 by decide)]; omega) dX5_copy_22 (xRL_rows ha) ?_
      refine g_astore (L' := [(0, .ref 0), (1, .int (nI a)), (2, .int i), (3, .int (nI b)), (4, .int j), (5, .int n), (6, .ref (31 + 2 * a))]) hX dX5_copy_23 (by decide) rfl ?_
      refine g_aload_n hX dX5_copy_25 rfl 0 rfl ?_
      refine g_getR (j := 1) hX (by decide) (by decide) xCl5 0 (by decide) (by decide) kX5_11 dX5_copy_26 rfl ?_
      refine g_iload_n hX dX5_copy_29 rfl 3 rfl ?_
      refine g_aald (j := 31 + 2 * b) hX (by decide) (by decide) (Or.inr rfl) b rfl (by rw [(show xN 1 = 8 by decide)]; omega) dX5_copy_30 (xRL_rows hb) ?_
      refine g_astore (L' := [(0, .ref 0), (1, .int (nI a)), (2, .int i), (3, .int (nI b)), (4, .int j), (5, .int n), (6, .ref (31 + 2 * a)), (7, .ref (31 + 2 * b))]) hX dX5_copy_31 (by decide) rfl ?_
      refine g_aload hX dX5_copy_33 6 rfl ?_
      refine g_getI (v := nI 1) hX (by omega) (xW_K0 ha) xCl2 0 (by decide) (by decide) kX5_91 dX5_copy_35 hta ?_
      refine g_cz_eq (a := (1 : Int)) (tgt := 49) hX dX5_copy_38 (by decide) (by decide) (fun q => absurd q (by decide)) (fun _ => ?_)
      refine g_aload hX dX5_copy_41 7 rfl ?_
      refine g_getI (v := nI 1) hX (by omega) (xW_K0 hb) xCl2 0 (by decide) (by decide) kX5_91 dX5_copy_43 htb ?_
      refine g_cz_ne (a := (1 : Int)) (tgt := 55) hX dX5_copy_46 (by decide) (by decide) (fun _ => ?_) (fun q => absurd q (by decide))
      refine g_aload hX dX5_copy_55 6 rfl ?_
      refine g_getI (v := nI la) hX (by omega) (xW_K0 ha) xCl2 1 (by decide) (by decide) kX5_104 dX5_copy_57 hla ?_
      refine g_aload hX dX5_copy_60 7 rfl ?_
      refine g_getI (v := nI lb) hX (by omega) (xW_K0 hb) xCl2 1 (by decide) (by decide) kX5_104 dX5_copy_62 hlb ?_
      refine g_ci_eq (a := ((la : Nat) : Int)) (b := ((lb : Nat) : Int)) (tgt := 74) hX dX5_copy_65 (by decide) (nI_toInt (by omega)) (nI_toInt (by omega)) (fun h65 => ?_) (fun h65 => ?_)
      · exfalso; omega
      · refine g_aload_n hX dX5_copy_68 rfl 0 rfl ?_
        refine g_iconst (v := nI 5) hX dX5_copy_69 (by decide) ?_
        refine g_callVi hX (as := [.int (nI 5)]) (fun l => c_X5_found l (I := I) (x := (nI 5)) ) mX5_found vX5_found lX5_80 (by decide) (by decide) xCl5 rfl rfl dX5_copy_70 rfl (by decide) (Nat.le_of_ble_eq_true rfl) (by decide) (by decide) ?_
        exact g_iret hX hR dX5_copy_73 (by decide) (by decide) ⟨congrArg (fun z => some (Value.int z)) rfl, rfl, rfl, rfl⟩
    · exfalso; omega

theorem c_X5_copy_place (l : Launch) {nw sp : Nat} {I : xM} {a b la lb ma mb : Nat} {i j n : Int32} (ha : a < 8) (hb : b < 8) (hta : I (31 + 2 * a) 0 = nI 1) (htb : I (31 + 2 * b) 0 = nI 1) (hla : I (31 + 2 * a) 1 = nI la) (hla3 : la < 3) (hlb : I (31 + 2 * b) 1 = nI lb) (hlb3 : lb < 3) (heq : la = lb) (hma : I (31 + 2 * a) 2 = nI ma) (hma4 : ma ≤ 40) (hmb : I (31 + 2 * b) 2 = nI mb) (hmb4 : mb ≤ 40) (hp : ¬ (0 ≤ i.toInt ∧ 0 ≤ j.toInt ∧ 0 ≤ n.toInt ∧ i.toInt + n.toInt ≤ ma ∧ j.toInt + n.toInt ≤ mb)) : xC l 2 0 0 yX5_copy cX5_copy 8 (some .int) 319 [.ref 0, .int (nI a), .int i, .int (nI b), .int j, .int n] I (xRL nw sp) (xpI (-1000012) 319 (xput I 0 13 (nI 2)) (xRL nw sp)) := by
  refine xC_of (by decide) (Nat.le_of_ble_eq_true rfl) (fun X hXl hX hR => ?_)
  have hX : xOK X RX5 cX5_copy 8 2 0 0 := hX
  show G X 319 0 0 I (xRL nw sp) 0 [(0, .ref 0), (1, .int (nI a)), (2, .int i), (3, .int (nI b)), (4, .int j), (5, .int n)] []
  refine g_iload_n hX dX5_copy_0 rfl 1 rfl ?_
  refine g_callSi hX (as := [.int (nI a)]) (fun l => c_X5_isRow l (I := I) (x := (nI a)) ) mX5_isRow sX5_isRow lX5_75 rfl dX5_copy_1 rfl (by decide) (Nat.le_of_ble_eq_true rfl) (by decide) (by decide) ?_
  refine g_top (y := xb ((0 : Int) ≤ ((a : Nat) : Int) ∧ ((a : Nat) : Int) ≤ (7 : Int))) (by rw [nI_toInt (n := a) (by omega)]) ?_
  refine g_cb_eq (tgt := 14) hX dX5_copy_4 (by decide) (fun h4 => ?_) (fun h4 => ?_)
  · exfalso; omega
  · refine g_iload_n hX dX5_copy_7 rfl 3 rfl ?_
    refine g_callSi hX (as := [.int (nI b)]) (fun l => c_X5_isRow l (I := I) (x := (nI b)) ) mX5_isRow sX5_isRow lX5_75 rfl dX5_copy_8 rfl (by decide) (Nat.le_of_ble_eq_true rfl) (by decide) (by decide) ?_
    refine g_top (y := xb ((0 : Int) ≤ ((b : Nat) : Int) ∧ ((b : Nat) : Int) ≤ (7 : Int))) (by rw [nI_toInt (n := b) (by omega)]) ?_
    refine g_cb_ne (tgt := 17) hX dX5_copy_11 (by decide) (fun h11 => ?_) (fun h11 => ?_)
    · refine g_aload_n hX dX5_copy_17 rfl 0 rfl ?_
      refine g_getR (j := 1) hX (by decide) (by decide) xCl5 0 (by decide) (by decide) kX5_11 dX5_copy_18 rfl ?_
      refine g_iload_n hX dX5_copy_21 rfl 1 rfl ?_
      refine g_aald (j := 31 + 2 * a) hX (by decide) (by decide) (Or.inr rfl) a rfl (by rw [(show xN 1 = 8 by decide)]; omega) dX5_copy_22 (xRL_rows ha) ?_
      refine g_astore (L' := [(0, .ref 0), (1, .int (nI a)), (2, .int i), (3, .int (nI b)), (4, .int j), (5, .int n), (6, .ref (31 + 2 * a))]) hX dX5_copy_23 (by decide) rfl ?_
      refine g_aload_n hX dX5_copy_25 rfl 0 rfl ?_
      refine g_getR (j := 1) hX (by decide) (by decide) xCl5 0 (by decide) (by decide) kX5_11 dX5_copy_26 rfl ?_
      refine g_iload_n hX dX5_copy_29 rfl 3 rfl ?_
      refine g_aald (j := 31 + 2 * b) hX (by decide) (by decide) (Or.inr rfl) b rfl (by rw [(show xN 1 = 8 by decide)]; omega) dX5_copy_30 (xRL_rows hb) ?_
      refine g_astore (L' := [(0, .ref 0), (1, .int (nI a)), (2, .int i), (3, .int (nI b)), (4, .int j), (5, .int n), (6, .ref (31 + 2 * a)), (7, .ref (31 + 2 * b))]) hX dX5_copy_31 (by decide) rfl ?_
      refine g_aload hX dX5_copy_33 6 rfl ?_
      refine g_getI (v := nI 1) hX (by omega) (xW_K0 ha) xCl2 0 (by decide) (by decide) kX5_91 dX5_copy_35 hta ?_
      refine g_cz_eq (a := (1 : Int)) (tgt := 49) hX dX5_copy_38 (by decide) (by decide) (fun q => absurd q (by decide)) (fun _ => ?_)
      refine g_aload hX dX5_copy_41 7 rfl ?_
      refine g_getI (v := nI 1) hX (by omega) (xW_K0 hb) xCl2 0 (by decide) (by decide) kX5_91 dX5_copy_43 htb ?_
      refine g_cz_ne (a := (1 : Int)) (tgt := 55) hX dX5_copy_46 (by decide) (by decide) (fun _ => ?_) (fun q => absurd q (by decide))
      refine g_aload hX dX5_copy_55 6 rfl ?_
      refine g_getI (v := nI la) hX (by omega) (xW_K0 ha) xCl2 1 (by decide) (by decide) kX5_104 dX5_copy_57 hla ?_
      refine g_aload hX dX5_copy_60 7 rfl ?_
      refine g_getI (v := nI lb) hX (by omega) (xW_K0 hb) xCl2 1 (by decide) (by decide) kX5_104 dX5_copy_62 hlb ?_
      refine g_ci_eq (a := ((la : Nat) : Int)) (b := ((lb : Nat) : Int)) (tgt := 74) hX dX5_copy_65 (by decide) (nI_toInt (by omega)) (nI_toInt (by omega)) (fun h65 => ?_) (fun h65 => ?_)
      · refine g_aload hX dX5_copy_74 6 rfl ?_
        refine g_iload_n hX dX5_copy_76 rfl 2 rfl ?_
        refine g_iload hX dX5_copy_77 5 rfl ?_
        refine g_callVi hX (as := [.int i, .int n]) (fun l => c_X2_has l (I := I) (r := a) (m := ma) (x := i) (y := n) (hr := ha) (hm := hma) (hm4 := hma4)) mX2_has vX2_has lX5_107 (by omega) (xW_K0 ha) xCl2 rfl rfl dX5_copy_79 rfl (by decide) (Nat.le_of_ble_eq_true rfl) (by decide) (by decide) ?_
        refine g_cb_eq (tgt := 97) hX dX5_copy_82 (by decide) (fun h82 => ?_) (fun h82 => ?_)
        · refine g_aload_n hX dX5_copy_97 rfl 0 rfl ?_
          refine g_iconst (v := nI 2) hX dX5_copy_98 (by decide) ?_
          refine g_callVi hX (as := [.int (nI 2)]) (fun l => c_X5_found l (I := I) (x := (nI 2)) ) mX5_found vX5_found lX5_80 (by decide) (by decide) xCl5 rfl rfl dX5_copy_99 rfl (by decide) (Nat.le_of_ble_eq_true rfl) (by decide) (by decide) ?_
          exact g_iret hX hR dX5_copy_102 (by decide) (by decide) ⟨congrArg (fun z => some (Value.int z)) rfl, rfl, rfl, rfl⟩
        · refine g_aload hX dX5_copy_85 7 rfl ?_
          refine g_iload hX dX5_copy_87 4 rfl ?_
          refine g_iload hX dX5_copy_89 5 rfl ?_
          refine g_callVi hX (as := [.int j, .int n]) (fun l => c_X2_has l (I := I) (r := b) (m := mb) (x := j) (y := n) (hr := hb) (hm := hmb) (hm4 := hmb4)) mX2_has vX2_has lX5_107 (by omega) (xW_K0 hb) xCl2 rfl rfl dX5_copy_91 rfl (by decide) (Nat.le_of_ble_eq_true rfl) (by decide) (by decide) ?_
          refine g_cb_ne (tgt := 103) hX dX5_copy_94 (by decide) (fun h94 => ?_) (fun h94 => ?_)
          · exfalso; omega
          · refine g_aload_n hX dX5_copy_97 rfl 0 rfl ?_
            refine g_iconst (v := nI 2) hX dX5_copy_98 (by decide) ?_
            refine g_callVi hX (as := [.int (nI 2)]) (fun l => c_X5_found l (I := I) (x := (nI 2)) ) mX5_found vX5_found lX5_80 (by decide) (by decide) xCl5 rfl rfl dX5_copy_99 rfl (by decide) (Nat.le_of_ble_eq_true rfl) (by decide) (by decide) ?_
            exact g_iret hX hR dX5_copy_102 (by decide) (by decide) ⟨congrArg (fun z => some (Value.int z)) rfl, rfl, rfl, rfl⟩
      · exfalso; omega
    · exfalso; omega

theorem c_X5_copy_ok (l : Launch) {nw sp : Nat} {I : xM} {a b la lb ma mb i j n : Nat} (ha : a < 8) (hb : b < 8) (hta : I (31 + 2 * a) 0 = nI 1) (htb : I (31 + 2 * b) 0 = nI 1) (hla : I (31 + 2 * a) 1 = nI la) (hla3 : la < 3) (hlb : I (31 + 2 * b) 1 = nI lb) (hlb3 : lb < 3) (heq : la = lb) (hma : I (31 + 2 * a) 2 = nI ma) (hma4 : ma ≤ 40) (hmb : I (31 + 2 * b) 2 = nI mb) (hmb4 : mb ≤ 40) (hp1 : i + n ≤ ma) (hp2 : j + n ≤ mb) : xC l 2 0 0 yX5_copy cX5_copy 8 (some .int) 319 [.ref 0, .int (nI a), .int (nI i), .int (nI b), .int (nI j), .int (nI n)] I (xRL nw sp) (xpI (nI n) 319 (xput (xrow I (32 + 2 * b) (va_cpy (I (32 + 2 * a)) (I (32 + 2 * b)) i j n)) 0 13 (nI 0)) (xRL nw sp)) := by
  refine xC_of (by decide) (Nat.le_of_ble_eq_true rfl) (fun X hXl hX hR => ?_)
  have hX : xOK X RX5 cX5_copy 8 2 0 0 := hX
  show G X 319 0 0 I (xRL nw sp) 0 [(0, .ref 0), (1, .int (nI a)), (2, .int (nI i)), (3, .int (nI b)), (4, .int (nI j)), (5, .int (nI n))] []
  refine g_iload_n hX dX5_copy_0 rfl 1 rfl ?_
  refine g_callSi hX (as := [.int (nI a)]) (fun l => c_X5_isRow l (I := I) (x := (nI a)) ) mX5_isRow sX5_isRow lX5_75 rfl dX5_copy_1 rfl (by decide) (Nat.le_of_ble_eq_true rfl) (by decide) (by decide) ?_
  refine g_top (y := xb ((0 : Int) ≤ ((a : Nat) : Int) ∧ ((a : Nat) : Int) ≤ (7 : Int))) (by rw [nI_toInt (n := a) (by omega)]) ?_
  refine g_cb_eq (tgt := 14) hX dX5_copy_4 (by decide) (fun h4 => ?_) (fun h4 => ?_)
  · exfalso; omega
  · refine g_iload_n hX dX5_copy_7 rfl 3 rfl ?_
    refine g_callSi hX (as := [.int (nI b)]) (fun l => c_X5_isRow l (I := I) (x := (nI b)) ) mX5_isRow sX5_isRow lX5_75 rfl dX5_copy_8 rfl (by decide) (Nat.le_of_ble_eq_true rfl) (by decide) (by decide) ?_
    refine g_top (y := xb ((0 : Int) ≤ ((b : Nat) : Int) ∧ ((b : Nat) : Int) ≤ (7 : Int))) (by rw [nI_toInt (n := b) (by omega)]) ?_
    refine g_cb_ne (tgt := 17) hX dX5_copy_11 (by decide) (fun h11 => ?_) (fun h11 => ?_)
    · refine g_aload_n hX dX5_copy_17 rfl 0 rfl ?_
      refine g_getR (j := 1) hX (by decide) (by decide) xCl5 0 (by decide) (by decide) kX5_11 dX5_copy_18 rfl ?_
      refine g_iload_n hX dX5_copy_21 rfl 1 rfl ?_
      refine g_aald (j := 31 + 2 * a) hX (by decide) (by decide) (Or.inr rfl) a rfl (by rw [(show xN 1 = 8 by decide)]; omega) dX5_copy_22 (xRL_rows ha) ?_
      refine g_astore (L' := [(0, .ref 0), (1, .int (nI a)), (2, .int (nI i)), (3, .int (nI b)), (4, .int (nI j)), (5, .int (nI n)), (6, .ref (31 + 2 * a))]) hX dX5_copy_23 (by decide) rfl ?_
      refine g_aload_n hX dX5_copy_25 rfl 0 rfl ?_
      refine g_getR (j := 1) hX (by decide) (by decide) xCl5 0 (by decide) (by decide) kX5_11 dX5_copy_26 rfl ?_
      refine g_iload_n hX dX5_copy_29 rfl 3 rfl ?_
      refine g_aald (j := 31 + 2 * b) hX (by decide) (by decide) (Or.inr rfl) b rfl (by rw [(show xN 1 = 8 by decide)]; omega) dX5_copy_30 (xRL_rows hb) ?_
      refine g_astore (L' := [(0, .ref 0), (1, .int (nI a)), (2, .int (nI i)), (3, .int (nI b)), (4, .int (nI j)), (5, .int (nI n)), (6, .ref (31 + 2 * a)), (7, .ref (31 + 2 * b))]) hX dX5_copy_31 (by decide) rfl ?_
      refine g_aload hX dX5_copy_33 6 rfl ?_
      refine g_getI (v := nI 1) hX (by omega) (xW_K0 ha) xCl2 0 (by decide) (by decide) kX5_91 dX5_copy_35 hta ?_
      refine g_cz_eq (a := (1 : Int)) (tgt := 49) hX dX5_copy_38 (by decide) (by decide) (fun q => absurd q (by decide)) (fun _ => ?_)
      refine g_aload hX dX5_copy_41 7 rfl ?_
      refine g_getI (v := nI 1) hX (by omega) (xW_K0 hb) xCl2 0 (by decide) (by decide) kX5_91 dX5_copy_43 htb ?_
      refine g_cz_ne (a := (1 : Int)) (tgt := 55) hX dX5_copy_46 (by decide) (by decide) (fun _ => ?_) (fun q => absurd q (by decide))
      refine g_aload hX dX5_copy_55 6 rfl ?_
      refine g_getI (v := nI la) hX (by omega) (xW_K0 ha) xCl2 1 (by decide) (by decide) kX5_104 dX5_copy_57 hla ?_
      refine g_aload hX dX5_copy_60 7 rfl ?_
      refine g_getI (v := nI lb) hX (by omega) (xW_K0 hb) xCl2 1 (by decide) (by decide) kX5_104 dX5_copy_62 hlb ?_
      refine g_ci_eq (a := ((la : Nat) : Int)) (b := ((lb : Nat) : Int)) (tgt := 74) hX dX5_copy_65 (by decide) (nI_toInt (by omega)) (nI_toInt (by omega)) (fun h65 => ?_) (fun h65 => ?_)
      · refine g_aload hX dX5_copy_74 6 rfl ?_
        refine g_iload_n hX dX5_copy_76 rfl 2 rfl ?_
        refine g_iload hX dX5_copy_77 5 rfl ?_
        refine g_callVi hX (as := [.int (nI i), .int (nI n)]) (fun l => c_X2_has l (I := I) (r := a) (m := ma) (x := (nI i)) (y := (nI n)) (hr := ha) (hm := hma) (hm4 := hma4)) mX2_has vX2_has lX5_107 (by omega) (xW_K0 ha) xCl2 rfl rfl dX5_copy_79 rfl (by decide) (Nat.le_of_ble_eq_true rfl) (by decide) (by decide) ?_
        refine g_top (y := xb (0 ≤ ((i : Nat) : Int) ∧ 0 ≤ ((n : Nat) : Int) ∧ ((i : Nat) : Int) + ((n : Nat) : Int) ≤ ma)) (by rw [nI_toInt (n := i) (by omega), nI_toInt (n := n) (by omega)]) ?_
        refine g_cb_eq (tgt := 97) hX dX5_copy_82 (by decide) (fun h82 => ?_) (fun h82 => ?_)
        · exfalso; omega
        · refine g_aload hX dX5_copy_85 7 rfl ?_
          refine g_iload hX dX5_copy_87 4 rfl ?_
          refine g_iload hX dX5_copy_89 5 rfl ?_
          refine g_callVi hX (as := [.int (nI j), .int (nI n)]) (fun l => c_X2_has l (I := I) (r := b) (m := mb) (x := (nI j)) (y := (nI n)) (hr := hb) (hm := hmb) (hm4 := hmb4)) mX2_has vX2_has lX5_107 (by omega) (xW_K0 hb) xCl2 rfl rfl dX5_copy_91 rfl (by decide) (Nat.le_of_ble_eq_true rfl) (by decide) (by decide) ?_
          refine g_top (y := xb (0 ≤ ((j : Nat) : Int) ∧ 0 ≤ ((n : Nat) : Int) ∧ ((j : Nat) : Int) + ((n : Nat) : Int) ≤ mb)) (by rw [nI_toInt (n := j) (by omega), nI_toInt (n := n) (by omega)]) ?_
          refine g_cb_ne (tgt := 103) hX dX5_copy_94 (by decide) (fun h94 => ?_) (fun h94 => ?_)
          · refine g_aload hX dX5_copy_103 6 rfl ?_
            refine g_getR (j := 32 + 2 * a) hX (by omega) (xW_K0 ha) xCl2 3 (by decide) (by decide) kX5_97 dX5_copy_105 (xRL_w ha) ?_
            refine g_iload_n hX dX5_copy_108 rfl 2 rfl ?_
            refine g_aload hX dX5_copy_109 7 rfl ?_
            refine g_getR (j := 32 + 2 * b) hX (by omega) (xW_K0 hb) xCl2 3 (by decide) (by decide) kX5_97 dX5_copy_111 (xRL_w hb) ?_
            refine g_iload hX dX5_copy_114 4 rfl ?_
            refine g_iload hX dX5_copy_116 5 rfl ?_
            refine g_copy hX jcX5_111 jc_n jc_s jc_i (by omega) (by omega) (xW_K1 ha) (xW_K1 hb) (Or.inl rfl) i j n rfl rfl rfl (by rw [(xW_N1 ha)]; omega) (by rw [(xW_N1 hb)]; omega) (fun q => absurd q (by decide)) (by decide) (Nat.le_of_ble_eq_true rfl) dX5_copy_118 ?_
            refine g_aload_n hX dX5_copy_121 rfl 0 rfl ?_
            refine g_iload hX dX5_copy_122 5 rfl ?_
            refine g_callVi hX (as := [.int (nI n)]) (fun l => c_X5_unfound l (I := (xrow I (32 + 2 * b) (va_cpy (I (32 + 2 * a)) (I (32 + 2 * b)) i j n))) (x := (nI n)) ) mX5_unfound vX5_unfound lX5_88 (by decide) (by decide) xCl5 rfl rfl dX5_copy_124 rfl (by decide) (Nat.le_of_ble_eq_true rfl) (by decide) (by decide) ?_
            exact g_iret hX hR dX5_copy_127 (by decide) (by decide) ⟨congrArg (fun z => some (Value.int z)) rfl, rfl, rfl, rfl⟩
          · exfalso; omega
      · exfalso; omega
    · exfalso; omega

theorem c_X1_take (l : Launch) {nw sp : Nat} {I : xM} {b : Int32} {t : Nat} (ht : I 2 1 = nI t) (ht4 : t < 400) (hb : b.toInt8.toInt32 = b) : xC l 1 0 0 yX1_take cX1_take 2 none 319 [.ref 2, .int b] I (xRL nw sp) (xpV 319 (xput (xput I 3 t b) 2 1 (nI (t + 1))) (xRL nw sp)) := by
  refine xC_of (by decide) (Nat.le_of_ble_eq_true rfl) (fun X hXl hX hR => ?_)
  have hX : xOK X RX1 cX1_take 2 1 0 0 := hX
  show G X 319 0 0 I (xRL nw sp) 0 [(0, .ref 2), (1, .int b)] []
  refine g_aload_n hX dX1_take_0 rfl 0 rfl ?_
  refine g_getI (v := nI t) hX (by decide) (by decide) xCl1 1 (by decide) (by decide) kX1_15 dX1_take_1 ht ?_
  refine g_sipush (v := nI 400) hX dX1_take_4 (by decide) ?_
  refine g_ci_ge (a := ((t : Nat) : Int)) (b := (400 : Int)) (tgt := 30) hX dX1_take_7 (by decide) (nI_toInt (by omega)) (by decide) (fun h7 => ?_) (fun h7 => ?_)
  · exfalso; omega
  · refine g_aload_n hX dX1_take_10 rfl 0 rfl ?_
    refine g_getR (j := 3) hX (by decide) (by decide) xCl1 0 (by decide) (by decide) kX1_9 dX1_take_11 rfl ?_
    refine g_aload_n hX dX1_take_14 rfl 0 rfl ?_
    refine g_getI (v := nI t) hX (by decide) (by decide) xCl1 1 (by decide) (by decide) kX1_15 dX1_take_15 ht ?_
    refine g_iload_n hX dX1_take_18 rfl 1 rfl ?_
    refine g_bast hX (by decide) (by decide) t rfl (by rw [(show xN 3 = 400 by decide)]; omega) dX1_take_19 ?_
    rw [hb]
    refine g_aload_n hX dX1_take_20 rfl 0 rfl ?_
    refine g_dup hX rfl dX1_take_21 ?_
    refine g_getI (v := nI t) hX (by decide) (by decide) xCl1 1 (by decide) (by decide) kX1_15 dX1_take_22 (xput_o (by decide) ht) ?_
    refine g_iconst (v := nI 1) hX dX1_take_25 (by decide) ?_
    refine g_iadd (v := nI (t + 1)) hX dX1_take_26 (nI_add t 1) ?_
    refine g_putI hX (by decide) (by decide) xCl1 1 (by decide) (by decide) (by decide) kX1_15 dX1_take_27 rfl rfl ?_
    exact g_vret hX hR dX1_take_30 (by decide) (by decide) ⟨rfl, rfl, rfl, rfl⟩

theorem c_X5_feed_bad (l : Launch) {nw sp : Nat} {I : xM} {w : Int64} {x : Int32} (hb : ¬ (1 ≤ x.toInt ∧ x.toInt ≤ 8)) : xC l 1 0 0 yX5_feed cX5_feed 5 (some .int) 319 [.ref 0, .long w, .int x] I (xRL nw sp) (xpI (-1000001) 319 I (xRL nw sp)) := by
  refine xC_of (by decide) (Nat.le_of_ble_eq_true rfl) (fun X hXl hX hR => ?_)
  have hX : xOK X RX5 cX5_feed 5 1 0 0 := hX
  show G X 319 0 0 I (xRL nw sp) 0 [(0, .ref 0), (1, .long w), (3, .int x)] []
  refine g_iload_n hX dX5_feed_0 rfl 2 rfl ?_
  refine g_iconst (v := nI 1) hX dX5_feed_1 (by decide) ?_
  refine g_ci_lt (a := x.toInt) (b := (1 : Int)) (tgt := 11) hX dX5_feed_2 (by decide) rfl (by decide) (fun h2 => ?_) (fun h2 => ?_)
  · refine g_ldc (v := -1000001) hX cX5_79 dX5_feed_11 ?_
    exact g_iret hX hR dX5_feed_13 (by decide) (by decide) ⟨congrArg (fun z => some (Value.int z)) rfl, rfl, rfl, rfl⟩
  · refine g_iload_n hX dX5_feed_5 rfl 2 rfl ?_
    refine g_bipush (v := nI 8) hX dX5_feed_6 (by decide) ?_
    refine g_ci_le (a := x.toInt) (b := (8 : Int)) (tgt := 14) hX dX5_feed_8 (by decide) rfl (by decide) (fun h8 => ?_) (fun h8 => ?_)
    · exfalso; omega
    · refine g_ldc (v := -1000001) hX cX5_79 dX5_feed_11 ?_
      exact g_iret hX hR dX5_feed_13 (by decide) (by decide) ⟨congrArg (fun z => some (Value.int z)) rfl, rfl, rfl, rfl⟩

theorem c_X5_feed_full (l : Launch) {nw sp : Nat} {I : xM} {w : Int64} {n t : Nat} (ht : I 2 1 = nI t) (ht4 : t ≤ 400) (hn : 1 ≤ n) (hn8 : n ≤ 8) (hf : 400 < t + n) : xC l 1 0 0 yX5_feed cX5_feed 5 (some .int) 319 [.ref 0, .long w, .int (nI n)] I (xRL nw sp) (xpI (-1000003) 319 I (xRL nw sp)) := by
  refine xC_of (by decide) (Nat.le_of_ble_eq_true rfl) (fun X hXl hX hR => ?_)
  have hX : xOK X RX5 cX5_feed 5 1 0 0 := hX
  show G X 319 0 0 I (xRL nw sp) 0 [(0, .ref 0), (1, .long w), (3, .int (nI n))] []
  refine g_iload_n hX dX5_feed_0 rfl 2 rfl ?_
  refine g_iconst (v := nI 1) hX dX5_feed_1 (by decide) ?_
  refine g_ci_lt (a := ((n : Nat) : Int)) (b := (1 : Int)) (tgt := 11) hX dX5_feed_2 (by decide) (nI_toInt (by omega)) (by decide) (fun h2 => ?_) (fun h2 => ?_)
  · exfalso; omega
  · refine g_iload_n hX dX5_feed_5 rfl 2 rfl ?_
    refine g_bipush (v := nI 8) hX dX5_feed_6 (by decide) ?_
    refine g_ci_le (a := ((n : Nat) : Int)) (b := (8 : Int)) (tgt := 14) hX dX5_feed_8 (by decide) (nI_toInt (by omega)) (by decide) (fun h8 => ?_) (fun h8 => ?_)
    · refine g_aload_n hX dX5_feed_14 rfl 0 rfl ?_
      refine g_getR (j := 2) hX (by decide) (by decide) xCl5 1 (by decide) (by decide) kX5_18 dX5_feed_15 rfl ?_
      refine g_getI (v := nI t) hX (by decide) (by decide) xCl1 1 (by decide) (by decide) kX5_117 dX5_feed_18 ht ?_
      refine g_iload_n hX dX5_feed_21 rfl 2 rfl ?_
      refine g_iadd (v := nI (t + n)) hX dX5_feed_22 (nI_add t n) ?_
      refine g_sipush (v := nI 400) hX dX5_feed_23 (by decide) ?_
      refine g_ci_le (a := ((t + n : Nat) : Int)) (b := (400 : Int)) (tgt := 32) hX dX5_feed_26 (by decide) (nI_toInt (by omega)) (by decide) (fun h26 => ?_) (fun h26 => ?_)
      · exfalso; omega
      · refine g_ldc (v := -1000003) hX cX5_120 dX5_feed_29 ?_
        exact g_iret hX hR dX5_feed_31 (by decide) (by decide) ⟨congrArg (fun z => some (Value.int z)) rfl, rfl, rfl, rfl⟩
    · exfalso; omega

theorem c_X5_feed_ok (l : Launch) {nw sp : Nat} {I : xM} {w : Int64} {n t : Nat} (ht : I 2 1 = nI t) (hn : 1 ≤ n) (hn8 : n ≤ 8) (hf : t + n ≤ 400) : xC l 2 0 0 yX5_feed cX5_feed 5 (some .int) 319 [.ref 0, .long w, .int (nI n)] I (xRL nw sp) (xpI (nI (t + n)) 319 (xput (xrow I 3 (xfill (I 3) (fun q => cbyte w ((n : Int) - 1 - (q : Nat))) t n)) 2 1 (nI (t + n))) (xRL nw sp)) := by
  refine xC_of (by decide) (Nat.le_of_ble_eq_true rfl) (fun X hXl hX hR => ?_)
  have hX : xOK X RX5 cX5_feed 5 2 0 0 := hX
  show G X 319 0 0 I (xRL nw sp) 0 [(0, .ref 0), (1, .long w), (3, .int (nI n))] []
  refine g_iload_n hX dX5_feed_0 rfl 2 rfl ?_
  refine g_iconst (v := nI 1) hX dX5_feed_1 (by decide) ?_
  refine g_ci_lt (a := ((n : Nat) : Int)) (b := (1 : Int)) (tgt := 11) hX dX5_feed_2 (by decide) (nI_toInt (by omega)) (by decide) (fun h2 => ?_) (fun h2 => ?_)
  · exfalso; omega
  · refine g_iload_n hX dX5_feed_5 rfl 2 rfl ?_
    refine g_bipush (v := nI 8) hX dX5_feed_6 (by decide) ?_
    refine g_ci_le (a := ((n : Nat) : Int)) (b := (8 : Int)) (tgt := 14) hX dX5_feed_8 (by decide) (nI_toInt (by omega)) (by decide) (fun h8 => ?_) (fun h8 => ?_)
    · refine g_aload_n hX dX5_feed_14 rfl 0 rfl ?_
      refine g_getR (j := 2) hX (by decide) (by decide) xCl5 1 (by decide) (by decide) kX5_18 dX5_feed_15 rfl ?_
      refine g_getI (v := nI t) hX (by decide) (by decide) xCl1 1 (by decide) (by decide) kX5_117 dX5_feed_18 ht ?_
      refine g_iload_n hX dX5_feed_21 rfl 2 rfl ?_
      refine g_iadd (v := nI (t + n)) hX dX5_feed_22 (nI_add t n) ?_
      refine g_sipush (v := nI 400) hX dX5_feed_23 (by decide) ?_
      refine g_ci_le (a := ((t + n : Nat) : Int)) (b := (400 : Int)) (tgt := 32) hX dX5_feed_26 (by decide) (nI_toInt (by omega)) (by decide) (fun h26 => ?_) (fun h26 => ?_)
      · refine g_iload_n hX dX5_feed_32 rfl 2 rfl ?_
        refine g_iconst (v := nI 1) hX dX5_feed_33 (by decide) ?_
        refine g_isub (v := zI (((n : Nat) : Int) - ((1 : Nat) : Int))) hX dX5_feed_34 (zI_sub (((n : Nat) : Int)) (((1 : Nat) : Int))) ?_
        refine g_istore (L' := [(0, .ref 0), (1, .long w), (3, .int (nI n)), (4, .int (zI (((n : Nat) : Int) - ((1 : Nat) : Int))))]) hX dX5_feed_35 (by decide) rfl ?_
        have cut37 : ∀ (fuel : Nat) (q : Nat) (k : Int) (J : xM) (hq : q ≤ n) (hk : k = (n : Int) - 1 - q) (hJ : J = xput (xrow I 3 (xfill (I 3) (fun q => cbyte w ((n : Int) - 1 - (q : Nat))) t q)) 2 1 (nI (t + q))) (hJt : J 2 1 = nI (t + q)), n - q < fuel → G X 319 0 0 J (xRL nw sp) 37 [(0, .ref 0), (1, .long w), (3, .int (nI n)), (4, .int (zI k))] [] := by
          intro fuel
          induction fuel with
          | zero => intro q k J hq hk hJ hJt hfuel; omega
          | succ fuel ih =>
            intro q k J hq hk hJ hJt hfuel
            refine g_iload hX dX5_feed_37 3 rfl ?_
            refine g_cz_lt (a := (k : Int)) (tgt := 64) hX dX5_feed_39 (by decide) (zI_toInt (by omega) (by omega)) (fun h39 => ?_) (fun h39 => ?_)
            · refine g_aload_n hX dX5_feed_64 rfl 0 rfl ?_
              refine g_getR (j := 2) hX (by decide) (by decide) xCl5 1 (by decide) (by decide) kX5_18 dX5_feed_65 rfl ?_
              refine g_getI (v := nI (t + q)) hX (by decide) (by decide) xCl1 1 (by decide) (by decide) kX5_117 dX5_feed_68 hJt ?_
              exact g_iret hX hR dX5_feed_71 (by decide) (by decide) ⟨congrArg (fun z => some (Value.int z)) (by rw [show q = n by omega]), rfl, (by rw [hJ, show q = n by omega]), rfl⟩
            · refine g_aload_n hX dX5_feed_42 rfl 0 rfl ?_
              refine g_getR (j := 2) hX (by decide) (by decide) xCl5 1 (by decide) (by decide) kX5_18 dX5_feed_43 rfl ?_
              refine g_lload_n hX dX5_feed_46 rfl 1 rfl ?_
              refine g_bipush (v := nI 8) hX dX5_feed_47 (by decide) ?_
              refine g_iload hX dX5_feed_49 3 rfl ?_
              refine g_imul (v := zI (((8 : Nat) : Int) * (k))) hX dX5_feed_51 (zI_mul (((8 : Nat) : Int)) ((k))) ?_
              refine g_lushr (v := (w.toUInt64 >>> ((zI (((8 : Nat) : Int) * (k))).toInt64.toUInt64 &&& Int64.toUInt64 63)).toInt64) hX dX5_feed_52 rfl ?_
              refine g_l2i (v := ((w.toUInt64 >>> ((zI (((8 : Nat) : Int) * (k))).toInt64.toUInt64 &&& Int64.toUInt64 63)).toInt64).toInt32) hX dX5_feed_53 rfl ?_
              refine g_i2b (v := (((w.toUInt64 >>> ((zI (((8 : Nat) : Int) * (k))).toInt64.toUInt64 &&& Int64.toUInt64 63)).toInt64).toInt32).toInt8.toInt32) hX dX5_feed_54 rfl ?_
              refine g_callVv hX (as := [.int ((((w.toUInt64 >>> ((zI (((8 : Nat) : Int) * (k))).toInt64.toUInt64 &&& Int64.toUInt64 63)).toInt64).toInt32).toInt8.toInt32)]) (fun l => c_X1_take l (I := J) (b := ((((w.toUInt64 >>> ((zI (((8 : Nat) : Int) * (k))).toInt64.toUInt64 &&& Int64.toUInt64 63)).toInt64).toInt32).toInt8.toInt32)) (t := (t + q)) (ht := hJt) (ht4 := (by first | assumption | omega)) (hb := (i8_twice _))) mX1_take vX1_take lX5_121 (by decide) (by decide) xCl1 rfl rfl dX5_feed_55 rfl (by decide) (Nat.le_of_ble_eq_true rfl) (by decide) (by decide) ?_
              refine g_iinc (v := zI ((k : Int) + (-1))) (L' := [(0, .ref 0), (1, .long w), (3, .int (nI n)), (4, .int (zI ((k : Int) + (-1))))]) hX dX5_feed_58 (by decide) 3 rfl (zI_add (k : Int) (-1)) rfl ?_
              refine g_goto (tgt := 37) hX dX5_feed_61 (by decide) ?_
              exact ih (q + 1) ((k : Int) + (-1)) (xput (xput J 3 (t + q) ((((w.toUInt64 >>> ((zI (((8 : Nat) : Int) * (k))).toInt64.toUInt64 &&& Int64.toUInt64 63)).toInt64).toInt32).toInt8.toInt32)) 2 1 (nI ((t + q) + 1))) (by first | assumption | omega) (by first | assumption | omega) (by rw [hJ, xput_comm (I := xrow _ _ _) (a := 2) (b := 3) (by decide), xput_twice]; exact congrArg (fun M => xput M 2 1 _) (xfill_step rfl rfl (by rw [hk]; rfl))) xput_e (by omega)
        exact cut37 _ 0 (((n : Nat) : Int) - ((1 : Nat) : Int)) I (by first | assumption | omega) (by first | assumption | omega) ((xput_same (v := nI (t + 0)) ht).symm.trans (congrArg (fun M => xput M 2 1 (nI (t + 0))) (xfill_start (o := 3) (f := I 3) rfl))) ht (Nat.lt_succ_self _)
      · exfalso; omega
    · exfalso; omega
