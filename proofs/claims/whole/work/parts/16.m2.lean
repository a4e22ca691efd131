theorem c_X6_set_bad (l : Launch) {nw sp : Nat} {I : xM} {x y z : Int32} (hb : ¬ (0 ≤ x.toInt ∧ x.toInt ≤ 7)) : xC l 3 0 0 yX6_set cX6_set 4 (some .int) 319 [.ref 307, .int x, .int y, .int z] I (xRL nw sp) (xpI (-1000001) 319 (xput I 307 0 (nI 0)) (xRL nw sp)) := by
  refine xC_of (by decide) (Nat.le_of_ble_eq_true rfl) (fun X hXl hX hR => ?_)
  have hX : xOK X RX6 cX6_set 4 3 0 0 := hX
  show G X 319 0 0 I (xRL nw sp) 0 [(0, .ref 307), (1, .int x), (2, .int y), (3, .int z)] []
  refine g_aload_n hX dX6_set_0 rfl 0 rfl ?_
  refine g_iconst (v := nI 0) hX dX6_set_1 (by decide) ?_
  refine g_putI hX (by decide) (by decide) xCl6 0 (by decide) (by decide) (by decide) kX6_44 dX6_set_2 rfl rfl ?_
  refine g_iload_n hX dX6_set_5 rfl 1 rfl ?_
  refine g_callSi hX (as := [.int x]) (fun l => c_X6_isRow l (I := (xput I 307 0 (nI 0))) (x := x) ) mX6_isRow sX6_isRow lX6_58 rfl dX6_set_6 rfl (by decide) (Nat.le_of_ble_eq_true rfl) (by decide) (by decide) ?_
  refine g_cb_ne (tgt := 15) hX dX6_set_9 (by decide) (fun h9 => ?_) (fun h9 => ?_)
  · exfalso; omega
  · refine g_ldc (v := -1000001) hX cX6_64 dX6_set_12 ?_
    exact g_iret hX hR dX6_set_14 (by decide) (by decide) ⟨congrArg (fun z => some (Value.int z)) rfl, rfl, rfl, rfl⟩

theorem c_X6_set_null (l : Launch) {nw sp : Nat} {I : xM} {r : Nat} {y z : Int32} (hr : r < 8) (hl : (I 308 r).toInt < 0) : xC l 3 0 0 yX6_set cX6_set 4 (some .int) 319 [.ref 307, .int (nI r), .int y, .int z] I (xRL nw sp) (xpI (-1000011) 319 (xput (xput (xput I 307 0 (nI 0)) 307 1 (nI 0)) 307 1 (nI 1)) (xRL nw sp)) := by
  refine xC_of (by decide) (Nat.le_of_ble_eq_true rfl) (fun X hXl hX hR => ?_)
  have hX : xOK X RX6 cX6_set 4 3 0 0 := hX
  show G X 319 0 0 I (xRL nw sp) 0 [(0, .ref 307), (1, .int (nI r)), (2, .int y), (3, .int z)] []
  refine g_aload_n hX dX6_set_0 rfl 0 rfl ?_
  refine g_iconst (v := nI 0) hX dX6_set_1 (by decide) ?_
  refine g_putI hX (by decide) (by decide) xCl6 0 (by decide) (by decide) (by decide) kX6_44 dX6_set_2 rfl rfl ?_
  refine g_iload_n hX dX6_set_5 rfl 1 rfl ?_
  refine g_callSi hX (as := [.int (nI r)]) (fun l => c_X6_isRow l (I := (xput I 307 0 (nI 0))) (x := (nI r)) ) mX6_isRow sX6_isRow lX6_58 rfl dX6_set_6 rfl (by decide) (Nat.le_of_ble_eq_true rfl) (by decide) (by decide) ?_
  refine g_top (y := xb ((0 : Int) ≤ ((r : Nat) : Int) ∧ ((r : Nat) : Int) ≤ (7 : Int))) (by rw [nI_toInt (n := r) (by omega)]) ?_
  refine g_cb_ne (tgt := 15) hX dX6_set_9 (by decide) (fun h9 => ?_) (fun h9 => ?_)
  · refine g_aload_n hX dX6_set_15 rfl 0 rfl ?_
    refine g_iconst (v := nI 0) hX dX6_set_16 (by decide) ?_
    refine g_putI hX (by decide) (by decide) xCl6 1 (by decide) (by decide) (by decide) kX6_48 dX6_set_17 rfl rfl ?_
    refine g_aload_n hX dX6_set_20 rfl 0 rfl ?_
    refine g_getR (j := 308) hX (by decide) (by decide) xCl6 2 (by decide) (by decide) kX6_7 dX6_set_21 rfl ?_
    refine g_iload_n hX dX6_set_24 rfl 1 rfl ?_
    refine g_iald (v := I 308 r) hX (by decide) (by decide) r rfl (by rw [(show xN 308 = 8 by decide)]; omega) dX6_set_25 (xput_o (by decide) (xput_o (by decide) rfl)) ?_
    refine g_cz_ge (a := (I 308 r).toInt) (tgt := 35) hX dX6_set_26 (by decide) rfl (fun h26 => ?_) (fun h26 => ?_)
    · exfalso; omega
    · refine g_aload_n hX dX6_set_29 rfl 0 rfl ?_
      refine g_iconst (v := nI 1) hX dX6_set_30 (by decide) ?_
      refine g_callVi hX (as := [.int (nI 1)]) (fun l => c_X6_finding l (I := (xput (xput I 307 0 (nI 0)) 307 1 (nI 0))) (x := (nI 1)) ) mX6_finding vX6_finding lX6_65 (by decide) (by decide) xCl6 rfl rfl dX6_set_31 rfl (by decide) (Nat.le_of_ble_eq_true rfl) (by decide) (by decide) ?_
      exact g_iret hX hR dX6_set_34 (by decide) (by decide) ⟨congrArg (fun z => some (Value.int z)) rfl, rfl, rfl, rfl⟩
  · exfalso; omega

theorem c_X6_set_place (l : Launch) {nw sp : Nat} {I : xM} {r ln m : Nat} {y z : Int32} (hr : r < 8) (hl : I 308 r = nI ln) (hln : ln < 3) (hm : I 309 r = nI m) (hm4 : m ≤ 40) (hy : ¬ (0 ≤ y.toInt ∧ y.toInt < m)) : xC l 3 0 0 yX6_set cX6_set 4 (some .int) 319 [.ref 307, .int (nI r), .int y, .int z] I (xRL nw sp) (xpI (-1000012) 319 (xput (xput (xput I 307 0 (nI 0)) 307 1 (nI 0)) 307 1 (nI 2)) (xRL nw sp)) := by
  refine xC_of (by decide) (Nat.le_of_ble_eq_true rfl) (fun X hXl hX hR => ?_)
  have hX : xOK X RX6 cX6_set 4 3 0 0 := hX
  show G X 319 0 0 I (xRL nw sp) 0 [(0, .ref 307), (1, .int (nI r)), (2, .int y), (3, .int z)] []
  refine g_aload_n hX dX6_set_0 rfl 0 rfl ?_
  refine g_iconst (v := nI 0) hX dX6_set_1 (by decide) ?_
  refine g_putI hX (by decide) (by decide) xCl6 0 (by decide) (by decide) (by decide) kX6_44 dX6_set_2 rfl rfl ?_
  refine g_iload_n hX dX6_set_5 rfl 1 rfl ?_
  refine g_callSi hX (as := [.int (nI r)]) (fun l => c_X6_isRow l (I := (xput I 307 0 (nI 0))) (x := (nI r)) ) mX6_isRow sX6_isRow lX6_58 rfl dX6_set_6 rfl (by decide) (Nat.le_of_ble_eq_true rfl) (by decide) (by decide) ?_
  refine g_top (y := xb ((0 : Int) ≤ ((r : Nat) : Int) ∧ ((r : Nat) : Int) ≤ (7 : Int))) (by rw [nI_toInt (n := r) (by omega)]) ?_
  refine g_cb_ne (tgt := 15) hX dX6_set_9 (by decide) (fun h9 => ?_) (fun h9 => ?_)
  · refine g_aload_n hX dX6_set_15 rfl 0 rfl ?_
    refine g_iconst (v := nI 0) hX dX6_set_16 (by decide) ?_
    refine g_putI hX (by decide) (by decide) xCl6 1 (by decide) (by decide) (by decide) kX6_48 dX6_set_17 rfl rfl ?_
    refine g_aload_n hX dX6_set_20 rfl 0 rfl ?_
    refine g_getR (j := 308) hX (by decide) (by decide) xCl6 2 (by decide) (by decide) kX6_7 dX6_set_21 rfl ?_
    refine g_iload_n hX dX6_set_24 rfl 1 rfl ?_
    refine g_iald (v := nI ln) hX (by decide) (by decide) r rfl (by rw [(show xN 308 = 8 by decide)]; omega) dX6_set_25 (xput_o (by decide) (xput_o (by decide) hl)) ?_
    refine g_cz_ge (a := ((ln : Nat) : Int)) (tgt := 35) hX dX6_set_26 (by decide) (nI_toInt (by omega)) (fun h26 => ?_) (fun h26 => ?_)
    · refine g_iload_n hX dX6_set_35 rfl 2 rfl ?_
      refine g_i2l (v := y.toInt64) hX dX6_set_36 rfl ?_
      refine g_lconst (v := 0) hX dX6_set_37 (by decide) ?_
      refine g_aload_n hX dX6_set_38 rfl 0 rfl ?_
      refine g_getR (j := 309) hX (by decide) (by decide) xCl6 3 (by decide) (by decide) kX6_13 dX6_set_39 rfl ?_
      refine g_iload_n hX dX6_set_42 rfl 1 rfl ?_
      refine g_iald (v := nI m) hX (by decide) (by decide) r rfl (by rw [(show xN 309 = 8 by decide)]; omega) dX6_set_43 (xput_o (by decide) (xput_o (by decide) hm)) ?_
      refine g_iconst (v := nI 1) hX dX6_set_44 (by decide) ?_
      refine g_isub (v := zI (((m : Nat) : Int) - ((1 : Nat) : Int))) hX dX6_set_45 (zI_sub (((m : Nat) : Int)) (((1 : Nat) : Int))) ?_
      refine g_i2l (v := (zI (((m : Nat) : Int) - ((1 : Nat) : Int))).toInt64) hX dX6_set_46 rfl ?_
      refine g_callSi (as := [.long y.toInt64, .long 0, .long ((zI (((m : Nat) : Int) - ((1 : Nat) : Int))).toInt64)]) hX (fun l => c_X6_in l) mX6_in sX6_in lX6_54 rfl dX6_set_47 rfl (by decide) (Nat.le_of_ble_eq_true rfl) (by decide) (by decide) ?_
      refine g_top (y := xb ((0 : Int) ≤ y.toInt ∧ y.toInt ≤ (((m : Nat) : Int) - ((1 : Nat) : Int) : Int))) (xb_iffI ((i64_of _).trans rfl) (by decide) ((i64_of _).trans (zI_toInt (by omega) (by omega)))) ?_
      refine g_cb_ne (tgt := 59) hX dX6_set_50 (by decide) (fun h50 => ?_) (fun h50 => ?_)
      · exfalso; omega
      · refine g_aload_n hX dX6_set_53 rfl 0 rfl ?_
        refine g_iconst (v := nI 2) hX dX6_set_54 (by decide) ?_
        refine g_callVi hX (as := [.int (nI 2)]) (fun l => c_X6_finding l (I := (xput (xput I 307 0 (nI 0)) 307 1 (nI 0))) (x := (nI 2)) ) mX6_finding vX6_finding lX6_65 (by decide) (by decide) xCl6 rfl rfl dX6_set_55 rfl (by decide) (Nat.le_of_ble_eq_true rfl) (by decide) (by decide) ?_
        exact g_iret hX hR dX6_set_58 (by decide) (by decide) ⟨congrArg (fun z => some (Value.int z)) rfl, rfl, rfl, rfl⟩
    · exfalso; omega
  · exfalso; omega

theorem c_X6_set_ok (l : Launch) {nw sp : Nat} {I : xM} {r i ln m : Nat} {z : Int32} (hr : r < 8) (hl : I 308 r = nI ln) (hln : ln < 3) (hm : I 309 r = nI m) (hm4 : m ≤ 40) (hi : i < m) : xC l 3 0 0 yX6_set cX6_set 4 (some .int) 319 [.ref 307, .int (nI r), .int (nI i), .int z] I (xRL nw sp) (xpI (lcut ln z) 319 (xput (xput (xput I 307 0 (nI 0)) 307 1 (nI 0)) 310 (40 * r + i) (lcut ln z)) (xRL nw sp)) := by
  refine xC_of (by decide) (Nat.le_of_ble_eq_true rfl) (fun X hXl hX hR => ?_)
  have hX : xOK X RX6 cX6_set 4 3 0 0 := hX
  show G X 319 0 0 I (xRL nw sp) 0 [(0, .ref 307), (1, .int (nI r)), (2, .int (nI i)), (3, .int z)] []
  refine g_aload_n hX dX6_set_0 rfl 0 rfl ?_
  refine g_iconst (v := nI 0) hX dX6_set_1 (by decide) ?_
  refine g_putI hX (by decide) (by decide) xCl6 0 (by decide) (by decide) (by decide) kX6_44 dX6_set_2 rfl rfl ?_
  refine g_iload_n hX dX6_set_5 rfl 1 rfl ?_
  refine g_callSi hX (as := [.int (nI r)]) (fun l => c_X6_isRow l (I := (xput I 307 0 (nI 0))) (x := (nI r)) ) mX6_isRow sX6_isRow lX6_58 rfl dX6_set_6 rfl (by decide) (Nat.le_of_ble_eq_true rfl) (by decide) (by decide) ?_
  refine g_top (y := xb ((0 : Int) ≤ ((r : Nat) : Int) ∧ ((r : Nat) : Int) ≤ (7 : Int))) (by rw [nI_toInt (n := r) (by omega)]) ?_
  refine g_cb_ne (tgt := 15) hX dX6_set_9 (by decide) (fun h9 => ?_) (fun h9 => ?_)
  · refine g_aload_n hX dX6_set_15 rfl 0 rfl ?_
    refine g_iconst (v := nI 0) hX dX6_set_16 (by decide) ?_
    refine g_putI hX (by decide) (by decide) xCl6 1 (by decide) (by decide) (by decide) kX6_48 dX6_set_17 rfl rfl ?_
    refine g_aload_n hX dX6_set_20 rfl 0 rfl ?_
    refine g_getR (j := 308) hX (by decide) (by decide) xCl6 2 (by decide) (by decide) kX6_7 dX6_set_21 rfl ?_
    refine g_iload_n hX dX6_set_24 rfl 1 rfl ?_
    refine g_iald (v := nI ln) hX (by decide) (by decide) r rfl (by rw [(show xN 308 = 8 by decide)]; omega) dX6_set_25 (xput_o (by decide) (xput_o (by decide) hl)) ?_
    refine g_cz_ge (a := ((ln : Nat) : Int)) (tgt := 35) hX dX6_set_26 (by decide) (nI_toInt (by omega)) (fun h26 => ?_) (fun h26 => ?_)
    · refine g_iload_n hX dX6_set_35 rfl 2 rfl ?_
      refine g_i2l (v := (nI i).toInt64) hX dX6_set_36 rfl ?_
      refine g_lconst (v := 0) hX dX6_set_37 (by decide) ?_
      refine g_aload_n hX dX6_set_38 rfl 0 rfl ?_
      refine g_getR (j := 309) hX (by decide) (by decide) xCl6 3 (by decide) (by decide) kX6_13 dX6_set_39 rfl ?_
      refine g_iload_n hX dX6_set_42 rfl 1 rfl ?_
      refine g_iald (v := nI m) hX (by decide) (by decide) r rfl (by rw [(show xN 309 = 8 by decide)]; omega) dX6_set_43 (xput_o (by decide) (xput_o (by decide) hm)) ?_
      refine g_iconst (v := nI 1) hX dX6_set_44 (by decide) ?_
      refine g_isub (v := zI (((m : Nat) : Int) - ((1 : Nat) : Int))) hX dX6_set_45 (zI_sub (((m : Nat) : Int)) (((1 : Nat) : Int))) ?_
      refine g_i2l (v := (zI (((m : Nat) : Int) - ((1 : Nat) : Int))).toInt64) hX dX6_set_46 rfl ?_
      refine g_callSi (as := [.long ((nI i).toInt64), .long 0, .long ((zI (((m : Nat) : Int) - ((1 : Nat) : Int))).toInt64)]) hX (fun l => c_X6_in l) mX6_in sX6_in lX6_54 rfl dX6_set_47 rfl (by decide) (Nat.le_of_ble_eq_true rfl) (by decide) (by decide) ?_
      refine g_top (y := xb ((0 : Int) ≤ ((i : Nat) : Int) ∧ ((i : Nat) : Int) ≤ (((m : Nat) : Int) - ((1 : Nat) : Int) : Int))) (xb_iffI ((i64_of _).trans (nI_toInt (by omega))) (by decide) ((i64_of _).trans (zI_toInt (by omega) (by omega)))) ?_
      refine g_cb_ne (tgt := 59) hX dX6_set_50 (by decide) (fun h50 => ?_) (fun h50 => ?_)
      · refine g_aload_n hX dX6_set_59 rfl 0 rfl ?_
        refine g_getR (j := 310) hX (by decide) (by decide) xCl6 4 (by decide) (by decide) kX6_16 dX6_set_60 rfl ?_
        refine g_bipush (v := nI 40) hX dX6_set_63 (by decide) ?_
        refine g_iload_n hX dX6_set_65 rfl 1 rfl ?_
        refine g_imul (v := nI (40 * r)) hX dX6_set_66 (nI_mul 40 r) ?_
        refine g_iload_n hX dX6_set_67 rfl 2 rfl ?_
        refine g_iadd (v := nI ((40 * r) + i)) hX dX6_set_68 (nI_add (40 * r) i) ?_
        refine g_aload_n hX dX6_set_69 rfl 0 rfl ?_
        refine g_getR (j := 308) hX (by decide) (by decide) xCl6 2 (by decide) (by decide) kX6_7 dX6_set_70 rfl ?_
        refine g_iload_n hX dX6_set_73 rfl 1 rfl ?_
        refine g_iald (v := nI ln) hX (by decide) (by decide) r rfl (by rw [(show xN 308 = 8 by decide)]; omega) dX6_set_74 (xput_o (by decide) (xput_o (by decide) hl)) ?_
        refine g_cz_ne (a := ((ln : Nat) : Int)) (tgt := 83) hX dX6_set_75 (by decide) (nI_toInt (by omega)) (fun h75 => ?_) (fun h75 => ?_)
        · refine g_aload_n hX dX6_set_83 rfl 0 rfl ?_
          refine g_getR (j := 308) hX (by decide) (by decide) xCl6 2 (by decide) (by decide) kX6_7 dX6_set_84 rfl ?_
          refine g_iload_n hX dX6_set_87 rfl 1 rfl ?_
          refine g_iald (v := nI ln) hX (by decide) (by decide) r rfl (by rw [(show xN 308 = 8 by decide)]; omega) dX6_set_88 (xput_o (by decide) (xput_o (by decide) hl)) ?_
          refine g_iconst (v := nI 1) hX dX6_set_89 (by decide) ?_
          refine g_ci_ne (a := ((ln : Nat) : Int)) (b := (1 : Int)) (tgt := 98) hX dX6_set_90 (by decide) (nI_toInt (by omega)) (by decide) (fun h90 => ?_) (fun h90 => ?_)
          · obtain rfl : ln = 2 := by omega
            refine g_iload_n hX dX6_set_98 rfl 3 rfl ?_
            refine g_iast hX (by decide) (by decide) ((40 * r) + i) rfl (by rw [(show xN 310 = 320 by decide)]; omega) dX6_set_99 ?_
            refine g_aload_n hX dX6_set_100 rfl 0 rfl ?_
            refine g_getR (j := 310) hX (by decide) (by decide) xCl6 4 (by decide) (by decide) kX6_16 dX6_set_101 rfl ?_
            refine g_bipush (v := nI 40) hX dX6_set_104 (by decide) ?_
            refine g_iload_n hX dX6_set_106 rfl 1 rfl ?_
            refine g_imul (v := nI (40 * r)) hX dX6_set_107 (nI_mul 40 r) ?_
            refine g_iload_n hX dX6_set_108 rfl 2 rfl ?_
            refine g_iadd (v := nI ((40 * r) + i)) hX dX6_set_109 (nI_add (40 * r) i) ?_
            refine g_iald (v := z) hX (by decide) (by decide) ((40 * r) + i) rfl (by rw [(show xN 310 = 320 by decide)]; omega) dX6_set_110 xput_e ?_
            exact g_iret hX hR dX6_set_111 (by decide) (by decide) ⟨congrArg (fun z => some (Value.int z)) rfl, rfl, rfl, rfl⟩
          · obtain rfl : ln = 1 := by omega
            refine g_iload_n hX dX6_set_93 rfl 3 rfl ?_
            refine g_i2s (v := z.toInt16.toInt32) hX dX6_set_94 rfl ?_
            refine g_goto (tgt := 99) hX dX6_set_95 (by decide) ?_
            refine g_iast hX (by decide) (by decide) ((40 * r) + i) rfl (by rw [(show xN 310 = 320 by decide)]; omega) dX6_set_99 ?_
            refine g_aload_n hX dX6_set_100 rfl 0 rfl ?_
            refine g_getR (j := 310) hX (by decide) (by decide) xCl6 4 (by decide) (by decide) kX6_16 dX6_set_101 rfl ?_
            refine g_bipush (v := nI 40) hX dX6_set_104 (by decide) ?_
            refine g_iload_n hX dX6_set_106 rfl 1 rfl ?_
            refine g_imul (v := nI (40 * r)) hX dX6_set_107 (nI_mul 40 r) ?_
            refine g_iload_n hX dX6_set_108 rfl 2 rfl ?_
            refine g_iadd (v := nI ((40 * r) + i)) hX dX6_set_109 (nI_add (40 * r) i) ?_
            refine g_iald (v := z.toInt16.toInt32) hX (by decide) (by decide) ((40 * r) + i) rfl (by rw [(show xN 310 = 320 by decide)]; omega) dX6_set_110 xput_e ?_
            exact g_iret hX hR dX6_set_111 (by decide) (by decide) ⟨congrArg (fun z => some (Value.int z)) rfl, rfl, rfl, rfl⟩
        · obtain rfl : ln = 0 := by omega
          refine g_iload_n hX dX6_set_78 rfl 3 rfl ?_
          refine g_i2b (v := z.toInt8.toInt32) hX dX6_set_79 rfl ?_
          refine g_goto (tgt := 99) hX dX6_set_80 (by decide) ?_
          refine g_iast hX (by decide) (by decide) ((40 * r) + i) rfl (by rw [(show xN 310 = 320 by decide)]; omega) dX6_set_99 ?_
          refine g_aload_n hX dX6_set_100 rfl 0 rfl ?_
          refine g_getR (j := 310) hX (by decide) (by decide) xCl6 4 (by decide) (by decide) kX6_16 dX6_set_101 rfl ?_
          refine g_bipush (v := nI 40) hX dX6_set_104 (by decide) ?_
          refine g_iload_n hX dX6_set_106 rfl 1 rfl ?_
          refine g_imul (v := nI (40 * r)) hX dX6_set_107 (nI_mul 40 r) ?_
          refine g_iload_n hX dX6_set_108 rfl 2 rfl ?_
          refine g_iadd (v := nI ((40 * r) + i)) hX dX6_set_109 (nI_add (40 * r) i) ?_
          refine g_iald (v := z.toInt8.toInt32) hX (by decide) (by decide) ((40 * r) + i) rfl (by rw [(show xN 310 = 320 by decide)]; omega) dX6_set_110 xput_e ?_
          exact g_iret hX hR dX6_set_111 (by decide) (by decide) ⟨congrArg (fun z => some (Value.int z)) rfl, rfl, rfl, rfl⟩
      · exfalso; omega
    · exfalso; omega
  · exfalso; omega

theorem c_X6_drop_bad (l : Launch) {nw sp : Nat} {I : xM} {x : Int32} (hb : ¬ (0 ≤ x.toInt ∧ x.toInt ≤ 7)) : xC l 3 0 0 yX6_drop cX6_drop 2 (some .int) 319 [.ref 307, .int x] I (xRL nw sp) (xpI (-1000001) 319 (xput I 307 0 (nI 0)) (xRL nw sp)) := by
  refine xC_of (by decide) (Nat.le_of_ble_eq_true rfl) (fun X hXl hX hR => ?_)
  have hX : xOK X RX6 cX6_drop 2 3 0 0 := hX
  show G X 319 0 0 I (xRL nw sp) 0 [(0, .ref 307), (1, .int x)] []
  refine g_aload_n hX dX6_drop_0 rfl 0 rfl ?_
  refine g_iconst (v := nI 0) hX dX6_drop_1 (by decide) ?_
  refine g_putI hX (by decide) (by decide) xCl6 0 (by decide) (by decide) (by decide) kX6_44 dX6_drop_2 rfl rfl ?_
  refine g_iload_n hX dX6_drop_5 rfl 1 rfl ?_
  refine g_callSi hX (as := [.int x]) (fun l => c_X6_isRow l (I := (xput I 307 0 (nI 0))) (x := x) ) mX6_isRow sX6_isRow lX6_58 rfl dX6_drop_6 rfl (by decide) (Nat.le_of_ble_eq_true rfl) (by decide) (by decide) ?_
  refine g_cb_ne (tgt := 15) hX dX6_drop_9 (by decide) (fun h9 => ?_) (fun h9 => ?_)
  · exfalso; omega
  · refine g_ldc (v := -1000001) hX cX6_64 dX6_drop_12 ?_
    exact g_iret hX hR dX6_drop_14 (by decide) (by decide) ⟨congrArg (fun z => some (Value.int z)) rfl, rfl, rfl, rfl⟩

theorem c_X6_drop_null (l : Launch) {nw sp : Nat} {I : xM} {r : Nat} (hr : r < 8) (hl : (I 308 r).toInt < 0) : xC l 3 0 0 yX6_drop cX6_drop 2 (some .int) 319 [.ref 307, .int (nI r)] I (xRL nw sp) (xpI (-1000011) 319 (xput (xput (xput I 307 0 (nI 0)) 307 1 (nI 0)) 307 1 (nI 1)) (xRL nw sp)) := by
  refine xC_of (by decide) (Nat.le_of_ble_eq_true rfl) (fun X hXl hX hR => ?_)
  have hX : xOK X RX6 cX6_drop 2 3 0 0 := hX
  show G X 319 0 0 I (xRL nw sp) 0 [(0, .ref 307), (1, .int (nI r))] []
  refine g_aload_n hX dX6_drop_0 rfl 0 rfl ?_
  refine g_iconst (v := nI 0) hX dX6_drop_1 (by decide) ?_
  refine g_putI hX (by decide) (by decide) xCl6 0 (by decide) (by decide) (by decide) kX6_44 dX6_drop_2 rfl rfl ?_
  refine g_iload_n hX dX6_drop_5 rfl 1 rfl ?_
  refine g_callSi hX (as := [.int (nI r)]) (fun l => c_X6_isRow l (I := (xput I 307 0 (nI 0))) (x := (nI r)) ) mX6_isRow sX6_isRow lX6_58 rfl dX6_drop_6 rfl (by decide) (Nat.le_of_ble_eq_true rfl) (by decide) (by decide) ?_
  refine g_top (y := xb ((0 : Int) ≤ ((r : Nat) : Int) ∧ ((r : Nat) : Int) ≤ (7 : Int))) (by rw [nI_toInt (n := r) (by omega)]) ?_
  refine g_cb_ne (tgt := 15) hX dX6_drop_9 (by decide) (fun h9 => ?_) (fun h9 => ?_)
  · refine g_aload_n hX dX6_drop_15 rfl 0 rfl ?_
    refine g_iconst (v := nI 0) hX dX6_drop_16 (by decide) ?_
    refine g_putI hX (by decide) (by decide) xCl6 1 (by decide) (by decide) (by decide) kX6_48 dX6_drop_17 rfl rfl ?_
    refine g_aload_n hX dX6_drop_20 rfl 0 rfl ?_
    refine g_getR (j := 308) hX (by decide) (by decide) xCl6 2 (by decide) (by decide) kX6_7 dX6_drop_21 rfl ?_
    refine g_iload_n hX dX6_drop_24 rfl 1 rfl ?_
    refine g_iald (v := I 308 r) hX (by decide) (by decide) r rfl (by rw [(show xN 308 = 8 by decide)]; omega) dX6_drop_25 (xput_o (by decide) (xput_o (by decide) rfl)) ?_
    refine g_cz_ge (a := (I 308 r).toInt) (tgt := 35) hX dX6_drop_26 (by decide) rfl (fun h26 => ?_) (fun h26 => ?_)
    · exfalso; omega
    · refine g_aload_n hX dX6_drop_29 rfl 0 rfl ?_
      refine g_iconst (v := nI 1) hX dX6_drop_30 (by decide) ?_
      refine g_callVi hX (as := [.int (nI 1)]) (fun l => c_X6_finding l (I := (xput (xput I 307 0 (nI 0)) 307 1 (nI 0))) (x := (nI 1)) ) mX6_finding vX6_finding lX6_65 (by decide) (by decide) xCl6 rfl rfl dX6_drop_31 rfl (by decide) (Nat.le_of_ble_eq_true rfl) (by decide) (by decide) ?_
      exact g_iret hX hR dX6_drop_34 (by decide) (by decide) ⟨congrArg (fun z => some (Value.int z)) rfl, rfl, rfl, rfl⟩
  · exfalso; omega

theorem c_X6_drop_ok (l : Launch) {nw sp : Nat} {I : xM} {r ln : Nat} (hr : r < 8) (hl : I 308 r = nI ln) (hln : ln < 3) : xC l 3 0 0 yX6_drop cX6_drop 2 (some .int) 319 [.ref 307, .int (nI r)] I (xRL nw sp) (xpI (I 309 r) 319 (xput (xput (xput I 307 0 (nI 0)) 307 1 (nI 0)) 308 r (-1)) (xRL nw sp)) := by
  refine xC_of (by decide) (Nat.le_of_ble_eq_true rfl) (fun X hXl hX hR => ?_)
  have hX : xOK X RX6 cX6_drop 2 3 0 0 := hX
  show G X 319 0 0 I (xRL nw sp) 0 [(0, .ref 307), (1, .int (nI r))] []
  refine g_aload_n hX dX6_drop_0 rfl 0 rfl ?_
  refine g_iconst (v := nI 0) hX dX6_drop_1 (by decide) ?_
  refine g_putI hX (by decide) (by decide) xCl6 0 (by decide) (by decide) (by decide) kX6_44 dX6_drop_2 rfl rfl ?_
  refine g_iload_n hX dX6_drop_5 rfl 1 rfl ?_
  refine g_callSi hX (as := [.int (nI r)]) (fun l => c_X6_isRow l (I := (xput I 307 0 (nI 0))) (x := (nI r)) ) mX6_isRow sX6_isRow lX6_58 rfl dX6_drop_6 rfl (by decide) (Nat.le_of_ble_eq_true rfl) (by decide) (by decide) ?_
  refine g_top (y := xb ((0 : Int) ≤ ((r : Nat) : Int) ∧ ((r : Nat) : Int) ≤ (7 : Int))) (by rw [nI_toInt (n := r) (by omega)]) ?_
  refine g_cb_ne (tgt := 15) hX dX6_drop_9 (by decide) (fun h9 => ?_) (fun h9 => ?_)
  · refine g_aload_n hX dX6_drop_15 rfl 0 rfl ?_
    refine g_iconst (v := nI 0) hX dX6_drop_16 (by decide) ?_
    refine g_putI hX (by decide) (by decide) xCl6 1 (by decide) (by decide) (by decide) kX6_48 dX6_drop_17 rfl rfl ?_
    refine g_aload_n hX dX6_drop_20 rfl 0 rfl ?_
    refine g_getR (j := 308) hX (by decide) (by decide) xCl6 2 (by decide) (by decide) kX6_7 dX6_drop_21 rfl ?_
    refine g_iload_n hX dX6_drop_24 rfl 1 rfl ?_
    refine g_iald (v := nI ln) hX (by decide) (by decide) r rfl (by rw [(show xN 308 = 8 by decide)]; omega) dX6_drop_25 (xput_o (by decide) (xput_o (by decide) hl)) ?_
    refine g_cz_ge (a := ((ln : Nat) : Int)) (tgt := 35) hX dX6_drop_26 (by decide) (nI_toInt (by omega)) (fun h26 => ?_) (fun h26 => ?_)
    · refine g_aload_n hX dX6_drop_35 rfl 0 rfl ?_
      refine g_getR (j := 308) hX (by decide) (by decide) xCl6 2 (by decide) (by decide) kX6_7 dX6_drop_36 rfl ?_
      refine g_iload_n hX dX6_drop_39 rfl 1 rfl ?_
      refine g_iconst (v := (-1)) hX dX6_drop_40 (by decide) ?_
      refine g_iast hX (by decide) (by decide) r rfl (by rw [(show xN 308 = 8 by decide)]; omega) dX6_drop_41 ?_
      refine g_aload_n hX dX6_drop_42 rfl 0 rfl ?_
      refine g_getR (j := 309) hX (by decide) (by decide) xCl6 3 (by decide) (by decide) kX6_13 dX6_drop_43 rfl ?_
      refine g_iload_n hX dX6_drop_46 rfl 1 rfl ?_
      refine g_iald (v := I 309 r) hX (by decide) (by decide) r rfl (by rw [(show xN 309 = 8 by decide)]; omega) dX6_drop_47 (xput_o (by decide) (xput_o (by decide) (xput_o (by decide) rfl))) ?_
      exact g_iret hX hR dX6_drop_48 (by decide) (by decide) ⟨congrArg (fun z => some (Value.int z)) rfl, rfl, rfl, rfl⟩
    · exfalso; omega
  · exfalso; omega

theorem c_X6_feed_bad (l : Launch) {nw sp : Nat} {I : xM} {w : Int64} {x : Int32} (hb : ¬ (1 ≤ x.toInt ∧ x.toInt ≤ 8)) : xC l 2 0 0 yX6_feed cX6_feed 5 (some .int) 319 [.ref 307, .long w, .int x] I (xRL nw sp) (xpI (-1000001) 319 (xput I 307 0 (nI 0)) (xRL nw sp)) := by
  refine xC_of (by decide) (Nat.le_of_ble_eq_true rfl) (fun X hXl hX hR => ?_)
  have hX : xOK X RX6 cX6_feed 5 2 0 0 := hX
  show G X 319 0 0 I (xRL nw sp) 0 [(0, .ref 307), (1, .long w), (3, .int x)] []
  refine g_aload_n hX dX6_feed_0 rfl 0 rfl ?_
  refine g_iconst (v := nI 0) hX dX6_feed_1 (by decide) ?_
  refine g_putI hX (by decide) (by decide) xCl6 0 (by decide) (by decide) (by decide) kX6_44 dX6_feed_2 rfl rfl ?_
  refine g_iload_n hX dX6_feed_5 rfl 2 rfl ?_
  refine g_i2l (v := x.toInt64) hX dX6_feed_6 rfl ?_
  refine g_lconst (v := 1) hX dX6_feed_7 (by decide) ?_
  refine g_ldc2 (v := 8) hX cX6_69 dX6_feed_8 ?_
  refine g_callSi (as := [.long x.toInt64, .long 1, .long (8)]) hX (fun l => c_X6_in l) mX6_in sX6_in lX6_54 rfl dX6_feed_11 rfl (by decide) (Nat.le_of_ble_eq_true rfl) (by decide) (by decide) ?_
  refine g_top (y := xb ((1 : Int) ≤ x.toInt ∧ x.toInt ≤ (8 : Int))) (xb_iffI ((i64_of _).trans rfl) (by decide) (by decide)) ?_
  refine g_cb_ne (tgt := 20) hX dX6_feed_14 (by decide) (fun h14 => ?_) (fun h14 => ?_)
  · exfalso; omega
  · refine g_ldc (v := -1000001) hX cX6_64 dX6_feed_17 ?_
    exact g_iret hX hR dX6_feed_19 (by decide) (by decide) ⟨congrArg (fun z => some (Value.int z)) rfl, rfl, rfl, rfl⟩

theorem c_X6_feed_full (l : Launch) {nw sp : Nat} {I : xM} {w : Int64} {n t : Nat} (ht : I 307 11 = nI t) (ht4 : t ≤ 400) (hn : 1 ≤ n) (hn8 : n ≤ 8) (hf : 400 < t + n) : xC l 2 0 0 yX6_feed cX6_feed 5 (some .int) 319 [.ref 307, .long w, .int (nI n)] I (xRL nw sp) (xpI (-1000003) 319 (xput I 307 0 (nI 0)) (xRL nw sp)) := by
  refine xC_of (by decide) (Nat.le_of_ble_eq_true rfl) (fun X hXl hX hR => ?_)
  have hX : xOK X RX6 cX6_feed 5 2 0 0 := hX
  show G X 319 0 0 I (xRL nw sp) 0 [(0, .ref 307), (1, .long w), (3, .int (nI n))] []
  refine g_aload_n hX dX6_feed_0 rfl 0 rfl ?_
  refine g_iconst (v := nI 0) hX dX6_feed_1 (by decide) ?_
  refine g_putI hX (by decide) (by decide) xCl6 0 (by decide) (by decide) (by decide) kX6_44 dX6_feed_2 rfl rfl ?_
  refine g_iload_n hX dX6_feed_5 rfl 2 rfl ?_
  refine g_i2l (v := (nI n).toInt64) hX dX6_feed_6 rfl ?_
  refine g_lconst (v := 1) hX dX6_feed_7 (by decide) ?_
  refine g_ldc2 (v := 8) hX cX6_69 dX6_feed_8 ?_
  refine g_callSi (as := [.long ((nI n).toInt64), .long 1, .long (8)]) hX (fun l => c_X6_in l) mX6_in sX6_in lX6_54 rfl dX6_feed_11 rfl (by decide) (Nat.le_of_ble_eq_true rfl) (by decide) (by decide) ?_
  refine g_top (y := xb ((1 : Int) ≤ ((n : Nat) : Int) ∧ ((n : Nat) : Int) ≤ (8 : Int))) (xb_iffI ((i64_of _).trans (nI_toInt (by omega))) (by decide) (by decide)) ?_
  refine g_cb_ne (tgt := 20) hX dX6_feed_14 (by decide) (fun h14 => ?_) (fun h14 => ?_)
  · refine g_aload_n hX dX6_feed_20 rfl 0 rfl ?_
    refine g_getI (v := nI t) hX (by decide) (by decide) xCl6 11 (by decide) (by decide) kX6_71 dX6_feed_21 (xput_i (by decide) ht) ?_
    refine g_iload_n hX dX6_feed_24 rfl 2 rfl ?_
    refine g_iadd (v := nI (t + n)) hX dX6_feed_25 (nI_add t n) ?_
    refine g_sipush (v := nI 400) hX dX6_feed_26 (by decide) ?_
    refine g_ci_le (a := ((t + n : Nat) : Int)) (b := (400 : Int)) (tgt := 35) hX dX6_feed_29 (by decide) (nI_toInt (by omega)) (by decide) (fun h29 => ?_) (fun h29 => ?_)
    · exfalso; omega
    · refine g_ldc (v := -1000003) hX cX6_74 dX6_feed_32 ?_
      exact g_iret hX hR dX6_feed_34 (by decide) (by decide) ⟨congrArg (fun z => some (Value.int z)) rfl, rfl, rfl, rfl⟩
  · exfalso; omega

theorem c_X6_feed_ok (l : Launch) {nw sp : Nat} {I : xM} {w : Int64} {n t : Nat} (ht : I 307 11 = nI t) (hn : 1 ≤ n) (hn8 : n ≤ 8) (hf : t + n ≤ 400) : xC l 2 0 0 yX6_feed cX6_feed 5 (some .int) 319 [.ref 307, .long w, .int (nI n)] I (xRL nw sp) (xpI (nI (t + n)) 319 (xput (xrow (xput I 307 0 (nI 0)) 314 (xfill (I 314) (fun q => fbyte w ((n : Int) - 1 - (q : Nat))) t n)) 307 11 (nI (t + n))) (xRL nw sp)) := by
  refine xC_of (by decide) (Nat.le_of_ble_eq_true rfl) (fun X hXl hX hR => ?_)
  have hX : xOK X RX6 cX6_feed 5 2 0 0 := hX
  show G X 319 0 0 I (xRL nw sp) 0 [(0, .ref 307), (1, .long w), (3, .int (nI n))] []
  refine g_aload_n hX dX6_feed_0 rfl 0 rfl ?_
  refine g_iconst (v := nI 0) hX dX6_feed_1 (by decide) ?_
  refine g_putI hX (by decide) (by decide) xCl6 0 (by decide) (by decide) (by decide) kX6_44 dX6_feed_2 rfl rfl ?_
  refine g_iload_n hX dX6_feed_5 rfl 2 rfl ?_
  refine g_i2l (v := (nI n).toInt64) hX dX6_feed_6 rfl ?_
  refine g_lconst (v := 1) hX dX6_feed_7 (by decide) ?_
  refine g_ldc2 (v := 8) hX cX6_69 dX6_feed_8 ?_
  refine g_callSi (as := [.long ((nI n).toInt64), .long 1, .long (8)]) hX (fun l => c_X6_in l) mX6_in sX6_in lX6_54 rfl dX6_feed_11 rfl (by decide) (Nat.le_of_ble_eq_true rfl) (by decide) (by decide) ?_
  refine g_top (y := xb ((1 : Int) ≤ ((n : Nat) : Int) ∧ ((n : Nat) : Int) ≤ (8 : Int))) (xb_iffI ((i64_of _).trans (nI_toInt (by omega))) (by decide) (by decide)) ?_
  refine g_cb_ne (tgt := 20) hX dX6_feed_14 (by decide) (fun h14 => ?_) (fun h14 => ?_)
  · refine g_aload_n hX dX6_feed_20 rfl 0 rfl ?_
    refine g_getI (v := nI t) hX (by decide) (by decide) xCl6 11 (by decide) (by decide) kX6_71 dX6_feed_21 (xput_i (by decide) ht) ?_
    refine g_iload_n hX dX6_feed_24 rfl 2 rfl ?_
    refine g_iadd (v := nI (t + n)) hX dX6_feed_25 (nI_add t n) ?_
    refine g_sipush (v := nI 400) hX dX6_feed_26 (by decide) ?_
    refine g_ci_le (a := ((t + n : Nat) : Int)) (b := (400 : Int)) (tgt := 35) hX dX6_feed_29 (by decide) (nI_toInt (by omega)) (by decide) (fun h29 => ?_) (fun h29 => ?_)
    · refine g_iload_n hX dX6_feed_35 rfl 2 rfl ?_
      refine g_iconst (v := nI 1) hX dX6_feed_36 (by decide) ?_
      refine g_isub (v := zI (((n : Nat) : Int) - ((1 : Nat) : Int))) hX dX6_feed_37 (zI_sub (((n : Nat) : Int)) (((1 : Nat) : Int))) ?_
      refine g_istore (L' := [(0, .ref 307), (1, .long w), (3, .int (nI n)), (4, .int (zI (((n : Nat) : Int) - ((1 : Nat) : Int))))]) hX dX6_feed_38 (by decide) rfl ?_
      have cut40 : ∀ (fuel : Nat) (q : Nat) (k : Int) (J : xM) (hq : q ≤ n) (hk : k = (n : Int) - 1 - q) (hJ : J = xput (xrow (xput I 307 0 (nI 0)) 314 (xfill (I 314) (fun q => fbyte w ((n : Int) - 1 - (q : Nat))) t q)) 307 11 (nI (t + q))) (hJt : J 307 11 = nI (t + q)), n - q < fuel → G X 319 0 0 J (xRL nw sp) 40 [(0, .ref 307), (1, .long w), (3, .int (nI n)), (4, .int (zI k))] [] := by
        intro fuel
        induction fuel with
        | zero => intro q k J hq hk hJ hJt hfuel; omega
        | succ fuel ih =>
          intro q k J hq hk hJ hJt hfuel
          refine g_iload hX dX6_feed_40 3 rfl ?_
          refine g_cz_lt (a := (k : Int)) (tgt := 82) hX dX6_feed_42 (by decide) (zI_toInt (by omega) (by omega)) (fun h42 => ?_) (fun h42 => ?_)
          · refine g_aload_n hX dX6_feed_82 rfl 0 rfl ?_
            refine g_getI (v := nI (t + q)) hX (by decide) (by decide) xCl6 11 (by decide) (by decide) kX6_71 dX6_feed_83 hJt ?_
            exact g_iret hX hR dX6_feed_86 (by decide) (by decide) ⟨congrArg (fun z => some (Value.int z)) (by rw [show q = n by omega]), rfl, (by rw [hJ, show q = n by omega]), rfl⟩
          · refine g_aload_n hX dX6_feed_45 rfl 0 rfl ?_
            refine g_getR (j := 314) hX (by decide) (by decide) xCl6 10 (by decide) (by decide) kX6_28 dX6_feed_46 rfl ?_
            refine g_aload_n hX dX6_feed_49 rfl 0 rfl ?_
            refine g_getI (v := nI (t + q)) hX (by decide) (by decide) xCl6 11 (by decide) (by decide) kX6_71 dX6_feed_50 hJt ?_
            refine g_lload_n hX dX6_feed_53 rfl 1 rfl ?_
            refine g_bipush (v := nI 8) hX dX6_feed_54 (by decide) ?_
            refine g_iload hX dX6_feed_56 3 rfl ?_
            refine g_imul (v := zI (((8 : Nat) : Int) * (k))) hX dX6_feed_58 (zI_mul (((8 : Nat) : Int)) ((k))) ?_
            refine g_lshr (v := w >>> ((zI (((8 : Nat) : Int) * (k))).toInt64 &&& 63)) hX dX6_feed_59 rfl ?_
            refine g_ldc2 (v := 255) hX cX6_75 dX6_feed_60 ?_
            refine g_land (v := (w >>> ((zI (((8 : Nat) : Int) * (k))).toInt64 &&& 63)) &&& (255)) hX dX6_feed_63 rfl ?_
            refine g_l2i (v := ((w >>> ((zI (((8 : Nat) : Int) * (k))).toInt64 &&& 63)) &&& (255)).toInt32) hX dX6_feed_64 rfl ?_
            refine g_iast hX (by decide) (by decide) (t + q) rfl (by rw [(show xN 314 = 400 by decide)]; omega) dX6_feed_65 ?_
            refine g_aload_n hX dX6_feed_66 rfl 0 rfl ?_
            refine g_dup hX rfl dX6_feed_67 ?_
            refine g_getI (v := nI (t + q)) hX (by decide) (by decide) xCl6 11 (by decide) (by decide) kX6_71 dX6_feed_68 (xput_o (by decide) hJt) ?_
            refine g_iconst (v := nI 1) hX dX6_feed_71 (by decide) ?_
            refine g_iadd (v := nI ((t + q) + 1)) hX dX6_feed_72 (nI_add (t + q) 1) ?_
            refine g_putI hX (by decide) (by decide) xCl6 11 (by decide) (by decide) (by decide) kX6_71 dX6_feed_73 rfl rfl ?_
            refine g_iinc (v := zI ((k : Int) + (-1))) (L' := [(0, .ref 307), (1, .long w), (3, .int (nI n)), (4, .int (zI ((k : Int) + (-1))))]) hX dX6_feed_76 (by decide) 3 rfl (zI_add (k : Int) (-1)) rfl ?_
            refine g_goto (tgt := 40) hX dX6_feed_79 (by decide) ?_
            exact ih (q + 1) ((k : Int) + (-1)) (xput (xput J 314 (t + q) (((w >>> ((zI (((8 : Nat) : Int) * (k))).toInt64 &&& 63)) &&& (255)).toInt32)) 307 11 (nI ((t + q) + 1))) (by first | assumption | omega) (by first | assumption | omega) (by rw [hJ, xput_comm (I := xrow _ _ _) (a := 307) (b := 314) (by decide), xput_twice]; exact congrArg (fun M => xput M 307 11 _) (xfill_step rfl rfl (by rw [hk]; rfl))) xput_e (by omega)
      exact cut40 _ 0 (((n : Nat) : Int) - ((1 : Nat) : Int)) (xput I 307 0 (nI 0)) (by first | assumption | omega) (by first | assumption | omega) ((xput_same (v := nI (t + 0)) (xput_i (by decide) ht)).symm.trans (congrArg (fun M => xput M 307 11 (nI (t + 0))) (xfill_start (o := 314) (f := I 314) rfl))) (xput_i (by decide) ht) (Nat.lt_succ_self _)
    · exfalso; omega
  · exfalso; omega
