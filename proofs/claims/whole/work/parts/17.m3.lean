theorem c_X6_copy_bad (l : Launch) {nw sp : Nat} {I : xM} {a i b j n : Int32} (hb : ¬ (0 ≤ a.toInt ∧ a.toInt ≤ 7 ∧ 0 ≤ b.toInt ∧ b.toInt ≤ 7)) : xC l 3 0 0 yX6_copy cX6_copy 9 (some .int) 319 [.ref 307, .int a, .int i, .int b, .int j, .int n] I (xRL nw sp) (xpI (-1000001) 319 (xput I 307 0 (nI 0)) (xRL nw sp)) := by
  refine xC_of (by decide) (Nat.le_of_ble_eq_true rfl) (fun X hXl hX hR => ?_)
  have hX : xOK X RX6 cX6_copy 9 3 0 0 := hX
  show G X 319 0 0 I (xRL nw sp) 0 [(0, .ref 307), (1, .int a), (2, .int i), (3, .int b), (4, .int j), (5, .int n)] []
  refine g_aload_n hX dX6_copy_0 rfl 0 rfl ?_
  refine g_iconst (v := nI 0) hX dX6_copy_1 (by decide) ?_
  refine g_putI hX (by decide) (by decide) xCl6 0 (by decide) (by decide) (by decide) kX6_44 dX6_copy_2 rfl rfl ?_
  refine g_iload_n hX dX6_copy_5 rfl 1 rfl ?_
  refine g_callSi hX (as := [.int a]) (fun l => c_X6_isRow l (I := (xput I 307 0 (nI 0))) (x := a) ) mX6_isRow sX6_isRow lX6_58 rfl dX6_copy_6 rfl (by decide) (Nat.le_of_ble_eq_true rfl) (by decide) (by decide) ?_
  refine g_cb_eq (tgt := 19) hX dX6_copy_9 (by decide) (fun h9 => ?_) (fun h9 => ?_)
  · refine g_ldc (v := -1000001) hX cX6_64 dX6_copy_19 ?_
    exact g_iret hX hR dX6_copy_21 (by decide) (by decide) ⟨congrArg (fun z => some (Value.int z)) rfl, rfl, rfl, rfl⟩
  · refine g_iload_n hX dX6_copy_12 rfl 3 rfl ?_
    refine g_callSi hX (as := [.int b]) (fun l => c_X6_isRow l (I := (xput I 307 0 (nI 0))) (x := b) ) mX6_isRow sX6_isRow lX6_58 rfl dX6_copy_13 rfl (by decide) (Nat.le_of_ble_eq_true rfl) (by decide) (by decide) ?_
    refine g_cb_ne (tgt := 22) hX dX6_copy_16 (by decide) (fun h16 => ?_) (fun h16 => ?_)
    · exfalso; omega
    · refine g_ldc (v := -1000001) hX cX6_64 dX6_copy_19 ?_
      exact g_iret hX hR dX6_copy_21 (by decide) (by decide) ⟨congrArg (fun z => some (Value.int z)) rfl, rfl, rfl, rfl⟩

theorem c_X6_copy_null (l : Launch) {nw sp : Nat} {I : xM} {a b : Nat} {i j n : Int32} (ha : a < 8) (hb : b < 8) (hl : (I 308 a).toInt < 0 ∨ (I 308 b).toInt < 0) : xC l 3 0 0 yX6_copy cX6_copy 9 (some .int) 319 [.ref 307, .int (nI a), .int i, .int (nI b), .int j, .int n] I (xRL nw sp) (xpI (-1000011) 319 (xput (xput (xput I 307 0 (nI 0)) 307 1 (nI 0)) 307 1 (nI 1)) (xRL nw sp)) := by
  refine xC_of (by decide) (Nat.le_of_ble_eq_true rfl) (fun X hXl hX hR => ?_)
  have hX : xOK X RX6 cX6_copy 9 3 0 0 := hX
  show G X 319 0 0 I (xRL nw sp) 0 [(0, .ref 307), (1, .int (nI a)), (2, .int i), (3, .int (nI b)), (4, .int j), (5, .int n)] []
  refine g_aload_n hX dX6_copy_0 rfl 0 rfl ?_
  refine g_iconst (v := nI 0) hX dX6_copy_1 (by decide) ?_
  refine g_putI hX (by decide) (by decide) xCl6 0 (by decide) (by decide) (by decide) kX6_44 dX6_copy_2 rfl rfl ?_
  refine g_iload_n hX dX6_copy_5 rfl 1 rfl ?_
  refine g_callSi hX (as := [.int (nI a)]) (fun l => c_X6_isRow l (I := (xput I 307 0 (nI 0))) (x := (nI a)) ) mX6_isRow sX6_isRow lX6_58 rfl dX6_copy_6 rfl (by decide) (Nat.le_of_ble_eq_true rfl) (by decide) (by decide) ?_
  refine g_top (y := xb ((0 : Int) ≤ ((a : Nat) : Int) ∧ ((a : Nat) : Int) ≤ (7 : Int))) (by rw [nI_toInt (n := a) (by omega)]) ?_
  refine g_cb_eq (tgt := 19) hX dX6_copy_9 (by decide) (fun h9 => ?_) (fun h9 => ?_)
  · exfalso; omega
  · refine g_iload_n hX dX6_copy_12 rfl 3 rfl ?_
    refine g_callSi hX (as := [.int (nI b)]) (fun l => c_X6_isRow l (I := (xput I 307 0 (nI 0))) (x := (nI b)) ) mX6_isRow sX6_isRow lX6_58 rfl dX6_copy_13 rfl (by decide) (Nat.le_of_ble_eq_true rfl) (by decide) (by decide) ?_
    refine g_top (y := xb ((0 : Int) ≤ ((b : Nat) : Int) ∧ ((b : Nat) : Int) ≤ (7 : Int))) (by rw [nI_toInt (n := b) (by omega)]) ?_
    refine g_cb_ne (tgt := 22) hX dX6_copy_16 (by decide) (fun h16 => ?_) (fun h16 => ?_)
    · refine g_aload_n hX dX6_copy_22 rfl 0 rfl ?_
      refine g_iconst (v := nI 0) hX dX6_copy_23 (by decide) ?_
      refine g_putI hX (by decide) (by decide) xCl6 1 (by decide) (by decide) (by decide) kX6_48 dX6_copy_24 rfl rfl ?_
      refine g_aload_n hX dX6_copy_27 rfl 0 rfl ?_
      refine g_getR (j := 308) hX (by decide) (by decide) xCl6 2 (by decide) (by decide) kX6_7 dX6_copy_28 rfl ?_
      refine g_iload_n hX dX6_copy_31 rfl 1 rfl ?_
      refine g_iald (v := I 308 a) hX (by decide) (by decide) a rfl (by rw [(show xN 308 = 8 by decide)]; omega) dX6_copy_32 (xput_o (by decide) (xput_o (by decide) rfl)) ?_
      refine g_cz_lt (a := (I 308 a).toInt) (tgt := 45) hX dX6_copy_33 (by decide) rfl (fun h33 => ?_) (fun h33 => ?_)
      · refine g_aload_n hX dX6_copy_45 rfl 0 rfl ?_
        refine g_iconst (v := nI 1) hX dX6_copy_46 (by decide) ?_
        refine g_callVi hX (as := [.int (nI 1)]) (fun l => c_X6_finding l (I := (xput (xput I 307 0 (nI 0)) 307 1 (nI 0))) (x := (nI 1)) ) mX6_finding vX6_finding lX6_65 (by decide) (by decide) xCl6 rfl rfl dX6_copy_47 rfl (by decide) (Nat.le_of_ble_eq_true rfl) (by decide) (by decide) ?_
        exact g_iret hX hR dX6_copy_50 (by decide) (by decide) ⟨congrArg (fun z => some (Value.int z)) rfl, rfl, rfl, rfl⟩
      · refine g_aload_n hX dX6_copy_36 rfl 0 rfl ?_
        refine g_getR (j := 308) hX (by decide) (by decide) xCl6 2 (by decide) (by decide) kX6_7 dX6_copy_37 rfl ?_
        refine g_iload_n hX dX6_copy_40 rfl 3 rfl ?_
        refine g_iald (v := I 308 b) hX (by decide) (by decide) b rfl (by rw [(show xN 308 = 8 by decide)]; omega) dX6_copy_41 (xput_o (by decide) (xput_o (by decide) rfl)) ?_
        refine g_cz_ge (a := (I 308 b).toInt) (tgt := 51) hX dX6_copy_42 (by decide) rfl (fun h42 => ?_) (fun h42 => ?_)
        · exfalso; omega
        · refine g_aload_n hX dX6_copy_45 rfl 0 rfl ?_
          refine g_iconst (v := nI 1) hX dX6_copy_46 (by decide) ?_
          refine g_callVi hX (as := [.int (nI 1)]) (fun l => c_X6_finding l (I := (xput (xput I 307 0 (nI 0)) 307 1 (nI 0))) (x := (nI 1)) ) mX6_finding vX6_finding lX6_65 (by decide) (by decide) xCl6 rfl rfl dX6_copy_47 rfl (by decide) (Nat.le_of_ble_eq_true rfl) (by decide) (by decide) ?_
          exact g_iret hX hR dX6_copy_50 (by decide) (by decide) ⟨congrArg (fun z => some (Value.int z)) rfl, rfl, rfl, rfl⟩
    · exfalso; omega

theorem c_X6_copy_store (l : Launch) {nw sp : Nat} {I : xM} {a b la lb : Nat} {i j n : Int32} (ha : a < 8) (hb : b < 8) (hla : I 308 a = nI la) (hla3 : la < 3) (hlb : I 308 b = nI lb) (hlb3 : lb < 3) (hne : la ≠ lb) : xC l 3 0 0 yX6_copy cX6_copy 9 (some .int) 319 [.ref 307, .int (nI a), .int i, .int (nI b), .int j, .int n] I (xRL nw sp) (xpI (-1000015) 319 (xput (xput (xput I 307 0 (nI 0)) 307 1 (nI 0)) 307 1 (nI 5)) (xRL nw sp)) := by
  refine xC_of (by decide) (Nat.le_of_ble_eq_true rfl) (fun X hXl hX hR => ?_)
  have hX : xOK X RX6 cX6_copy 9 3 0 0 := hX
  show G X 319 0 0 I (xRL nw sp) 0 [(0, .ref 307), (1, .int (nI a)), (2, .int i), (3, .int (nI b)), (4, .int j), (5, .int n)] []
  refine g_aload_n hX dX6_copy_0 rfl 0 rfl ?_
  refine g_iconst (v := nI 0) hX dX6_copy_1 (by decide) ?_
  refine g_putI hX (by decide) (by decide) xCl6 0 (by decide) (by decide) (by decide) kX6_44 dX6_copy_2 rfl rfl ?_
  refine g_iload_n hX dX6_copy_5 rfl 1 rfl ?_
  refine g_callSi hX (as := [.int (nI a)]) (fun l => c_X6_isRow l (I := (xput I 307 0 (nI 0))) (x := (nI a)) ) mX6_isRow sX6_isRow lX6_58 rfl dX6_copy_6 rfl (by decide) (Nat.le_of_ble_eq_true rfl) (by decide) (by decide) ?_
  refine g_top (y := xb ((0 : Int) ≤ ((a : Nat) : Int) ∧ ((a : Nat) : Int) ≤ (7 : Int))) (by rw [nI_toInt (n := a) (by omega)]) ?_
  refine g_cb_eq (tgt := 19) hX dX6_copy_9 (by decide) (fun h9 => ?_) (fun h9 => ?_)
  · exfalso; omega
  · refine g_iload_n hX dX6_copy_12 rfl 3 rfl ?_
    refine g_callSi hX (as := [.int (nI b)]) (fun l => c_X6_isRow l (I := (xput I 307 0 (nI 0))) (x := (nI b)) ) mX6_isRow sX6_isRow lX6_58 rfl dX6_copy_13 rfl (by decide) (Nat.le_of_ble_eq_true rfl) (by decide) (by decide) ?_
    refine g_top (y := xb ((0 : Int) ≤ ((b : Nat) : Int) ∧ ((b : Nat) : Int) ≤ (7 : Int))) (by rw [nI_toInt (n := b) (by omega)]) ?_
    refine g_cb_ne (tgt := 22) hX dX6_copy_16 (by decide) (fun h16 => ?_) (fun h16 => ?_)
    · refine g_aload_n hX dX6_copy_22 rfl 0 rfl ?_
      refine g_iconst (v := nI 0) hX dX6_copy_23 (by decide) ?_
      refine g_putI hX (by decide) (by decide) xCl6 1 (by decide) (by decide) (by decide) kX6_48 dX6_copy_24 rfl rfl ?_
      refine g_aload_n hX dX6_copy_27 rfl 0 rfl ?_
      refine g_getR (j := 308) hX (by decide) (by decide) xCl6 2 (by decide) (by decide) kX6_7 dX6_copy_28 rfl ?_
      refine g_iload_n hX dX6_copy_31 rfl 1 rfl ?_
      refine g_iald (v := nI la) hX (by decide) (by decide) a rfl (by rw [(show xN 308 = 8 by decide)]; omega) dX6_copy_32 (xput_o (by decide) (xput_o (by decide) hla)) ?_
      refine g_cz_lt (a := ((la : Nat) : Int)) (tgt := 45) hX dX6_copy_33 (by decide) (nI_toInt (by omega)) (fun h33 => ?_) (fun h33 => ?_)
      · exfalso; omega
      · refine g_aload_n hX dX6_copy_36 rfl 0 rfl ?_
        refine g_getR (j := 308) hX (by decide) (by decide) xCl6 2 (by decide) (by decide) kX6_7 dX6_copy_37 rfl ?_
        refine g_iload_n hX dX6_copy_40 rfl 3 rfl ?_
        refine g_iald (v := nI lb) hX (by decide) (by decide) b rfl (by rw [(show xN 308 = 8 by decide)]; omega) dX6_copy_41 (xput_o (by decide) (xput_o (by decide) hlb)) ?_
        refine g_cz_ge (a := ((lb : Nat) : Int)) (tgt := 51) hX dX6_copy_42 (by decide) (nI_toInt (by omega)) (fun h42 => ?_) (fun h42 => ?_)
        · refine g_aload_n hX dX6_copy_51 rfl 0 rfl ?_
          refine g_getR (j := 308) hX (by decide) (by decide) xCl6 2 (by decide) (by decide) kX6_7 dX6_copy_52 rfl ?_
          refine g_iload_n hX dX6_copy_55 rfl 1 rfl ?_
          refine g_iald (v := nI la) hX (by decide) (by decide) a rfl (by rw [(show xN 308 = 8 by decide)]; omega) dX6_copy_56 (xput_o (by decide) (xput_o (by decide) hla)) ?_
          refine g_aload_n hX dX6_copy_57 rfl 0 rfl ?_
          refine g_getR (j := 308) hX (by decide) (by decide) xCl6 2 (by decide) (by decide) kX6_7 dX6_copy_58 rfl ?_
          refine g_iload_n hX dX6_copy_61 rfl 3 rfl ?_
          refine g_iald (v := nI lb) hX (by decide) (by decide) b rfl (by rw [(show xN 308 = 8 by decide)]; omega) dX6_copy_62 (xput_o (by decide) (xput_o (by decide) hlb)) ?_
          refine g_ci_eq (a := ((la : Nat) : Int)) (b := ((lb : Nat) : Int)) (tgt := 72) hX dX6_copy_63 (by decide) (nI_toInt (by omega)) (nI_toInt (by omega)) (fun h63 => ?_) (fun h63 => ?_)
          · exfalso; omega
          · refine g_aload_n hX dX6_copy_66 rfl 0 rfl ?_
            refine g_iconst (v := nI 5) hX dX6_copy_67 (by decide) ?_
            refine g_callVi hX (as := [.int (nI 5)]) (fun l => c_X6_finding l (I := (xput (xput I 307 0 (nI 0)) 307 1 (nI 0))) (x := (nI 5)) ) mX6_finding vX6_finding lX6_65 (by decide) (by decide) xCl6 rfl rfl dX6_copy_68 rfl (by decide) (Nat.le_of_ble_eq_true rfl) (by decide) (by decide) ?_
            exact g_iret hX hR dX6_copy_71 (by decide) (by decide) ⟨congrArg (fun z => some (Value.int z)) rfl, rfl, rfl, rfl⟩
        · exfalso; omega
    · exfalso; omega

theorem c_X6_copy_place (l : Launch) {nw sp : Nat} {I : xM} {a b la lb ma mb : Nat} {i j n : Int32} (ha : a < 8) (hb : b < 8) (hla : I 308 a = nI la) (hla3 : la < 3) (hlb : I 308 b = nI lb) (hlb3 : lb < 3) (heq : la = lb) (hma : I 309 a = nI ma) (hma4 : ma ≤ 40) (hmb : I 309 b = nI mb) (hmb4 : mb ≤ 40) (hp : ¬ (0 ≤ i.toInt ∧ 0 ≤ j.toInt ∧ 0 ≤ n.toInt ∧ i.toInt + n.toInt ≤ ma ∧ j.toInt + n.toInt ≤ mb)) : xC l 3 0 0 yX6_copy cX6_copy 9 (some .int) 319 [.ref 307, .int (nI a), .int i, .int (nI b), .int j, .int n] I (xRL nw sp) (xpI (-1000012) 319 (xput (xput (xput I 307 0 (nI 0)) 307 1 (nI 0)) 307 1 (nI 2)) (xRL nw sp)) := by
  refine xC_of (by decide) (Nat.le_of_ble_eq_true rfl) (fun X hXl hX hR => ?_)
  have hX : xOK X RX6 cX6_copy 9 3 0 0 := hX
  show G X 319 0 0 I (xRL nw sp) 0 [(0, .ref 307), (1, .int (nI a)), (2, .int i), (3, .int (nI b)), (4, .int j), (5, .int n)] []
  have e1 := @lcmp_gt (i.toInt64 + n.toInt64) (nI ma).toInt64
  rw [i64_add, i64_of, nI_toInt (n := ma) (by omega)] at e1
  have e2 := @lcmp_gt (j.toInt64 + n.toInt64) (nI mb).toInt64
  rw [i64_add, i64_of, nI_toInt (n := mb) (by omega)] at e2
  refine g_aload_n hX dX6_copy_0 rfl 0 rfl ?_
  refine g_iconst (v := nI 0) hX dX6_copy_1 (by decide) ?_
  refine g_putI hX (by decide) (by decide) xCl6 0 (by decide) (by decide) (by decide) kX6_44 dX6_copy_2 rfl rfl ?_
  refine g_iload_n hX dX6_copy_5 rfl 1 rfl ?_
  refine g_callSi hX (as := [.int (nI a)]) (fun l => c_X6_isRow l (I := (xput I 307 0 (nI 0))) (x := (nI a)) ) mX6_isRow sX6_isRow lX6_58 rfl dX6_copy_6 rfl (by decide) (Nat.le_of_ble_eq_true rfl) (by decide) (by decide) ?_
  refine g_top (y := xb ((0 : Int) ≤ ((a : Nat) : Int) ∧ ((a : Nat) : Int) ≤ (7 : Int))) (by rw [nI_toInt (n := a) (by omega)]) ?_
  refine g_cb_eq (tgt := 19) hX dX6_copy_9 (by decide) (fun h9 => ?_) (fun h9 => ?_)
  · exfalso; omega
  · refine g_iload_n hX dX6_copy_12 rfl 3 rfl ?_
    refine g_callSi hX (as := [.int (nI b)]) (fun l => c_X6_isRow l (I := (xput I 307 0 (nI 0))) (x := (nI b)) ) mX6_isRow sX6_isRow lX6_58 rfl dX6_copy_13 rfl (by decide) (Nat.le_of_ble_eq_true rfl) (by decide) (by decide) ?_
    refine g_top (y := xb ((0 : Int) ≤ ((b : Nat) : Int) ∧ ((b : Nat) : Int) ≤ (7 : Int))) (by rw [nI_toInt (n := b) (by omega)]) ?_
    refine g_cb_ne (tgt := 22) hX dX6_copy_16 (by decide) (fun h16 => ?_) (fun h16 => ?_)
    · refine g_aload_n hX dX6_copy_22 rfl 0 rfl ?_
      refine g_iconst (v := nI 0) hX dX6_copy_23 (by decide) ?_
      refine g_putI hX (by decide) (by decide) xCl6 1 (by decide) (by decide) (by decide) kX6_48 dX6_copy_24 rfl rfl ?_
      refine g_aload_n hX dX6_copy_27 rfl 0 rfl ?_
      refine g_getR (j := 308) hX (by decide) (by decide) xCl6 2 (by decide) (by decide) kX6_7 dX6_copy_28 rfl ?_
      refine g_iload_n hX dX6_copy_31 rfl 1 rfl ?_
      refine g_iald (v := nI la) hX (by decide) (by decide) a rfl (by rw [(show xN 308 = 8 by decide)]; omega) dX6_copy_32 (xput_o (by decide) (xput_o (by decide) hla)) ?_
      refine g_cz_lt (a := ((la : Nat) : Int)) (tgt := 45) hX dX6_copy_33 (by decide) (nI_toInt (by omega)) (fun h33 => ?_) (fun h33 => ?_)
      · exfalso; omega
      · refine g_aload_n hX dX6_copy_36 rfl 0 rfl ?_
        refine g_getR (j := 308) hX (by decide) (by decide) xCl6 2 (by decide) (by decide) kX6_7 dX6_copy_37 rfl ?_
        refine g_iload_n hX dX6_copy_40 rfl 3 rfl ?_
        refine g_iald (v := nI lb) hX (by decide) (by decide) b rfl (by rw [(show xN 308 = 8 by decide)]; omega) dX6_copy_41 (xput_o (by decide) (xput_o (by decide) hlb)) ?_
        refine g_cz_ge (a := ((lb : Nat) : Int)) (tgt := 51) hX dX6_copy_42 (by decide) (nI_toInt (by omega)) (fun h42 => ?_) (fun h42 => ?_)
        · refine g_aload_n hX dX6_copy_51 rfl 0 rfl ?_
          refine g_getR (j := 308) hX (by decide) (by decide) xCl6 2 (by decide) (by decide) kX6_7 dX6_copy_52 rfl ?_
          refine g_iload_n hX dX6_copy_55 rfl 1 rfl ?_
          refine g_iald (v := nI la) hX (by decide) (by decide) a rfl (by rw [(show xN 308 = 8 by decide)]; omega) dX6_copy_56 (xput_o (by decide) (xput_o (by decide) hla)) ?_
          refine g_aload_n hX dX6_copy_57 rfl 0 rfl ?_
          refine g_getR (j := 308) hX (by decide) (by decide) xCl6 2 (by decide) (by decide) kX6_7 dX6_copy_58 rfl ?_
          refine g_iload_n hX dX6_copy_61 rfl 3 rfl ?_
          refine g_iald (v := nI lb) hX (by decide) (by decide) b rfl (by rw [(show xN 308 = 8 by decide)]; omega) dX6_copy_62 (xput_o (by decide) (xput_o (by decide) hlb)) ?_
          refine g_ci_eq (a := ((la : Nat) : Int)) (b := ((lb : Nat) : Int)) (tgt := 72) hX dX6_copy_63 (by decide) (nI_toInt (by omega)) (nI_toInt (by omega)) (fun h63 => ?_) (fun h63 => ?_)
          · refine g_iload_n hX dX6_copy_72 rfl 2 rfl ?_
            refine g_cz_lt (a := i.toInt) (tgt := 121) hX dX6_copy_73 (by decide) rfl (fun h73 => ?_) (fun h73 => ?_)
            · refine g_aload_n hX dX6_copy_121 rfl 0 rfl ?_
              refine g_iconst (v := nI 2) hX dX6_copy_122 (by decide) ?_
              refine g_callVi hX (as := [.int (nI 2)]) (fun l => c_X6_finding l (I := (xput (xput I 307 0 (nI 0)) 307 1 (nI 0))) (x := (nI 2)) ) mX6_finding vX6_finding lX6_65 (by decide) (by decide) xCl6 rfl rfl dX6_copy_123 rfl (by decide) (Nat.le_of_ble_eq_true rfl) (by decide) (by decide) ?_
              exact g_iret hX hR dX6_copy_126 (by decide) (by decide) ⟨congrArg (fun z => some (Value.int z)) rfl, rfl, rfl, rfl⟩
            · refine g_iload hX dX6_copy_76 4 rfl ?_
              refine g_cz_lt (a := j.toInt) (tgt := 121) hX dX6_copy_78 (by decide) rfl (fun h78 => ?_) (fun h78 => ?_)
              · refine g_aload_n hX dX6_copy_121 rfl 0 rfl ?_
                refine g_iconst (v := nI 2) hX dX6_copy_122 (by decide) ?_
                refine g_callVi hX (as := [.int (nI 2)]) (fun l => c_X6_finding l (I := (xput (xput I 307 0 (nI 0)) 307 1 (nI 0))) (x := (nI 2)) ) mX6_finding vX6_finding lX6_65 (by decide) (by decide) xCl6 rfl rfl dX6_copy_123 rfl (by decide) (Nat.le_of_ble_eq_true rfl) (by decide) (by decide) ?_
                exact g_iret hX hR dX6_copy_126 (by decide) (by decide) ⟨congrArg (fun z => some (Value.int z)) rfl, rfl, rfl, rfl⟩
              · refine g_iload hX dX6_copy_81 5 rfl ?_
                refine g_cz_lt (a := n.toInt) (tgt := 121) hX dX6_copy_83 (by decide) rfl (fun h83 => ?_) (fun h83 => ?_)
                · refine g_aload_n hX dX6_copy_121 rfl 0 rfl ?_
                  refine g_iconst (v := nI 2) hX dX6_copy_122 (by decide) ?_
                  refine g_callVi hX (as := [.int (nI 2)]) (fun l => c_X6_finding l (I := (xput (xput I 307 0 (nI 0)) 307 1 (nI 0))) (x := (nI 2)) ) mX6_finding vX6_finding lX6_65 (by decide) (by decide) xCl6 rfl rfl dX6_copy_123 rfl (by decide) (Nat.le_of_ble_eq_true rfl) (by decide) (by decide) ?_
                  exact g_iret hX hR dX6_copy_126 (by decide) (by decide) ⟨congrArg (fun z => some (Value.int z)) rfl, rfl, rfl, rfl⟩
                · refine g_iload_n hX dX6_copy_86 rfl 2 rfl ?_
                  refine g_i2l (v := i.toInt64) hX dX6_copy_87 rfl ?_
                  refine g_iload hX dX6_copy_88 5 rfl ?_
                  refine g_i2l (v := n.toInt64) hX dX6_copy_90 rfl ?_
                  refine g_ladd (v := i.toInt64 + n.toInt64) hX dX6_copy_91 rfl ?_
                  refine g_aload_n hX dX6_copy_92 rfl 0 rfl ?_
                  refine g_getR (j := 309) hX (by decide) (by decide) xCl6 3 (by decide) (by decide) kX6_13 dX6_copy_93 rfl ?_
                  refine g_iload_n hX dX6_copy_96 rfl 1 rfl ?_
                  refine g_iald (v := nI ma) hX (by decide) (by decide) a rfl (by rw [(show xN 309 = 8 by decide)]; omega) dX6_copy_97 (xput_o (by decide) (xput_o (by decide) hma)) ?_
                  refine g_i2l (v := (nI ma).toInt64) hX dX6_copy_98 rfl ?_
                  refine g_lcmp (v := lg_cmp (i.toInt64 + n.toInt64) ((nI ma).toInt64)) hX dX6_copy_99 rfl ?_
                  refine g_cz_gt (a := (lg_cmp (i.toInt64 + n.toInt64) ((nI ma).toInt64)).toInt) (tgt := 121) hX dX6_copy_100 (by decide) rfl (fun h100 => ?_) (fun h100 => ?_)
                  · refine g_aload_n hX dX6_copy_121 rfl 0 rfl ?_
                    refine g_iconst (v := nI 2) hX dX6_copy_122 (by decide) ?_
                    refine g_callVi hX (as := [.int (nI 2)]) (fun l => c_X6_finding l (I := (xput (xput I 307 0 (nI 0)) 307 1 (nI 0))) (x := (nI 2)) ) mX6_finding vX6_finding lX6_65 (by decide) (by decide) xCl6 rfl rfl dX6_copy_123 rfl (by decide) (Nat.le_of_ble_eq_true rfl) (by decide) (by decide) ?_
                    exact g_iret hX hR dX6_copy_126 (by decide) (by decide) ⟨congrArg (fun z => some (Value.int z)) rfl, rfl, rfl, rfl⟩
                  · refine g_iload hX dX6_copy_103 4 rfl ?_
                    refine g_i2l (v := j.toInt64) hX dX6_copy_105 rfl ?_
                    refine g_iload hX dX6_copy_106 5 rfl ?_
                    refine g_i2l (v := n.toInt64) hX dX6_copy_108 rfl ?_
                    refine g_ladd (v := j.toInt64 + n.toInt64) hX dX6_copy_109 rfl ?_
                    refine g_aload_n hX dX6_copy_110 rfl 0 rfl ?_
                    refine g_getR (j := 309) hX (by decide) (by decide) xCl6 3 (by decide) (by decide) kX6_13 dX6_copy_111 rfl ?_
                    refine g_iload_n hX dX6_copy_114 rfl 3 rfl ?_
                    refine g_iald (v := nI mb) hX (by decide) (by decide) b rfl (by rw [(show xN 309 = 8 by decide)]; omega) dX6_copy_115 (xput_o (by decide) (xput_o (by decide) hmb)) ?_
                    refine g_i2l (v := (nI mb).toInt64) hX dX6_copy_116 rfl ?_
                    refine g_lcmp (v := lg_cmp (j.toInt64 + n.toInt64) ((nI mb).toInt64)) hX dX6_copy_117 rfl ?_
                    refine g_cz_le (a := (lg_cmp (j.toInt64 + n.toInt64) ((nI mb).toInt64)).toInt) (tgt := 127) hX dX6_copy_118 (by decide) rfl (fun h118 => ?_) (fun h118 => ?_)
                    · exfalso; omega
                    · refine g_aload_n hX dX6_copy_121 rfl 0 rfl ?_
                      refine g_iconst (v := nI 2) hX dX6_copy_122 (by decide) ?_
                      refine g_callVi hX (as := [.int (nI 2)]) (fun l => c_X6_finding l (I := (xput (xput I 307 0 (nI 0)) 307 1 (nI 0))) (x := (nI 2)) ) mX6_finding vX6_finding lX6_65 (by decide) (by decide) xCl6 rfl rfl dX6_copy_123 rfl (by decide) (Nat.le_of_ble_eq_true rfl) (by decide) (by decide) ?_
                      exact g_iret hX hR dX6_copy_126 (by decide) (by decide) ⟨congrArg (fun z => some (Value.int z)) rfl, rfl, rfl, rfl⟩
          · exfalso; omega
        · exfalso; omega
    · exfalso; omega

theorem c_X6_copy_up (l : Launch) {nw sp : Nat} {I : xM} {a b la lb ma mb i j n : Nat} (ha : a < 8) (hb : b < 8) (hla : I 308 a = nI la) (hla3 : la < 3) (hlb : I 308 b = nI lb) (hlb3 : lb < 3) (heq : la = lb) (hma : I 309 a = nI ma) (hma4 : ma ≤ 40) (hmb : I 309 b = nI mb) (hmb4 : mb ≤ 40) (hp1 : i + n ≤ ma) (hp2 : j + n ≤ mb) (hij : j ≤ i) : xC l 3 0 0 yX6_copy cX6_copy 9 (some .int) 319 [.ref 307, .int (nI a), .int (nI i), .int (nI b), .int (nI j), .int (nI n)] I (xRL nw sp) (xpI (nI n) 319 (xrow (xput (xput I 307 0 (nI 0)) 307 1 (nI 0)) 310 (xfill (I 310) (fun t => I 310 (40 * a + i + t)) (40 * b + j) n)) (xRL nw sp)) := by
  refine xC_of (by decide) (Nat.le_of_ble_eq_true rfl) (fun X hXl hX hR => ?_)
  have hX : xOK X RX6 cX6_copy 9 3 0 0 := hX
  show G X 319 0 0 I (xRL nw sp) 0 [(0, .ref 307), (1, .int (nI a)), (2, .int (nI i)), (3, .int (nI b)), (4, .int (nI j)), (5, .int (nI n))] []
  have e1 := @lcmp_gt ((nI i).toInt64 + (nI n).toInt64) (nI ma).toInt64
  rw [i64_add, i64_of, nI_toInt (n := i) (by omega), nI_toInt (n := n) (by omega), nI_toInt (n := ma) (by omega)] at e1
  have e2 := @lcmp_gt ((nI j).toInt64 + (nI n).toInt64) (nI mb).toInt64
  rw [i64_add, i64_of, nI_toInt (n := j) (by omega), nI_toInt (n := n) (by omega), nI_toInt (n := mb) (by omega)] at e2
  refine g_aload_n hX dX6_copy_0 rfl 0 rfl ?_
  refine g_iconst (v := nI 0) hX dX6_copy_1 (by decide) ?_
  refine g_putI hX (by decide) (by decide) xCl6 0 (by decide) (by decide) (by decide) kX6_44 dX6_copy_2 rfl rfl ?_
  refine g_iload_n hX dX6_copy_5 rfl 1 rfl ?_
  refine g_callSi hX (as := [.int (nI a)]) (fun l => c_X6_isRow l (I := (xput I 307 0 (nI 0))) (x := (nI a)) ) mX6_isRow sX6_isRow lX6_58 rfl dX6_copy_6 rfl (by decide) (Nat.le_of_ble_eq_true rfl) (by decide) (by decide) ?_
  refine g_top (y := xb ((0 : Int) ≤ ((a : Nat) : Int) ∧ ((a : Nat) : Int) ≤ (7 : Int))) (by rw [nI_toInt (n := a) (by omega)]) ?_
  refine g_cb_eq (tgt := 19) hX dX6_copy_9 (by decide) (fun h9 => ?_) (fun h9 => ?_)
  · exfalso; omega
  · refine g_iload_n hX dX6_copy_12 rfl 3 rfl ?_
    refine g_callSi hX (as := [.int (nI b)]) (fun l => c_X6_isRow l (I := (xput I 307 0 (nI 0))) (x := (nI b)) ) mX6_isRow sX6_isRow lX6_58 rfl dX6_copy_13 rfl (by decide) (Nat.le_of_ble_eq_true rfl) (by decide) (by decide) ?_
    refine g_top (y := xb ((0 : Int) ≤ ((b : Nat) : Int) ∧ ((b : Nat) : Int) ≤ (7 : Int))) (by rw [nI_toInt (n := b) (by omega)]) ?_
    refine g_cb_ne (tgt := 22) hX dX6_copy_16 (by decide) (fun h16 => ?_) (fun h16 => ?_)
    · refine g_aload_n hX dX6_copy_22 rfl 0 rfl ?_
      refine g_iconst (v := nI 0) hX dX6_copy_23 (by decide) ?_
      refine g_putI hX (by decide) (by decide) xCl6 1 (by decide) (by decide) (by decide) kX6_48 dX6_copy_24 rfl rfl ?_
      refine g_aload_n hX dX6_copy_27 rfl 0 rfl ?_
      refine g_getR (j := 308) hX (by decide) (by decide) xCl6 2 (by decide) (by decide) kX6_7 dX6_copy_28 rfl ?_
      refine g_iload_n hX dX6_copy_31 rfl 1 rfl ?_
      refine g_iald (v := nI la) hX (by decide) (by decide) a rfl (by rw [(show xN 308 = 8 by decide)]; omega) dX6_copy_32 (xput_o (by decide) (xput_o (by decide) hla)) ?_
      refine g_cz_lt (a := ((la : Nat) : Int)) (tgt := 45) hX dX6_copy_33 (by decide) (nI_toInt (by omega)) (fun h33 => ?_) (fun h33 => ?_)
      · exfalso; omega
      · refine g_aload_n hX dX6_copy_36 rfl 0 rfl ?_
        refine g_getR (j := 308) hX (by decide) (by decide) xCl6 2 (by decide) (by decide) kX6_7 dX6_copy_37 rfl ?_
        refine g_iload_n hX dX6_copy_40 rfl 3 rfl ?_
        refine g_iald (v := nI lb) hX (by decide) (by decide) b rfl (by rw [(show xN 308 = 8 by decide)]; omega) dX6_copy_41 (xput_o (by decide) (xput_o (by decide) hlb)) ?_
        refine g_cz_ge (a := ((lb : Nat) : Int)) (tgt := 51) hX dX6_copy_42 (by decide) (nI_toInt (by omega)) (fun h42 => ?_) (fun h42 => ?_)
        · refine g_aload_n hX dX6_copy_51 rfl 0 rfl ?_
          refine g_getR (j := 308) hX (by decide) (by decide) xCl6 2 (by decide) (by decide) kX6_7 dX6_copy_52 rfl ?_
          refine g_iload_n hX dX6_copy_55 rfl 1 rfl ?_
          refine g_iald (v := nI la) hX (by decide) (by decide) a rfl (by rw [(show xN 308 = 8 by decide)]; omega) dX6_copy_56 (xput_o (by decide) (xput_o (by decide) hla)) ?_
          refine g_aload_n hX dX6_copy_57 rfl 0 rfl ?_
          refine g_getR (j := 308) hX (by decide) (by decide) xCl6 2 (by decide) (by decide) kX6_7 dX6_copy_58 rfl ?_
          refine g_iload_n hX dX6_copy_61 rfl 3 rfl ?_
          refine g_iald (v := nI lb) hX (by decide) (by decide) b rfl (by rw [(show xN 308 = 8 by decide)]; omega) dX6_copy_62 (xput_o (by decide) (xput_o (by decide) hlb)) ?_
          refine g_ci_eq (a := ((la : Nat) : Int)) (b := ((lb : Nat) : Int)) (tgt := 72) hX dX6_copy_63 (by decide) (nI_toInt (by omega)) (nI_toInt (by omega)) (fun h63 => ?_) (fun h63 => ?_)
          · refine g_iload_n hX dX6_copy_72 rfl 2 rfl ?_
            refine g_cz_lt (a := ((i : Nat) : Int)) (tgt := 121) hX dX6_copy_73 (by decide) (nI_toInt (by omega)) (fun h73 => ?_) (fun h73 => ?_)
            · exfalso; omega
            · refine g_iload hX dX6_copy_76 4 rfl ?_
              refine g_cz_lt (a := ((j : Nat) : Int)) (tgt := 121) hX dX6_copy_78 (by decide) (nI_toInt (by omega)) (fun h78 => ?_) (fun h78 => ?_)
              · exfalso; omega
              · refine g_iload hX dX6_copy_81 5 rfl ?_
                refine g_cz_lt (a := ((n : Nat) : Int)) (tgt := 121) hX dX6_copy_83 (by decide) (nI_toInt (by omega)) (fun h83 => ?_) (fun h83 => ?_)
                · exfalso; omega
                · refine g_iload_n hX dX6_copy_86 rfl 2 rfl ?_
                  refine g_i2l (v := (nI i).toInt64) hX dX6_copy_87 rfl ?_
                  refine g_iload hX dX6_copy_88 5 rfl ?_
                  refine g_i2l (v := (nI n).toInt64) hX dX6_copy_90 rfl ?_
                  refine g_ladd (v := ((nI i).toInt64) + ((nI n).toInt64)) hX dX6_copy_91 rfl ?_
                  refine g_aload_n hX dX6_copy_92 rfl 0 rfl ?_
                  refine g_getR (j := 309) hX (by decide) (by decide) xCl6 3 (by decide) (by decide) kX6_13 dX6_copy_93 rfl ?_
                  refine g_iload_n hX dX6_copy_96 rfl 1 rfl ?_
                  refine g_iald (v := nI ma) hX (by decide) (by decide) a rfl (by rw [(show xN 309 = 8 by decide)]; omega) dX6_copy_97 (xput_o (by decide) (xput_o (by decide) hma)) ?_
                  refine g_i2l (v := (nI ma).toInt64) hX dX6_copy_98 rfl ?_
                  refine g_lcmp (v := lg_cmp (((nI i).toInt64) + ((nI n).toInt64)) ((nI ma).toInt64)) hX dX6_copy_99 rfl ?_
                  refine g_cz_gt (a := (lg_cmp (((nI i).toInt64) + ((nI n).toInt64)) ((nI ma).toInt64)).toInt) (tgt := 121) hX dX6_copy_100 (by decide) rfl (fun h100 => ?_) (fun h100 => ?_)
                  · exfalso; omega
                  · refine g_iload hX dX6_copy_103 4 rfl ?_
                    refine g_i2l (v := (nI j).toInt64) hX dX6_copy_105 rfl ?_
                    refine g_iload hX dX6_copy_106 5 rfl ?_
                    refine g_i2l (v := (nI n).toInt64) hX dX6_copy_108 rfl ?_
                    refine g_ladd (v := ((nI j).toInt64) + ((nI n).toInt64)) hX dX6_copy_109 rfl ?_
                    refine g_aload_n hX dX6_copy_110 rfl 0 rfl ?_
                    refine g_getR (j := 309) hX (by decide) (by decide) xCl6 3 (by decide) (by decide) kX6_13 dX6_copy_111 rfl ?_
                    refine g_iload_n hX dX6_copy_114 rfl 3 rfl ?_
                    refine g_iald (v := nI mb) hX (by decide) (by decide) b rfl (by rw [(show xN 309 = 8 by decide)]; omega) dX6_copy_115 (xput_o (by decide) (xput_o (by decide) hmb)) ?_
                    refine g_i2l (v := (nI mb).toInt64) hX dX6_copy_116 rfl ?_
                    refine g_lcmp (v := lg_cmp (((nI j).toInt64) + ((nI n).toInt64)) ((nI mb).toInt64)) hX dX6_copy_117 rfl ?_
                    refine g_cz_le (a := (lg_cmp (((nI j).toInt64) + ((nI n).toInt64)) ((nI mb).toInt64)).toInt) (tgt := 127) hX dX6_copy_118 (by decide) rfl (fun h118 => ?_) (fun h118 => ?_)
                    · refine g_iload_n hX dX6_copy_127 rfl 2 rfl ?_
                      refine g_iload hX dX6_copy_128 4 rfl ?_
                      refine g_ci_lt (a := ((i : Nat) : Int)) (b := ((j : Nat) : Int)) (tgt := 137) hX dX6_copy_130 (by decide) (nI_toInt (by omega)) (nI_toInt (by omega)) (fun h130 => ?_) (fun h130 => ?_)
                      · exfalso; omega
                      · refine g_iconst (v := nI 1) hX dX6_copy_133 (by decide) ?_
                        refine g_goto (tgt := 138) hX dX6_copy_134 (by decide) ?_
                        refine g_istore (L' := [(0, .ref 307), (1, .int (nI a)), (2, .int (nI i)), (3, .int (nI b)), (4, .int (nI j)), (5, .int (nI n)), (6, .int (nI 1))]) hX dX6_copy_138 (by decide) rfl ?_
                        refine g_iconst (v := nI 0) hX dX6_copy_140 (by decide) ?_
                        refine g_istore (L' := [(0, .ref 307), (1, .int (nI a)), (2, .int (nI i)), (3, .int (nI b)), (4, .int (nI j)), (5, .int (nI n)), (6, .int (nI 1)), (7, .int (nI 0))]) hX dX6_copy_141 (by decide) rfl ?_
                        have cut143 : ∀ (fuel : Nat) (q : Nat) (J : xM) (hq : q ≤ n) (hJ : J = xrow (xput (xput I 307 0 (nI 0)) 307 1 (nI 0)) 310 (xfill (I 310) (fun t => I 310 (40 * a + i + t)) (40 * b + j) q)), n - q < fuel → G X 319 0 0 J (xRL nw sp) 143 [(0, .ref 307), (1, .int (nI a)), (2, .int (nI i)), (3, .int (nI b)), (4, .int (nI j)), (5, .int (nI n)), (6, .int (nI 1)), (7, .int (nI q))] [] := by
                          intro fuel
                          induction fuel with
                          | zero => intro q J hq hJ hfuel; omega
                          | succ fuel ih =>
                            intro q J hq hJ hfuel
                            refine g_iload hX dX6_copy_143 7 rfl ?_
                            refine g_iload hX dX6_copy_145 5 rfl ?_
                            refine g_ci_ge (a := ((q : Nat) : Int)) (b := ((n : Nat) : Int)) (tgt := 204) hX dX6_copy_147 (by decide) (nI_toInt (by omega)) (nI_toInt (by omega)) (fun h147 => ?_) (fun h147 => ?_)
                            · refine g_iload hX dX6_copy_204 5 rfl ?_
                              exact g_iret hX hR dX6_copy_206 (by decide) (by decide) ⟨congrArg (fun z => some (Value.int z)) rfl, rfl, (by rw [hJ, show q = n by omega]), rfl⟩
                            · refine g_iload hX dX6_copy_150 6 rfl ?_
                              refine g_cz_eq (a := (1 : Int)) (tgt := 160) hX dX6_copy_152 (by decide) (by decide) (fun q => absurd q (by decide)) (fun _ => ?_)
                              refine g_iload hX dX6_copy_155 7 rfl ?_
                              refine g_goto (tgt := 167) hX dX6_copy_157 (by decide) ?_
                              refine g_istore (L' := [(0, .ref 307), (1, .int (nI a)), (2, .int (nI i)), (3, .int (nI b)), (4, .int (nI j)), (5, .int (nI n)), (6, .int (nI 1)), (7, .int (nI q)), (8, .int (nI q))]) hX dX6_copy_167 (by decide) rfl ?_
                              refine g_aload_n hX dX6_copy_169 rfl 0 rfl ?_
                              refine g_getR (j := 310) hX (by decide) (by decide) xCl6 4 (by decide) (by decide) kX6_16 dX6_copy_170 rfl ?_
                              refine g_bipush (v := nI 40) hX dX6_copy_173 (by decide) ?_
                              refine g_iload_n hX dX6_copy_175 rfl 3 rfl ?_
                              refine g_imul (v := nI (40 * b)) hX dX6_copy_176 (nI_mul 40 b) ?_
                              refine g_iload hX dX6_copy_177 4 rfl ?_
                              refine g_iadd (v := nI ((40 * b) + j)) hX dX6_copy_179 (nI_add (40 * b) j) ?_
                              refine g_iload hX dX6_copy_180 8 rfl ?_
                              refine g_iadd (v := nI (((40 * b) + j) + q)) hX dX6_copy_182 (nI_add ((40 * b) + j) q) ?_
                              refine g_aload_n hX dX6_copy_183 rfl 0 rfl ?_
                              refine g_getR (j := 310) hX (by decide) (by decide) xCl6 4 (by decide) (by decide) kX6_16 dX6_copy_184 rfl ?_
                              refine g_bipush (v := nI 40) hX dX6_copy_187 (by decide) ?_
                              refine g_iload_n hX dX6_copy_189 rfl 1 rfl ?_
                              refine g_imul (v := nI (40 * a)) hX dX6_copy_190 (nI_mul 40 a) ?_
                              refine g_iload_n hX dX6_copy_191 rfl 2 rfl ?_
                              refine g_iadd (v := nI ((40 * a) + i)) hX dX6_copy_192 (nI_add (40 * a) i) ?_
                              refine g_iload hX dX6_copy_193 8 rfl ?_
                              refine g_iadd (v := nI (((40 * a) + i) + q)) hX dX6_copy_195 (nI_add ((40 * a) + i) q) ?_
                              refine g_iald (v := I 310 (40 * a + i + q)) hX (by decide) (by decide) (((40 * a) + i) + q) rfl (by rw [(show xN 310 = 320 by decide)]; omega) dX6_copy_196 (by rw [hJ, xrow_e]; exact xfill_out (by omega)) ?_
                              refine g_iast hX (by decide) (by decide) (((40 * b) + j) + q) rfl (by rw [(show xN 310 = 320 by decide)]; omega) dX6_copy_197 ?_
                              refine g_iinc (v := nI (q + 1)) (L' := [(0, .ref 307), (1, .int (nI a)), (2, .int (nI i)), (3, .int (nI b)), (4, .int (nI j)), (5, .int (nI n)), (6, .int (nI 1)), (7, .int (nI (q + 1))), (8, .int (nI q))]) hX dX6_copy_198 (by decide) 7 rfl (nI_add q 1) rfl ?_
                              refine g_goto (tgt := 143) hX dX6_copy_201 (by decide) ?_
                              refine g_loc [0, 1, 2, 3, 4, 5, 6, 7] rfl ?_
                              exact ih (q + 1) (xput J 310 (((40 * b) + j) + q) (I 310 (40 * a + i + q))) (by first | assumption | omega) (xfill_step hJ rfl rfl) (by omega)
                        exact cut143 _ 0 (xput (xput I 307 0 (nI 0)) 307 1 (nI 0)) (by first | assumption | omega) (xfill_start rfl) (Nat.lt_succ_self _)
                    · exfalso; omega
          · exfalso; omega
        · exfalso; omega
    · exfalso; omega

theorem c_X6_copy_dn (l : Launch) {nw sp : Nat} {I : xM} {a b la lb ma mb i j n : Nat} (ha : a < 8) (hb : b < 8) (hla : I 308 a = nI la) (hla3 : la < 3) (hlb : I 308 b = nI lb) (hlb3 : lb < 3) (heq : la = lb) (hma : I 309 a = nI ma) (hma4 : ma ≤ 40) (hmb : I 309 b = nI mb) (hmb4 : mb ≤ 40) (hp1 : i + n ≤ ma) (hp2 : j + n ≤ mb) (hij : i < j) : xC l 3 0 0 yX6_copy cX6_copy 9 (some .int) 319 [.ref 307, .int (nI a), .int (nI i), .int (nI b), .int (nI j), .int (nI n)] I (xRL nw sp) (xpI (nI n) 319 (xrow (xput (xput I 307 0 (nI 0)) 307 1 (nI 0)) 310 (xfill (I 310) (fun t => I 310 (40 * a + i + t)) (40 * b + j) n)) (xRL nw sp)) := by
  refine xC_of (by decide) (Nat.le_of_ble_eq_true rfl) (fun X hXl hX hR => ?_)
  have hX : xOK X RX6 cX6_copy 9 3 0 0 := hX
  show G X 319 0 0 I (xRL nw sp) 0 [(0, .ref 307), (1, .int (nI a)), (2, .int (nI i)), (3, .int (nI b)), (4, .int (nI j)), (5, .int (nI n))] []
  have e1 := @lcmp_gt ((nI i).toInt64 + (nI n).toInt64) (nI ma).toInt64
  rw [i64_add, i64_of, nI_toInt (n := i) (by omega), nI_toInt (n := n) (by omega), nI_toInt (n := ma) (by omega)] at e1
  have e2 := @lcmp_gt ((nI j).toInt64 + (nI n).toInt64) (nI mb).toInt64
  rw [i64_add, i64_of, nI_toInt (n := j) (by omega), nI_toInt (n := n) (by omega), nI_toInt (n := mb) (by omega)] at e2
  refine g_aload_n hX dX6_copy_0 rfl 0 rfl ?_
  refine g_iconst (v := nI 0) hX dX6_copy_1 (by decide) ?_
  refine g_putI hX (by decide) (by decide) xCl6 0 (by decide) (by decide) (by decide) kX6_44 dX6_copy_2 rfl rfl ?_
  refine g_iload_n hX dX6_copy_5 rfl 1 rfl ?_
  refine g_callSi hX (as := [.int (nI a)]) (fun l => c_X6_isRow l (I := (xput I 307 0 (nI 0))) (x := (nI a)) ) mX6_isRow sX6_isRow lX6_58 rfl dX6_copy_6 rfl (by decide) (Nat.le_of_ble_eq_true rfl) (by decide) (by decide) ?_
  refine g_top (y := xb ((0 : Int) ≤ ((a : Nat) : Int) ∧ ((a : Nat) : Int) ≤ (7 : Int))) (by rw [nI_toInt (n := a) (by omega)]) ?_
  refine g_cb_eq (tgt := 19) hX dX6_copy_9 (by decide) (fun h9 => ?_) (fun h9 => ?_)
  · exfalso; omega
  · refine g_iload_n hX dX6_copy_12 rfl 3 rfl ?_
    refine g_callSi hX (as := [.int (nI b)]) (fun l => c_X6_isRow l (I := (xput I 307 0 (nI 0))) (x := (nI b)) ) mX6_isRow sX6_isRow lX6_58 rfl dX6_copy_13 rfl (by decide) (Nat.le_of_ble_eq_true rfl) (by decide) (by decide) ?_
    refine g_top (y := xb ((0 : Int) ≤ ((b : Nat) : Int) ∧ ((b : Nat) : Int) ≤ (7 : Int))) (by rw [nI_toInt (n := b) (by omega)]) ?_
    refine g_cb_ne (tgt := 22) hX dX6_copy_16 (by decide) (fun h16 => ?_) (fun h16 => ?_)
    · refine g_aload_n hX dX6_copy_22 rfl 0 rfl ?_
      refine g_iconst (v := nI 0) hX dX6_copy_23 (by decide) ?_
      refine g_putI hX (by decide) (by decide) xCl6 1 (by decide) (by decide) (by decide) kX6_48 dX6_copy_24 rfl rfl ?_
      refine g_aload_n hX dX6_copy_27 rfl 0 rfl ?_
      refine g_getR (j := 308) hX (by decide) (by decide) xCl6 2 (by decide) (by decide) kX6_7 dX6_copy_28 rfl ?_
      refine g_iload_n hX dX6_copy_31 rfl 1 rfl ?_
      refine g_iald (v := nI la) hX (by decide) (by decide) a rfl (by rw [(show xN 308 = 8 by decide)]; omega) dX6_copy_32 (xput_o (by decide) (xput_o (by decide) hla)) ?_
      refine g_cz_lt (a := ((la : Nat) : Int)) (tgt := 45) hX dX6_copy_33 (by decide) (nI_toInt (by omega)) (fun h33 => ?_) (fun h33 => ?_)
      · exfalso; omega
      · refine g_aload_n hX dX6_copy_36 rfl 0 rfl ?_
        refine g_getR (j := 308) hX (by decide) (by decide) xCl6 2 (by decide) (by decide) kX6_7 dX6_copy_37 rfl ?_
        refine g_iload_n hX dX6_copy_40 rfl 3 rfl ?_
        refine g_iald (v := nI lb) hX (by decide) (by decide) b rfl (by rw [(show xN 308 = 8 by decide)]; omega) dX6_copy_41 (xput_o (by decide) (xput_o (by decide) hlb)) ?_
        refine g_cz_ge (a := ((lb : Nat) : Int)) (tgt := 51) hX dX6_copy_42 (by decide) (nI_toInt (by omega)) (fun h42 => ?_) (fun h42 => ?_)
        · refine g_aload_n hX dX6_copy_51 rfl 0 rfl ?_
          refine g_getR (j := 308) hX (by decide) (by decide) xCl6 2 (by decide) (by decide) kX6_7 dX6_copy_52 rfl ?_
          refine g_iload_n hX dX6_copy_55 rfl 1 rfl ?_
          refine g_iald (v := nI la) hX (by decide) (by decide) a rfl (by rw [(show xN 308 = 8 by decide)]; omega) dX6_copy_56 (xput_o (by decide) (xput_o (by decide) hla)) ?_
          refine g_aload_n hX dX6_copy_57 rfl 0 rfl ?_
          refine g_getR (j := 308) hX (by decide) (by decide) xCl6 2 (by decide) (by decide) kX6_7 dX6_copy_58 rfl ?_
          refine g_iload_n hX dX6_copy_61 rfl 3 rfl ?_
          refine g_iald (v := nI lb) hX (by decide) (by decide) b rfl (by rw [(show xN 308 = 8 by decide)]; omega) dX6_copy_62 (xput_o (by decide) (xput_o (by decide) hlb)) ?_
          refine g_ci_eq (a := ((la : Nat) : Int)) (b := ((lb : Nat) : Int)) (tgt := 72) hX dX6_copy_63 (by decide) (nI_toInt (by omega)) (nI_toInt (by omega)) (fun h63 => ?_) (fun h63 => ?_)
          · refine g_iload_n hX dX6_copy_72 rfl 2 rfl ?_
            refine g_cz_lt (a := ((i : Nat) : Int)) (tgt := 121) hX dX6_copy_73 (by decide) (nI_toInt (by omega)) (fun h73 => ?_) (fun h73 => ?_)
            · exfalso; omega
            · refine g_iload hX dX6_copy_76 4 rfl ?_
              refine g_cz_lt (a := ((j : Nat) : Int)) (tgt := 121) hX dX6_copy_78 (by decide) (nI_toInt (by omega)) (fun h78 => ?_) (fun h78 => ?_)
              · exfalso; omega
              · refine g_iload hX dX6_copy_81 5 rfl ?_
                refine g_cz_lt (a := ((n : Nat) : Int)) (tgt := 121) hX dX6_copy_83 (by decide) (nI_toInt (by omega)) (fun h83 => ?_) (fun h83 => ?_)
                · exfalso; omega
                · refine g_iload_n hX dX6_copy_86 rfl 2 rfl ?_
                  refine g_i2l (v := (nI i).toInt64) hX dX6_copy_87 rfl ?_
                  refine g_iload hX dX6_copy_88 5 rfl ?_
                  refine g_i2l (v := (nI n).toInt64) hX dX6_copy_90 rfl ?_
                  refine g_ladd (v := ((nI i).toInt64) + ((nI n).toInt64)) hX dX6_copy_91 rfl ?_
                  refine g_aload_n hX dX6_copy_92 rfl 0 rfl ?_
                  refine g_getR (j := 309) hX (by decide) (by decide) xCl6 3 (by decide) (by decide) kX6_13 dX6_copy_93 rfl ?_
                  refine g_iload_n hX dX6_copy_96 rfl 1 rfl ?_
                  refine g_iald (v := nI ma) hX (by decide) (by decide) a rfl (by rw [(show xN 309 = 8 by decide)]; omega) dX6_copy_97 (xput_o (by decide) (xput_o (by decide) hma)) ?_
                  refine g_i2l (v := (nI ma).toInt64) hX dX6_copy_98 rfl ?_
                  refine g_lcmp (v := lg_cmp (((nI i).toInt64) + ((nI n).toInt64)) ((nI ma).toInt64)) hX dX6_copy_99 rfl ?_
                  refine g_cz_gt (a := (lg_cmp (((nI i).toInt64) + ((nI n).toInt64)) ((nI ma).toInt64)).toInt) (tgt := 121) hX dX6_copy_100 (by decide) rfl (fun h100 => ?_) (fun h100 => ?_)
                  · exfalso; omega
                  · refine g_iload hX dX6_copy_103 4 rfl ?_
                    refine g_i2l (v := (nI j).toInt64) hX dX6_copy_105 rfl ?_
                    refine g_iload hX dX6_copy_106 5 rfl ?_
                    refine g_i2l (v := (nI n).toInt64) hX dX6_copy_108 rfl ?_
                    refine g_ladd (v := ((nI j).toInt64) + ((nI n).toInt64)) hX dX6_copy_109 rfl ?_
                    refine g_aload_n hX dX6_copy_110 rfl 0 rfl ?_
                    refine g_getR (j := 309) hX (by decide) (by decide) xCl6 3 (by decide) (by decide) kX6_13 dX6_copy_111 rfl ?_
                    refine g_iload_n hX dX6_copy_114 rfl 3 rfl ?_
                    refine g_iald (v := nI mb) hX (by decide) (by decide) b rfl (by rw [(show xN 309 = 8 by decide)]; omega) dX6_copy_115 (xput_o (by decide) (xput_o (by decide) hmb)) ?_
                    refine g_i2l (v := (nI mb).toInt64) hX dX6_copy_116 rfl ?_
                    refine g_lcmp (v := lg_cmp (((nI j).toInt64) + ((nI n).toInt64)) ((nI mb).toInt64)) hX dX6_copy_117 rfl ?_
                    refine g_cz_le (a := (lg_cmp (((nI j).toInt64) + ((nI n).toInt64)) ((nI mb).toInt64)).toInt) (tgt := 127) hX dX6_copy_118 (by decide) rfl (fun h118 => ?_) (fun h118 => ?_)
                    · refine g_iload_n hX dX6_copy_127 rfl 2 rfl ?_
                      refine g_iload hX dX6_copy_128 4 rfl ?_
                      refine g_ci_lt (a := ((i : Nat) : Int)) (b := ((j : Nat) : Int)) (tgt := 137) hX dX6_copy_130 (by decide) (nI_toInt (by omega)) (nI_toInt (by omega)) (fun h130 => ?_) (fun h130 => ?_)
                      · refine g_iconst (v := nI 0) hX dX6_copy_137 (by decide) ?_
                        refine g_istore (L' := [(0, .ref 307), (1, .int (nI a)), (2, .int (nI i)), (3, .int (nI b)), (4, .int (nI j)), (5, .int (nI n)), (6, .int (nI 0))]) hX dX6_copy_138 (by decide) rfl ?_
                        refine g_iconst (v := nI 0) hX dX6_copy_140 (by decide) ?_
                        refine g_istore (L' := [(0, .ref 307), (1, .int (nI a)), (2, .int (nI i)), (3, .int (nI b)), (4, .int (nI j)), (5, .int (nI n)), (6, .int (nI 0)), (7, .int (nI 0))]) hX dX6_copy_141 (by decide) rfl ?_
                        have cut143 : ∀ (fuel : Nat) (q : Nat) (J : xM) (hq : q ≤ n) (hJ : J = xrow (xput (xput I 307 0 (nI 0)) 307 1 (nI 0)) 310 (xfilD (I 310) (fun t => I 310 (40 * a + i + t)) (40 * b + j) n q)), n - q < fuel → G X 319 0 0 J (xRL nw sp) 143 [(0, .ref 307), (1, .int (nI a)), (2, .int (nI i)), (3, .int (nI b)), (4, .int (nI j)), (5, .int (nI n)), (6, .int (nI 0)), (7, .int (nI q))] [] := by
                          intro fuel
                          induction fuel with
                          | zero => intro q J hq hJ hfuel; omega
                          | succ fuel ih =>
                            intro q J hq hJ hfuel
                            refine g_iload hX dX6_copy_143 7 rfl ?_
                            refine g_iload hX dX6_copy_145 5 rfl ?_
                            refine g_ci_ge (a := ((q : Nat) : Int)) (b := ((n : Nat) : Int)) (tgt := 204) hX dX6_copy_147 (by decide) (nI_toInt (by omega)) (nI_toInt (by omega)) (fun h147 => ?_) (fun h147 => ?_)
                            · refine g_iload hX dX6_copy_204 5 rfl ?_
                              exact g_iret hX hR dX6_copy_206 (by decide) (by decide) ⟨congrArg (fun z => some (Value.int z)) rfl, rfl, (by rw [hJ, show q = n by omega, xfilD_m]), rfl⟩
                            · refine g_iload hX dX6_copy_150 6 rfl ?_
                              refine g_cz_eq (a := (0 : Int)) (tgt := 160) hX dX6_copy_152 (by decide) (by decide) (fun _ => ?_) (fun q => absurd q (by decide))
                              refine g_iload hX dX6_copy_160 5 rfl ?_
                              refine g_iconst (v := nI 1) hX dX6_copy_162 (by decide) ?_
                              refine g_isub (v := nI (n - 1)) hX dX6_copy_163 (nI_sub (show 1 ≤ n by omega)) ?_
                              refine g_iload hX dX6_copy_164 7 rfl ?_
                              refine g_isub (v := nI ((n - 1) - q)) hX dX6_copy_166 (nI_sub (show q ≤ n - 1 by omega)) ?_
                              refine g_istore (L' := [(0, .ref 307), (1, .int (nI a)), (2, .int (nI i)), (3, .int (nI b)), (4, .int (nI j)), (5, .int (nI n)), (6, .int (nI 0)), (7, .int (nI q)), (8, .int (nI ((n - 1) - q)))]) hX dX6_copy_167 (by decide) rfl ?_
                              refine g_aload_n hX dX6_copy_169 rfl 0 rfl ?_
                              refine g_getR (j := 310) hX (by decide) (by decide) xCl6 4 (by decide) (by decide) kX6_16 dX6_copy_170 rfl ?_
                              refine g_bipush (v := nI 40) hX dX6_copy_173 (by decide) ?_
                              refine g_iload_n hX dX6_copy_175 rfl 3 rfl ?_
                              refine g_imul (v := nI (40 * b)) hX dX6_copy_176 (nI_mul 40 b) ?_
                              refine g_iload hX dX6_copy_177 4 rfl ?_
                              refine g_iadd (v := nI ((40 * b) + j)) hX dX6_copy_179 (nI_add (40 * b) j) ?_
                              refine g_iload hX dX6_copy_180 8 rfl ?_
                              refine g_iadd (v := nI (((40 * b) + j) + ((n - 1) - q))) hX dX6_copy_182 (nI_add ((40 * b) + j) ((n - 1) - q)) ?_
                              refine g_aload_n hX dX6_copy_183 rfl 0 rfl ?_
                              refine g_getR (j := 310) hX (by decide) (by decide) xCl6 4 (by decide) (by decide) kX6_16 dX6_copy_184 rfl ?_
                              refine g_bipush (v := nI 40) hX dX6_copy_187 (by decide) ?_
                              refine g_iload_n hX dX6_copy_189 rfl 1 rfl ?_
                              refine g_imul (v := nI (40 * a)) hX dX6_copy_190 (nI_mul 40 a) ?_
                              refine g_iload_n hX dX6_copy_191 rfl 2 rfl ?_
                              refine g_iadd (v := nI ((40 * a) + i)) hX dX6_copy_192 (nI_add (40 * a) i) ?_
                              refine g_iload hX dX6_copy_193 8 rfl ?_
                              refine g_iadd (v := nI (((40 * a) + i) + ((n - 1) - q))) hX dX6_copy_195 (nI_add ((40 * a) + i) ((n - 1) - q)) ?_
                              refine g_iald (v := I 310 (40 * a + i + (n - 1 - q))) hX (by decide) (by decide) (((40 * a) + i) + ((n - 1) - q)) rfl (by rw [(show xN 310 = 320 by decide)]; omega) dX6_copy_196 (by rw [hJ, xrow_e]; exact if_neg (by omega)) ?_
                              refine g_iast hX (by decide) (by decide) (((40 * b) + j) + ((n - 1) - q)) rfl (by rw [(show xN 310 = 320 by decide)]; omega) dX6_copy_197 ?_
                              refine g_iinc (v := nI (q + 1)) (L' := [(0, .ref 307), (1, .int (nI a)), (2, .int (nI i)), (3, .int (nI b)), (4, .int (nI j)), (5, .int (nI n)), (6, .int (nI 0)), (7, .int (nI (q + 1))), (8, .int (nI ((n - 1) - q)))]) hX dX6_copy_198 (by decide) 7 rfl (nI_add q 1) rfl ?_
                              refine g_goto (tgt := 143) hX dX6_copy_201 (by decide) ?_
                              refine g_loc [0, 1, 2, 3, 4, 5, 6, 7] rfl ?_
                              exact ih (q + 1) (xput J 310 (((40 * b) + j) + ((n - 1) - q)) (I 310 (40 * a + i + (n - 1 - q)))) (by first | assumption | omega) (xfilD_step hJ (by omega) rfl rfl) (by omega)
                        exact cut143 _ 0 (xput (xput I 307 0 (nI 0)) 307 1 (nI 0)) (by first | assumption | omega) (xfilD_start rfl) (Nat.lt_succ_self _)
                      · exfalso; omega
                    · exfalso; omega
          · exfalso; omega
        · exfalso; omega
    · exfalso; omega
