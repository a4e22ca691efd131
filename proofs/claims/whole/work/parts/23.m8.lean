theorem c_X6_image_bad (l : Launch) {nw sp : Nat} {I : xM} {x : Int32} (hb : ¬ (0 ≤ x.toInt ∧ x.toInt ≤ 1)) : xC l 2 0 0 yX6_image cX6_image 3 (some .int) 319 [.ref 307, .int x] I (xRL nw sp) (xpI (-1000001) 319 (xput I 307 0 (nI 0)) (xRL nw sp)) := by
  refine xC_of (by decide) (Nat.le_of_ble_eq_true rfl) (fun X hXl hX hR => ?_)
  have hX : xOK X RX6 cX6_image 3 2 0 0 := hX
  show G X 319 0 0 I (xRL nw sp) 0 [(0, .ref 307), (1, .int x)] []
  refine g_aload_n hX dX6_image_0 rfl 0 rfl ?_
  refine g_iconst (v := nI 0) hX dX6_image_1 (by decide) ?_
  refine g_putI hX (by decide) (by decide) xCl6 0 (by decide) (by decide) (by decide) kX6_44 dX6_image_2 rfl rfl ?_
  refine g_iload_n hX dX6_image_5 rfl 1 rfl ?_
  refine g_i2l (v := x.toInt64) hX dX6_image_6 rfl ?_
  refine g_lconst (v := 0) hX dX6_image_7 (by decide) ?_
  refine g_lconst (v := 1) hX dX6_image_8 (by decide) ?_
  refine g_callSi (as := [.long x.toInt64, .long 0, .long 1]) hX (fun l => c_X6_in l) mX6_in sX6_in lX6_54 rfl dX6_image_9 rfl (by decide) (Nat.le_of_ble_eq_true rfl) (by decide) (by decide) ?_
  refine g_top (y := xb ((0 : Int) ≤ x.toInt ∧ x.toInt ≤ (1 : Int))) (xb_iffI ((i64_of _).trans rfl) (by decide) (by decide)) ?_
  refine g_cb_ne (tgt := 18) hX dX6_image_12 (by decide) (fun h12 => ?_) (fun h12 => ?_)
  · exfalso; omega
  · refine g_ldc (v := -1000001) hX cX6_64 dX6_image_15 ?_
    exact g_iret hX hR dX6_image_17 (by decide) (by decide) ⟨congrArg (fun z => some (Value.int z)) rfl, rfl, rfl, rfl⟩

theorem c_X6_image_state (l : Launch) {nw sp : Nat} {I : xM} {k : Nat} (hst : I 307 7 = nI 0) (hk : k < 2) : xC l 2 0 0 yX6_image cX6_image 3 (some .int) 319 [.ref 307, .int (nI k)] I (xRL nw sp) (xpI (-1000002) 319 (xput I 307 0 (nI 0)) (xRL nw sp)) := by
  refine xC_of (by decide) (Nat.le_of_ble_eq_true rfl) (fun X hXl hX hR => ?_)
  have hX : xOK X RX6 cX6_image 3 2 0 0 := hX
  show G X 319 0 0 I (xRL nw sp) 0 [(0, .ref 307), (1, .int (nI k))] []
  refine g_aload_n hX dX6_image_0 rfl 0 rfl ?_
  refine g_iconst (v := nI 0) hX dX6_image_1 (by decide) ?_
  refine g_putI hX (by decide) (by decide) xCl6 0 (by decide) (by decide) (by decide) kX6_44 dX6_image_2 rfl rfl ?_
  refine g_iload_n hX dX6_image_5 rfl 1 rfl ?_
  refine g_i2l (v := (nI k).toInt64) hX dX6_image_6 rfl ?_
  refine g_lconst (v := 0) hX dX6_image_7 (by decide) ?_
  refine g_lconst (v := 1) hX dX6_image_8 (by decide) ?_
  refine g_callSi (as := [.long ((nI k).toInt64), .long 0, .long 1]) hX (fun l => c_X6_in l) mX6_in sX6_in lX6_54 rfl dX6_image_9 rfl (by decide) (Nat.le_of_ble_eq_true rfl) (by decide) (by decide) ?_
  refine g_top (y := xb ((0 : Int) ≤ ((k : Nat) : Int) ∧ ((k : Nat) : Int) ≤ (1 : Int))) (xb_iffI ((i64_of _).trans (nI_toInt (by omega))) (by decide) (by decide)) ?_
  refine g_cb_ne (tgt := 18) hX dX6_image_12 (by decide) (fun h12 => ?_) (fun h12 => ?_)
  · refine g_aload_n hX dX6_image_18 rfl 0 rfl ?_
    refine g_getI (v := nI 0) hX (by decide) (by decide) xCl6 7 (by decide) (by decide) kX6_186 dX6_image_19 (xput_i (by decide) hst) ?_
    refine g_cz_ne (a := (0 : Int)) (tgt := 28) hX dX6_image_22 (by decide) (by decide) (fun q => absurd q (by decide)) (fun _ => ?_)
    refine g_ldc (v := -1000002) hX cX6_205 dX6_image_25 ?_
    exact g_iret hX hR dX6_image_27 (by decide) (by decide) ⟨congrArg (fun z => some (Value.int z)) rfl, rfl, rfl, rfl⟩
  · exfalso; omega

theorem c_X6_image_ok (l : Launch) {nw sp : Nat} {I : xM} {k : Nat} (hst : I 307 7 = nI 1) (hk : k < 2) : xC l 2 0 0 yX6_image cX6_image 3 (some .int) 319 [.ref 307, .int (nI k)] I (xRL nw sp) (xpI (nI 1) 319 (xput (xrow (xput I 307 0 (nI 0)) 317 (xfill (I 317) (I 311) (74 * k) 74)) 316 k (nI 1)) (xRL nw sp)) := by
  refine xC_of (by decide) (Nat.le_of_ble_eq_true rfl) (fun X hXl hX hR => ?_)
  have hX : xOK X RX6 cX6_image 3 2 0 0 := hX
  show G X 319 0 0 I (xRL nw sp) 0 [(0, .ref 307), (1, .int (nI k))] []
  refine g_aload_n hX dX6_image_0 rfl 0 rfl ?_
  refine g_iconst (v := nI 0) hX dX6_image_1 (by decide) ?_
  refine g_putI hX (by decide) (by decide) xCl6 0 (by decide) (by decide) (by decide) kX6_44 dX6_image_2 rfl rfl ?_
  refine g_iload_n hX dX6_image_5 rfl 1 rfl ?_
  refine g_i2l (v := (nI k).toInt64) hX dX6_image_6 rfl ?_
  refine g_lconst (v := 0) hX dX6_image_7 (by decide) ?_
  refine g_lconst (v := 1) hX dX6_image_8 (by decide) ?_
  refine g_callSi (as := [.long ((nI k).toInt64), .long 0, .long 1]) hX (fun l => c_X6_in l) mX6_in sX6_in lX6_54 rfl dX6_image_9 rfl (by decide) (Nat.le_of_ble_eq_true rfl) (by decide) (by decide) ?_
  refine g_top (y := xb ((0 : Int) ≤ ((k : Nat) : Int) ∧ ((k : Nat) : Int) ≤ (1 : Int))) (xb_iffI ((i64_of _).trans (nI_toInt (by omega))) (by decide) (by decide)) ?_
  refine g_cb_ne (tgt := 18) hX dX6_image_12 (by decide) (fun h12 => ?_) (fun h12 => ?_)
  · refine g_aload_n hX dX6_image_18 rfl 0 rfl ?_
    refine g_getI (v := nI 1) hX (by decide) (by decide) xCl6 7 (by decide) (by decide) kX6_186 dX6_image_19 (xput_i (by decide) hst) ?_
    refine g_cz_ne (a := (1 : Int)) (tgt := 28) hX dX6_image_22 (by decide) (by decide) (fun _ => ?_) (fun q => absurd q (by decide))
    refine g_iconst (v := nI 0) hX dX6_image_28 (by decide) ?_
    refine g_istore_n (L' := [(0, .ref 307), (1, .int (nI k)), (2, .int (nI 0))]) hX dX6_image_29 rfl (by decide) rfl ?_
    have cut30 : ∀ (fuel : Nat) (j : Nat) (J : xM) (hj : j ≤ 74) (hJ : J = xrow (xput I 307 0 (nI 0)) 317 (xfill (I 317) (I 311) (74 * k) j)), 74 - j < fuel → G X 319 0 0 J (xRL nw sp) 30 [(0, .ref 307), (1, .int (nI k)), (2, .int (nI j))] [] := by
      intro fuel
      induction fuel with
      | zero => intro j J hj hJ hfuel; omega
      | succ fuel ih =>
        intro j J hj hJ hfuel
        refine g_iload_n hX dX6_image_30 rfl 2 rfl ?_
        refine g_bipush (v := nI 74) hX dX6_image_31 (by decide) ?_
        refine g_ci_ge (a := ((j : Nat) : Int)) (b := (74 : Int)) (tgt := 59) hX dX6_image_33 (by decide) (nI_toInt (by omega)) (by decide) (fun h33 => ?_) (fun h33 => ?_)
        · refine g_aload_n hX dX6_image_59 rfl 0 rfl ?_
          refine g_getR (j := 316) hX (by decide) (by decide) xCl6 21 (by decide) (by decide) kX6_34 dX6_image_60 rfl ?_
          refine g_iload_n hX dX6_image_63 rfl 1 rfl ?_
          refine g_iconst (v := nI 1) hX dX6_image_64 (by decide) ?_
          refine g_zast hX (by decide) (by decide) k rfl (by rw [(show xN 316 = 2 by decide)]; omega) dX6_image_65 (by decide) ?_
          refine g_iconst (v := nI 1) hX dX6_image_66 (by decide) ?_
          exact g_iret hX hR dX6_image_67 (by decide) (by decide) ⟨congrArg (fun z => some (Value.int z)) rfl, rfl, (by rw [hJ, show j = 74 by omega]), rfl⟩
        · refine g_aload_n hX dX6_image_36 rfl 0 rfl ?_
          refine g_getR (j := 317) hX (by decide) (by decide) xCl6 22 (by decide) (by decide) kX6_38 dX6_image_37 rfl ?_
          refine g_bipush (v := nI 74) hX dX6_image_40 (by decide) ?_
          refine g_iload_n hX dX6_image_42 rfl 1 rfl ?_
          refine g_imul (v := nI (74 * k)) hX dX6_image_43 (nI_mul 74 k) ?_
          refine g_iload_n hX dX6_image_44 rfl 2 rfl ?_
          refine g_iadd (v := nI ((74 * k) + j)) hX dX6_image_45 (nI_add (74 * k) j) ?_
          refine g_aload_n hX dX6_image_46 rfl 0 rfl ?_
          refine g_getR (j := 311) hX (by decide) (by decide) xCl6 5 (by decide) (by decide) kX6_19 dX6_image_47 rfl ?_
          refine g_iload_n hX dX6_image_50 rfl 2 rfl ?_
          refine g_iald (v := I 311 j) hX (by decide) (by decide) j rfl (by rw [(show xN 311 = 74 by decide)]; omega) dX6_image_51 (by rw [hJ]; rfl) ?_
          refine g_iast hX (by decide) (by decide) ((74 * k) + j) rfl (by rw [(show xN 317 = 148 by decide)]; omega) dX6_image_52 ?_
          refine g_iinc (v := nI (j + 1)) (L' := [(0, .ref 307), (1, .int (nI k)), (2, .int (nI (j + 1)))]) hX dX6_image_53 (by decide) 2 rfl (nI_add j 1) rfl ?_
          refine g_goto (tgt := 30) hX dX6_image_56 (by decide) ?_
          exact ih (j + 1) (xput J 317 ((74 * k) + j) (I 311 j)) (by first | assumption | omega) (xfill_step hJ rfl rfl) (by omega)
    exact cut30 _ 0 (xput I 307 0 (nI 0)) (by first | assumption | omega) (xfill_start rfl) (Nat.lt_succ_self _)
  · exfalso; omega

theorem c_X6_restore_bad (l : Launch) {nw sp : Nat} {I : xM} {x : Int32} (hb : ¬ (0 ≤ x.toInt ∧ x.toInt ≤ 1)) : xC l 2 0 0 yX6_restore cX6_restore 3 (some .int) 319 [.ref 307, .int x] I (xRL nw sp) (xpI (-1000001) 319 (xput I 307 0 (nI 0)) (xRL nw sp)) := by
  refine xC_of (by decide) (Nat.le_of_ble_eq_true rfl) (fun X hXl hX hR => ?_)
  have hX : xOK X RX6 cX6_restore 3 2 0 0 := hX
  show G X 319 0 0 I (xRL nw sp) 0 [(0, .ref 307), (1, .int x)] []
  refine g_aload_n hX dX6_restore_0 rfl 0 rfl ?_
  refine g_iconst (v := nI 0) hX dX6_restore_1 (by decide) ?_
  refine g_putI hX (by decide) (by decide) xCl6 0 (by decide) (by decide) (by decide) kX6_44 dX6_restore_2 rfl rfl ?_
  refine g_iload_n hX dX6_restore_5 rfl 1 rfl ?_
  refine g_i2l (v := x.toInt64) hX dX6_restore_6 rfl ?_
  refine g_lconst (v := 0) hX dX6_restore_7 (by decide) ?_
  refine g_lconst (v := 1) hX dX6_restore_8 (by decide) ?_
  refine g_callSi (as := [.long x.toInt64, .long 0, .long 1]) hX (fun l => c_X6_in l) mX6_in sX6_in lX6_54 rfl dX6_restore_9 rfl (by decide) (Nat.le_of_ble_eq_true rfl) (by decide) (by decide) ?_
  refine g_top (y := xb ((0 : Int) ≤ x.toInt ∧ x.toInt ≤ (1 : Int))) (xb_iffI ((i64_of _).trans rfl) (by decide) (by decide)) ?_
  refine g_cb_ne (tgt := 18) hX dX6_restore_12 (by decide) (fun h12 => ?_) (fun h12 => ?_)
  · exfalso; omega
  · refine g_ldc (v := -1000001) hX cX6_64 dX6_restore_15 ?_
    exact g_iret hX hR dX6_restore_17 (by decide) (by decide) ⟨congrArg (fun z => some (Value.int z)) rfl, rfl, rfl, rfl⟩

theorem c_X6_restore_state (l : Launch) {nw sp : Nat} {I : xM} {k : Nat} (hk : k < 2) (hi : I 316 k = nI 0) : xC l 2 0 0 yX6_restore cX6_restore 3 (some .int) 319 [.ref 307, .int (nI k)] I (xRL nw sp) (xpI (-1000002) 319 (xput I 307 0 (nI 0)) (xRL nw sp)) := by
  refine xC_of (by decide) (Nat.le_of_ble_eq_true rfl) (fun X hXl hX hR => ?_)
  have hX : xOK X RX6 cX6_restore 3 2 0 0 := hX
  show G X 319 0 0 I (xRL nw sp) 0 [(0, .ref 307), (1, .int (nI k))] []
  refine g_aload_n hX dX6_restore_0 rfl 0 rfl ?_
  refine g_iconst (v := nI 0) hX dX6_restore_1 (by decide) ?_
  refine g_putI hX (by decide) (by decide) xCl6 0 (by decide) (by decide) (by decide) kX6_44 dX6_restore_2 rfl rfl ?_
  refine g_iload_n hX dX6_restore_5 rfl 1 rfl ?_
  refine g_i2l (v := (nI k).toInt64) hX dX6_restore_6 rfl ?_
  refine g_lconst (v := 0) hX dX6_restore_7 (by decide) ?_
  refine g_lconst (v := 1) hX dX6_restore_8 (by decide) ?_
  refine g_callSi (as := [.long ((nI k).toInt64), .long 0, .long 1]) hX (fun l => c_X6_in l) mX6_in sX6_in lX6_54 rfl dX6_restore_9 rfl (by decide) (Nat.le_of_ble_eq_true rfl) (by decide) (by decide) ?_
  refine g_top (y := xb ((0 : Int) ≤ ((k : Nat) : Int) ∧ ((k : Nat) : Int) ≤ (1 : Int))) (xb_iffI ((i64_of _).trans (nI_toInt (by omega))) (by decide) (by decide)) ?_
  refine g_cb_ne (tgt := 18) hX dX6_restore_12 (by decide) (fun h12 => ?_) (fun h12 => ?_)
  · refine g_aload_n hX dX6_restore_18 rfl 0 rfl ?_
    refine g_getR (j := 316) hX (by decide) (by decide) xCl6 21 (by decide) (by decide) kX6_34 dX6_restore_19 rfl ?_
    refine g_iload_n hX dX6_restore_22 rfl 1 rfl ?_
    refine g_zald (v := nI 0) hX (by decide) (by decide) k rfl (by rw [(show xN 316 = 2 by decide)]; omega) dX6_restore_23 (xput_o (by decide) hi) ?_
    refine g_cz_ne (a := (0 : Int)) (tgt := 30) hX dX6_restore_24 (by decide) (by decide) (fun q => absurd q (by decide)) (fun _ => ?_)
    refine g_ldc (v := -1000002) hX cX6_205 dX6_restore_27 ?_
    exact g_iret hX hR dX6_restore_29 (by decide) (by decide) ⟨congrArg (fun z => some (Value.int z)) rfl, rfl, rfl, rfl⟩
  · exfalso; omega

theorem c_X6_restore_ok (l : Launch) {nw sp : Nat} {I : xM} {k : Nat} (hk : k < 2) (hi : I 316 k = nI 1) : xC l 2 0 0 yX6_restore cX6_restore 3 (some .int) 319 [.ref 307, .int (nI k)] I (xRL nw sp) (xpI (nI 1) 319 (xput (xrow (xput I 307 0 (nI 0)) 311 (xfill (I 311) (fun j => I 317 (74 * k + j)) 0 74)) 307 9 (nI 0)) (xRL nw sp)) := by
  refine xC_of (by decide) (Nat.le_of_ble_eq_true rfl) (fun X hXl hX hR => ?_)
  have hX : xOK X RX6 cX6_restore 3 2 0 0 := hX
  show G X 319 0 0 I (xRL nw sp) 0 [(0, .ref 307), (1, .int (nI k))] []
  refine g_aload_n hX dX6_restore_0 rfl 0 rfl ?_
  refine g_iconst (v := nI 0) hX dX6_restore_1 (by decide) ?_
  refine g_putI hX (by decide) (by decide) xCl6 0 (by decide) (by decide) (by decide) kX6_44 dX6_restore_2 rfl rfl ?_
  refine g_iload_n hX dX6_restore_5 rfl 1 rfl ?_
  refine g_i2l (v := (nI k).toInt64) hX dX6_restore_6 rfl ?_
  refine g_lconst (v := 0) hX dX6_restore_7 (by decide) ?_
  refine g_lconst (v := 1) hX dX6_restore_8 (by decide) ?_
  refine g_callSi (as := [.long ((nI k).toInt64), .long 0, .long 1]) hX (fun l => c_X6_in l) mX6_in sX6_in lX6_54 rfl dX6_restore_9 rfl (by decide) (Nat.le_of_ble_eq_true rfl) (by decide) (by decide) ?_
  refine g_top (y := xb ((0 : Int) ≤ ((k : Nat) : Int) ∧ ((k : Nat) : Int) ≤ (1 : Int))) (xb_iffI ((i64_of _).trans (nI_toInt (by omega))) (by decide) (by decide)) ?_
  refine g_cb_ne (tgt := 18) hX dX6_restore_12 (by decide) (fun h12 => ?_) (fun h12 => ?_)
  · refine g_aload_n hX dX6_restore_18 rfl 0 rfl ?_
    refine g_getR (j := 316) hX (by decide) (by decide) xCl6 21 (by decide) (by decide) kX6_34 dX6_restore_19 rfl ?_
    refine g_iload_n hX dX6_restore_22 rfl 1 rfl ?_
    refine g_zald (v := nI 1) hX (by decide) (by decide) k rfl (by rw [(show xN 316 = 2 by decide)]; omega) dX6_restore_23 (xput_o (by decide) hi) ?_
    refine g_cz_ne (a := (1 : Int)) (tgt := 30) hX dX6_restore_24 (by decide) (by decide) (fun _ => ?_) (fun q => absurd q (by decide))
    refine g_iconst (v := nI 0) hX dX6_restore_30 (by decide) ?_
    refine g_istore_n (L' := [(0, .ref 307), (1, .int (nI k)), (2, .int (nI 0))]) hX dX6_restore_31 rfl (by decide) rfl ?_
    have cut32 : ∀ (fuel : Nat) (j : Nat) (J : xM) (hj : j ≤ 74) (hJ : J = xrow (xput I 307 0 (nI 0)) 311 (xfill (I 311) (fun j => I 317 (74 * k + j)) 0 j)), 74 - j < fuel → G X 319 0 0 J (xRL nw sp) 32 [(0, .ref 307), (1, .int (nI k)), (2, .int (nI j))] [] := by
      intro fuel
      induction fuel with
      | zero => intro j J hj hJ hfuel; omega
      | succ fuel ih =>
        intro j J hj hJ hfuel
        refine g_iload_n hX dX6_restore_32 rfl 2 rfl ?_
        refine g_bipush (v := nI 74) hX dX6_restore_33 (by decide) ?_
        refine g_ci_ge (a := ((j : Nat) : Int)) (b := (74 : Int)) (tgt := 61) hX dX6_restore_35 (by decide) (nI_toInt (by omega)) (by decide) (fun h35 => ?_) (fun h35 => ?_)
        · refine g_aload_n hX dX6_restore_61 rfl 0 rfl ?_
          refine g_iconst (v := nI 0) hX dX6_restore_62 (by decide) ?_
          refine g_putI hX (by decide) (by decide) xCl6 9 (by decide) (by decide) (by decide) kX6_190 dX6_restore_63 rfl rfl ?_
          refine g_iconst (v := nI 1) hX dX6_restore_66 (by decide) ?_
          exact g_iret hX hR dX6_restore_67 (by decide) (by decide) ⟨congrArg (fun z => some (Value.int z)) rfl, rfl, (by rw [hJ, show j = 74 by omega]), rfl⟩
        · refine g_aload_n hX dX6_restore_38 rfl 0 rfl ?_
          refine g_getR (j := 311) hX (by decide) (by decide) xCl6 5 (by decide) (by decide) kX6_19 dX6_restore_39 rfl ?_
          refine g_iload_n hX dX6_restore_42 rfl 2 rfl ?_
          refine g_aload_n hX dX6_restore_43 rfl 0 rfl ?_
          refine g_getR (j := 317) hX (by decide) (by decide) xCl6 22 (by decide) (by decide) kX6_38 dX6_restore_44 rfl ?_
          refine g_bipush (v := nI 74) hX dX6_restore_47 (by decide) ?_
          refine g_iload_n hX dX6_restore_49 rfl 1 rfl ?_
          refine g_imul (v := nI (74 * k)) hX dX6_restore_50 (nI_mul 74 k) ?_
          refine g_iload_n hX dX6_restore_51 rfl 2 rfl ?_
          refine g_iadd (v := nI ((74 * k) + j)) hX dX6_restore_52 (nI_add (74 * k) j) ?_
          refine g_iald (v := I 317 (74 * k + j)) hX (by decide) (by decide) ((74 * k) + j) rfl (by rw [(show xN 317 = 148 by decide)]; omega) dX6_restore_53 (by rw [hJ]; rfl) ?_
          refine g_iast hX (by decide) (by decide) j rfl (by rw [(show xN 311 = 74 by decide)]; omega) dX6_restore_54 ?_
          refine g_iinc (v := nI (j + 1)) (L' := [(0, .ref 307), (1, .int (nI k)), (2, .int (nI (j + 1)))]) hX dX6_restore_55 (by decide) 2 rfl (nI_add j 1) rfl ?_
          refine g_goto (tgt := 32) hX dX6_restore_58 (by decide) ?_
          exact ih (j + 1) (xput J 311 j (I 317 (74 * k + j))) (by first | assumption | omega) (xfill_step hJ (Nat.zero_add _).symm rfl) (by omega)
    exact cut32 _ 0 (xput I 307 0 (nI 0)) (by first | assumption | omega) (xfill_start rfl) (Nat.lt_succ_self _)
  · exfalso; omega

theorem c_X6_kind_bad (l : Launch) {nw sp : Nat} {I : xM} {T : Nat} {x : Int32} (hT : I 311 0 = nI T) (hT6 : T ≤ 6) (hb : ¬ (0 ≤ x.toInt ∧ x.toInt < T)) : xC l 3 0 0 yX6_kind cX6_kind 2 (some .int) 319 [.ref 307, .int x] I (xRL nw sp) (xpI (-1000001) 319 (xput I 307 0 (nI 0)) (xRL nw sp)) := by
  refine xC_of (by decide) (Nat.le_of_ble_eq_true rfl) (fun X hXl hX hR => ?_)
  have hX : xOK X RX6 cX6_kind 2 3 0 0 := hX
  show G X 319 0 0 I (xRL nw sp) 0 [(0, .ref 307), (1, .int x)] []
  refine g_aload_n hX dX6_kind_0 rfl 0 rfl ?_
  refine g_iconst (v := nI 0) hX dX6_kind_1 (by decide) ?_
  refine g_putI hX (by decide) (by decide) xCl6 0 (by decide) (by decide) (by decide) kX6_44 dX6_kind_2 rfl rfl ?_
  refine g_aload_n hX dX6_kind_5 rfl 0 rfl ?_
  refine g_iload_n hX dX6_kind_6 rfl 1 rfl ?_
  refine g_callVi hX (as := [.int x]) (fun l => c_X6_isTree l (I := (xput I 307 0 (nI 0))) (T := T) (x := x) (hT := (by first | assumption | omega)) (hT6 := (by first | assumption | omega))) mX6_isTree vX6_isTree lX6_211 (by decide) (by decide) xCl6 rfl rfl dX6_kind_7 rfl (by decide) (Nat.le_of_ble_eq_true rfl) (by decide) (by decide) ?_
  refine g_cb_eq (tgt := 22) hX dX6_kind_10 (by decide) (fun h10 => ?_) (fun h10 => ?_)
  · refine g_ldc (v := -1000001) hX cX6_64 dX6_kind_22 ?_
    exact g_iret hX hR dX6_kind_24 (by decide) (by decide) ⟨congrArg (fun z => some (Value.int z)) rfl, rfl, rfl, rfl⟩
  · exfalso; omega

theorem c_X6_kind_ok (l : Launch) {nw sp : Nat} {I : xM} {t T : Nat} (hT : I 311 0 = nI T) (hT6 : T ≤ 6) (ht : t < T) : xC l 3 0 0 yX6_kind cX6_kind 2 (some .int) 319 [.ref 307, .int (nI t)] I (xRL nw sp) (xpI (I 311 (26 + 5 * t + 0)) 319 (xput I 307 0 (nI 0)) (xRL nw sp)) := by
  refine xC_of (by decide) (Nat.le_of_ble_eq_true rfl) (fun X hXl hX hR => ?_)
  have hX : xOK X RX6 cX6_kind 2 3 0 0 := hX
  show G X 319 0 0 I (xRL nw sp) 0 [(0, .ref 307), (1, .int (nI t))] []
  refine g_aload_n hX dX6_kind_0 rfl 0 rfl ?_
  refine g_iconst (v := nI 0) hX dX6_kind_1 (by decide) ?_
  refine g_putI hX (by decide) (by decide) xCl6 0 (by decide) (by decide) (by decide) kX6_44 dX6_kind_2 rfl rfl ?_
  refine g_aload_n hX dX6_kind_5 rfl 0 rfl ?_
  refine g_iload_n hX dX6_kind_6 rfl 1 rfl ?_
  refine g_callVi hX (as := [.int (nI t)]) (fun l => c_X6_isTree l (I := (xput I 307 0 (nI 0))) (T := T) (x := (nI t)) (hT := (by first | assumption | omega)) (hT6 := (by first | assumption | omega))) mX6_isTree vX6_isTree lX6_211 (by decide) (by decide) xCl6 rfl rfl dX6_kind_7 rfl (by decide) (Nat.le_of_ble_eq_true rfl) (by decide) (by decide) ?_
  refine g_top (y := xb (0 ≤ ((t : Nat) : Int) ∧ ((t : Nat) : Int) < T)) (by rw [nI_toInt (n := t) (by omega)]) ?_
  refine g_cb_eq (tgt := 22) hX dX6_kind_10 (by decide) (fun h10 => ?_) (fun h10 => ?_)
  · exfalso; omega
  · refine g_aload_n hX dX6_kind_13 rfl 0 rfl ?_
    refine g_iload_n hX dX6_kind_14 rfl 1 rfl ?_
    refine g_iconst (v := nI 0) hX dX6_kind_15 (by decide) ?_
    refine g_callVi hX (as := [.int (nI t), .int (nI 0)]) (fun l => c_X6_of l (I := (xput I 307 0 (nI 0))) (t := t) (w := 0) (ht := (by first | assumption | omega))) mX6_of vX6_of lX6_193 (by decide) (by decide) xCl6 rfl rfl dX6_kind_16 rfl (by decide) (Nat.le_of_ble_eq_true rfl) (by decide) (by decide) ?_
    refine g_top (y := I 311 (26 + 5 * t + 0)) (by rw [show (xput I 307 0 (nI 0)) 311 = I 311 from ((xput_ne (by decide)).trans rfl)]) ?_
    refine g_goto (tgt := 24) hX dX6_kind_19 (by decide) ?_
    exact g_iret hX hR dX6_kind_24 (by decide) (by decide) ⟨congrArg (fun z => some (Value.int z)) rfl, rfl, rfl, rfl⟩

theorem c_X6_as_bad (l : Launch) {nw sp : Nat} {I : xM} {T : Nat} {x y : Int32} (hT : I 311 0 = nI T) (hT6 : T ≤ 6) (hb : ¬ (0 ≤ x.toInt ∧ x.toInt < T ∧ 0 ≤ y.toInt ∧ y.toInt ≤ 5)) : xC l 3 0 0 yX6_as cX6_as 3 (some .int) 319 [.ref 307, .int x, .int y] I (xRL nw sp) (xpI (-1000001) 319 (xput I 307 0 (nI 0)) (xRL nw sp)) := by
  refine xC_of (by decide) (Nat.le_of_ble_eq_true rfl) (fun X hXl hX hR => ?_)
  have hX : xOK X RX6 cX6_as 3 3 0 0 := hX
  show G X 319 0 0 I (xRL nw sp) 0 [(0, .ref 307), (1, .int x), (2, .int y)] []
  refine g_aload_n hX dX6_as_0 rfl 0 rfl ?_
  refine g_iconst (v := nI 0) hX dX6_as_1 (by decide) ?_
  refine g_putI hX (by decide) (by decide) xCl6 0 (by decide) (by decide) (by decide) kX6_44 dX6_as_2 rfl rfl ?_
  refine g_aload_n hX dX6_as_5 rfl 0 rfl ?_
  refine g_iload_n hX dX6_as_6 rfl 1 rfl ?_
  refine g_callVi hX (as := [.int x]) (fun l => c_X6_isTree l (I := (xput I 307 0 (nI 0))) (T := T) (x := x) (hT := (by first | assumption | omega)) (hT6 := (by first | assumption | omega))) mX6_isTree vX6_isTree lX6_211 (by decide) (by decide) xCl6 rfl rfl dX6_as_7 rfl (by decide) (Nat.le_of_ble_eq_true rfl) (by decide) (by decide) ?_
  refine g_cb_eq (tgt := 25) hX dX6_as_10 (by decide) (fun h10 => ?_) (fun h10 => ?_)
  · refine g_ldc (v := -1000001) hX cX6_64 dX6_as_25 ?_
    exact g_iret hX hR dX6_as_27 (by decide) (by decide) ⟨congrArg (fun z => some (Value.int z)) rfl, rfl, rfl, rfl⟩
  · refine g_iload_n hX dX6_as_13 rfl 2 rfl ?_
    refine g_i2l (v := y.toInt64) hX dX6_as_14 rfl ?_
    refine g_lconst (v := 0) hX dX6_as_15 (by decide) ?_
    refine g_ldc2 (v := 5) hX cX6_275 dX6_as_16 ?_
    refine g_callSi (as := [.long y.toInt64, .long 0, .long (5)]) hX (fun l => c_X6_in l) mX6_in sX6_in lX6_54 rfl dX6_as_19 rfl (by decide) (Nat.le_of_ble_eq_true rfl) (by decide) (by decide) ?_
    refine g_top (y := xb ((0 : Int) ≤ y.toInt ∧ y.toInt ≤ (5 : Int))) (xb_iffI ((i64_of _).trans rfl) (by decide) (by decide)) ?_
    refine g_cb_ne (tgt := 28) hX dX6_as_22 (by decide) (fun h22 => ?_) (fun h22 => ?_)
    · exfalso; omega
    · refine g_ldc (v := -1000001) hX cX6_64 dX6_as_25 ?_
      exact g_iret hX hR dX6_as_27 (by decide) (by decide) ⟨congrArg (fun z => some (Value.int z)) rfl, rfl, rfl, rfl⟩

theorem c_X6_as_ok (l : Launch) {nw sp : Nat} {I : xM} {t T : Nat} {y : Int32} (hT : I 311 0 = nI T) (hT6 : T ≤ 6) (ht : t < T) (hy : 0 ≤ y.toInt ∧ y.toInt ≤ 5) (hk : y.toInt = 0 ∨ (I 311 (26 + 5 * t + 0)).toInt = y.toInt ∨ (y.toInt = 1 ∧ (I 311 (26 + 5 * t + 0)).toInt = 2) ∨ (y.toInt = 4 ∧ (I 311 (26 + 5 * t + 0)).toInt = 5)) : xC l 3 0 0 yX6_as cX6_as 3 (some .int) 319 [.ref 307, .int (nI t), .int y] I (xRL nw sp) (xpI (nI t) 319 (xput (xput I 307 0 (nI 0)) 307 1 (nI 0)) (xRL nw sp)) := by
  refine xC_of (by decide) (Nat.le_of_ble_eq_true rfl) (fun X hXl hX hR => ?_)
  have hX : xOK X RX6 cX6_as 3 3 0 0 := hX
  show G X 319 0 0 I (xRL nw sp) 0 [(0, .ref 307), (1, .int (nI t)), (2, .int y)] []
  refine g_aload_n hX dX6_as_0 rfl 0 rfl ?_
  refine g_iconst (v := nI 0) hX dX6_as_1 (by decide) ?_
  refine g_putI hX (by decide) (by decide) xCl6 0 (by decide) (by decide) (by decide) kX6_44 dX6_as_2 rfl rfl ?_
  refine g_aload_n hX dX6_as_5 rfl 0 rfl ?_
  refine g_iload_n hX dX6_as_6 rfl 1 rfl ?_
  refine g_callVi hX (as := [.int (nI t)]) (fun l => c_X6_isTree l (I := (xput I 307 0 (nI 0))) (T := T) (x := (nI t)) (hT := (by first | assumption | omega)) (hT6 := (by first | assumption | omega))) mX6_isTree vX6_isTree lX6_211 (by decide) (by decide) xCl6 rfl rfl dX6_as_7 rfl (by decide) (Nat.le_of_ble_eq_true rfl) (by decide) (by decide) ?_
  refine g_top (y := xb (0 ≤ ((t : Nat) : Int) ∧ ((t : Nat) : Int) < T)) (by rw [nI_toInt (n := t) (by omega)]) ?_
  refine g_cb_eq (tgt := 25) hX dX6_as_10 (by decide) (fun h10 => ?_) (fun h10 => ?_)
  · exfalso; omega
  · refine g_iload_n hX dX6_as_13 rfl 2 rfl ?_
    refine g_i2l (v := y.toInt64) hX dX6_as_14 rfl ?_
    refine g_lconst (v := 0) hX dX6_as_15 (by decide) ?_
    refine g_ldc2 (v := 5) hX cX6_275 dX6_as_16 ?_
    refine g_callSi (as := [.long y.toInt64, .long 0, .long (5)]) hX (fun l => c_X6_in l) mX6_in sX6_in lX6_54 rfl dX6_as_19 rfl (by decide) (Nat.le_of_ble_eq_true rfl) (by decide) (by decide) ?_
    refine g_top (y := xb ((0 : Int) ≤ y.toInt ∧ y.toInt ≤ (5 : Int))) (xb_iffI ((i64_of _).trans rfl) (by decide) (by decide)) ?_
    refine g_cb_ne (tgt := 28) hX dX6_as_22 (by decide) (fun h22 => ?_) (fun h22 => ?_)
    · refine g_aload_n hX dX6_as_28 rfl 0 rfl ?_
      refine g_iconst (v := nI 0) hX dX6_as_29 (by decide) ?_
      refine g_putI hX (by decide) (by decide) xCl6 1 (by decide) (by decide) (by decide) kX6_48 dX6_as_30 rfl rfl ?_
      refine g_aload_n hX dX6_as_33 rfl 0 rfl ?_
      refine g_iload_n hX dX6_as_34 rfl 1 rfl ?_
      refine g_iconst (v := nI 0) hX dX6_as_35 (by decide) ?_
      refine g_callVi hX (as := [.int (nI t), .int (nI 0)]) (fun l => c_X6_of l (I := (xput (xput I 307 0 (nI 0)) 307 1 (nI 0))) (t := t) (w := 0) (ht := (by first | assumption | omega))) mX6_of vX6_of lX6_193 (by decide) (by decide) xCl6 rfl rfl dX6_as_36 rfl (by decide) (Nat.le_of_ble_eq_true rfl) (by decide) (by decide) ?_
      refine g_top (y := I 311 (26 + 5 * t + 0)) (by rw [show (xput (xput I 307 0 (nI 0)) 307 1 (nI 0)) 311 = I 311 from ((xput_ne (by decide)).trans ((xput_ne (by decide)).trans rfl))]) ?_
      refine g_iload_n hX dX6_as_39 rfl 2 rfl ?_
      refine g_callSi hX (as := [.int (I 311 (26 + 5 * t + 0)), .int y]) (fun l => c_X6_isOf l (I := (xput (xput I 307 0 (nI 0)) 307 1 (nI 0))) (x := (I 311 (26 + 5 * t + 0))) (y := y) ) mX6_isOf sX6_isOf lX6_277 rfl dX6_as_40 rfl (by decide) (Nat.le_of_ble_eq_true rfl) (by decide) (by decide) ?_
      refine g_cb_eq (tgt := 50) hX dX6_as_43 (by decide) (fun h43 => ?_) (fun h43 => ?_)
      · exact absurd hk h43
      · refine g_iload_n hX dX6_as_46 rfl 1 rfl ?_
        refine g_goto (tgt := 55) hX dX6_as_47 (by decide) ?_
        exact g_iret hX hR dX6_as_55 (by decide) (by decide) ⟨congrArg (fun z => some (Value.int z)) rfl, rfl, rfl, rfl⟩
    · exfalso; omega

theorem c_X6_as_no (l : Launch) {nw sp : Nat} {I : xM} {t T : Nat} {y : Int32} (hT : I 311 0 = nI T) (hT6 : T ≤ 6) (ht : t < T) (hy : 0 ≤ y.toInt ∧ y.toInt ≤ 5) (hk : ¬ (y.toInt = 0 ∨ (I 311 (26 + 5 * t + 0)).toInt = y.toInt ∨ (y.toInt = 1 ∧ (I 311 (26 + 5 * t + 0)).toInt = 2) ∨ (y.toInt = 4 ∧ (I 311 (26 + 5 * t + 0)).toInt = 5))) : xC l 3 0 0 yX6_as cX6_as 3 (some .int) 319 [.ref 307, .int (nI t), .int y] I (xRL nw sp) (xpI (-1000013) 319 (xput (xput (xput I 307 0 (nI 0)) 307 1 (nI 0)) 307 1 (nI 3)) (xRL nw sp)) := by
  refine xC_of (by decide) (Nat.le_of_ble_eq_true rfl) (fun X hXl hX hR => ?_)
  have hX : xOK X RX6 cX6_as 3 3 0 0 := hX
  show G X 319 0 0 I (xRL nw sp) 0 [(0, .ref 307), (1, .int (nI t)), (2, .int y)] []
  refine g_aload_n hX dX6_as_0 rfl 0 rfl ?_
  refine g_iconst (v := nI 0) hX dX6_as_1 (by decide) ?_
  refine g_putI hX (by decide) (by decide) xCl6 0 (by decide) (by decide) (by decide) kX6_44 dX6_as_2 rfl rfl ?_
  refine g_aload_n hX dX6_as_5 rfl 0 rfl ?_
  refine g_iload_n hX dX6_as_6 rfl 1 rfl ?_
  refine g_callVi hX (as := [.int (nI t)]) (fun l => c_X6_isTree l (I := (xput I 307 0 (nI 0))) (T := T) (x := (nI t)) (hT := (by first | assumption | omega)) (hT6 := (by first | assumption | omega))) mX6_isTree vX6_isTree lX6_211 (by decide) (by decide) xCl6 rfl rfl dX6_as_7 rfl (by decide) (Nat.le_of_ble_eq_true rfl) (by decide) (by decide) ?_
  refine g_top (y := xb (0 ≤ ((t : Nat) : Int) ∧ ((t : Nat) : Int) < T)) (by rw [nI_toInt (n := t) (by omega)]) ?_
  refine g_cb_eq (tgt := 25) hX dX6_as_10 (by decide) (fun h10 => ?_) (fun h10 => ?_)
  · exfalso; omega
  · refine g_iload_n hX dX6_as_13 rfl 2 rfl ?_
    refine g_i2l (v := y.toInt64) hX dX6_as_14 rfl ?_
    refine g_lconst (v := 0) hX dX6_as_15 (by decide) ?_
    refine g_ldc2 (v := 5) hX cX6_275 dX6_as_16 ?_
    refine g_callSi (as := [.long y.toInt64, .long 0, .long (5)]) hX (fun l => c_X6_in l) mX6_in sX6_in lX6_54 rfl dX6_as_19 rfl (by decide) (Nat.le_of_ble_eq_true rfl) (by decide) (by decide) ?_
    refine g_top (y := xb ((0 : Int) ≤ y.toInt ∧ y.toInt ≤ (5 : Int))) (xb_iffI ((i64_of _).trans rfl) (by decide) (by decide)) ?_
    refine g_cb_ne (tgt := 28) hX dX6_as_22 (by decide) (fun h22 => ?_) (fun h22 => ?_)
    · refine g_aload_n hX dX6_as_28 rfl 0 rfl ?_
      refine g_iconst (v := nI 0) hX dX6_as_29 (by decide) ?_
      refine g_putI hX (by decide) (by decide) xCl6 1 (by decide) (by decide) (by decide) kX6_48 dX6_as_30 rfl rfl ?_
      refine g_aload_n hX dX6_as_33 rfl 0 rfl ?_
      refine g_iload_n hX dX6_as_34 rfl 1 rfl ?_
      refine g_iconst (v := nI 0) hX dX6_as_35 (by decide) ?_
      refine g_callVi hX (as := [.int (nI t), .int (nI 0)]) (fun l => c_X6_of l (I := (xput (xput I 307 0 (nI 0)) 307 1 (nI 0))) (t := t) (w := 0) (ht := (by first | assumption | omega))) mX6_of vX6_of lX6_193 (by decide) (by decide) xCl6 rfl rfl dX6_as_36 rfl (by decide) (Nat.le_of_ble_eq_true rfl) (by decide) (by decide) ?_
      refine g_top (y := I 311 (26 + 5 * t + 0)) (by rw [show (xput (xput I 307 0 (nI 0)) 307 1 (nI 0)) 311 = I 311 from ((xput_ne (by decide)).trans ((xput_ne (by decide)).trans rfl))]) ?_
      refine g_iload_n hX dX6_as_39 rfl 2 rfl ?_
      refine g_callSi hX (as := [.int (I 311 (26 + 5 * t + 0)), .int y]) (fun l => c_X6_isOf l (I := (xput (xput I 307 0 (nI 0)) 307 1 (nI 0))) (x := (I 311 (26 + 5 * t + 0))) (y := y) ) mX6_isOf sX6_isOf lX6_277 rfl dX6_as_40 rfl (by decide) (Nat.le_of_ble_eq_true rfl) (by decide) (by decide) ?_
      refine g_cb_eq (tgt := 50) hX dX6_as_43 (by decide) (fun h43 => ?_) (fun h43 => ?_)
      · refine g_aload_n hX dX6_as_50 rfl 0 rfl ?_
        refine g_iconst (v := nI 3) hX dX6_as_51 (by decide) ?_
        refine g_callVi hX (as := [.int (nI 3)]) (fun l => c_X6_finding l (I := (xput (xput I 307 0 (nI 0)) 307 1 (nI 0))) (x := (nI 3)) ) mX6_finding vX6_finding lX6_65 (by decide) (by decide) xCl6 rfl rfl dX6_as_52 rfl (by decide) (Nat.le_of_ble_eq_true rfl) (by decide) (by decide) ?_
        exact g_iret hX hR dX6_as_55 (by decide) (by decide) ⟨congrArg (fun z => some (Value.int z)) rfl, rfl, rfl, rfl⟩
      · exact absurd h43 hk
    · exfalso; omega

theorem c_X6_began (l : Launch) {nw sp : Nat} {I : xM} {n : Nat} {x : Int32} (hn : I 307 24 = nI n) (hn16 : n < 16) : xC l 1 0 0 yX6_began cX6_began 2 none 319 [.ref 307, .int x] I (xRL nw sp) (xpV 319 (xput (xput I 318 n x) 307 24 (nI (n + 1))) (xRL nw sp)) := by
  refine xC_of (by decide) (Nat.le_of_ble_eq_true rfl) (fun X hXl hX hR => ?_)
  have hX : xOK X RX6 cX6_began 2 1 0 0 := hX
  show G X 319 0 0 I (xRL nw sp) 0 [(0, .ref 307), (1, .int x)] []
  refine g_aload_n hX dX6_began_0 rfl 0 rfl ?_
  refine g_getI (v := nI n) hX (by decide) (by decide) xCl6 24 (by decide) (by decide) kX6_280 dX6_began_1 hn ?_
  refine g_bipush (v := nI 16) hX dX6_began_4 (by decide) ?_
  refine g_ci_ge (a := ((n : Nat) : Int)) (b := (16 : Int)) (tgt := 29) hX dX6_began_6 (by decide) (nI_toInt (by omega)) (by decide) (fun h6 => ?_) (fun h6 => ?_)
  · exfalso; omega
  · refine g_aload_n hX dX6_began_9 rfl 0 rfl ?_
    refine g_getR (j := 318) hX (by decide) (by decide) xCl6 23 (by decide) (by decide) kX6_41 dX6_began_10 rfl ?_
    refine g_aload_n hX dX6_began_13 rfl 0 rfl ?_
    refine g_getI (v := nI n) hX (by decide) (by decide) xCl6 24 (by decide) (by decide) kX6_280 dX6_began_14 hn ?_
    refine g_iload_n hX dX6_began_17 rfl 1 rfl ?_
    refine g_iast hX (by decide) (by decide) n rfl (by rw [(show xN 318 = 16 by decide)]; omega) dX6_began_18 ?_
    refine g_aload_n hX dX6_began_19 rfl 0 rfl ?_
    refine g_dup hX rfl dX6_began_20 ?_
    refine g_getI (v := nI n) hX (by decide) (by decide) xCl6 24 (by decide) (by decide) kX6_280 dX6_began_21 (xput_o (by decide) hn) ?_
    refine g_iconst (v := nI 1) hX dX6_began_24 (by decide) ?_
    refine g_iadd (v := nI (n + 1)) hX dX6_began_25 (nI_add n 1) ?_
    refine g_putI hX (by decide) (by decide) xCl6 24 (by decide) (by decide) (by decide) kX6_280 dX6_began_26 rfl rfl ?_
    exact g_vret hX hR dX6_began_29 (by decide) (by decide) ⟨rfl, rfl, rfl, rfl⟩

theorem c_X6_plainSize (l : Launch) {nw sp : Nat} {I : xM} {t n : Nat} (hn : I 307 24 = nI n) (hn8 : n ≤ 8) (ht : t < 7) : xC l 3 0 0 yX6_plainSize cX6_plainSize 2 (some .int) 319 [.ref 307, .int (nI t)] I (xRL nw sp) (xpI (hgF (I 311) (I 315) t) 319 (xput (xput I 318 (n) (nI 10)) 307 24 (nI (n + 1))) (xRL nw sp)) := by
  refine xC_of (by decide) (Nat.le_of_ble_eq_true rfl) (fun X hXl hX hR => ?_)
  have hX : xOK X RX6 cX6_plainSize 2 3 0 0 := hX
  show G X 319 0 0 I (xRL nw sp) 0 [(0, .ref 307), (1, .int (nI t))] []
  refine g_aload_n hX dX6_plainSize_0 rfl 0 rfl ?_
  refine g_bipush (v := nI 10) hX dX6_plainSize_1 (by decide) ?_
  refine g_callVv hX (as := [.int (nI 10)]) (fun l => c_X6_began l (I := I) (n := (n)) (x := (nI 10)) (hn := (by first | exact hn | exact xput_e)) (hn16 := (by first | assumption | omega))) mX6_began vX6_began lX6_283 (by decide) (by decide) xCl6 rfl rfl dX6_plainSize_3 rfl (by decide) (Nat.le_of_ble_eq_true rfl) (by decide) (by decide) ?_
  refine g_aload_n hX dX6_plainSize_6 rfl 0 rfl ?_
  refine g_iload_n hX dX6_plainSize_7 rfl 1 rfl ?_
  refine g_callVi hX (as := [.int (nI t)]) (fun l => c_X6_height l (I := (xput (xput I 318 (n) (nI 10)) 307 24 (nI ((n) + 1)))) (t := t) (ht := (by first | assumption | omega))) mX6_height vX6_height lX6_202 (by decide) (by decide) xCl6 rfl rfl dX6_plainSize_8 rfl (by decide) (Nat.le_of_ble_eq_true rfl) (by decide) (by decide) ?_
  refine g_top (y := hgF (I 311) (I 315) t) (by rw [show (xput (xput I 318 (n) (nI 10)) 307 24 (nI ((n) + 1))) 311 = I 311 from ((xput_ne (by decide)).trans ((xput_ne (by decide)).trans rfl)), show (xput (xput I 318 (n) (nI 10)) 307 24 (nI ((n) + 1))) 315 = I 315 from ((xput_ne (by decide)).trans ((xput_ne (by decide)).trans rfl))]) ?_
  exact g_iret hX hR dX6_plainSize_11 (by decide) (by decide) ⟨congrArg (fun z => some (Value.int z)) rfl, rfl, rfl, rfl⟩

theorem c_X6_markOf_1 (l : Launch) {nw sp : Nat} {I : xM} {t n : Nat} (hn : I 307 24 = nI n) (hn8 : n ≤ 5) (ht : t < 6) (hk : I 311 (26 + 5 * t + 0) = nI 1) : xC l 2 0 0 yX6_markOf cX6_markOf 3 (some .int) 319 [.ref 307, .int (nI t)] I (xRL nw sp) (xpI (nI t + I 311 (26 + 5 * t + 1) + nI 0) 319 (xput (xput (xput (xput I 318 (n) (nI 21)) 307 24 (nI (n + 1))) 318 (n + 1) (nI 20)) 307 24 (nI (n + 1 + 1))) (xRL nw sp)) := by
  refine xC_of (by decide) (Nat.le_of_ble_eq_true rfl) (fun X hXl hX hR => ?_)
  have hX : xOK X RX6 cX6_markOf 3 2 0 0 := hX
  show G X 319 0 0 I (xRL nw sp) 0 [(0, .ref 307), (1, .int (nI t))] []
  refine g_aload_n hX dX6_markOf_0 rfl 0 rfl ?_
  refine g_iload_n hX dX6_markOf_1 rfl 1 rfl ?_
  refine g_iconst (v := nI 0) hX dX6_markOf_2 (by decide) ?_
  refine g_callVi hX (as := [.int (nI t), .int (nI 0)]) (fun l => c_X6_of l (I := I) (t := t) (w := 0) (ht := (by first | assumption | omega))) mX6_of vX6_of lX6_193 (by decide) (by decide) xCl6 rfl rfl dX6_markOf_3 rfl (by decide) (Nat.le_of_ble_eq_true rfl) (by decide) (by decide) ?_
  refine g_top (y := nI 1) hk ?_
  refine g_istore_n (L' := [(0, .ref 307), (1, .int (nI t)), (2, .int (nI 1))]) hX dX6_markOf_6 rfl (by decide) rfl ?_
  refine g_iload_n hX dX6_markOf_7 rfl 2 rfl ?_
  refine g_iconst (v := nI 2) hX dX6_markOf_8 (by decide) ?_
  refine g_ci_ne (a := (1 : Int)) (b := (2 : Int)) (tgt := 18) hX dX6_markOf_9 (by decide) (by decide) (by decide) (fun _ => ?_) (fun q => absurd q (by decide))
  refine g_aload_n hX dX6_markOf_18 rfl 0 rfl ?_
  refine g_iload_n hX dX6_markOf_19 rfl 2 rfl ?_
  refine g_iconst (v := nI 3) hX dX6_markOf_20 (by decide) ?_
  refine g_ci_ge (a := (1 : Int)) (b := (3 : Int)) (tgt := 29) hX dX6_markOf_21 (by decide) (by decide) (by decide) (fun q => absurd q (by decide)) (fun _ => ?_)
  refine g_bipush (v := nI 21) hX dX6_markOf_24 (by decide) ?_
  refine g_goto (tgt := 41) hX dX6_markOf_26 (by decide) ?_
  refine g_callVv hX (as := [.int (nI 21)]) (fun l => c_X6_began l (I := I) (n := (n)) (x := (nI 21)) (hn := (by first | exact hn | exact xput_e)) (hn16 := (by first | assumption | omega))) mX6_began vX6_began lX6_283 (by decide) (by decide) xCl6 rfl rfl dX6_markOf_41 rfl (by decide) (Nat.le_of_ble_eq_true rfl) (by decide) (by decide) ?_
  refine g_aload_n hX dX6_markOf_44 rfl 0 rfl ?_
  refine g_bipush (v := nI 20) hX dX6_markOf_45 (by decide) ?_
  refine g_callVv hX (as := [.int (nI 20)]) (fun l => c_X6_began l (I := (xput (xput I 318 (n) (nI 21)) 307 24 (nI ((n) + 1)))) (n := (n + 1)) (x := (nI 20)) (hn := (by first | exact hn | exact xput_e)) (hn16 := (by first | assumption | omega))) mX6_began vX6_began lX6_283 (by decide) (by decide) xCl6 rfl rfl dX6_markOf_47 rfl (by decide) (Nat.le_of_ble_eq_true rfl) (by decide) (by decide) ?_
  refine g_iload_n hX dX6_markOf_50 rfl 2 rfl ?_
  refine g_iconst (v := nI 3) hX dX6_markOf_51 (by decide) ?_
  refine g_ci_ne (a := (1 : Int)) (b := (3 : Int)) (tgt := 63) hX dX6_markOf_52 (by decide) (by decide) (by decide) (fun _ => ?_) (fun q => absurd q (by decide))
  refine g_iload_n hX dX6_markOf_63 rfl 2 rfl ?_
  refine g_iconst (v := nI 3) hX dX6_markOf_64 (by decide) ?_
  refine g_ci_le (a := (1 : Int)) (b := (3 : Int)) (tgt := 79) hX dX6_markOf_65 (by decide) (by decide) (by decide) (fun _ => ?_) (fun q => absurd q (by decide))
  refine g_iload_n hX dX6_markOf_79 rfl 1 rfl ?_
  refine g_aload_n hX dX6_markOf_80 rfl 0 rfl ?_
  refine g_iload_n hX dX6_markOf_81 rfl 1 rfl ?_
  refine g_iconst (v := nI 1) hX dX6_markOf_82 (by decide) ?_
  refine g_callVi hX (as := [.int (nI t), .int (nI 1)]) (fun l => c_X6_of l (I := (xput (xput (xput (xput I 318 (n) (nI 21)) 307 24 (nI ((n) + 1))) 318 (n + 1) (nI 20)) 307 24 (nI ((n + 1) + 1)))) (t := t) (w := 1) (ht := (by first | assumption | omega))) mX6_of vX6_of lX6_193 (by decide) (by decide) xCl6 rfl rfl dX6_markOf_83 rfl (by decide) (Nat.le_of_ble_eq_true rfl) (by decide) (by decide) ?_
  refine g_top (y := I 311 (26 + 5 * t + 1)) (by rw [show (xput (xput (xput (xput I 318 (n) (nI 21)) 307 24 (nI ((n) + 1))) 318 (n + 1) (nI 20)) 307 24 (nI ((n + 1) + 1))) 311 = I 311 from ((xput_ne (by decide)).trans ((xput_ne (by decide)).trans ((xput_ne (by decide)).trans ((xput_ne (by decide)).trans rfl))))]) ?_
  refine g_iadd (v := (nI t) + (I 311 (26 + 5 * t + 1))) hX dX6_markOf_86 rfl ?_
  refine g_iload_n hX dX6_markOf_87 rfl 2 rfl ?_
  refine g_iconst (v := nI 2) hX dX6_markOf_88 (by decide) ?_
  refine g_ci_ne (a := (1 : Int)) (b := (2 : Int)) (tgt := 98) hX dX6_markOf_89 (by decide) (by decide) (by decide) (fun _ => ?_) (fun q => absurd q (by decide))
  refine g_iconst (v := nI 0) hX dX6_markOf_98 (by decide) ?_
  refine g_iadd (v := ((nI t) + (I 311 (26 + 5 * t + 1))) + (nI 0)) hX dX6_markOf_99 rfl ?_
  exact g_iret hX hR dX6_markOf_100 (by decide) (by decide) ⟨congrArg (fun z => some (Value.int z)) rfl, rfl, rfl, rfl⟩

theorem c_X6_markOf_2 (l : Launch) {nw sp : Nat} {I : xM} {t n : Nat} (hn : I 307 24 = nI n) (hn8 : n ≤ 5) (ht : t < 6) (hk : I 311 (26 + 5 * t + 0) = nI 2) : xC l 2 0 0 yX6_markOf cX6_markOf 3 (some .int) 319 [.ref 307, .int (nI t)] I (xRL nw sp) (xpI (nI t + I 311 (26 + 5 * t + 1) + nI 1000) 319 (xput (xput (xput (xput (xput (xput I 318 (n) (nI 24)) 307 24 (nI (n + 1))) 318 (n + 1) (nI 21)) 307 24 (nI (n + 1 + 1))) 318 (n + 1 + 1) (nI 20)) 307 24 (nI (n + 1 + 1 + 1))) (xRL nw sp)) := by
  refine xC_of (by decide) (Nat.le_of_ble_eq_true rfl) (fun X hXl hX hR => ?_)
  have hX : xOK X RX6 cX6_markOf 3 2 0 0 := hX
  show G X 319 0 0 I (xRL nw sp) 0 [(0, .ref 307), (1, .int (nI t))] []
  refine g_aload_n hX dX6_markOf_0 rfl 0 rfl ?_
  refine g_iload_n hX dX6_markOf_1 rfl 1 rfl ?_
  refine g_iconst (v := nI 0) hX dX6_markOf_2 (by decide) ?_
  refine g_callVi hX (as := [.int (nI t), .int (nI 0)]) (fun l => c_X6_of l (I := I) (t := t) (w := 0) (ht := (by first | assumption | omega))) mX6_of vX6_of lX6_193 (by decide) (by decide) xCl6 rfl rfl dX6_markOf_3 rfl (by decide) (Nat.le_of_ble_eq_true rfl) (by decide) (by decide) ?_
  refine g_top (y := nI 2) hk ?_
  refine g_istore_n (L' := [(0, .ref 307), (1, .int (nI t)), (2, .int (nI 2))]) hX dX6_markOf_6 rfl (by decide) rfl ?_
  refine g_iload_n hX dX6_markOf_7 rfl 2 rfl ?_
  refine g_iconst (v := nI 2) hX dX6_markOf_8 (by decide) ?_
  refine g_ci_ne (a := (2 : Int)) (b := (2 : Int)) (tgt := 18) hX dX6_markOf_9 (by decide) (by decide) (by decide) (fun q => absurd q (by decide)) (fun _ => ?_)
  refine g_aload_n hX dX6_markOf_12 rfl 0 rfl ?_
  refine g_bipush (v := nI 24) hX dX6_markOf_13 (by decide) ?_
  refine g_callVv hX (as := [.int (nI 24)]) (fun l => c_X6_began l (I := I) (n := (n)) (x := (nI 24)) (hn := (by first | exact hn | exact xput_e)) (hn16 := (by first | assumption | omega))) mX6_began vX6_began lX6_283 (by decide) (by decide) xCl6 rfl rfl dX6_markOf_15 rfl (by decide) (Nat.le_of_ble_eq_true rfl) (by decide) (by decide) ?_
  refine g_aload_n hX dX6_markOf_18 rfl 0 rfl ?_
  refine g_iload_n hX dX6_markOf_19 rfl 2 rfl ?_
  refine g_iconst (v := nI 3) hX dX6_markOf_20 (by decide) ?_
  refine g_ci_ge (a := (2 : Int)) (b := (3 : Int)) (tgt := 29) hX dX6_markOf_21 (by decide) (by decide) (by decide) (fun q => absurd q (by decide)) (fun _ => ?_)
  refine g_bipush (v := nI 21) hX dX6_markOf_24 (by decide) ?_
  refine g_goto (tgt := 41) hX dX6_markOf_26 (by decide) ?_
  refine g_callVv hX (as := [.int (nI 21)]) (fun l => c_X6_began l (I := (xput (xput I 318 (n) (nI 24)) 307 24 (nI ((n) + 1)))) (n := (n + 1)) (x := (nI 21)) (hn := (by first | exact hn | exact xput_e)) (hn16 := (by first | assumption | omega))) mX6_began vX6_began lX6_283 (by decide) (by decide) xCl6 rfl rfl dX6_markOf_41 rfl (by decide) (Nat.le_of_ble_eq_true rfl) (by decide) (by decide) ?_
  refine g_aload_n hX dX6_markOf_44 rfl 0 rfl ?_
  refine g_bipush (v := nI 20) hX dX6_markOf_45 (by decide) ?_
  refine g_callVv hX (as := [.int (nI 20)]) (fun l => c_X6_began l (I := (xput (xput (xput (xput I 318 (n) (nI 24)) 307 24 (nI ((n) + 1))) 318 (n + 1) (nI 21)) 307 24 (nI ((n + 1) + 1)))) (n := (n + 1 + 1)) (x := (nI 20)) (hn := (by first | exact hn | exact xput_e)) (hn16 := (by first | assumption | omega))) mX6_began vX6_began lX6_283 (by decide) (by decide) xCl6 rfl rfl dX6_markOf_47 rfl (by decide) (Nat.le_of_ble_eq_true rfl) (by decide) (by decide) ?_
  refine g_iload_n hX dX6_markOf_50 rfl 2 rfl ?_
  refine g_iconst (v := nI 3) hX dX6_markOf_51 (by decide) ?_
  refine g_ci_ne (a := (2 : Int)) (b := (3 : Int)) (tgt := 63) hX dX6_markOf_52 (by decide) (by decide) (by decide) (fun _ => ?_) (fun q => absurd q (by decide))
  refine g_iload_n hX dX6_markOf_63 rfl 2 rfl ?_
  refine g_iconst (v := nI 3) hX dX6_markOf_64 (by decide) ?_
  refine g_ci_le (a := (2 : Int)) (b := (3 : Int)) (tgt := 79) hX dX6_markOf_65 (by decide) (by decide) (by decide) (fun _ => ?_) (fun q => absurd q (by decide))
  refine g_iload_n hX dX6_markOf_79 rfl 1 rfl ?_
  refine g_aload_n hX dX6_markOf_80 rfl 0 rfl ?_
  refine g_iload_n hX dX6_markOf_81 rfl 1 rfl ?_
  refine g_iconst (v := nI 1) hX dX6_markOf_82 (by decide) ?_
  refine g_callVi hX (as := [.int (nI t), .int (nI 1)]) (fun l => c_X6_of l (I := (xput (xput (xput (xput (xput (xput I 318 (n) (nI 24)) 307 24 (nI ((n) + 1))) 318 (n + 1) (nI 21)) 307 24 (nI ((n + 1) + 1))) 318 (n + 1 + 1) (nI 20)) 307 24 (nI ((n + 1 + 1) + 1)))) (t := t) (w := 1) (ht := (by first | assumption | omega))) mX6_of vX6_of lX6_193 (by decide) (by decide) xCl6 rfl rfl dX6_markOf_83 rfl (by decide) (Nat.le_of_ble_eq_true rfl) (by decide) (by decide) ?_
  refine g_top (y := I 311 (26 + 5 * t + 1)) (by rw [show (xput (xput (xput (xput (xput (xput I 318 (n) (nI 24)) 307 24 (nI ((n) + 1))) 318 (n + 1) (nI 21)) 307 24 (nI ((n + 1) + 1))) 318 (n + 1 + 1) (nI 20)) 307 24 (nI ((n + 1 + 1) + 1))) 311 = I 311 from ((xput_ne (by decide)).trans ((xput_ne (by decide)).trans ((xput_ne (by decide)).trans ((xput_ne (by decide)).trans ((xput_ne (by decide)).trans ((xput_ne (by decide)).trans rfl))))))]) ?_
  refine g_iadd (v := (nI t) + (I 311 (26 + 5 * t + 1))) hX dX6_markOf_86 rfl ?_
  refine g_iload_n hX dX6_markOf_87 rfl 2 rfl ?_
  refine g_iconst (v := nI 2) hX dX6_markOf_88 (by decide) ?_
  refine g_ci_ne (a := (2 : Int)) (b := (2 : Int)) (tgt := 98) hX dX6_markOf_89 (by decide) (by decide) (by decide) (fun q => absurd q (by decide)) (fun _ => ?_)
  refine g_sipush (v := nI 1000) hX dX6_markOf_92 (by decide) ?_
  refine g_goto (tgt := 99) hX dX6_markOf_95 (by decide) ?_
  refine g_iadd (v := ((nI t) + (I 311 (26 + 5 * t + 1))) + (nI 1000)) hX dX6_markOf_99 rfl ?_
  exact g_iret hX hR dX6_markOf_100 (by decide) (by decide) ⟨congrArg (fun z => some (Value.int z)) rfl, rfl, rfl, rfl⟩

theorem c_X6_markOf_3 (l : Launch) {nw sp : Nat} {I : xM} {t n : Nat} (hn : I 307 24 = nI n) (hn8 : n ≤ 5) (ht : t < 6) (hk : I 311 (26 + 5 * t + 0) = nI 3) : xC l 4 0 0 yX6_markOf cX6_markOf 3 (some .int) 319 [.ref 307, .int (nI t)] I (xRL nw sp) (xpI (nI t - hgF (I 311) (I 315) t) 319 (xput (xput (xput (xput (xput (xput I 318 (n) (nI 22)) 307 24 (nI (n + 1))) 318 (n + 1) (nI 20)) 307 24 (nI (n + 1 + 1))) 318 (n + 1 + 1) (nI 10)) 307 24 (nI (n + 1 + 1 + 1))) (xRL nw sp)) := by
  refine xC_of (by decide) (Nat.le_of_ble_eq_true rfl) (fun X hXl hX hR => ?_)
  have hX : xOK X RX6 cX6_markOf 3 4 0 0 := hX
  show G X 319 0 0 I (xRL nw sp) 0 [(0, .ref 307), (1, .int (nI t))] []
  refine g_aload_n hX dX6_markOf_0 rfl 0 rfl ?_
  refine g_iload_n hX dX6_markOf_1 rfl 1 rfl ?_
  refine g_iconst (v := nI 0) hX dX6_markOf_2 (by decide) ?_
  refine g_callVi hX (as := [.int (nI t), .int (nI 0)]) (fun l => c_X6_of l (I := I) (t := t) (w := 0) (ht := (by first | assumption | omega))) mX6_of vX6_of lX6_193 (by decide) (by decide) xCl6 rfl rfl dX6_markOf_3 rfl (by decide) (Nat.le_of_ble_eq_true rfl) (by decide) (by decide) ?_
  refine g_top (y := nI 3) hk ?_
  refine g_istore_n (L' := [(0, .ref 307), (1, .int (nI t)), (2, .int (nI 3))]) hX dX6_markOf_6 rfl (by decide) rfl ?_
  refine g_iload_n hX dX6_markOf_7 rfl 2 rfl ?_
  refine g_iconst (v := nI 2) hX dX6_markOf_8 (by decide) ?_
  refine g_ci_ne (a := (3 : Int)) (b := (2 : Int)) (tgt := 18) hX dX6_markOf_9 (by decide) (by decide) (by decide) (fun _ => ?_) (fun q => absurd q (by decide))
  refine g_aload_n hX dX6_markOf_18 rfl 0 rfl ?_
  refine g_iload_n hX dX6_markOf_19 rfl 2 rfl ?_
  refine g_iconst (v := nI 3) hX dX6_markOf_20 (by decide) ?_
  refine g_ci_ge (a := (3 : Int)) (b := (3 : Int)) (tgt := 29) hX dX6_markOf_21 (by decide) (by decide) (by decide) (fun _ => ?_) (fun q => absurd q (by decide))
  refine g_iload_n hX dX6_markOf_29 rfl 2 rfl ?_
  refine g_iconst (v := nI 3) hX dX6_markOf_30 (by decide) ?_
  refine g_ci_ne (a := (3 : Int)) (b := (3 : Int)) (tgt := 39) hX dX6_markOf_31 (by decide) (by decide) (by decide) (fun q => absurd q (by decide)) (fun _ => ?_)
  refine g_bipush (v := nI 22) hX dX6_markOf_34 (by decide) ?_
  refine g_goto (tgt := 41) hX dX6_markOf_36 (by decide) ?_
  refine g_callVv hX (as := [.int (nI 22)]) (fun l => c_X6_began l (I := I) (n := (n)) (x := (nI 22)) (hn := (by first | exact hn | exact xput_e)) (hn16 := (by first | assumption | omega))) mX6_began vX6_began lX6_283 (by decide) (by decide) xCl6 rfl rfl dX6_markOf_41 rfl (by decide) (Nat.le_of_ble_eq_true rfl) (by decide) (by decide) ?_
  refine g_aload_n hX dX6_markOf_44 rfl 0 rfl ?_
  refine g_bipush (v := nI 20) hX dX6_markOf_45 (by decide) ?_
  refine g_callVv hX (as := [.int (nI 20)]) (fun l => c_X6_began l (I := (xput (xput I 318 (n) (nI 22)) 307 24 (nI ((n) + 1)))) (n := (n + 1)) (x := (nI 20)) (hn := (by first | exact hn | exact xput_e)) (hn16 := (by first | assumption | omega))) mX6_began vX6_began lX6_283 (by decide) (by decide) xCl6 rfl rfl dX6_markOf_47 rfl (by decide) (Nat.le_of_ble_eq_true rfl) (by decide) (by decide) ?_
  refine g_iload_n hX dX6_markOf_50 rfl 2 rfl ?_
  refine g_iconst (v := nI 3) hX dX6_markOf_51 (by decide) ?_
  refine g_ci_ne (a := (3 : Int)) (b := (3 : Int)) (tgt := 63) hX dX6_markOf_52 (by decide) (by decide) (by decide) (fun q => absurd q (by decide)) (fun _ => ?_)
  refine g_iload_n hX dX6_markOf_55 rfl 1 rfl ?_
  refine g_aload_n hX dX6_markOf_56 rfl 0 rfl ?_
  refine g_iload_n hX dX6_markOf_57 rfl 1 rfl ?_
  refine g_callVi hX (as := [.int (nI t)]) (fun l => c_X6_plainSize l (I := (xput (xput (xput (xput I 318 (n) (nI 22)) 307 24 (nI ((n) + 1))) 318 (n + 1) (nI 20)) 307 24 (nI ((n + 1) + 1)))) (t := t) (n := (n + 1 + 1)) (hn := xput_e) (hn8 := (by first | assumption | omega)) (ht := (by first | assumption | omega))) mX6_plainSize vX6_plainSize lX6_286 (by decide) (by decide) xCl6 rfl rfl dX6_markOf_58 rfl (by decide) (Nat.le_of_ble_eq_true rfl) (by decide) (by decide) ?_
  refine g_top (y := hgF (I 311) (I 315) t) (by rw [show (xput (xput (xput (xput I 318 (n) (nI 22)) 307 24 (nI ((n) + 1))) 318 (n + 1) (nI 20)) 307 24 (nI ((n + 1) + 1))) 311 = I 311 from ((xput_ne (by decide)).trans ((xput_ne (by decide)).trans ((xput_ne (by decide)).trans ((xput_ne (by decide)).trans rfl)))), show (xput (xput (xput (xput I 318 (n) (nI 22)) 307 24 (nI ((n) + 1))) 318 (n + 1) (nI 20)) 307 24 (nI ((n + 1) + 1))) 315 = I 315 from ((xput_ne (by decide)).trans ((xput_ne (by decide)).trans ((xput_ne (by decide)).trans ((xput_ne (by decide)).trans rfl))))]) ?_
  refine g_isub (v := (nI t) - (hgF (I 311) (I 315) t)) hX dX6_markOf_61 rfl ?_
  exact g_iret hX hR dX6_markOf_62 (by decide) (by decide) ⟨congrArg (fun z => some (Value.int z)) rfl, rfl, rfl, rfl⟩

theorem c_X6_markOf_4 (l : Launch) {nw sp : Nat} {I : xM} {t n : Nat} (hn : I 307 24 = nI n) (hn8 : n ≤ 5) (ht : t < 6) (hk : I 311 (26 + 5 * t + 0) = nI 4) : xC l 2 0 0 yX6_markOf cX6_markOf 3 (some .int) 319 [.ref 307, .int (nI t)] I (xRL nw sp) (xpI (nI t + I 311 (26 + 5 * t + 3)) 319 (xput (xput (xput (xput I 318 (n) (nI 23)) 307 24 (nI (n + 1))) 318 (n + 1) (nI 20)) 307 24 (nI (n + 1 + 1))) (xRL nw sp)) := by
  refine xC_of (by decide) (Nat.le_of_ble_eq_true rfl) (fun X hXl hX hR => ?_)
  have hX : xOK X RX6 cX6_markOf 3 2 0 0 := hX
  show G X 319 0 0 I (xRL nw sp) 0 [(0, .ref 307), (1, .int (nI t))] []
  refine g_aload_n hX dX6_markOf_0 rfl 0 rfl ?_
  refine g_iload_n hX dX6_markOf_1 rfl 1 rfl ?_
  refine g_iconst (v := nI 0) hX dX6_markOf_2 (by decide) ?_
  refine g_callVi hX (as := [.int (nI t), .int (nI 0)]) (fun l => c_X6_of l (I := I) (t := t) (w := 0) (ht := (by first | assumption | omega))) mX6_of vX6_of lX6_193 (by decide) (by decide) xCl6 rfl rfl dX6_markOf_3 rfl (by decide) (Nat.le_of_ble_eq_true rfl) (by decide) (by decide) ?_
  refine g_top (y := nI 4) hk ?_
  refine g_istore_n (L' := [(0, .ref 307), (1, .int (nI t)), (2, .int (nI 4))]) hX dX6_markOf_6 rfl (by decide) rfl ?_
  refine g_iload_n hX dX6_markOf_7 rfl 2 rfl ?_
  refine g_iconst (v := nI 2) hX dX6_markOf_8 (by decide) ?_
  refine g_ci_ne (a := (4 : Int)) (b := (2 : Int)) (tgt := 18) hX dX6_markOf_9 (by decide) (by decide) (by decide) (fun _ => ?_) (fun q => absurd q (by decide))
  refine g_aload_n hX dX6_markOf_18 rfl 0 rfl ?_
  refine g_iload_n hX dX6_markOf_19 rfl 2 rfl ?_
  refine g_iconst (v := nI 3) hX dX6_markOf_20 (by decide) ?_
  refine g_ci_ge (a := (4 : Int)) (b := (3 : Int)) (tgt := 29) hX dX6_markOf_21 (by decide) (by decide) (by decide) (fun _ => ?_) (fun q => absurd q (by decide))
  refine g_iload_n hX dX6_markOf_29 rfl 2 rfl ?_
  refine g_iconst (v := nI 3) hX dX6_markOf_30 (by decide) ?_
  refine g_ci_ne (a := (4 : Int)) (b := (3 : Int)) (tgt := 39) hX dX6_markOf_31 (by decide) (by decide) (by decide) (fun _ => ?_) (fun q => absurd q (by decide))
  refine g_bipush (v := nI 23) hX dX6_markOf_39 (by decide) ?_
  refine g_callVv hX (as := [.int (nI 23)]) (fun l => c_X6_began l (I := I) (n := (n)) (x := (nI 23)) (hn := (by first | exact hn | exact xput_e)) (hn16 := (by first | assumption | omega))) mX6_began vX6_began lX6_283 (by decide) (by decide) xCl6 rfl rfl dX6_markOf_41 rfl (by decide) (Nat.le_of_ble_eq_true rfl) (by decide) (by decide) ?_
  refine g_aload_n hX dX6_markOf_44 rfl 0 rfl ?_
  refine g_bipush (v := nI 20) hX dX6_markOf_45 (by decide) ?_
  refine g_callVv hX (as := [.int (nI 20)]) (fun l => c_X6_began l (I := (xput (xput I 318 (n) (nI 23)) 307 24 (nI ((n) + 1)))) (n := (n + 1)) (x := (nI 20)) (hn := (by first | exact hn | exact xput_e)) (hn16 := (by first | assumption | omega))) mX6_began vX6_began lX6_283 (by decide) (by decide) xCl6 rfl rfl dX6_markOf_47 rfl (by decide) (Nat.le_of_ble_eq_true rfl) (by decide) (by decide) ?_
  refine g_iload_n hX dX6_markOf_50 rfl 2 rfl ?_
  refine g_iconst (v := nI 3) hX dX6_markOf_51 (by decide) ?_
  refine g_ci_ne (a := (4 : Int)) (b := (3 : Int)) (tgt := 63) hX dX6_markOf_52 (by decide) (by decide) (by decide) (fun _ => ?_) (fun q => absurd q (by decide))
  refine g_iload_n hX dX6_markOf_63 rfl 2 rfl ?_
  refine g_iconst (v := nI 3) hX dX6_markOf_64 (by decide) ?_
  refine g_ci_le (a := (4 : Int)) (b := (3 : Int)) (tgt := 79) hX dX6_markOf_65 (by decide) (by decide) (by decide) (fun q => absurd q (by decide)) (fun _ => ?_)
  refine g_iload_n hX dX6_markOf_68 rfl 1 rfl ?_
  refine g_aload_n hX dX6_markOf_69 rfl 0 rfl ?_
  refine g_iload_n hX dX6_markOf_70 rfl 1 rfl ?_
  refine g_iconst (v := nI 3) hX dX6_markOf_71 (by decide) ?_
  refine g_callVi hX (as := [.int (nI t), .int (nI 3)]) (fun l => c_X6_of l (I := (xput (xput (xput (xput I 318 (n) (nI 23)) 307 24 (nI ((n) + 1))) 318 (n + 1) (nI 20)) 307 24 (nI ((n + 1) + 1)))) (t := t) (w := 3) (ht := (by first | assumption | omega))) mX6_of vX6_of lX6_193 (by decide) (by decide) xCl6 rfl rfl dX6_markOf_72 rfl (by decide) (Nat.le_of_ble_eq_true rfl) (by decide) (by decide) ?_
  refine g_top (y := I 311 (26 + 5 * t + 3)) (by rw [show (xput (xput (xput (xput I 318 (n) (nI 23)) 307 24 (nI ((n) + 1))) 318 (n + 1) (nI 20)) 307 24 (nI ((n + 1) + 1))) 311 = I 311 from ((xput_ne (by decide)).trans ((xput_ne (by decide)).trans ((xput_ne (by decide)).trans ((xput_ne (by decide)).trans rfl))))]) ?_
  refine g_iadd (v := (nI t) + (I 311 (26 + 5 * t + 3))) hX dX6_markOf_75 rfl ?_
  refine g_goto (tgt := 100) hX dX6_markOf_76 (by decide) ?_
  exact g_iret hX hR dX6_markOf_100 (by decide) (by decide) ⟨congrArg (fun z => some (Value.int z)) rfl, rfl, rfl, rfl⟩

theorem c_X6_markOf_5 (l : Launch) {nw sp : Nat} {I : xM} {t n : Nat} (hn : I 307 24 = nI n) (hn8 : n ≤ 5) (ht : t < 6) (hk : I 311 (26 + 5 * t + 0) = nI 5) : xC l 2 0 0 yX6_markOf cX6_markOf 3 (some .int) 319 [.ref 307, .int (nI t)] I (xRL nw sp) (xpI (nI t + I 311 (26 + 5 * t + 3)) 319 (xput (xput (xput (xput I 318 (n) (nI 23)) 307 24 (nI (n + 1))) 318 (n + 1) (nI 20)) 307 24 (nI (n + 1 + 1))) (xRL nw sp)) := by
  refine xC_of (by decide) (Nat.le_of_ble_eq_true rfl) (fun X hXl hX hR => ?_)
  have hX : xOK X RX6 cX6_markOf 3 2 0 0 := hX
  show G X 319 0 0 I (xRL nw sp) 0 [(0, .ref 307), (1, .int (nI t))] []
  refine g_aload_n hX dX6_markOf_0 rfl 0 rfl ?_
  refine g_iload_n hX dX6_markOf_1 rfl 1 rfl ?_
  refine g_iconst (v := nI 0) hX dX6_markOf_2 (by decide) ?_
  refine g_callVi hX (as := [.int (nI t), .int (nI 0)]) (fun l => c_X6_of l (I := I) (t := t) (w := 0) (ht := (by first | assumption | omega))) mX6_of vX6_of lX6_193 (by decide) (by decide) xCl6 rfl rfl dX6_markOf_3 rfl (by decide) (Nat.le_of_ble_eq_true rfl) (by decide) (by decide) ?_
  refine g_top (y := nI 5) hk ?_
  refine g_istore_n (L' := [(0, .ref 307), (1, .int (nI t)), (2, .int (nI 5))]) hX dX6_markOf_6 rfl (by decide) rfl ?_
  refine g_iload_n hX dX6_markOf_7 rfl 2 rfl ?_
  refine g_iconst (v := nI 2) hX dX6_markOf_8 (by decide) ?_
  refine g_ci_ne (a := (5 : Int)) (b := (2 : Int)) (tgt := 18) hX dX6_markOf_9 (by decide) (by decide) (by decide) (fun _ => ?_) (fun q => absurd q (by decide))
  refine g_aload_n hX dX6_markOf_18 rfl 0 rfl ?_
  refine g_iload_n hX dX6_markOf_19 rfl 2 rfl ?_
  refine g_iconst (v := nI 3) hX dX6_markOf_20 (by decide) ?_
  refine g_ci_ge (a := (5 : Int)) (b := (3 : Int)) (tgt := 29) hX dX6_markOf_21 (by decide) (by decide) (by decide) (fun _ => ?_) (fun q => absurd q (by decide))
  refine g_iload_n hX dX6_markOf_29 rfl 2 rfl ?_
  refine g_iconst (v := nI 3) hX dX6_markOf_30 (by decide) ?_
  refine g_ci_ne (a := (5 : Int)) (b := (3 : Int)) (tgt := 39) hX dX6_markOf_31 (by decide) (by decide) (by decide) (fun _ => ?_) (fun q => absurd q (by decide))
  refine g_bipush (v := nI 23) hX dX6_markOf_39 (by decide) ?_
  refine g_callVv hX (as := [.int (nI 23)]) (fun l => c_X6_began l (I := I) (n := (n)) (x := (nI 23)) (hn := (by first | exact hn | exact xput_e)) (hn16 := (by first | assumption | omega))) mX6_began vX6_began lX6_283 (by decide) (by decide) xCl6 rfl rfl dX6_markOf_41 rfl (by decide) (Nat.le_of_ble_eq_true rfl) (by decide) (by decide) ?_
  refine g_aload_n hX dX6_markOf_44 rfl 0 rfl ?_
  refine g_bipush (v := nI 20) hX dX6_markOf_45 (by decide) ?_
  refine g_callVv hX (as := [.int (nI 20)]) (fun l => c_X6_began l (I := (xput (xput I 318 (n) (nI 23)) 307 24 (nI ((n) + 1)))) (n := (n + 1)) (x := (nI 20)) (hn := (by first | exact hn | exact xput_e)) (hn16 := (by first | assumption | omega))) mX6_began vX6_began lX6_283 (by decide) (by decide) xCl6 rfl rfl dX6_markOf_47 rfl (by decide) (Nat.le_of_ble_eq_true rfl) (by decide) (by decide) ?_
  refine g_iload_n hX dX6_markOf_50 rfl 2 rfl ?_
  refine g_iconst (v := nI 3) hX dX6_markOf_51 (by decide) ?_
  refine g_ci_ne (a := (5 : Int)) (b := (3 : Int)) (tgt := 63) hX dX6_markOf_52 (by decide) (by decide) (by decide) (fun _ => ?_) (fun q => absurd q (by decide))
  refine g_iload_n hX dX6_markOf_63 rfl 2 rfl ?_
  refine g_iconst (v := nI 3) hX dX6_markOf_64 (by decide) ?_
  refine g_ci_le (a := (5 : Int)) (b := (3 : Int)) (tgt := 79) hX dX6_markOf_65 (by decide) (by decide) (by decide) (fun q => absurd q (by decide)) (fun _ => ?_)
  refine g_iload_n hX dX6_markOf_68 rfl 1 rfl ?_
  refine g_aload_n hX dX6_markOf_69 rfl 0 rfl ?_
  refine g_iload_n hX dX6_markOf_70 rfl 1 rfl ?_
  refine g_iconst (v := nI 3) hX dX6_markOf_71 (by decide) ?_
  refine g_callVi hX (as := [.int (nI t), .int (nI 3)]) (fun l => c_X6_of l (I := (xput (xput (xput (xput I 318 (n) (nI 23)) 307 24 (nI ((n) + 1))) 318 (n + 1) (nI 20)) 307 24 (nI ((n + 1) + 1)))) (t := t) (w := 3) (ht := (by first | assumption | omega))) mX6_of vX6_of lX6_193 (by decide) (by decide) xCl6 rfl rfl dX6_markOf_72 rfl (by decide) (Nat.le_of_ble_eq_true rfl) (by decide) (by decide) ?_
  refine g_top (y := I 311 (26 + 5 * t + 3)) (by rw [show (xput (xput (xput (xput I 318 (n) (nI 23)) 307 24 (nI ((n) + 1))) 318 (n + 1) (nI 20)) 307 24 (nI ((n + 1) + 1))) 311 = I 311 from ((xput_ne (by decide)).trans ((xput_ne (by decide)).trans ((xput_ne (by decide)).trans ((xput_ne (by decide)).trans rfl))))]) ?_
  refine g_iadd (v := (nI t) + (I 311 (26 + 5 * t + 3))) hX dX6_markOf_75 rfl ?_
  refine g_goto (tgt := 100) hX dX6_markOf_76 (by decide) ?_
  exact g_iret hX hR dX6_markOf_100 (by decide) (by decide) ⟨congrArg (fun z => some (Value.int z)) rfl, rfl, rfl, rfl⟩

theorem c_X6_sizeOf_1 (l : Launch) {nw sp : Nat} {I : xM} {t n : Nat} (hn : I 307 24 = nI n) (hn8 : n ≤ 2) (ht : t < 6) (hk : I 311 (26 + 5 * t + 0) = nI 1) : xC l 4 0 0 yX6_sizeOf cX6_sizeOf 4 (some .int) 319 [.ref 307, .int (nI t)] I (xRL nw sp) (xpI (hgF (I 311) (I 315) t + (nI t + I 311 (26 + 5 * t + 1) + nI 0)) 319 (xput (xput (xput (xput (xput (xput (xput (xput I 318 (n) (nI 11)) 307 24 (nI (n + 1))) 318 (n + 1) (nI 10)) 307 24 (nI (n + 1 + 1))) 318 (n + 1 + 1) (nI 21)) 307 24 (nI (n + 1 + 1 + 1))) 318 (n + 1 + 1 + 1) (nI 20)) 307 24 (nI (n + 1 + 1 + 1 + 1))) (xRL nw sp)) := by
  refine xC_of (by decide) (Nat.le_of_ble_eq_true rfl) (fun X hXl hX hR => ?_)
  have hX : xOK X RX6 cX6_sizeOf 4 4 0 0 := hX
  show G X 319 0 0 I (xRL nw sp) 0 [(0, .ref 307), (1, .int (nI t))] []
  refine g_aload_n hX dX6_sizeOf_0 rfl 0 rfl ?_
  refine g_iload_n hX dX6_sizeOf_1 rfl 1 rfl ?_
  refine g_iconst (v := nI 0) hX dX6_sizeOf_2 (by decide) ?_
  refine g_callVi hX (as := [.int (nI t), .int (nI 0)]) (fun l => c_X6_of l (I := I) (t := t) (w := 0) (ht := (by first | assumption | omega))) mX6_of vX6_of lX6_193 (by decide) (by decide) xCl6 rfl rfl dX6_sizeOf_3 rfl (by decide) (Nat.le_of_ble_eq_true rfl) (by decide) (by decide) ?_
  refine g_top (y := nI 1) hk ?_
  refine g_istore_n (L' := [(0, .ref 307), (1, .int (nI t)), (2, .int (nI 1))]) hX dX6_sizeOf_6 rfl (by decide) rfl ?_
  refine g_iload_n hX dX6_sizeOf_7 rfl 2 rfl ?_
  refine g_iconst (v := nI 3) hX dX6_sizeOf_8 (by decide) ?_
  refine g_ci_ne (a := (1 : Int)) (b := (3 : Int)) (tgt := 18) hX dX6_sizeOf_9 (by decide) (by decide) (by decide) (fun _ => ?_) (fun q => absurd q (by decide))
  refine g_iload_n hX dX6_sizeOf_18 rfl 2 rfl ?_
  refine g_iconst (v := nI 2) hX dX6_sizeOf_19 (by decide) ?_
  refine g_ci_eq (a := (1 : Int)) (b := (2 : Int)) (tgt := 28) hX dX6_sizeOf_20 (by decide) (by decide) (by decide) (fun q => absurd q (by decide)) (fun _ => ?_)
  refine g_iload_n hX dX6_sizeOf_23 rfl 2 rfl ?_
  refine g_iconst (v := nI 5) hX dX6_sizeOf_24 (by decide) ?_
  refine g_ci_ne (a := (1 : Int)) (b := (5 : Int)) (tgt := 44) hX dX6_sizeOf_25 (by decide) (by decide) (by decide) (fun _ => ?_) (fun q => absurd q (by decide))
  refine g_aload_n hX dX6_sizeOf_44 rfl 0 rfl ?_
  refine g_iload_n hX dX6_sizeOf_45 rfl 2 rfl ?_
  refine g_iconst (v := nI 3) hX dX6_sizeOf_46 (by decide) ?_
  refine g_ci_ge (a := (1 : Int)) (b := (3 : Int)) (tgt := 55) hX dX6_sizeOf_47 (by decide) (by decide) (by decide) (fun q => absurd q (by decide)) (fun _ => ?_)
  refine g_bipush (v := nI 11) hX dX6_sizeOf_50 (by decide) ?_
  refine g_goto (tgt := 57) hX dX6_sizeOf_52 (by decide) ?_
  refine g_callVv hX (as := [.int (nI 11)]) (fun l => c_X6_began l (I := I) (n := (n)) (x := (nI 11)) (hn := (by first | exact hn | exact xput_e)) (hn16 := (by first | assumption | omega))) mX6_began vX6_began lX6_283 (by decide) (by decide) xCl6 rfl rfl dX6_sizeOf_57 rfl (by decide) (Nat.le_of_ble_eq_true rfl) (by decide) (by decide) ?_
  refine g_aload_n hX dX6_sizeOf_60 rfl 0 rfl ?_
  refine g_iload_n hX dX6_sizeOf_61 rfl 1 rfl ?_
  refine g_callVi hX (as := [.int (nI t)]) (fun l => c_X6_plainSize l (I := (xput (xput I 318 (n) (nI 11)) 307 24 (nI ((n) + 1)))) (t := t) (n := (n + 1)) (hn := xput_e) (hn8 := (by first | assumption | omega)) (ht := (by first | assumption | omega))) mX6_plainSize vX6_plainSize lX6_286 (by decide) (by decide) xCl6 rfl rfl dX6_sizeOf_62 rfl (by decide) (Nat.le_of_ble_eq_true rfl) (by decide) (by decide) ?_
  refine g_top (y := hgF (I 311) (I 315) t) (by rw [show (xput (xput I 318 (n) (nI 11)) 307 24 (nI ((n) + 1))) 311 = I 311 from ((xput_ne (by decide)).trans ((xput_ne (by decide)).trans rfl)), show (xput (xput I 318 (n) (nI 11)) 307 24 (nI ((n) + 1))) 315 = I 315 from ((xput_ne (by decide)).trans ((xput_ne (by decide)).trans rfl))]) ?_
  refine g_istore_n (L' := [(0, .ref 307), (1, .int (nI t)), (2, .int (nI 1)), (3, .int (hgF (I 311) (I 315) t))]) hX dX6_sizeOf_65 rfl (by decide) rfl ?_
  refine g_iload_n hX dX6_sizeOf_66 rfl 3 rfl ?_
  refine g_iload_n hX dX6_sizeOf_67 rfl 2 rfl ?_
  refine g_iconst (v := nI 3) hX dX6_sizeOf_68 (by decide) ?_
  refine g_ci_ge (a := (1 : Int)) (b := (3 : Int)) (tgt := 80) hX dX6_sizeOf_69 (by decide) (by decide) (by decide) (fun q => absurd q (by decide)) (fun _ => ?_)
  refine g_aload_n hX dX6_sizeOf_72 rfl 0 rfl ?_
  refine g_iload_n hX dX6_sizeOf_73 rfl 1 rfl ?_
  refine g_callVi hX (as := [.int (nI t)]) (fun l => c_X6_markOf_1 l (I := (xput (xput (xput (xput I 318 (n) (nI 11)) 307 24 (nI ((n) + 1))) 318 (n + 1) (nI 10)) 307 24 (nI ((n + 1) + 1)))) (t := t) (n := (n + 1 + 1)) (hn := xput_e) (hn8 := (by first | assumption | omega)) (ht := (by first | assumption | omega)) (hk := (xput_o (by decide) (xput_o (by decide) (xput_o (by decide) (xput_o (by decide) hk)))))) mX6_markOf vX6_markOf lX6_289 (by decide) (by decide) xCl6 rfl rfl dX6_sizeOf_74 rfl (by decide) (Nat.le_of_ble_eq_true rfl) (by decide) (by decide) ?_
  refine g_top (y := nI t + I 311 (26 + 5 * t + 1) + nI 0) (by rw [show (xput (xput (xput (xput I 318 (n) (nI 11)) 307 24 (nI ((n) + 1))) 318 (n + 1) (nI 10)) 307 24 (nI ((n + 1) + 1))) 311 = I 311 from ((xput_ne (by decide)).trans ((xput_ne (by decide)).trans ((xput_ne (by decide)).trans ((xput_ne (by decide)).trans rfl))))]) ?_
  refine g_goto (tgt := 82) hX dX6_sizeOf_77 (by decide) ?_
  refine g_iadd (v := (hgF (I 311) (I 315) t) + (nI t + I 311 (26 + 5 * t + 1) + nI 0)) hX dX6_sizeOf_82 rfl ?_
  refine g_istore_n (L' := [(0, .ref 307), (1, .int (nI t)), (2, .int (nI 1)), (3, .int ((hgF (I 311) (I 315) t) + (nI t + I 311 (26 + 5 * t + 1) + nI 0)))]) hX dX6_sizeOf_83 rfl (by decide) rfl ?_
  refine g_iload_n hX dX6_sizeOf_84 rfl 2 rfl ?_
  refine g_iconst (v := nI 2) hX dX6_sizeOf_85 (by decide) ?_
  refine g_ci_ne (a := (1 : Int)) (b := (2 : Int)) (tgt := 94) hX dX6_sizeOf_86 (by decide) (by decide) (by decide) (fun _ => ?_) (fun q => absurd q (by decide))
  refine g_iload_n hX dX6_sizeOf_94 rfl 2 rfl ?_
  refine g_iconst (v := nI 5) hX dX6_sizeOf_95 (by decide) ?_
  refine g_ci_ne (a := (1 : Int)) (b := (5 : Int)) (tgt := 105) hX dX6_sizeOf_96 (by decide) (by decide) (by decide) (fun _ => ?_) (fun q => absurd q (by decide))
  refine g_iload_n hX dX6_sizeOf_105 rfl 3 rfl ?_
  exact g_iret hX hR dX6_sizeOf_106 (by decide) (by decide) ⟨congrArg (fun z => some (Value.int z)) rfl, rfl, rfl, rfl⟩

theorem c_X6_sizeOf_2 (l : Launch) {nw sp : Nat} {I : xM} {t n : Nat} (hn : I 307 24 = nI n) (hn8 : n ≤ 2) (ht : t < 6) (hk : I 311 (26 + 5 * t + 0) = nI 2) : xC l 4 0 0 yX6_sizeOf cX6_sizeOf 4 (some .int) 319 [.ref 307, .int (nI t)] I (xRL nw sp) (xpI (-(hgF (I 311) (I 315) t + (nI t + I 311 (26 + 5 * t + 1) + nI 1000))) 319 (xput (xput (xput (xput (xput (xput (xput (xput (xput (xput (xput (xput I 318 (n) (nI 12)) 307 24 (nI (n + 1))) 318 (n + 1) (nI 11)) 307 24 (nI (n + 1 + 1))) 318 (n + 1 + 1) (nI 10)) 307 24 (nI (n + 1 + 1 + 1))) 318 (n + 1 + 1 + 1) (nI 24)) 307 24 (nI (n + 1 + 1 + 1 + 1))) 318 (n + 1 + 1 + 1 + 1) (nI 21)) 307 24 (nI (n + 1 + 1 + 1 + 1 + 1))) 318 (n + 1 + 1 + 1 + 1 + 1) (nI 20)) 307 24 (nI (n + 1 + 1 + 1 + 1 + 1 + 1))) (xRL nw sp)) := by
  refine xC_of (by decide) (Nat.le_of_ble_eq_true rfl) (fun X hXl hX hR => ?_)
  have hX : xOK X RX6 cX6_sizeOf 4 4 0 0 := hX
  show G X 319 0 0 I (xRL nw sp) 0 [(0, .ref 307), (1, .int (nI t))] []
  refine g_aload_n hX dX6_sizeOf_0 rfl 0 rfl ?_
  refine g_iload_n hX dX6_sizeOf_1 rfl 1 rfl ?_
  refine g_iconst (v := nI 0) hX dX6_sizeOf_2 (by decide) ?_
  refine g_callVi hX (as := [.int (nI t), .int (nI 0)]) (fun l => c_X6_of l (I := I) (t := t) (w := 0) (ht := (by first | assumption | omega))) mX6_of vX6_of lX6_193 (by decide) (by decide) xCl6 rfl rfl dX6_sizeOf_3 rfl (by decide) (Nat.le_of_ble_eq_true rfl) (by decide) (by decide) ?_
  refine g_top (y := nI 2) hk ?_
  refine g_istore_n (L' := [(0, .ref 307), (1, .int (nI t)), (2, .int (nI 2))]) hX dX6_sizeOf_6 rfl (by decide) rfl ?_
  refine g_iload_n hX dX6_sizeOf_7 rfl 2 rfl ?_
  refine g_iconst (v := nI 3) hX dX6_sizeOf_8 (by decide) ?_
  refine g_ci_ne (a := (2 : Int)) (b := (3 : Int)) (tgt := 18) hX dX6_sizeOf_9 (by decide) (by decide) (by decide) (fun _ => ?_) (fun q => absurd q (by decide))
  refine g_iload_n hX dX6_sizeOf_18 rfl 2 rfl ?_
  refine g_iconst (v := nI 2) hX dX6_sizeOf_19 (by decide) ?_
  refine g_ci_eq (a := (2 : Int)) (b := (2 : Int)) (tgt := 28) hX dX6_sizeOf_20 (by decide) (by decide) (by decide) (fun _ => ?_) (fun q => absurd q (by decide))
  refine g_aload_n hX dX6_sizeOf_28 rfl 0 rfl ?_
  refine g_iload_n hX dX6_sizeOf_29 rfl 2 rfl ?_
  refine g_iconst (v := nI 2) hX dX6_sizeOf_30 (by decide) ?_
  refine g_ci_ne (a := (2 : Int)) (b := (2 : Int)) (tgt := 39) hX dX6_sizeOf_31 (by decide) (by decide) (by decide) (fun q => absurd q (by decide)) (fun _ => ?_)
  refine g_bipush (v := nI 12) hX dX6_sizeOf_34 (by decide) ?_
  refine g_goto (tgt := 41) hX dX6_sizeOf_36 (by decide) ?_
  refine g_callVv hX (as := [.int (nI 12)]) (fun l => c_X6_began l (I := I) (n := (n)) (x := (nI 12)) (hn := (by first | exact hn | exact xput_e)) (hn16 := (by first | assumption | omega))) mX6_began vX6_began lX6_283 (by decide) (by decide) xCl6 rfl rfl dX6_sizeOf_41 rfl (by decide) (Nat.le_of_ble_eq_true rfl) (by decide) (by decide) ?_
  refine g_aload_n hX dX6_sizeOf_44 rfl 0 rfl ?_
  refine g_iload_n hX dX6_sizeOf_45 rfl 2 rfl ?_
  refine g_iconst (v := nI 3) hX dX6_sizeOf_46 (by decide) ?_
  refine g_ci_ge (a := (2 : Int)) (b := (3 : Int)) (tgt := 55) hX dX6_sizeOf_47 (by decide) (by decide) (by decide) (fun q => absurd q (by decide)) (fun _ => ?_)
  refine g_bipush (v := nI 11) hX dX6_sizeOf_50 (by decide) ?_
  refine g_goto (tgt := 57) hX dX6_sizeOf_52 (by decide) ?_
  refine g_callVv hX (as := [.int (nI 11)]) (fun l => c_X6_began l (I := (xput (xput I 318 (n) (nI 12)) 307 24 (nI ((n) + 1)))) (n := (n + 1)) (x := (nI 11)) (hn := (by first | exact hn | exact xput_e)) (hn16 := (by first | assumption | omega))) mX6_began vX6_began lX6_283 (by decide) (by decide) xCl6 rfl rfl dX6_sizeOf_57 rfl (by decide) (Nat.le_of_ble_eq_true rfl) (by decide) (by decide) ?_
  refine g_aload_n hX dX6_sizeOf_60 rfl 0 rfl ?_
  refine g_iload_n hX dX6_sizeOf_61 rfl 1 rfl ?_
  refine g_callVi hX (as := [.int (nI t)]) (fun l => c_X6_plainSize l (I := (xput (xput (xput (xput I 318 (n) (nI 12)) 307 24 (nI ((n) + 1))) 318 (n + 1) (nI 11)) 307 24 (nI ((n + 1) + 1)))) (t := t) (n := (n + 1 + 1)) (hn := xput_e) (hn8 := (by first | assumption | omega)) (ht := (by first | assumption | omega))) mX6_plainSize vX6_plainSize lX6_286 (by decide) (by decide) xCl6 rfl rfl dX6_sizeOf_62 rfl (by decide) (Nat.le_of_ble_eq_true rfl) (by decide) (by decide) ?_
  refine g_top (y := hgF (I 311) (I 315) t) (by rw [show (xput (xput (xput (xput I 318 (n) (nI 12)) 307 24 (nI ((n) + 1))) 318 (n + 1) (nI 11)) 307 24 (nI ((n + 1) + 1))) 311 = I 311 from ((xput_ne (by decide)).trans ((xput_ne (by decide)).trans ((xput_ne (by decide)).trans ((xput_ne (by decide)).trans rfl)))), show (xput (xput (xput (xput I 318 (n) (nI 12)) 307 24 (nI ((n) + 1))) 318 (n + 1) (nI 11)) 307 24 (nI ((n + 1) + 1))) 315 = I 315 from ((xput_ne (by decide)).trans ((xput_ne (by decide)).trans ((xput_ne (by decide)).trans ((xput_ne (by decide)).trans rfl))))]) ?_
  refine g_istore_n (L' := [(0, .ref 307), (1, .int (nI t)), (2, .int (nI 2)), (3, .int (hgF (I 311) (I 315) t))]) hX dX6_sizeOf_65 rfl (by decide) rfl ?_
  refine g_iload_n hX dX6_sizeOf_66 rfl 3 rfl ?_
  refine g_iload_n hX dX6_sizeOf_67 rfl 2 rfl ?_
  refine g_iconst (v := nI 3) hX dX6_sizeOf_68 (by decide) ?_
  refine g_ci_ge (a := (2 : Int)) (b := (3 : Int)) (tgt := 80) hX dX6_sizeOf_69 (by decide) (by decide) (by decide) (fun q => absurd q (by decide)) (fun _ => ?_)
  refine g_aload_n hX dX6_sizeOf_72 rfl 0 rfl ?_
  refine g_iload_n hX dX6_sizeOf_73 rfl 1 rfl ?_
  refine g_callVi hX (as := [.int (nI t)]) (fun l => c_X6_markOf_2 l (I := (xput (xput (xput (xput (xput (xput I 318 (n) (nI 12)) 307 24 (nI ((n) + 1))) 318 (n + 1) (nI 11)) 307 24 (nI ((n + 1) + 1))) 318 (n + 1 + 1) (nI 10)) 307 24 (nI ((n + 1 + 1) + 1)))) (t := t) (n := (n + 1 + 1 + 1)) (hn := xput_e) (hn8 := (by first | assumption | omega)) (ht := (by first | assumption | omega)) (hk := (xput_o (by decide) (xput_o (by decide) (xput_o (by decide) (xput_o (by decide) (xput_o (by decide) (xput_o (by decide) hk)))))))) mX6_markOf vX6_markOf lX6_289 (by decide) (by decide) xCl6 rfl rfl dX6_sizeOf_74 rfl (by decide) (Nat.le_of_ble_eq_true rfl) (by decide) (by decide) ?_
  refine g_top (y := nI t + I 311 (26 + 5 * t + 1) + nI 1000) (by rw [show (xput (xput (xput (xput (xput (xput I 318 (n) (nI 12)) 307 24 (nI ((n) + 1))) 318 (n + 1) (nI 11)) 307 24 (nI ((n + 1) + 1))) 318 (n + 1 + 1) (nI 10)) 307 24 (nI ((n + 1 + 1) + 1))) 311 = I 311 from ((xput_ne (by decide)).trans ((xput_ne (by decide)).trans ((xput_ne (by decide)).trans ((xput_ne (by decide)).trans ((xput_ne (by decide)).trans ((xput_ne (by decide)).trans rfl))))))]) ?_
  refine g_goto (tgt := 82) hX dX6_sizeOf_77 (by decide) ?_
  refine g_iadd (v := (hgF (I 311) (I 315) t) + (nI t + I 311 (26 + 5 * t + 1) + nI 1000)) hX dX6_sizeOf_82 rfl ?_
  refine g_istore_n (L' := [(0, .ref 307), (1, .int (nI t)), (2, .int (nI 2)), (3, .int ((hgF (I 311) (I 315) t) + (nI t + I 311 (26 + 5 * t + 1) + nI 1000)))]) hX dX6_sizeOf_83 rfl (by decide) rfl ?_
  refine g_iload_n hX dX6_sizeOf_84 rfl 2 rfl ?_
  refine g_iconst (v := nI 2) hX dX6_sizeOf_85 (by decide) ?_
  refine g_ci_ne (a := (2 : Int)) (b := (2 : Int)) (tgt := 94) hX dX6_sizeOf_86 (by decide) (by decide) (by decide) (fun q => absurd q (by decide)) (fun _ => ?_)
  refine g_iload_n hX dX6_sizeOf_89 rfl 3 rfl ?_
  refine g_ineg (v := -((hgF (I 311) (I 315) t) + (nI t + I 311 (26 + 5 * t + 1) + nI 1000))) hX dX6_sizeOf_90 rfl ?_
  refine g_goto (tgt := 106) hX dX6_sizeOf_91 (by decide) ?_
  exact g_iret hX hR dX6_sizeOf_106 (by decide) (by decide) ⟨congrArg (fun z => some (Value.int z)) rfl, rfl, rfl, rfl⟩

theorem c_X6_sizeOf_3 (l : Launch) {nw sp : Nat} {I : xM} {t n : Nat} (hn : I 307 24 = nI n) (hn8 : n ≤ 2) (ht : t < 6) (hk : I 311 (26 + 5 * t + 0) = nI 3) : xC l 4 0 0 yX6_sizeOf cX6_sizeOf 4 (some .int) 319 [.ref 307, .int (nI t)] I (xRL nw sp) (xpI (hgF (I 311) (I 315) t) 319 (xput (xput I 318 (n) (nI 10)) 307 24 (nI (n + 1))) (xRL nw sp)) := by
  refine xC_of (by decide) (Nat.le_of_ble_eq_true rfl) (fun X hXl hX hR => ?_)
  have hX : xOK X RX6 cX6_sizeOf 4 4 0 0 := hX
  show G X 319 0 0 I (xRL nw sp) 0 [(0, .ref 307), (1, .int (nI t))] []
  refine g_aload_n hX dX6_sizeOf_0 rfl 0 rfl ?_
  refine g_iload_n hX dX6_sizeOf_1 rfl 1 rfl ?_
  refine g_iconst (v := nI 0) hX dX6_sizeOf_2 (by decide) ?_
  refine g_callVi hX (as := [.int (nI t), .int (nI 0)]) (fun l => c_X6_of l (I := I) (t := t) (w := 0) (ht := (by first | assumption | omega))) mX6_of vX6_of lX6_193 (by decide) (by decide) xCl6 rfl rfl dX6_sizeOf_3 rfl (by decide) (Nat.le_of_ble_eq_true rfl) (by decide) (by decide) ?_
  refine g_top (y := nI 3) hk ?_
  refine g_istore_n (L' := [(0, .ref 307), (1, .int (nI t)), (2, .int (nI 3))]) hX dX6_sizeOf_6 rfl (by decide) rfl ?_
  refine g_iload_n hX dX6_sizeOf_7 rfl 2 rfl ?_
  refine g_iconst (v := nI 3) hX dX6_sizeOf_8 (by decide) ?_
  refine g_ci_ne (a := (3 : Int)) (b := (3 : Int)) (tgt := 18) hX dX6_sizeOf_9 (by decide) (by decide) (by decide) (fun q => absurd q (by decide)) (fun _ => ?_)
  refine g_aload_n hX dX6_sizeOf_12 rfl 0 rfl ?_
  refine g_iload_n hX dX6_sizeOf_13 rfl 1 rfl ?_
  refine g_callVi hX (as := [.int (nI t)]) (fun l => c_X6_plainSize l (I := I) (t := t) (n := (n)) (hn := (by first | exact hn | exact xput_e)) (hn8 := (by first | assumption | omega)) (ht := (by first | assumption | omega))) mX6_plainSize vX6_plainSize lX6_286 (by decide) (by decide) xCl6 rfl rfl dX6_sizeOf_14 rfl (by decide) (Nat.le_of_ble_eq_true rfl) (by decide) (by decide) ?_
  exact g_iret hX hR dX6_sizeOf_17 (by decide) (by decide) ⟨congrArg (fun z => some (Value.int z)) rfl, rfl, rfl, rfl⟩

theorem c_X6_sizeOf_4 (l : Launch) {nw sp : Nat} {I : xM} {t n : Nat} (hn : I 307 24 = nI n) (hn8 : n ≤ 2) (ht : t < 6) (hk : I 311 (26 + 5 * t + 0) = nI 4) : xC l 4 0 0 yX6_sizeOf cX6_sizeOf 4 (some .int) 319 [.ref 307, .int (nI t)] I (xRL nw sp) (xpI (hgF (I 311) (I 315) t + (-100)) 319 (xput (xput (xput (xput I 318 (n) (nI 13)) 307 24 (nI (n + 1))) 318 (n + 1) (nI 10)) 307 24 (nI (n + 1 + 1))) (xRL nw sp)) := by
  refine xC_of (by decide) (Nat.le_of_ble_eq_true rfl) (fun X hXl hX hR => ?_)
  have hX : xOK X RX6 cX6_sizeOf 4 4 0 0 := hX
  show G X 319 0 0 I (xRL nw sp) 0 [(0, .ref 307), (1, .int (nI t))] []
  refine g_aload_n hX dX6_sizeOf_0 rfl 0 rfl ?_
  refine g_iload_n hX dX6_sizeOf_1 rfl 1 rfl ?_
  refine g_iconst (v := nI 0) hX dX6_sizeOf_2 (by decide) ?_
  refine g_callVi hX (as := [.int (nI t), .int (nI 0)]) (fun l => c_X6_of l (I := I) (t := t) (w := 0) (ht := (by first | assumption | omega))) mX6_of vX6_of lX6_193 (by decide) (by decide) xCl6 rfl rfl dX6_sizeOf_3 rfl (by decide) (Nat.le_of_ble_eq_true rfl) (by decide) (by decide) ?_
  refine g_top (y := nI 4) hk ?_
  refine g_istore_n (L' := [(0, .ref 307), (1, .int (nI t)), (2, .int (nI 4))]) hX dX6_sizeOf_6 rfl (by decide) rfl ?_
  refine g_iload_n hX dX6_sizeOf_7 rfl 2 rfl ?_
  refine g_iconst (v := nI 3) hX dX6_sizeOf_8 (by decide) ?_
  refine g_ci_ne (a := (4 : Int)) (b := (3 : Int)) (tgt := 18) hX dX6_sizeOf_9 (by decide) (by decide) (by decide) (fun _ => ?_) (fun q => absurd q (by decide))
  refine g_iload_n hX dX6_sizeOf_18 rfl 2 rfl ?_
  refine g_iconst (v := nI 2) hX dX6_sizeOf_19 (by decide) ?_
  refine g_ci_eq (a := (4 : Int)) (b := (2 : Int)) (tgt := 28) hX dX6_sizeOf_20 (by decide) (by decide) (by decide) (fun q => absurd q (by decide)) (fun _ => ?_)
  refine g_iload_n hX dX6_sizeOf_23 rfl 2 rfl ?_
  refine g_iconst (v := nI 5) hX dX6_sizeOf_24 (by decide) ?_
  refine g_ci_ne (a := (4 : Int)) (b := (5 : Int)) (tgt := 44) hX dX6_sizeOf_25 (by decide) (by decide) (by decide) (fun _ => ?_) (fun q => absurd q (by decide))
  refine g_aload_n hX dX6_sizeOf_44 rfl 0 rfl ?_
  refine g_iload_n hX dX6_sizeOf_45 rfl 2 rfl ?_
  refine g_iconst (v := nI 3) hX dX6_sizeOf_46 (by decide) ?_
  refine g_ci_ge (a := (4 : Int)) (b := (3 : Int)) (tgt := 55) hX dX6_sizeOf_47 (by decide) (by decide) (by decide) (fun _ => ?_) (fun q => absurd q (by decide))
  refine g_bipush (v := nI 13) hX dX6_sizeOf_55 (by decide) ?_
  refine g_callVv hX (as := [.int (nI 13)]) (fun l => c_X6_began l (I := I) (n := (n)) (x := (nI 13)) (hn := (by first | exact hn | exact xput_e)) (hn16 := (by first | assumption | omega))) mX6_began vX6_began lX6_283 (by decide) (by decide) xCl6 rfl rfl dX6_sizeOf_57 rfl (by decide) (Nat.le_of_ble_eq_true rfl) (by decide) (by decide) ?_
  refine g_aload_n hX dX6_sizeOf_60 rfl 0 rfl ?_
  refine g_iload_n hX dX6_sizeOf_61 rfl 1 rfl ?_
  refine g_callVi hX (as := [.int (nI t)]) (fun l => c_X6_plainSize l (I := (xput (xput I 318 (n) (nI 13)) 307 24 (nI ((n) + 1)))) (t := t) (n := (n + 1)) (hn := xput_e) (hn8 := (by first | assumption | omega)) (ht := (by first | assumption | omega))) mX6_plainSize vX6_plainSize lX6_286 (by decide) (by decide) xCl6 rfl rfl dX6_sizeOf_62 rfl (by decide) (Nat.le_of_ble_eq_true rfl) (by decide) (by decide) ?_
  refine g_top (y := hgF (I 311) (I 315) t) (by rw [show (xput (xput I 318 (n) (nI 13)) 307 24 (nI ((n) + 1))) 311 = I 311 from ((xput_ne (by decide)).trans ((xput_ne (by decide)).trans rfl)), show (xput (xput I 318 (n) (nI 13)) 307 24 (nI ((n) + 1))) 315 = I 315 from ((xput_ne (by decide)).trans ((xput_ne (by decide)).trans rfl))]) ?_
  refine g_istore_n (L' := [(0, .ref 307), (1, .int (nI t)), (2, .int (nI 4)), (3, .int (hgF (I 311) (I 315) t))]) hX dX6_sizeOf_65 rfl (by decide) rfl ?_
  refine g_iload_n hX dX6_sizeOf_66 rfl 3 rfl ?_
  refine g_iload_n hX dX6_sizeOf_67 rfl 2 rfl ?_
  refine g_iconst (v := nI 3) hX dX6_sizeOf_68 (by decide) ?_
  refine g_ci_ge (a := (4 : Int)) (b := (3 : Int)) (tgt := 80) hX dX6_sizeOf_69 (by decide) (by decide) (by decide) (fun _ => ?_) (fun q => absurd q (by decide))
  refine g_bipush (v := (-100)) hX dX6_sizeOf_80 (by decide) ?_
  refine g_iadd (v := (hgF (I 311) (I 315) t) + (-100)) hX dX6_sizeOf_82 rfl ?_
  refine g_istore_n (L' := [(0, .ref 307), (1, .int (nI t)), (2, .int (nI 4)), (3, .int ((hgF (I 311) (I 315) t) + (-100)))]) hX dX6_sizeOf_83 rfl (by decide) rfl ?_
  refine g_iload_n hX dX6_sizeOf_84 rfl 2 rfl ?_
  refine g_iconst (v := nI 2) hX dX6_sizeOf_85 (by decide) ?_
  refine g_ci_ne (a := (4 : Int)) (b := (2 : Int)) (tgt := 94) hX dX6_sizeOf_86 (by decide) (by decide) (by decide) (fun _ => ?_) (fun q => absurd q (by decide))
  refine g_iload_n hX dX6_sizeOf_94 rfl 2 rfl ?_
  refine g_iconst (v := nI 5) hX dX6_sizeOf_95 (by decide) ?_
  refine g_ci_ne (a := (4 : Int)) (b := (5 : Int)) (tgt := 105) hX dX6_sizeOf_96 (by decide) (by decide) (by decide) (fun _ => ?_) (fun q => absurd q (by decide))
  refine g_iload_n hX dX6_sizeOf_105 rfl 3 rfl ?_
  exact g_iret hX hR dX6_sizeOf_106 (by decide) (by decide) ⟨congrArg (fun z => some (Value.int z)) rfl, rfl, rfl, rfl⟩

theorem c_X6_sizeOf_5 (l : Launch) {nw sp : Nat} {I : xM} {t n : Nat} (hn : I 307 24 = nI n) (hn8 : n ≤ 2) (ht : t < 6) (hk : I 311 (26 + 5 * t + 0) = nI 5) : xC l 4 0 0 yX6_sizeOf cX6_sizeOf 4 (some .int) 319 [.ref 307, .int (nI t)] I (xRL nw sp) (xpI (nI 2 * (hgF (I 311) (I 315) t + (-100))) 319 (xput (xput (xput (xput (xput (xput I 318 (n) (nI 14)) 307 24 (nI (n + 1))) 318 (n + 1) (nI 13)) 307 24 (nI (n + 1 + 1))) 318 (n + 1 + 1) (nI 10)) 307 24 (nI (n + 1 + 1 + 1))) (xRL nw sp)) := by
  refine xC_of (by decide) (Nat.le_of_ble_eq_true rfl) (fun X hXl hX hR => ?_)
  have hX : xOK X RX6 cX6_sizeOf 4 4 0 0 := hX
  show G X 319 0 0 I (xRL nw sp) 0 [(0, .ref 307), (1, .int (nI t))] []
  refine g_aload_n hX dX6_sizeOf_0 rfl 0 rfl ?_
  refine g_iload_n hX dX6_sizeOf_1 rfl 1 rfl ?_
  refine g_iconst (v := nI 0) hX dX6_sizeOf_2 (by decide) ?_
  refine g_callVi hX (as := [.int (nI t), .int (nI 0)]) (fun l => c_X6_of l (I := I) (t := t) (w := 0) (ht := (by first | assumption | omega))) mX6_of vX6_of lX6_193 (by decide) (by decide) xCl6 rfl rfl dX6_sizeOf_3 rfl (by decide) (Nat.le_of_ble_eq_true rfl) (by decide) (by decide) ?_
  refine g_top (y := nI 5) hk ?_
  refine g_istore_n (L' := [(0, .ref 307), (1, .int (nI t)), (2, .int (nI 5))]) hX dX6_sizeOf_6 rfl (by decide) rfl ?_
  refine g_iload_n hX dX6_sizeOf_7 rfl 2 rfl ?_
  refine g_iconst (v := nI 3) hX dX6_sizeOf_8 (by decide) ?_
  refine g_ci_ne (a := (5 : Int)) (b := (3 : Int)) (tgt := 18) hX dX6_sizeOf_9 (by decide) (by decide) (by decide) (fun _ => ?_) (fun q => absurd q (by decide))
  refine g_iload_n hX dX6_sizeOf_18 rfl 2 rfl ?_
  refine g_iconst (v := nI 2) hX dX6_sizeOf_19 (by decide) ?_
  refine g_ci_eq (a := (5 : Int)) (b := (2 : Int)) (tgt := 28) hX dX6_sizeOf_20 (by decide) (by decide) (by decide) (fun q => absurd q (by decide)) (fun _ => ?_)
  refine g_iload_n hX dX6_sizeOf_23 rfl 2 rfl ?_
  refine g_iconst (v := nI 5) hX dX6_sizeOf_24 (by decide) ?_
  refine g_ci_ne (a := (5 : Int)) (b := (5 : Int)) (tgt := 44) hX dX6_sizeOf_25 (by decide) (by decide) (by decide) (fun q => absurd q (by decide)) (fun _ => ?_)
  refine g_aload_n hX dX6_sizeOf_28 rfl 0 rfl ?_
  refine g_iload_n hX dX6_sizeOf_29 rfl 2 rfl ?_
  refine g_iconst (v := nI 2) hX dX6_sizeOf_30 (by decide) ?_
  refine g_ci_ne (a := (5 : Int)) (b := (2 : Int)) (tgt := 39) hX dX6_sizeOf_31 (by decide) (by decide) (by decide) (fun _ => ?_) (fun q => absurd q (by decide))
  refine g_bipush (v := nI 14) hX dX6_sizeOf_39 (by decide) ?_
  refine g_callVv hX (as := [.int (nI 14)]) (fun l => c_X6_began l (I := I) (n := (n)) (x := (nI 14)) (hn := (by first | exact hn | exact xput_e)) (hn16 := (by first | assumption | omega))) mX6_began vX6_began lX6_283 (by decide) (by decide) xCl6 rfl rfl dX6_sizeOf_41 rfl (by decide) (Nat.le_of_ble_eq_true rfl) (by decide) (by decide) ?_
  refine g_aload_n hX dX6_sizeOf_44 rfl 0 rfl ?_
  refine g_iload_n hX dX6_sizeOf_45 rfl 2 rfl ?_
  refine g_iconst (v := nI 3) hX dX6_sizeOf_46 (by decide) ?_
  refine g_ci_ge (a := (5 : Int)) (b := (3 : Int)) (tgt := 55) hX dX6_sizeOf_47 (by decide) (by decide) (by decide) (fun _ => ?_) (fun q => absurd q (by decide))
  refine g_bipush (v := nI 13) hX dX6_sizeOf_55 (by decide) ?_
  refine g_callVv hX (as := [.int (nI 13)]) (fun l => c_X6_began l (I := (xput (xput I 318 (n) (nI 14)) 307 24 (nI ((n) + 1)))) (n := (n + 1)) (x := (nI 13)) (hn := (by first | exact hn | exact xput_e)) (hn16 := (by first | assumption | omega))) mX6_began vX6_began lX6_283 (by decide) (by decide) xCl6 rfl rfl dX6_sizeOf_57 rfl (by decide) (Nat.le_of_ble_eq_true rfl) (by decide) (by decide) ?_
  refine g_aload_n hX dX6_sizeOf_60 rfl 0 rfl ?_
  refine g_iload_n hX dX6_sizeOf_61 rfl 1 rfl ?_
  refine g_callVi hX (as := [.int (nI t)]) (fun l => c_X6_plainSize l (I := (xput (xput (xput (xput I 318 (n) (nI 14)) 307 24 (nI ((n) + 1))) 318 (n + 1) (nI 13)) 307 24 (nI ((n + 1) + 1)))) (t := t) (n := (n + 1 + 1)) (hn := xput_e) (hn8 := (by first | assumption | omega)) (ht := (by first | assumption | omega))) mX6_plainSize vX6_plainSize lX6_286 (by decide) (by decide) xCl6 rfl rfl dX6_sizeOf_62 rfl (by decide) (Nat.le_of_ble_eq_true rfl) (by decide) (by decide) ?_
  refine g_top (y := hgF (I 311) (I 315) t) (by rw [show (xput (xput (xput (xput I 318 (n) (nI 14)) 307 24 (nI ((n) + 1))) 318 (n + 1) (nI 13)) 307 24 (nI ((n + 1) + 1))) 311 = I 311 from ((xput_ne (by decide)).trans ((xput_ne (by decide)).trans ((xput_ne (by decide)).trans ((xput_ne (by decide)).trans rfl)))), show (xput (xput (xput (xput I 318 (n) (nI 14)) 307 24 (nI ((n) + 1))) 318 (n + 1) (nI 13)) 307 24 (nI ((n + 1) + 1))) 315 = I 315 from ((xput_ne (by decide)).trans ((xput_ne (by decide)).trans ((xput_ne (by decide)).trans ((xput_ne (by decide)).trans rfl))))]) ?_
  refine g_istore_n (L' := [(0, .ref 307), (1, .int (nI t)), (2, .int (nI 5)), (3, .int (hgF (I 311) (I 315) t))]) hX dX6_sizeOf_65 rfl (by decide) rfl ?_
  refine g_iload_n hX dX6_sizeOf_66 rfl 3 rfl ?_
  refine g_iload_n hX dX6_sizeOf_67 rfl 2 rfl ?_
  refine g_iconst (v := nI 3) hX dX6_sizeOf_68 (by decide) ?_
  refine g_ci_ge (a := (5 : Int)) (b := (3 : Int)) (tgt := 80) hX dX6_sizeOf_69 (by decide) (by decide) (by decide) (fun _ => ?_) (fun q => absurd q (by decide))
  refine g_bipush (v := (-100)) hX dX6_sizeOf_80 (by decide) ?_
  refine g_iadd (v := (hgF (I 311) (I 315) t) + (-100)) hX dX6_sizeOf_82 rfl ?_
  refine g_istore_n (L' := [(0, .ref 307), (1, .int (nI t)), (2, .int (nI 5)), (3, .int ((hgF (I 311) (I 315) t) + (-100)))]) hX dX6_sizeOf_83 rfl (by decide) rfl ?_
  refine g_iload_n hX dX6_sizeOf_84 rfl 2 rfl ?_
  refine g_iconst (v := nI 2) hX dX6_sizeOf_85 (by decide) ?_
  refine g_ci_ne (a := (5 : Int)) (b := (2 : Int)) (tgt := 94) hX dX6_sizeOf_86 (by decide) (by decide) (by decide) (fun _ => ?_) (fun q => absurd q (by decide))
  refine g_iload_n hX dX6_sizeOf_94 rfl 2 rfl ?_
  refine g_iconst (v := nI 5) hX dX6_sizeOf_95 (by decide) ?_
  refine g_ci_ne (a := (5 : Int)) (b := (5 : Int)) (tgt := 105) hX dX6_sizeOf_96 (by decide) (by decide) (by decide) (fun q => absurd q (by decide)) (fun _ => ?_)
  refine g_iconst (v := nI 2) hX dX6_sizeOf_99 (by decide) ?_
  refine g_iload_n hX dX6_sizeOf_100 rfl 3 rfl ?_
  refine g_imul (v := (nI 2) * ((hgF (I 311) (I 315) t) + (-100))) hX dX6_sizeOf_101 rfl ?_
  refine g_goto (tgt := 106) hX dX6_sizeOf_102 (by decide) ?_
  exact g_iret hX hR dX6_sizeOf_106 (by decide) (by decide) ⟨congrArg (fun z => some (Value.int z)) rfl, rfl, rfl, rfl⟩

theorem c_X6_ask_bad (l : Launch) {nw sp : Nat} {I : xM} {T : Nat} {x y : Int32} (hT : I 311 0 = nI T) (hT6 : T ≤ 6) (hb : ¬ (0 ≤ x.toInt ∧ x.toInt < T ∧ 0 ≤ y.toInt ∧ y.toInt ≤ 1)) : xC l 3 0 0 yX6_ask cX6_ask 3 (some .int) 319 [.ref 307, .int x, .int y] I (xRL nw sp) (xpI (-1000001) 319 (xput I 307 0 (nI 0)) (xRL nw sp)) := by
  refine xC_of (by decide) (Nat.le_of_ble_eq_true rfl) (fun X hXl hX hR => ?_)
  have hX : xOK X RX6 cX6_ask 3 3 0 0 := hX
  show G X 319 0 0 I (xRL nw sp) 0 [(0, .ref 307), (1, .int x), (2, .int y)] []
  refine g_aload_n hX dX6_ask_0 rfl 0 rfl ?_
  refine g_iconst (v := nI 0) hX dX6_ask_1 (by decide) ?_
  refine g_putI hX (by decide) (by decide) xCl6 0 (by decide) (by decide) (by decide) kX6_44 dX6_ask_2 rfl rfl ?_
  refine g_aload_n hX dX6_ask_5 rfl 0 rfl ?_
  refine g_iload_n hX dX6_ask_6 rfl 1 rfl ?_
  refine g_callVi hX (as := [.int x]) (fun l => c_X6_isTree l (I := (xput I 307 0 (nI 0))) (T := T) (x := x) (hT := (by first | assumption | omega)) (hT6 := (by first | assumption | omega))) mX6_isTree vX6_isTree lX6_211 (by decide) (by decide) xCl6 rfl rfl dX6_ask_7 rfl (by decide) (Nat.le_of_ble_eq_true rfl) (by decide) (by decide) ?_
  refine g_cb_eq (tgt := 23) hX dX6_ask_10 (by decide) (fun h10 => ?_) (fun h10 => ?_)
  · refine g_ldc (v := -1000001) hX cX6_64 dX6_ask_23 ?_
    exact g_iret hX hR dX6_ask_25 (by decide) (by decide) ⟨congrArg (fun z => some (Value.int z)) rfl, rfl, rfl, rfl⟩
  · refine g_iload_n hX dX6_ask_13 rfl 2 rfl ?_
    refine g_i2l (v := y.toInt64) hX dX6_ask_14 rfl ?_
    refine g_lconst (v := 0) hX dX6_ask_15 (by decide) ?_
    refine g_lconst (v := 1) hX dX6_ask_16 (by decide) ?_
    refine g_callSi (as := [.long y.toInt64, .long 0, .long 1]) hX (fun l => c_X6_in l) mX6_in sX6_in lX6_54 rfl dX6_ask_17 rfl (by decide) (Nat.le_of_ble_eq_true rfl) (by decide) (by decide) ?_
    refine g_top (y := xb ((0 : Int) ≤ y.toInt ∧ y.toInt ≤ (1 : Int))) (xb_iffI ((i64_of _).trans rfl) (by decide) (by decide)) ?_
    refine g_cb_ne (tgt := 26) hX dX6_ask_20 (by decide) (fun h20 => ?_) (fun h20 => ?_)
    · exfalso; omega
    · refine g_ldc (v := -1000001) hX cX6_64 dX6_ask_23 ?_
      exact g_iret hX hR dX6_ask_25 (by decide) (by decide) ⟨congrArg (fun z => some (Value.int z)) rfl, rfl, rfl, rfl⟩

theorem c_X6_ask_size1 (l : Launch) {nw sp : Nat} {I : xM} {t T : Nat} (hT : I 311 0 = nI T) (hT6 : T ≤ 6) (ht : t < T) (hk : I 311 (26 + 5 * t + 0) = nI 1) : xC l 5 0 0 yX6_ask cX6_ask 3 (some .int) 319 [.ref 307, .int (nI t), .int (nI 0)] I (xRL nw sp) (xpI (hgF (I 311) (I 315) t + (nI t + I 311 (26 + 5 * t + 1) + nI 0)) 319 (xput (xput (xput (xput (xput (xput (xput (xput (xput (xput I 307 0 (nI 0)) 307 24 (nI 0)) 318 (0) (nI 11)) 307 24 (nI (0 + 1))) 318 (0 + 1) (nI 10)) 307 24 (nI (0 + 1 + 1))) 318 (0 + 1 + 1) (nI 21)) 307 24 (nI (0 + 1 + 1 + 1))) 318 (0 + 1 + 1 + 1) (nI 20)) 307 24 (nI (0 + 1 + 1 + 1 + 1))) (xRL nw sp)) := by
  refine xC_of (by decide) (Nat.le_of_ble_eq_true rfl) (fun X hXl hX hR => ?_)
  have hX : xOK X RX6 cX6_ask 3 5 0 0 := hX
  show G X 319 0 0 I (xRL nw sp) 0 [(0, .ref 307), (1, .int (nI t)), (2, .int (nI 0))] []
  refine g_aload_n hX dX6_ask_0 rfl 0 rfl ?_
  refine g_iconst (v := nI 0) hX dX6_ask_1 (by decide) ?_
  refine g_putI hX (by decide) (by decide) xCl6 0 (by decide) (by decide) (by decide) kX6_44 dX6_ask_2 rfl rfl ?_
  refine g_aload_n hX dX6_ask_5 rfl 0 rfl ?_
  refine g_iload_n hX dX6_ask_6 rfl 1 rfl ?_
  refine g_callVi hX (as := [.int (nI t)]) (fun l => c_X6_isTree l (I := (xput I 307 0 (nI 0))) (T := T) (x := (nI t)) (hT := (by first | assumption | omega)) (hT6 := (by first | assumption | omega))) mX6_isTree vX6_isTree lX6_211 (by decide) (by decide) xCl6 rfl rfl dX6_ask_7 rfl (by decide) (Nat.le_of_ble_eq_true rfl) (by decide) (by decide) ?_
  refine g_top (y := xb (0 ≤ ((t : Nat) : Int) ∧ ((t : Nat) : Int) < T)) (by rw [nI_toInt (n := t) (by omega)]) ?_
  refine g_cb_eq (tgt := 23) hX dX6_ask_10 (by decide) (fun h10 => ?_) (fun h10 => ?_)
  · exfalso; omega
  · refine g_iload_n hX dX6_ask_13 rfl 2 rfl ?_
    refine g_i2l (v := (nI 0).toInt64) hX dX6_ask_14 rfl ?_
    refine g_lconst (v := 0) hX dX6_ask_15 (by decide) ?_
    refine g_lconst (v := 1) hX dX6_ask_16 (by decide) ?_
    refine g_callSi (as := [.long ((nI 0).toInt64), .long 0, .long 1]) hX (fun l => c_X6_in l) mX6_in sX6_in lX6_54 rfl dX6_ask_17 rfl (by decide) (Nat.le_of_ble_eq_true rfl) (by decide) (by decide) ?_
    refine g_top (y := xb ((0 : Int) ≤ (0 : Int) ∧ (0 : Int) ≤ (1 : Int))) (xb_iffI ((i64_of _).trans (by decide)) (by decide) (by decide)) ?_
    refine g_cb_ne (tgt := 26) hX dX6_ask_20 (by decide) (fun h20 => ?_) (fun h20 => ?_)
    · refine g_aload_n hX dX6_ask_26 rfl 0 rfl ?_
      refine g_iconst (v := nI 0) hX dX6_ask_27 (by decide) ?_
      refine g_putI hX (by decide) (by decide) xCl6 24 (by decide) (by decide) (by decide) kX6_280 dX6_ask_28 rfl rfl ?_
      refine g_iload_n hX dX6_ask_31 rfl 2 rfl ?_
      refine g_cz_ne (a := (0 : Int)) (tgt := 43) hX dX6_ask_32 (by decide) (by decide) (fun q => absurd q (by decide)) (fun _ => ?_)
      refine g_aload_n hX dX6_ask_35 rfl 0 rfl ?_
      refine g_iload_n hX dX6_ask_36 rfl 1 rfl ?_
      refine g_callVi hX (as := [.int (nI t)]) (fun l => c_X6_sizeOf_1 l (I := (xput (xput I 307 0 (nI 0)) 307 24 (nI 0))) (t := t) (n := 0) (hn := xput_e) (hn8 := (by first | assumption | omega)) (ht := (by first | assumption | omega)) (hk := (xput_o (by decide) (xput_o (by decide) hk)))) mX6_sizeOf vX6_sizeOf lX6_292 (by decide) (by decide) xCl6 rfl rfl dX6_ask_37 rfl (by decide) (Nat.le_of_ble_eq_true rfl) (by decide) (by decide) ?_
      refine g_top (y := hgF (I 311) (I 315) t + (nI t + I 311 (26 + 5 * t + 1) + nI 0)) (by rw [show (xput (xput I 307 0 (nI 0)) 307 24 (nI 0)) 311 = I 311 from ((xput_ne (by decide)).trans ((xput_ne (by decide)).trans rfl)), show (xput (xput I 307 0 (nI 0)) 307 24 (nI 0)) 315 = I 315 from ((xput_ne (by decide)).trans ((xput_ne (by decide)).trans rfl))]) ?_
      refine g_goto (tgt := 48) hX dX6_ask_40 (by decide) ?_
      exact g_iret hX hR dX6_ask_48 (by decide) (by decide) ⟨congrArg (fun z => some (Value.int z)) rfl, rfl, rfl, rfl⟩
    · exfalso; omega

theorem c_X6_ask_mark1 (l : Launch) {nw sp : Nat} {I : xM} {t T : Nat} (hT : I 311 0 = nI T) (hT6 : T ≤ 6) (ht : t < T) (hk : I 311 (26 + 5 * t + 0) = nI 1) : xC l 3 0 0 yX6_ask cX6_ask 3 (some .int) 319 [.ref 307, .int (nI t), .int (nI 1)] I (xRL nw sp) (xpI (nI t + I 311 (26 + 5 * t + 1) + nI 0) 319 (xput (xput (xput (xput (xput (xput I 307 0 (nI 0)) 307 24 (nI 0)) 318 (0) (nI 21)) 307 24 (nI (0 + 1))) 318 (0 + 1) (nI 20)) 307 24 (nI (0 + 1 + 1))) (xRL nw sp)) := by
  refine xC_of (by decide) (Nat.le_of_ble_eq_true rfl) (fun X hXl hX hR => ?_)
  have hX : xOK X RX6 cX6_ask 3 3 0 0 := hX
  show G X 319 0 0 I (xRL nw sp) 0 [(0, .ref 307), (1, .int (nI t)), (2, .int (nI 1))] []
  refine g_aload_n hX dX6_ask_0 rfl 0 rfl ?_
  refine g_iconst (v := nI 0) hX dX6_ask_1 (by decide) ?_
  refine g_putI hX (by decide) (by decide) xCl6 0 (by decide) (by decide) (by decide) kX6_44 dX6_ask_2 rfl rfl ?_
  refine g_aload_n hX dX6_ask_5 rfl 0 rfl ?_
  refine g_iload_n hX dX6_ask_6 rfl 1 rfl ?_
  refine g_callVi hX (as := [.int (nI t)]) (fun l => c_X6_isTree l (I := (xput I 307 0 (nI 0))) (T := T) (x := (nI t)) (hT := (by first | assumption | omega)) (hT6 := (by first | assumption | omega))) mX6_isTree vX6_isTree lX6_211 (by decide) (by decide) xCl6 rfl rfl dX6_ask_7 rfl (by decide) (Nat.le_of_ble_eq_true rfl) (by decide) (by decide) ?_
  refine g_top (y := xb (0 ≤ ((t : Nat) : Int) ∧ ((t : Nat) : Int) < T)) (by rw [nI_toInt (n := t) (by omega)]) ?_
  refine g_cb_eq (tgt := 23) hX dX6_ask_10 (by decide) (fun h10 => ?_) (fun h10 => ?_)
  · exfalso; omega
  · refine g_iload_n hX dX6_ask_13 rfl 2 rfl ?_
    refine g_i2l (v := (nI 1).toInt64) hX dX6_ask_14 rfl ?_
    refine g_lconst (v := 0) hX dX6_ask_15 (by decide) ?_
    refine g_lconst (v := 1) hX dX6_ask_16 (by decide) ?_
    refine g_callSi (as := [.long ((nI 1).toInt64), .long 0, .long 1]) hX (fun l => c_X6_in l) mX6_in sX6_in lX6_54 rfl dX6_ask_17 rfl (by decide) (Nat.le_of_ble_eq_true rfl) (by decide) (by decide) ?_
    refine g_top (y := xb ((0 : Int) ≤ (1 : Int) ∧ (1 : Int) ≤ (1 : Int))) (xb_iffI ((i64_of _).trans (by decide)) (by decide) (by decide)) ?_
    refine g_cb_ne (tgt := 26) hX dX6_ask_20 (by decide) (fun h20 => ?_) (fun h20 => ?_)
    · refine g_aload_n hX dX6_ask_26 rfl 0 rfl ?_
      refine g_iconst (v := nI 0) hX dX6_ask_27 (by decide) ?_
      refine g_putI hX (by decide) (by decide) xCl6 24 (by decide) (by decide) (by decide) kX6_280 dX6_ask_28 rfl rfl ?_
      refine g_iload_n hX dX6_ask_31 rfl 2 rfl ?_
      refine g_cz_ne (a := (1 : Int)) (tgt := 43) hX dX6_ask_32 (by decide) (by decide) (fun _ => ?_) (fun q => absurd q (by decide))
      refine g_aload_n hX dX6_ask_43 rfl 0 rfl ?_
      refine g_iload_n hX dX6_ask_44 rfl 1 rfl ?_
      refine g_callVi hX (as := [.int (nI t)]) (fun l => c_X6_markOf_1 l (I := (xput (xput I 307 0 (nI 0)) 307 24 (nI 0))) (t := t) (n := 0) (hn := xput_e) (hn8 := (by first | assumption | omega)) (ht := (by first | assumption | omega)) (hk := (xput_o (by decide) (xput_o (by decide) hk)))) mX6_markOf vX6_markOf lX6_289 (by decide) (by decide) xCl6 rfl rfl dX6_ask_45 rfl (by decide) (Nat.le_of_ble_eq_true rfl) (by decide) (by decide) ?_
      refine g_top (y := nI t + I 311 (26 + 5 * t + 1) + nI 0) (by rw [show (xput (xput I 307 0 (nI 0)) 307 24 (nI 0)) 311 = I 311 from ((xput_ne (by decide)).trans ((xput_ne (by decide)).trans rfl))]) ?_
      exact g_iret hX hR dX6_ask_48 (by decide) (by decide) ⟨congrArg (fun z => some (Value.int z)) rfl, rfl, rfl, rfl⟩
    · exfalso; omega

theorem c_X6_ask_size2 (l : Launch) {nw sp : Nat} {I : xM} {t T : Nat} (hT : I 311 0 = nI T) (hT6 : T ≤ 6) (ht : t < T) (hk : I 311 (26 + 5 * t + 0) = nI 2) : xC l 5 0 0 yX6_ask cX6_ask 3 (some .int) 319 [.ref 307, .int (nI t), .int (nI 0)] I (xRL nw sp) (xpI (-(hgF (I 311) (I 315) t + (nI t + I 311 (26 + 5 * t + 1) + nI 1000))) 319 (xput (xput (xput (xput (xput (xput (xput (xput (xput (xput (xput (xput (xput (xput I 307 0 (nI 0)) 307 24 (nI 0)) 318 (0) (nI 12)) 307 24 (nI (0 + 1))) 318 (0 + 1) (nI 11)) 307 24 (nI (0 + 1 + 1))) 318 (0 + 1 + 1) (nI 10)) 307 24 (nI (0 + 1 + 1 + 1))) 318 (0 + 1 + 1 + 1) (nI 24)) 307 24 (nI (0 + 1 + 1 + 1 + 1))) 318 (0 + 1 + 1 + 1 + 1) (nI 21)) 307 24 (nI (0 + 1 + 1 + 1 + 1 + 1))) 318 (0 + 1 + 1 + 1 + 1 + 1) (nI 20)) 307 24 (nI (0 + 1 + 1 + 1 + 1 + 1 + 1))) (xRL nw sp)) := by
  refine xC_of (by decide) (Nat.le_of_ble_eq_true rfl) (fun X hXl hX hR => ?_)
  have hX : xOK X RX6 cX6_ask 3 5 0 0 := hX
  show G X 319 0 0 I (xRL nw sp) 0 [(0, .ref 307), (1, .int (nI t)), (2, .int (nI 0))] []
  refine g_aload_n hX dX6_ask_0 rfl 0 rfl ?_
  refine g_iconst (v := nI 0) hX dX6_ask_1 (by decide) ?_
  refine g_putI hX (by decide) (by decide) xCl6 0 (by decide) (by decide) (by decide) kX6_44 dX6_ask_2 rfl rfl ?_
  refine g_aload_n hX dX6_ask_5 rfl 0 rfl ?_
  refine g_iload_n hX dX6_ask_6 rfl 1 rfl ?_
  refine g_callVi hX (as := [.int (nI t)]) (fun l => c_X6_isTree l (I := (xput I 307 0 (nI 0))) (T := T) (x := (nI t)) (hT := (by first | assumption | omega)) (hT6 := (by first | assumption | omega))) mX6_isTree vX6_isTree lX6_211 (by decide) (by decide) xCl6 rfl rfl dX6_ask_7 rfl (by decide) (Nat.le_of_ble_eq_true rfl) (by decide) (by decide) ?_
  refine g_top (y := xb (0 ≤ ((t : Nat) : Int) ∧ ((t : Nat) : Int) < T)) (by rw [nI_toInt (n := t) (by omega)]) ?_
  refine g_cb_eq (tgt := 23) hX dX6_ask_10 (by decide) (fun h10 => ?_) (fun h10 => ?_)
  · exfalso; omega
  · refine g_iload_n hX dX6_ask_13 rfl 2 rfl ?_
    refine g_i2l (v := (nI 0).toInt64) hX dX6_ask_14 rfl ?_
    refine g_lconst (v := 0) hX dX6_ask_15 (by decide) ?_
    refine g_lconst (v := 1) hX dX6_ask_16 (by decide) ?_
    refine g_callSi (as := [.long ((nI 0).toInt64), .long 0, .long 1]) hX (fun l => c_X6_in l) mX6_in sX6_in lX6_54 rfl dX6_ask_17 rfl (by decide) (Nat.le_of_ble_eq_true rfl) (by decide) (by decide) ?_
    refine g_top (y := xb ((0 : Int) ≤ (0 : Int) ∧ (0 : Int) ≤ (1 : Int))) (xb_iffI ((i64_of _).trans (by decide)) (by decide) (by decide)) ?_
    refine g_cb_ne (tgt := 26) hX dX6_ask_20 (by decide) (fun h20 => ?_) (fun h20 => ?_)
    · refine g_aload_n hX dX6_ask_26 rfl 0 rfl ?_
      refine g_iconst (v := nI 0) hX dX6_ask_27 (by decide) ?_
      refine g_putI hX (by decide) (by decide) xCl6 24 (by decide) (by decide) (by decide) kX6_280 dX6_ask_28 rfl rfl ?_
      refine g_iload_n hX dX6_ask_31 rfl 2 rfl ?_
      refine g_cz_ne (a := (0 : Int)) (tgt := 43) hX dX6_ask_32 (by decide) (by decide) (fun q => absurd q (by decide)) (fun _ => ?_)
      refine g_aload_n hX dX6_ask_35 rfl 0 rfl ?_
      refine g_iload_n hX dX6_ask_36 rfl 1 rfl ?_
      refine g_callVi hX (as := [.int (nI t)]) (fun l => c_X6_sizeOf_2 l (I := (xput (xput I 307 0 (nI 0)) 307 24 (nI 0))) (t := t) (n := 0) (hn := xput_e) (hn8 := (by first | assumption | omega)) (ht := (by first | assumption | omega)) (hk := (xput_o (by decide) (xput_o (by decide) hk)))) mX6_sizeOf vX6_sizeOf lX6_292 (by decide) (by decide) xCl6 rfl rfl dX6_ask_37 rfl (by decide) (Nat.le_of_ble_eq_true rfl) (by decide) (by decide) ?_
      refine g_top (y := -(hgF (I 311) (I 315) t + (nI t + I 311 (26 + 5 * t + 1) + nI 1000))) (by rw [show (xput (xput I 307 0 (nI 0)) 307 24 (nI 0)) 311 = I 311 from ((xput_ne (by decide)).trans ((xput_ne (by decide)).trans rfl)), show (xput (xput I 307 0 (nI 0)) 307 24 (nI 0)) 315 = I 315 from ((xput_ne (by decide)).trans ((xput_ne (by decide)).trans rfl))]) ?_
      refine g_goto (tgt := 48) hX dX6_ask_40 (by decide) ?_
      exact g_iret hX hR dX6_ask_48 (by decide) (by decide) ⟨congrArg (fun z => some (Value.int z)) rfl, rfl, rfl, rfl⟩
    · exfalso; omega

theorem c_X6_ask_mark2 (l : Launch) {nw sp : Nat} {I : xM} {t T : Nat} (hT : I 311 0 = nI T) (hT6 : T ≤ 6) (ht : t < T) (hk : I 311 (26 + 5 * t + 0) = nI 2) : xC l 3 0 0 yX6_ask cX6_ask 3 (some .int) 319 [.ref 307, .int (nI t), .int (nI 1)] I (xRL nw sp) (xpI (nI t + I 311 (26 + 5 * t + 1) + nI 1000) 319 (xput (xput (xput (xput (xput (xput (xput (xput I 307 0 (nI 0)) 307 24 (nI 0)) 318 (0) (nI 24)) 307 24 (nI (0 + 1))) 318 (0 + 1) (nI 21)) 307 24 (nI (0 + 1 + 1))) 318 (0 + 1 + 1) (nI 20)) 307 24 (nI (0 + 1 + 1 + 1))) (xRL nw sp)) := by
  refine xC_of (by decide) (Nat.le_of_ble_eq_true rfl) (fun X hXl hX hR => ?_)
  have hX : xOK X RX6 cX6_ask 3 3 0 0 := hX
  show G X 319 0 0 I (xRL nw sp) 0 [(0, .ref 307), (1, .int (nI t)), (2, .int (nI 1))] []
  refine g_aload_n hX dX6_ask_0 rfl 0 rfl ?_
  refine g_iconst (v := nI 0) hX dX6_ask_1 (by decide) ?_
  refine g_putI hX (by decide) (by decide) xCl6 0 (by decide) (by decide) (by decide) kX6_44 dX6_ask_2 rfl rfl ?_
  refine g_aload_n hX dX6_ask_5 rfl 0 rfl ?_
  refine g_iload_n hX dX6_ask_6 rfl 1 rfl ?_
  refine g_callVi hX (as := [.int (nI t)]) (fun l => c_X6_isTree l (I := (xput I 307 0 (nI 0))) (T := T) (x := (nI t)) (hT := (by first | assumption | omega)) (hT6 := (by first | assumption | omega))) mX6_isTree vX6_isTree lX6_211 (by decide) (by decide) xCl6 rfl rfl dX6_ask_7 rfl (by decide) (Nat.le_of_ble_eq_true rfl) (by decide) (by decide) ?_
  refine g_top (y := xb (0 ≤ ((t : Nat) : Int) ∧ ((t : Nat) : Int) < T)) (by rw [nI_toInt (n := t) (by omega)]) ?_
  refine g_cb_eq (tgt := 23) hX dX6_ask_10 (by decide) (fun h10 => ?_) (fun h10 => ?_)
  · exfalso; omega
  · refine g_iload_n hX dX6_ask_13 rfl 2 rfl ?_
    refine g_i2l (v := (nI 1).toInt64) hX dX6_ask_14 rfl ?_
    refine g_lconst (v := 0) hX dX6_ask_15 (by decide) ?_
    refine g_lconst (v := 1) hX dX6_ask_16 (by decide) ?_
    refine g_callSi (as := [.long ((nI 1).toInt64), .long 0, .long 1]) hX (fun l => c_X6_in l) mX6_in sX6_in lX6_54 rfl dX6_ask_17 rfl (by decide) (Nat.le_of_ble_eq_true rfl) (by decide) (by decide) ?_
    refine g_top (y := xb ((0 : Int) ≤ (1 : Int) ∧ (1 : Int) ≤ (1 : Int))) (xb_iffI ((i64_of _).trans (by decide)) (by decide) (by decide)) ?_
    refine g_cb_ne (tgt := 26) hX dX6_ask_20 (by decide) (fun h20 => ?_) (fun h20 => ?_)
    · refine g_aload_n hX dX6_ask_26 rfl 0 rfl ?_
      refine g_iconst (v := nI 0) hX dX6_ask_27 (by decide) ?_
      refine g_putI hX (by decide) (by decide) xCl6 24 (by decide) (by decide) (by decide) kX6_280 dX6_ask_28 rfl rfl ?_
      refine g_iload_n hX dX6_ask_31 rfl 2 rfl ?_
      refine g_cz_ne (a := (1 : Int)) (tgt := 43) hX dX6_ask_32 (by decide) (by decide) (fun _ => ?_) (fun q => absurd q (by decide))
      refine g_aload_n hX dX6_ask_43 rfl 0 rfl ?_
      refine g_iload_n hX dX6_ask_44 rfl 1 rfl ?_
      refine g_callVi hX (as := [.int (nI t)]) (fun l => c_X6_markOf_2 l (I := (xput (xput I 307 0 (nI 0)) 307 24 (nI 0))) (t := t) (n := 0) (hn := xput_e) (hn8 := (by first | assumption | omega)) (ht := (by first | assumption | omega)) (hk := (xput_o (by decide) (xput_o (by decide) hk)))) mX6_markOf vX6_markOf lX6_289 (by decide) (by decide) xCl6 rfl rfl dX6_ask_45 rfl (by decide) (Nat.le_of_ble_eq_true rfl) (by decide) (by decide) ?_
      refine g_top (y := nI t + I 311 (26 + 5 * t + 1) + nI 1000) (by rw [show (xput (xput I 307 0 (nI 0)) 307 24 (nI 0)) 311 = I 311 from ((xput_ne (by decide)).trans ((xput_ne (by decide)).trans rfl))]) ?_
      exact g_iret hX hR dX6_ask_48 (by decide) (by decide) ⟨congrArg (fun z => some (Value.int z)) rfl, rfl, rfl, rfl⟩
    · exfalso; omega

theorem c_X6_ask_size3 (l : Launch) {nw sp : Nat} {I : xM} {t T : Nat} (hT : I 311 0 = nI T) (hT6 : T ≤ 6) (ht : t < T) (hk : I 311 (26 + 5 * t + 0) = nI 3) : xC l 5 0 0 yX6_ask cX6_ask 3 (some .int) 319 [.ref 307, .int (nI t), .int (nI 0)] I (xRL nw sp) (xpI (hgF (I 311) (I 315) t) 319 (xput (xput (xput (xput I 307 0 (nI 0)) 307 24 (nI 0)) 318 (0) (nI 10)) 307 24 (nI (0 + 1))) (xRL nw sp)) := by
  refine xC_of (by decide) (Nat.le_of_ble_eq_true rfl) (fun X hXl hX hR => ?_)
  have hX : xOK X RX6 cX6_ask 3 5 0 0 := hX
  show G X 319 0 0 I (xRL nw sp) 0 [(0, .ref 307), (1, .int (nI t)), (2, .int (nI 0))] []
  refine g_aload_n hX dX6_ask_0 rfl 0 rfl ?_
  refine g_iconst (v := nI 0) hX dX6_ask_1 (by decide) ?_
  refine g_putI hX (by decide) (by decide) xCl6 0 (by decide) (by decide) (by decide) kX6_44 dX6_ask_2 rfl rfl ?_
  refine g_aload_n hX dX6_ask_5 rfl 0 rfl ?_
  refine g_iload_n hX dX6_ask_6 rfl 1 rfl ?_
  refine g_callVi hX (as := [.int (nI t)]) (fun l => c_X6_isTree l (I := (xput I 307 0 (nI 0))) (T := T) (x := (nI t)) (hT := (by first | assumption | omega)) (hT6 := (by first | assumption | omega))) mX6_isTree vX6_isTree lX6_211 (by decide) (by decide) xCl6 rfl rfl dX6_ask_7 rfl (by decide) (Nat.le_of_ble_eq_true rfl) (by decide) (by decide) ?_
  refine g_top (y := xb (0 ≤ ((t : Nat) : Int) ∧ ((t : Nat) : Int) < T)) (by rw [nI_toInt (n := t) (by omega)]) ?_
  refine g_cb_eq (tgt := 23) hX dX6_ask_10 (by decide) (fun h10 => ?_) (fun h10 => ?_)
  · exfalso; omega
  · refine g_iload_n hX dX6_ask_13 rfl 2 rfl ?_
    refine g_i2l (v := (nI 0).toInt64) hX dX6_ask_14 rfl ?_
    refine g_lconst (v := 0) hX dX6_ask_15 (by decide) ?_
    refine g_lconst (v := 1) hX dX6_ask_16 (by decide) ?_
    refine g_callSi (as := [.long ((nI 0).toInt64), .long 0, .long 1]) hX (fun l => c_X6_in l) mX6_in sX6_in lX6_54 rfl dX6_ask_17 rfl (by decide) (Nat.le_of_ble_eq_true rfl) (by decide) (by decide) ?_
    refine g_top (y := xb ((0 : Int) ≤ (0 : Int) ∧ (0 : Int) ≤ (1 : Int))) (xb_iffI ((i64_of _).trans (by decide)) (by decide) (by decide)) ?_
    refine g_cb_ne (tgt := 26) hX dX6_ask_20 (by decide) (fun h20 => ?_) (fun h20 => ?_)
    · refine g_aload_n hX dX6_ask_26 rfl 0 rfl ?_
      refine g_iconst (v := nI 0) hX dX6_ask_27 (by decide) ?_
      refine g_putI hX (by decide) (by decide) xCl6 24 (by decide) (by decide) (by decide) kX6_280 dX6_ask_28 rfl rfl ?_
      refine g_iload_n hX dX6_ask_31 rfl 2 rfl ?_
      refine g_cz_ne (a := (0 : Int)) (tgt := 43) hX dX6_ask_32 (by decide) (by decide) (fun q => absurd q (by decide)) (fun _ => ?_)
      refine g_aload_n hX dX6_ask_35 rfl 0 rfl ?_
      refine g_iload_n hX dX6_ask_36 rfl 1 rfl ?_
      refine g_callVi hX (as := [.int (nI t)]) (fun l => c_X6_sizeOf_3 l (I := (xput (xput I 307 0 (nI 0)) 307 24 (nI 0))) (t := t) (n := 0) (hn := xput_e) (hn8 := (by first | assumption | omega)) (ht := (by first | assumption | omega)) (hk := (xput_o (by decide) (xput_o (by decide) hk)))) mX6_sizeOf vX6_sizeOf lX6_292 (by decide) (by decide) xCl6 rfl rfl dX6_ask_37 rfl (by decide) (Nat.le_of_ble_eq_true rfl) (by decide) (by decide) ?_
      refine g_top (y := hgF (I 311) (I 315) t) (by rw [show (xput (xput I 307 0 (nI 0)) 307 24 (nI 0)) 311 = I 311 from ((xput_ne (by decide)).trans ((xput_ne (by decide)).trans rfl)), show (xput (xput I 307 0 (nI 0)) 307 24 (nI 0)) 315 = I 315 from ((xput_ne (by decide)).trans ((xput_ne (by decide)).trans rfl))]) ?_
      refine g_goto (tgt := 48) hX dX6_ask_40 (by decide) ?_
      exact g_iret hX hR dX6_ask_48 (by decide) (by decide) ⟨congrArg (fun z => some (Value.int z)) rfl, rfl, rfl, rfl⟩
    · exfalso; omega

theorem c_X6_ask_mark3 (l : Launch) {nw sp : Nat} {I : xM} {t T : Nat} (hT : I 311 0 = nI T) (hT6 : T ≤ 6) (ht : t < T) (hk : I 311 (26 + 5 * t + 0) = nI 3) : xC l 5 0 0 yX6_ask cX6_ask 3 (some .int) 319 [.ref 307, .int (nI t), .int (nI 1)] I (xRL nw sp) (xpI (nI t - hgF (I 311) (I 315) t) 319 (xput (xput (xput (xput (xput (xput (xput (xput I 307 0 (nI 0)) 307 24 (nI 0)) 318 (0) (nI 22)) 307 24 (nI (0 + 1))) 318 (0 + 1) (nI 20)) 307 24 (nI (0 + 1 + 1))) 318 (0 + 1 + 1) (nI 10)) 307 24 (nI (0 + 1 + 1 + 1))) (xRL nw sp)) := by
  refine xC_of (by decide) (Nat.le_of_ble_eq_true rfl) (fun X hXl hX hR => ?_)
  have hX : xOK X RX6 cX6_ask 3 5 0 0 := hX
  show G X 319 0 0 I (xRL nw sp) 0 [(0, .ref 307), (1, .int (nI t)), (2, .int (nI 1))] []
  refine g_aload_n hX dX6_ask_0 rfl 0 rfl ?_
  refine g_iconst (v := nI 0) hX dX6_ask_1 (by decide) ?_
  refine g_putI hX (by decide) (by decide) xCl6 0 (by decide) (by decide) (by decide) kX6_44 dX6_ask_2 rfl rfl ?_
  refine g_aload_n hX dX6_ask_5 rfl 0 rfl ?_
  refine g_iload_n hX dX6_ask_6 rfl 1 rfl ?_
  refine g_callVi hX (as := [.int (nI t)]) (fun l => c_X6_isTree l (I := (xput I 307 0 (nI 0))) (T := T) (x := (nI t)) (hT := (by first | assumption | omega)) (hT6 := (by first | assumption | omega))) mX6_isTree vX6_isTree lX6_211 (by decide) (by decide) xCl6 rfl rfl dX6_ask_7 rfl (by decide) (Nat.le_of_ble_eq_true rfl) (by decide) (by decide) ?_
  refine g_top (y := xb (0 ≤ ((t : Nat) : Int) ∧ ((t : Nat) : Int) < T)) (by rw [nI_toInt (n := t) (by omega)]) ?_
  refine g_cb_eq (tgt := 23) hX dX6_ask_10 (by decide) (fun h10 => ?_) (fun h10 => ?_)
  · exfalso; omega
  · refine g_iload_n hX dX6_ask_13 rfl 2 rfl ?_
    refine g_i2l (v := (nI 1).toInt64) hX dX6_ask_14 rfl ?_
    refine g_lconst (v := 0) hX dX6_ask_15 (by decide) ?_
    refine g_lconst (v := 1) hX dX6_ask_16 (by decide) ?_
    refine g_callSi (as := [.long ((nI 1).toInt64), .long 0, .long 1]) hX (fun l => c_X6_in l) mX6_in sX6_in lX6_54 rfl dX6_ask_17 rfl (by decide) (Nat.le_of_ble_eq_true rfl) (by decide) (by decide) ?_
    refine g_top (y := xb ((0 : Int) ≤ (1 : Int) ∧ (1 : Int) ≤ (1 : Int))) (xb_iffI ((i64_of _).trans (by decide)) (by decide) (by decide)) ?_
    refine g_cb_ne (tgt := 26) hX dX6_ask_20 (by decide) (fun h20 => ?_) (fun h20 => ?_)
    · refine g_aload_n hX dX6_ask_26 rfl 0 rfl ?_
      refine g_iconst (v := nI 0) hX dX6_ask_27 (by decide) ?_
      refine g_putI hX (by decide) (by decide) xCl6 24 (by decide) (by decide) (by decide) kX6_280 dX6_ask_28 rfl rfl ?_
      refine g_iload_n hX dX6_ask_31 rfl 2 rfl ?_
      refine g_cz_ne (a := (1 : Int)) (tgt := 43) hX dX6_ask_32 (by decide) (by decide) (fun _ => ?_) (fun q => absurd q (by decide))
      refine g_aload_n hX dX6_ask_43 rfl 0 rfl ?_
      refine g_iload_n hX dX6_ask_44 rfl 1 rfl ?_
      refine g_callVi hX (as := [.int (nI t)]) (fun l => c_X6_markOf_3 l (I := (xput (xput I 307 0 (nI 0)) 307 24 (nI 0))) (t := t) (n := 0) (hn := xput_e) (hn8 := (by first | assumption | omega)) (ht := (by first | assumption | omega)) (hk := (xput_o (by decide) (xput_o (by decide) hk)))) mX6_markOf vX6_markOf lX6_289 (by decide) (by decide) xCl6 rfl rfl dX6_ask_45 rfl (by decide) (Nat.le_of_ble_eq_true rfl) (by decide) (by decide) ?_
      refine g_top (y := nI t - hgF (I 311) (I 315) t) (by rw [show (xput (xput I 307 0 (nI 0)) 307 24 (nI 0)) 311 = I 311 from ((xput_ne (by decide)).trans ((xput_ne (by decide)).trans rfl)), show (xput (xput I 307 0 (nI 0)) 307 24 (nI 0)) 315 = I 315 from ((xput_ne (by decide)).trans ((xput_ne (by decide)).trans rfl))]) ?_
      exact g_iret hX hR dX6_ask_48 (by decide) (by decide) ⟨congrArg (fun z => some (Value.int z)) rfl, rfl, rfl, rfl⟩
    · exfalso; omega

theorem c_X6_ask_size4 (l : Launch) {nw sp : Nat} {I : xM} {t T : Nat} (hT : I 311 0 = nI T) (hT6 : T ≤ 6) (ht : t < T) (hk : I 311 (26 + 5 * t + 0) = nI 4) : xC l 5 0 0 yX6_ask cX6_ask 3 (some .int) 319 [.ref 307, .int (nI t), .int (nI 0)] I (xRL nw sp) (xpI (hgF (I 311) (I 315) t + (-100)) 319 (xput (xput (xput (xput (xput (xput I 307 0 (nI 0)) 307 24 (nI 0)) 318 (0) (nI 13)) 307 24 (nI (0 + 1))) 318 (0 + 1) (nI 10)) 307 24 (nI (0 + 1 + 1))) (xRL nw sp)) := by
  refine xC_of (by decide) (Nat.le_of_ble_eq_true rfl) (fun X hXl hX hR => ?_)
  have hX : xOK X RX6 cX6_ask 3 5 0 0 := hX
  show G X 319 0 0 I (xRL nw sp) 0 [(0, .ref 307), (1, .int (nI t)), (2, .int (nI 0))] []
  refine g_aload_n hX dX6_ask_0 rfl 0 rfl ?_
  refine g_iconst (v := nI 0) hX dX6_ask_1 (by decide) ?_
  refine g_putI hX (by decide) (by decide) xCl6 0 (by decide) (by decide) (by decide) kX6_44 dX6_ask_2 rfl rfl ?_
  refine g_aload_n hX dX6_ask_5 rfl 0 rfl ?_
  refine g_iload_n hX dX6_ask_6 rfl 1 rfl ?_
  refine g_callVi hX (as := [.int (nI t)]) (fun l => c_X6_isTree l (I := (xput I 307 0 (nI 0))) (T := T) (x := (nI t)) (hT := (by first | assumption | omega)) (hT6 := (by first | assumption | omega))) mX6_isTree vX6_isTree lX6_211 (by decide) (by decide) xCl6 rfl rfl dX6_ask_7 rfl (by decide) (Nat.le_of_ble_eq_true rfl) (by decide) (by decide) ?_
  refine g_top (y := xb (0 ≤ ((t : Nat) : Int) ∧ ((t : Nat) : Int) < T)) (by rw [nI_toInt (n := t) (by omega)]) ?_
  refine g_cb_eq (tgt := 23) hX dX6_ask_10 (by decide) (fun h10 => ?_) (fun h10 => ?_)
  · exfalso; omega
  · refine g_iload_n hX dX6_ask_13 rfl 2 rfl ?_
    refine g_i2l (v := (nI 0).toInt64) hX dX6_ask_14 rfl ?_
    refine g_lconst (v := 0) hX dX6_ask_15 (by decide) ?_
    refine g_lconst (v := 1) hX dX6_ask_16 (by decide) ?_
    refine g_callSi (as := [.long ((nI 0).toInt64), .long 0, .long 1]) hX (fun l => c_X6_in l) mX6_in sX6_in lX6_54 rfl dX6_ask_17 rfl (by decide) (Nat.le_of_ble_eq_true rfl) (by decide) (by decide) ?_
    refine g_top (y := xb ((0 : Int) ≤ (0 : Int) ∧ (0 : Int) ≤ (1 : Int))) (xb_iffI ((i64_of _).trans (by decide)) (by decide) (by decide)) ?_
    refine g_cb_ne (tgt := 26) hX dX6_ask_20 (by decide) (fun h20 => ?_) (fun h20 => ?_)
    · refine g_aload_n hX dX6_ask_26 rfl 0 rfl ?_
      refine g_iconst (v := nI 0) hX dX6_ask_27 (by decide) ?_
      refine g_putI hX (by decide) (by decide) xCl6 24 (by decide) (by decide) (by decide) kX6_280 dX6_ask_28 rfl rfl ?_
      refine g_iload_n hX dX6_ask_31 rfl 2 rfl ?_
      refine g_cz_ne (a := (0 : Int)) (tgt := 43) hX dX6_ask_32 (by decide) (by decide) (fun q => absurd q (by decide)) (fun _ => ?_)
      refine g_aload_n hX dX6_ask_35 rfl 0 rfl ?_
      refine g_iload_n hX dX6_ask_36 rfl 1 rfl ?_
      refine g_callVi hX (as := [.int (nI t)]) (fun l => c_X6_sizeOf_4 l (I := (xput (xput I 307 0 (nI 0)) 307 24 (nI 0))) (t := t) (n := 0) (hn := xput_e) (hn8 := (by first | assumption | omega)) (ht := (by first | assumption | omega)) (hk := (xput_o (by decide) (xput_o (by decide) hk)))) mX6_sizeOf vX6_sizeOf lX6_292 (by decide) (by decide) xCl6 rfl rfl dX6_ask_37 rfl (by decide) (Nat.le_of_ble_eq_true rfl) (by decide) (by decide) ?_
      refine g_top (y := hgF (I 311) (I 315) t + (-100)) (by rw [show (xput (xput I 307 0 (nI 0)) 307 24 (nI 0)) 311 = I 311 from ((xput_ne (by decide)).trans ((xput_ne (by decide)).trans rfl)), show (xput (xput I 307 0 (nI 0)) 307 24 (nI 0)) 315 = I 315 from ((xput_ne (by decide)).trans ((xput_ne (by decide)).trans rfl))]) ?_
      refine g_goto (tgt := 48) hX dX6_ask_40 (by decide) ?_
      exact g_iret hX hR dX6_ask_48 (by decide) (by decide) ⟨congrArg (fun z => some (Value.int z)) rfl, rfl, rfl, rfl⟩
    · exfalso; omega

theorem c_X6_ask_mark4 (l : Launch) {nw sp : Nat} {I : xM} {t T : Nat} (hT : I 311 0 = nI T) (hT6 : T ≤ 6) (ht : t < T) (hk : I 311 (26 + 5 * t + 0) = nI 4) : xC l 3 0 0 yX6_ask cX6_ask 3 (some .int) 319 [.ref 307, .int (nI t), .int (nI 1)] I (xRL nw sp) (xpI (nI t + I 311 (26 + 5 * t + 3)) 319 (xput (xput (xput (xput (xput (xput I 307 0 (nI 0)) 307 24 (nI 0)) 318 (0) (nI 23)) 307 24 (nI (0 + 1))) 318 (0 + 1) (nI 20)) 307 24 (nI (0 + 1 + 1))) (xRL nw sp)) := by
  refine xC_of (by decide) (Nat.le_of_ble_eq_true rfl) (fun X hXl hX hR => ?_)
  have hX : xOK X RX6 cX6_ask 3 3 0 0 := hX
  show G X 319 0 0 I (xRL nw sp) 0 [(0, .ref 307), (1, .int (nI t)), (2, .int (nI 1))] []
  refine g_aload_n hX dX6_ask_0 rfl 0 rfl ?_
  refine g_iconst (v := nI 0) hX dX6_ask_1 (by decide) ?_
  refine g_putI hX (by decide) (by decide) xCl6 0 (by decide) (by decide) (by decide) kX6_44 dX6_ask_2 rfl rfl ?_
  refine g_aload_n hX dX6_ask_5 rfl 0 rfl ?_
  refine g_iload_n hX dX6_ask_6 rfl 1 rfl ?_
  refine g_callVi hX (as := [.int (nI t)]) (fun l => c_X6_isTree l (I := (xput I 307 0 (nI 0))) (T := T) (x := (nI t)) (hT := (by first | assumption | omega)) (hT6 := (by first | assumption | omega))) mX6_isTree vX6_isTree lX6_211 (by decide) (by decide) xCl6 rfl rfl dX6_ask_7 rfl (by decide) (Nat.le_of_ble_eq_true rfl) (by decide) (by decide) ?_
  refine g_top (y := xb (0 ≤ ((t : Nat) : Int) ∧ ((t : Nat) : Int) < T)) (by rw [nI_toInt (n := t) (by omega)]) ?_
  refine g_cb_eq (tgt := 23) hX dX6_ask_10 (by decide) (fun h10 => ?_) (fun h10 => ?_)
  · exfalso; omega
  · refine g_iload_n hX dX6_ask_13 rfl 2 rfl ?_
    refine g_i2l (v := (nI 1).toInt64) hX dX6_ask_14 rfl ?_
    refine g_lconst (v := 0) hX dX6_ask_15 (by decide) ?_
    refine g_lconst (v := 1) hX dX6_ask_16 (by decide) ?_
    refine g_callSi (as := [.long ((nI 1).toInt64), .long 0, .long 1]) hX (fun l => c_X6_in l) mX6_in sX6_in lX6_54 rfl dX6_ask_17 rfl (by decide) (Nat.le_of_ble_eq_true rfl) (by decide) (by decide) ?_
    refine g_top (y := xb ((0 : Int) ≤ (1 : Int) ∧ (1 : Int) ≤ (1 : Int))) (xb_iffI ((i64_of _).trans (by decide)) (by decide) (by decide)) ?_
    refine g_cb_ne (tgt := 26) hX dX6_ask_20 (by decide) (fun h20 => ?_) (fun h20 => ?_)
    · refine g_aload_n hX dX6_ask_26 rfl 0 rfl ?_
      refine g_iconst (v := nI 0) hX dX6_ask_27 (by decide) ?_
      refine g_putI hX (by decide) (by decide) xCl6 24 (by decide) (by decide) (by decide) kX6_280 dX6_ask_28 rfl rfl ?_
      refine g_iload_n hX dX6_ask_31 rfl 2 rfl ?_
      refine g_cz_ne (a := (1 : Int)) (tgt := 43) hX dX6_ask_32 (by decide) (by decide) (fun _ => ?_) (fun q => absurd q (by decide))
      refine g_aload_n hX dX6_ask_43 rfl 0 rfl ?_
      refine g_iload_n hX dX6_ask_44 rfl 1 rfl ?_
      refine g_callVi hX (as := [.int (nI t)]) (fun l => c_X6_markOf_4 l (I := (xput (xput I 307 0 (nI 0)) 307 24 (nI 0))) (t := t) (n := 0) (hn := xput_e) (hn8 := (by first | assumption | omega)) (ht := (by first | assumption | omega)) (hk := (xput_o (by decide) (xput_o (by decide) hk)))) mX6_markOf vX6_markOf lX6_289 (by decide) (by decide) xCl6 rfl rfl dX6_ask_45 rfl (by decide) (Nat.le_of_ble_eq_true rfl) (by decide) (by decide) ?_
      refine g_top (y := nI t + I 311 (26 + 5 * t + 3)) (by rw [show (xput (xput I 307 0 (nI 0)) 307 24 (nI 0)) 311 = I 311 from ((xput_ne (by decide)).trans ((xput_ne (by decide)).trans rfl))]) ?_
      exact g_iret hX hR dX6_ask_48 (by decide) (by decide) ⟨congrArg (fun z => some (Value.int z)) rfl, rfl, rfl, rfl⟩
    · exfalso; omega

theorem c_X6_ask_size5 (l : Launch) {nw sp : Nat} {I : xM} {t T : Nat} (hT : I 311 0 = nI T) (hT6 : T ≤ 6) (ht : t < T) (hk : I 311 (26 + 5 * t + 0) = nI 5) : xC l 5 0 0 yX6_ask cX6_ask 3 (some .int) 319 [.ref 307, .int (nI t), .int (nI 0)] I (xRL nw sp) (xpI (nI 2 * (hgF (I 311) (I 315) t + (-100))) 319 (xput (xput (xput (xput (xput (xput (xput (xput I 307 0 (nI 0)) 307 24 (nI 0)) 318 (0) (nI 14)) 307 24 (nI (0 + 1))) 318 (0 + 1) (nI 13)) 307 24 (nI (0 + 1 + 1))) 318 (0 + 1 + 1) (nI 10)) 307 24 (nI (0 + 1 + 1 + 1))) (xRL nw sp)) := by
  refine xC_of (by decide) (Nat.le_of_ble_eq_true rfl) (fun X hXl hX hR => ?_)
  have hX : xOK X RX6 cX6_ask 3 5 0 0 := hX
  show G X 319 0 0 I (xRL nw sp) 0 [(0, .ref 307), (1, .int (nI t)), (2, .int (nI 0))] []
  refine g_aload_n hX dX6_ask_0 rfl 0 rfl ?_
  refine g_iconst (v := nI 0) hX dX6_ask_1 (by decide) ?_
  refine g_putI hX (by decide) (by decide) xCl6 0 (by decide) (by decide) (by decide) kX6_44 dX6_ask_2 rfl rfl ?_
  refine g_aload_n hX dX6_ask_5 rfl 0 rfl ?_
  refine g_iload_n hX dX6_ask_6 rfl 1 rfl ?_
  refine g_callVi hX (as := [.int (nI t)]) (fun l => c_X6_isTree l (I := (xput I 307 0 (nI 0))) (T := T) (x := (nI t)) (hT := (by first | assumption | omega)) (hT6 := (by first | assumption | omega))) mX6_isTree vX6_isTree lX6_211 (by decide) (by decide) xCl6 rfl rfl dX6_ask_7 rfl (by decide) (Nat.le_of_ble_eq_true rfl) (by decide) (by decide) ?_
  refine g_top (y := xb (0 ≤ ((t : Nat) : Int) ∧ ((t : Nat) : Int) < T)) (by rw [nI_toInt (n := t) (by omega)]) ?_
  refine g_cb_eq (tgt := 23) hX dX6_ask_10 (by decide) (fun h10 => ?_) (fun h10 => ?_)
  · exfalso; omega
  · refine g_iload_n hX dX6_ask_13 rfl 2 rfl ?_
    refine g_i2l (v := (nI 0).toInt64) hX dX6_ask_14 rfl ?_
    refine g_lconst (v := 0) hX dX6_ask_15 (by decide) ?_
    refine g_lconst (v := 1) hX dX6_ask_16 (by decide) ?_
    refine g_callSi (as := [.long ((nI 0).toInt64), .long 0, .long 1]) hX (fun l => c_X6_in l) mX6_in sX6_in lX6_54 rfl dX6_ask_17 rfl (by decide) (Nat.le_of_ble_eq_true rfl) (by decide) (by decide) ?_
    refine g_top (y := xb ((0 : Int) ≤ (0 : Int) ∧ (0 : Int) ≤ (1 : Int))) (xb_iffI ((i64_of _).trans (by decide)) (by decide) (by decide)) ?_
    refine g_cb_ne (tgt := 26) hX dX6_ask_20 (by decide) (fun h20 => ?_) (fun h20 => ?_)
    · refine g_aload_n hX dX6_ask_26 rfl 0 rfl ?_
      refine g_iconst (v := nI 0) hX dX6_ask_27 (by decide) ?_
      refine g_putI hX (by decide) (by decide) xCl6 24 (by decide) (by decide) (by decide) kX6_280 dX6_ask_28 rfl rfl ?_
      refine g_iload_n hX dX6_ask_31 rfl 2 rfl ?_
      refine g_cz_ne (a := (0 : Int)) (tgt := 43) hX dX6_ask_32 (by decide) (by decide) (fun q => absurd q (by decide)) (fun _ => ?_)
      refine g_aload_n hX dX6_ask_35 rfl 0 rfl ?_
      refine g_iload_n hX dX6_ask_36 rfl 1 rfl ?_
      refine g_callVi hX (as := [.int (nI t)]) (fun l => c_X6_sizeOf_5 l (I := (xput (xput I 307 0 (nI 0)) 307 24 (nI 0))) (t := t) (n := 0) (hn := xput_e) (hn8 := (by first | assumption | omega)) (ht := (by first | assumption | omega)) (hk := (xput_o (by decide) (xput_o (by decide) hk)))) mX6_sizeOf vX6_sizeOf lX6_292 (by decide) (by decide) xCl6 rfl rfl dX6_ask_37 rfl (by decide) (Nat.le_of_ble_eq_true rfl) (by decide) (by decide) ?_
      refine g_top (y := nI 2 * (hgF (I 311) (I 315) t + (-100))) (by rw [show (xput (xput I 307 0 (nI 0)) 307 24 (nI 0)) 311 = I 311 from ((xput_ne (by decide)).trans ((xput_ne (by decide)).trans rfl)), show (xput (xput I 307 0 (nI 0)) 307 24 (nI 0)) 315 = I 315 from ((xput_ne (by decide)).trans ((xput_ne (by decide)).trans rfl))]) ?_
      refine g_goto (tgt := 48) hX dX6_ask_40 (by decide) ?_
      exact g_iret hX hR dX6_ask_48 (by decide) (by decide) ⟨congrArg (fun z => some (Value.int z)) rfl, rfl, rfl, rfl⟩
    · exfalso; omega

theorem c_X6_ask_mark5 (l : Launch) {nw sp : Nat} {I : xM} {t T : Nat} (hT : I 311 0 = nI T) (hT6 : T ≤ 6) (ht : t < T) (hk : I 311 (26 + 5 * t + 0) = nI 5) : xC l 3 0 0 yX6_ask cX6_ask 3 (some .int) 319 [.ref 307, .int (nI t), .int (nI 1)] I (xRL nw sp) (xpI (nI t + I 311 (26 + 5 * t + 3)) 319 (xput (xput (xput (xput (xput (xput I 307 0 (nI 0)) 307 24 (nI 0)) 318 (0) (nI 23)) 307 24 (nI (0 + 1))) 318 (0 + 1) (nI 20)) 307 24 (nI (0 + 1 + 1))) (xRL nw sp)) := by
  refine xC_of (by decide) (Nat.le_of_ble_eq_true rfl) (fun X hXl hX hR => ?_)
  have hX : xOK X RX6 cX6_ask 3 3 0 0 := hX
  show G X 319 0 0 I (xRL nw sp) 0 [(0, .ref 307), (1, .int (nI t)), (2, .int (nI 1))] []
  refine g_aload_n hX dX6_ask_0 rfl 0 rfl ?_
  refine g_iconst (v := nI 0) hX dX6_ask_1 (by decide) ?_
  refine g_putI hX (by decide) (by decide) xCl6 0 (by decide) (by decide) (by decide) kX6_44 dX6_ask_2 rfl rfl ?_
  refine g_aload_n hX dX6_ask_5 rfl 0 rfl ?_
  refine g_iload_n hX dX6_ask_6 rfl 1 rfl ?_
  refine g_callVi hX (as := [.int (nI t)]) (fun l => c_X6_isTree l (I := (xput I 307 0 (nI 0))) (T := T) (x := (nI t)) (hT := (by first | assumption | omega)) (hT6 := (by first | assumption | omega))) mX6_isTree vX6_isTree lX6_211 (by decide) (by decide) xCl6 rfl rfl dX6_ask_7 rfl (by decide) (Nat.le_of_ble_eq_true rfl) (by decide) (by decide) ?_
  refine g_top (y := xb (0 ≤ ((t : Nat) : Int) ∧ ((t : Nat) : Int) < T)) (by rw [nI_toInt (n := t) (by omega)]) ?_
  refine g_cb_eq (tgt := 23) hX dX6_ask_10 (by decide) (fun h10 => ?_) (fun h10 => ?_)
  · exfalso; omega
  · refine g_iload_n hX dX6_ask_13 rfl 2 rfl ?_
    refine g_i2l (v := (nI 1).toInt64) hX dX6_ask_14 rfl ?_
    refine g_lconst (v := 0) hX dX6_ask_15 (by decide) ?_
    refine g_lconst (v := 1) hX dX6_ask_16 (by decide) ?_
    refine g_callSi (as := [.long ((nI 1).toInt64), .long 0, .long 1]) hX (fun l => c_X6_in l) mX6_in sX6_in lX6_54 rfl dX6_ask_17 rfl (by decide) (Nat.le_of_ble_eq_true rfl) (by decide) (by decide) ?_
    refine g_top (y := xb ((0 : Int) ≤ (1 : Int) ∧ (1 : Int) ≤ (1 : Int))) (xb_iffI ((i64_of _).trans (by decide)) (by decide) (by decide)) ?_
    refine g_cb_ne (tgt := 26) hX dX6_ask_20 (by decide) (fun h20 => ?_) (fun h20 => ?_)
    · refine g_aload_n hX dX6_ask_26 rfl 0 rfl ?_
      refine g_iconst (v := nI 0) hX dX6_ask_27 (by decide) ?_
      refine g_putI hX (by decide) (by decide) xCl6 24 (by decide) (by decide) (by decide) kX6_280 dX6_ask_28 rfl rfl ?_
      refine g_iload_n hX dX6_ask_31 rfl 2 rfl ?_
      refine g_cz_ne (a := (1 : Int)) (tgt := 43) hX dX6_ask_32 (by decide) (by decide) (fun _ => ?_) (fun q => absurd q (by decide))
      refine g_aload_n hX dX6_ask_43 rfl 0 rfl ?_
      refine g_iload_n hX dX6_ask_44 rfl 1 rfl ?_
      refine g_callVi hX (as := [.int (nI t)]) (fun l => c_X6_markOf_5 l (I := (xput (xput I 307 0 (nI 0)) 307 24 (nI 0))) (t := t) (n := 0) (hn := xput_e) (hn8 := (by first | assumption | omega)) (ht := (by first | assumption | omega)) (hk := (xput_o (by decide) (xput_o (by decide) hk)))) mX6_markOf vX6_markOf lX6_289 (by decide) (by decide) xCl6 rfl rfl dX6_ask_45 rfl (by decide) (Nat.le_of_ble_eq_true rfl) (by decide) (by decide) ?_
      refine g_top (y := nI t + I 311 (26 + 5 * t + 3)) (by rw [show (xput (xput I 307 0 (nI 0)) 307 24 (nI 0)) 311 = I 311 from ((xput_ne (by decide)).trans ((xput_ne (by decide)).trans rfl))]) ?_
      exact g_iret hX hR dX6_ask_48 (by decide) (by decide) ⟨congrArg (fun z => some (Value.int z)) rfl, rfl, rfl, rfl⟩
    · exfalso; omega

theorem c_X6_trace_none (l : Launch) {nw sp : Nat} {I : xM} {n : Nat} {x : Int32} (hn : I 307 24 = nI n) (hn16 : n ≤ 16) (hb : ¬ (0 ≤ x.toInt ∧ x.toInt < n)) : xC l 2 0 0 yX6_trace cX6_trace 2 (some .int) 319 [.ref 307, .int x] I (xRL nw sp) (xpI (-1000000) 319 (xput I 307 0 (nI 0)) (xRL nw sp)) := by
  refine xC_of (by decide) (Nat.le_of_ble_eq_true rfl) (fun X hXl hX hR => ?_)
  have hX : xOK X RX6 cX6_trace 2 2 0 0 := hX
  show G X 319 0 0 I (xRL nw sp) 0 [(0, .ref 307), (1, .int x)] []
  refine g_aload_n hX dX6_trace_0 rfl 0 rfl ?_
  refine g_iconst (v := nI 0) hX dX6_trace_1 (by decide) ?_
  refine g_putI hX (by decide) (by decide) xCl6 0 (by decide) (by decide) (by decide) kX6_44 dX6_trace_2 rfl rfl ?_
  refine g_iload_n hX dX6_trace_5 rfl 1 rfl ?_
  refine g_i2l (v := x.toInt64) hX dX6_trace_6 rfl ?_
  refine g_lconst (v := 0) hX dX6_trace_7 (by decide) ?_
  refine g_aload_n hX dX6_trace_8 rfl 0 rfl ?_
  refine g_getI (v := nI n) hX (by decide) (by decide) xCl6 24 (by decide) (by decide) kX6_280 dX6_trace_9 (xput_i (by decide) hn) ?_
  refine g_iconst (v := nI 1) hX dX6_trace_12 (by decide) ?_
  refine g_isub (v := zI (((n : Nat) : Int) - ((1 : Nat) : Int))) hX dX6_trace_13 (zI_sub (((n : Nat) : Int)) (((1 : Nat) : Int))) ?_
  refine g_i2l (v := (zI (((n : Nat) : Int) - ((1 : Nat) : Int))).toInt64) hX dX6_trace_14 rfl ?_
  refine g_callSi (as := [.long x.toInt64, .long 0, .long ((zI (((n : Nat) : Int) - ((1 : Nat) : Int))).toInt64)]) hX (fun l => c_X6_in l) mX6_in sX6_in lX6_54 rfl dX6_trace_15 rfl (by decide) (Nat.le_of_ble_eq_true rfl) (by decide) (by decide) ?_
  refine g_top (y := xb ((0 : Int) ≤ x.toInt ∧ x.toInt ≤ (((n : Nat) : Int) - ((1 : Nat) : Int) : Int))) (xb_iffI ((i64_of _).trans rfl) (by decide) ((i64_of _).trans (zI_toInt (by omega) (by omega)))) ?_
  refine g_cb_eq (tgt := 30) hX dX6_trace_18 (by decide) (fun h18 => ?_) (fun h18 => ?_)
  · refine g_ldc (v := -1000000) hX cX6_80 dX6_trace_30 ?_
    exact g_iret hX hR dX6_trace_32 (by decide) (by decide) ⟨congrArg (fun z => some (Value.int z)) rfl, rfl, rfl, rfl⟩
  · exfalso; omega

theorem c_X6_trace_ok (l : Launch) {nw sp : Nat} {I : xM} {i n : Nat} (hn : I 307 24 = nI n) (hn16 : n ≤ 16) (hi : i < n) : xC l 2 0 0 yX6_trace cX6_trace 2 (some .int) 319 [.ref 307, .int (nI i)] I (xRL nw sp) (xpI (I 318 i) 319 (xput I 307 0 (nI 0)) (xRL nw sp)) := by
  refine xC_of (by decide) (Nat.le_of_ble_eq_true rfl) (fun X hXl hX hR => ?_)
  have hX : xOK X RX6 cX6_trace 2 2 0 0 := hX
  show G X 319 0 0 I (xRL nw sp) 0 [(0, .ref 307), (1, .int (nI i))] []
  refine g_aload_n hX dX6_trace_0 rfl 0 rfl ?_
  refine g_iconst (v := nI 0) hX dX6_trace_1 (by decide) ?_
  refine g_putI hX (by decide) (by decide) xCl6 0 (by decide) (by decide) (by decide) kX6_44 dX6_trace_2 rfl rfl ?_
  refine g_iload_n hX dX6_trace_5 rfl 1 rfl ?_
  refine g_i2l (v := (nI i).toInt64) hX dX6_trace_6 rfl ?_
  refine g_lconst (v := 0) hX dX6_trace_7 (by decide) ?_
  refine g_aload_n hX dX6_trace_8 rfl 0 rfl ?_
  refine g_getI (v := nI n) hX (by decide) (by decide) xCl6 24 (by decide) (by decide) kX6_280 dX6_trace_9 (xput_i (by decide) hn) ?_
  refine g_iconst (v := nI 1) hX dX6_trace_12 (by decide) ?_
  refine g_isub (v := zI (((n : Nat) : Int) - ((1 : Nat) : Int))) hX dX6_trace_13 (zI_sub (((n : Nat) : Int)) (((1 : Nat) : Int))) ?_
  refine g_i2l (v := (zI (((n : Nat) : Int) - ((1 : Nat) : Int))).toInt64) hX dX6_trace_14 rfl ?_
  refine g_callSi (as := [.long ((nI i).toInt64), .long 0, .long ((zI (((n : Nat) : Int) - ((1 : Nat) : Int))).toInt64)]) hX (fun l => c_X6_in l) mX6_in sX6_in lX6_54 rfl dX6_trace_15 rfl (by decide) (Nat.le_of_ble_eq_true rfl) (by decide) (by decide) ?_
  refine g_top (y := xb ((0 : Int) ≤ ((i : Nat) : Int) ∧ ((i : Nat) : Int) ≤ (((n : Nat) : Int) - ((1 : Nat) : Int) : Int))) (xb_iffI ((i64_of _).trans (nI_toInt (by omega))) (by decide) ((i64_of _).trans (zI_toInt (by omega) (by omega)))) ?_
  refine g_cb_eq (tgt := 30) hX dX6_trace_18 (by decide) (fun h18 => ?_) (fun h18 => ?_)
  · exfalso; omega
  · refine g_aload_n hX dX6_trace_21 rfl 0 rfl ?_
    refine g_getR (j := 318) hX (by decide) (by decide) xCl6 23 (by decide) (by decide) kX6_41 dX6_trace_22 rfl ?_
    refine g_iload_n hX dX6_trace_25 rfl 1 rfl ?_
    refine g_iald (v := I 318 i) hX (by decide) (by decide) i rfl (by rw [(show xN 318 = 16 by decide)]; omega) dX6_trace_26 (xput_o (by decide) rfl) ?_
    refine g_goto (tgt := 32) hX dX6_trace_27 (by decide) ?_
    exact g_iret hX hR dX6_trace_32 (by decide) (by decide) ⟨congrArg (fun z => some (Value.int z)) rfl, rfl, rfl, rfl⟩

theorem c_X6_count_bad (l : Launch) {nw sp : Nat} {I : xM} {x : Int32} (hb : ¬ (0 ≤ x.toInt ∧ x.toInt ≤ 6)) : xC l 1 0 0 yX6_count cX6_count 4 (some .int) 319 [.ref 307, .int x] I (xRL nw sp) (xpI (-1000001) 319 (xput I 307 0 (nI 0)) (xRL nw sp)) := by
  refine xC_of (by decide) (Nat.le_of_ble_eq_true rfl) (fun X hXl hX hR => ?_)
  have hX : xOK X RX6 cX6_count 4 1 0 0 := hX
  show G X 319 0 0 I (xRL nw sp) 0 [(0, .ref 307), (1, .int x)] []
  refine g_aload_n hX dX6_count_0 rfl 0 rfl ?_
  refine g_iconst (v := nI 0) hX dX6_count_1 (by decide) ?_
  refine g_putI hX (by decide) (by decide) xCl6 0 (by decide) (by decide) (by decide) kX6_44 dX6_count_2 rfl rfl ?_
  refine g_iconst (v := nI 0) hX dX6_count_5 (by decide) ?_
  refine g_istore_n (L' := [(0, .ref 307), (1, .int x), (2, .int (nI 0))]) hX dX6_count_6 rfl (by decide) rfl ?_
  refine g_iload_n hX dX6_count_7 rfl 1 rfl ?_
  rcases (show (x.toInt < 0 ∨ 6 < x.toInt) ∨ x.toInt = 0 ∨ x.toInt = 1 ∨ x.toInt = 2 ∨ x.toInt = 3 ∨ x.toInt = 4 ∨ x.toInt = 5 ∨ x.toInt = 6 by omega) with h8 | h8 | h8 | h8 | h8 | h8 | h8 | h8
  · refine g_tsO (a := x.toInt) (tgt := 111) hX dX6_count_8 rfl h8 (by decide) ?_
    refine g_ldc (v := -1000001) hX cX6_64 dX6_count_111 ?_
    exact g_iret hX hR dX6_count_113 (by decide) (by decide) ⟨congrArg (fun z => some (Value.int z)) rfl, rfl, rfl, rfl⟩
  · exfalso; omega
  · exfalso; omega
  · exfalso; omega
  · exfalso; omega
  · exfalso; omega
  · exfalso; omega
  · exfalso; omega

theorem c_X6_count_ok0 (l : Launch) {nw sp : Nat} {I : xM}   : xC l 1 0 0 yX6_count cX6_count 4 (some .int) 319 [.ref 307, .int (nI 0)] I (xRL nw sp) (xpI (nI (cntP (fun r => 0 ≤ (I 308 r).toInt) 8)) 319 (xput I 307 0 (nI 0)) (xRL nw sp)) := by
  refine xC_of (by decide) (Nat.le_of_ble_eq_true rfl) (fun X hXl hX hR => ?_)
  have hX : xOK X RX6 cX6_count 4 1 0 0 := hX
  show G X 319 0 0 I (xRL nw sp) 0 [(0, .ref 307), (1, .int (nI 0))] []
  refine g_aload_n hX dX6_count_0 rfl 0 rfl ?_
  refine g_iconst (v := nI 0) hX dX6_count_1 (by decide) ?_
  refine g_putI hX (by decide) (by decide) xCl6 0 (by decide) (by decide) (by decide) kX6_44 dX6_count_2 rfl rfl ?_
  refine g_iconst (v := nI 0) hX dX6_count_5 (by decide) ?_
  refine g_istore_n (L' := [(0, .ref 307), (1, .int (nI 0)), (2, .int (nI 0))]) hX dX6_count_6 rfl (by decide) rfl ?_
  refine g_iload_n hX dX6_count_7 rfl 1 rfl ?_
  refine g_tsI (a := (0 : Int)) (v := 0) (tgt := 52) hX dX6_count_8 (by decide) rfl (by decide) (by decide) rfl (by decide) ?_
  refine g_iconst (v := nI 0) hX dX6_count_52 (by decide) ?_
  refine g_istore_n (L' := [(0, .ref 307), (1, .int (nI 0)), (2, .int (nI 0)), (3, .int (nI 0))]) hX dX6_count_53 rfl (by decide) rfl ?_
  have cut54 : ∀ (fuel : Nat) (c k : Nat) (hk : k ≤ 8) (hc : c = cntP (fun r => 0 ≤ (I 308 r).toInt) k), 8 - k < fuel → G X 319 0 0 (xput I 307 0 (nI 0)) (xRL nw sp) 54 [(0, .ref 307), (1, .int (nI 0)), (2, .int (nI c)), (3, .int (nI k))] [] := by
    intro fuel
    induction fuel with
    | zero => intro c k hk hc hfuel; omega
    | succ fuel ih =>
      intro c k hk hc hfuel
      have hc8 := cnt_le (P := (fun r => 0 ≤ (I 308 r).toInt)) k
      refine g_iload_n hX dX6_count_54 rfl 3 rfl ?_
      refine g_bipush (v := nI 8) hX dX6_count_55 (by decide) ?_
      refine g_ci_ge (a := ((k : Nat) : Int)) (b := (8 : Int)) (tgt := 83) hX dX6_count_57 (by decide) (nI_toInt (by omega)) (by decide) (fun h57 => ?_) (fun h57 => ?_)
      · refine g_iload_n hX dX6_count_83 rfl 2 rfl ?_
        exact g_iret hX hR dX6_count_84 (by decide) (by decide) ⟨congrArg (fun z => some (Value.int z)) (by rw [hc, show k = 8 by omega]), rfl, rfl, rfl⟩
      · refine g_iload_n hX dX6_count_60 rfl 2 rfl ?_
        refine g_aload_n hX dX6_count_61 rfl 0 rfl ?_
        refine g_getR (j := 308) hX (by decide) (by decide) xCl6 2 (by decide) (by decide) kX6_7 dX6_count_62 rfl ?_
        refine g_iload_n hX dX6_count_65 rfl 3 rfl ?_
        refine g_iald (v := (xput I 307 0 (nI 0)) 308 k) hX (by decide) (by decide) k rfl (by rw [(show xN 308 = 8 by decide)]; omega) dX6_count_66 rfl ?_
        refine g_cz_lt (a := ((xput I 307 0 (nI 0)) 308 k).toInt) (tgt := 74) hX dX6_count_67 (by decide) rfl (fun h67 => ?_) (fun h67 => ?_)
        · refine g_iconst (v := nI 0) hX dX6_count_74 (by decide) ?_
          refine g_iadd (v := nI (c + 0)) hX dX6_count_75 (nI_add c 0) ?_
          refine g_istore_n (L' := [(0, .ref 307), (1, .int (nI 0)), (2, .int (nI (c + 0))), (3, .int (nI k))]) hX dX6_count_76 rfl (by decide) rfl ?_
          refine g_iinc (v := nI (k + 1)) (L' := [(0, .ref 307), (1, .int (nI 0)), (2, .int (nI (c + 0))), (3, .int (nI (k + 1)))]) hX dX6_count_77 (by decide) 3 rfl (nI_add k 1) rfl ?_
          refine g_goto (tgt := 54) hX dX6_count_80 (by decide) ?_
          exact ih (c + 0) (k + 1) (by first | assumption | omega) (by first | exact cnt_f hc (fun q => absurd h67 (Int.not_lt.mpr q)) | exact cnt_t hc h67) (by omega)
        · refine g_iconst (v := nI 1) hX dX6_count_70 (by decide) ?_
          refine g_goto (tgt := 75) hX dX6_count_71 (by decide) ?_
          refine g_iadd (v := nI (c + 1)) hX dX6_count_75 (nI_add c 1) ?_
          refine g_istore_n (L' := [(0, .ref 307), (1, .int (nI 0)), (2, .int (nI (c + 1))), (3, .int (nI k))]) hX dX6_count_76 rfl (by decide) rfl ?_
          refine g_iinc (v := nI (k + 1)) (L' := [(0, .ref 307), (1, .int (nI 0)), (2, .int (nI (c + 1))), (3, .int (nI (k + 1)))]) hX dX6_count_77 (by decide) 3 rfl (nI_add k 1) rfl ?_
          refine g_goto (tgt := 54) hX dX6_count_80 (by decide) ?_
          exact ih (c + 1) (k + 1) (by first | assumption | omega) (by first | exact cnt_f hc (fun q => absurd h67 (Int.not_lt.mpr q)) | exact cnt_t hc h67) (by omega)
  exact cut54 _ 0 0 (by first | assumption | omega) rfl (Nat.lt_succ_self _)

theorem c_X6_count_ok1 (l : Launch) {nw sp : Nat} {I : xM}   : xC l 1 0 0 yX6_count cX6_count 4 (some .int) 319 [.ref 307, .int (nI 1)] I (xRL nw sp) (xpI (I 311 0) 319 (xput I 307 0 (nI 0)) (xRL nw sp)) := by
  refine xC_of (by decide) (Nat.le_of_ble_eq_true rfl) (fun X hXl hX hR => ?_)
  have hX : xOK X RX6 cX6_count 4 1 0 0 := hX
  show G X 319 0 0 I (xRL nw sp) 0 [(0, .ref 307), (1, .int (nI 1))] []
  refine g_aload_n hX dX6_count_0 rfl 0 rfl ?_
  refine g_iconst (v := nI 0) hX dX6_count_1 (by decide) ?_
  refine g_putI hX (by decide) (by decide) xCl6 0 (by decide) (by decide) (by decide) kX6_44 dX6_count_2 rfl rfl ?_
  refine g_iconst (v := nI 0) hX dX6_count_5 (by decide) ?_
  refine g_istore_n (L' := [(0, .ref 307), (1, .int (nI 1)), (2, .int (nI 0))]) hX dX6_count_6 rfl (by decide) rfl ?_
  refine g_iload_n hX dX6_count_7 rfl 1 rfl ?_
  refine g_tsI (a := (1 : Int)) (v := 1) (tgt := 85) hX dX6_count_8 (by decide) rfl (by decide) (by decide) rfl (by decide) ?_
  refine g_aload_n hX dX6_count_85 rfl 0 rfl ?_
  refine g_getR (j := 311) hX (by decide) (by decide) xCl6 5 (by decide) (by decide) kX6_19 dX6_count_86 rfl ?_
  refine g_iload_n hX dX6_count_89 rfl 1 rfl ?_
  refine g_iconst (v := nI 1) hX dX6_count_90 (by decide) ?_
  refine g_isub (v := nI 0) hX dX6_count_91 (nI_sub (show 1 ≤ 1 by omega)) ?_
  refine g_iald (v := I 311 0) hX (by decide) (by decide) 0 rfl (by rw [(show xN 311 = 74 by decide)]; decide) dX6_count_92 (xput_o (by decide) rfl) ?_
  exact g_iret hX hR dX6_count_93 (by decide) (by decide) ⟨congrArg (fun z => some (Value.int z)) rfl, rfl, rfl, rfl⟩

theorem c_X6_count_ok2 (l : Launch) {nw sp : Nat} {I : xM}   : xC l 1 0 0 yX6_count cX6_count 4 (some .int) 319 [.ref 307, .int (nI 2)] I (xRL nw sp) (xpI (I 311 1) 319 (xput I 307 0 (nI 0)) (xRL nw sp)) := by
  refine xC_of (by decide) (Nat.le_of_ble_eq_true rfl) (fun X hXl hX hR => ?_)
  have hX : xOK X RX6 cX6_count 4 1 0 0 := hX
  show G X 319 0 0 I (xRL nw sp) 0 [(0, .ref 307), (1, .int (nI 2))] []
  refine g_aload_n hX dX6_count_0 rfl 0 rfl ?_
  refine g_iconst (v := nI 0) hX dX6_count_1 (by decide) ?_
  refine g_putI hX (by decide) (by decide) xCl6 0 (by decide) (by decide) (by decide) kX6_44 dX6_count_2 rfl rfl ?_
  refine g_iconst (v := nI 0) hX dX6_count_5 (by decide) ?_
  refine g_istore_n (L' := [(0, .ref 307), (1, .int (nI 2)), (2, .int (nI 0))]) hX dX6_count_6 rfl (by decide) rfl ?_
  refine g_iload_n hX dX6_count_7 rfl 1 rfl ?_
  refine g_tsI (a := (2 : Int)) (v := 2) (tgt := 85) hX dX6_count_8 (by decide) rfl (by decide) (by decide) rfl (by decide) ?_
  refine g_aload_n hX dX6_count_85 rfl 0 rfl ?_
  refine g_getR (j := 311) hX (by decide) (by decide) xCl6 5 (by decide) (by decide) kX6_19 dX6_count_86 rfl ?_
  refine g_iload_n hX dX6_count_89 rfl 1 rfl ?_
  refine g_iconst (v := nI 1) hX dX6_count_90 (by decide) ?_
  refine g_isub (v := nI 1) hX dX6_count_91 (nI_sub (show 1 ≤ 2 by omega)) ?_
  refine g_iald (v := I 311 1) hX (by decide) (by decide) 1 rfl (by rw [(show xN 311 = 74 by decide)]; decide) dX6_count_92 (xput_o (by decide) rfl) ?_
  exact g_iret hX hR dX6_count_93 (by decide) (by decide) ⟨congrArg (fun z => some (Value.int z)) rfl, rfl, rfl, rfl⟩

theorem c_X6_count_ok3 (l : Launch) {nw sp : Nat} {I : xM}   : xC l 1 0 0 yX6_count cX6_count 4 (some .int) 319 [.ref 307, .int (nI 3)] I (xRL nw sp) (xpI (I 311 2) 319 (xput I 307 0 (nI 0)) (xRL nw sp)) := by
  refine xC_of (by decide) (Nat.le_of_ble_eq_true rfl) (fun X hXl hX hR => ?_)
  have hX : xOK X RX6 cX6_count 4 1 0 0 := hX
  show G X 319 0 0 I (xRL nw sp) 0 [(0, .ref 307), (1, .int (nI 3))] []
  refine g_aload_n hX dX6_count_0 rfl 0 rfl ?_
  refine g_iconst (v := nI 0) hX dX6_count_1 (by decide) ?_
  refine g_putI hX (by decide) (by decide) xCl6 0 (by decide) (by decide) (by decide) kX6_44 dX6_count_2 rfl rfl ?_
  refine g_iconst (v := nI 0) hX dX6_count_5 (by decide) ?_
  refine g_istore_n (L' := [(0, .ref 307), (1, .int (nI 3)), (2, .int (nI 0))]) hX dX6_count_6 rfl (by decide) rfl ?_
  refine g_iload_n hX dX6_count_7 rfl 1 rfl ?_
  refine g_tsI (a := (3 : Int)) (v := 3) (tgt := 85) hX dX6_count_8 (by decide) rfl (by decide) (by decide) rfl (by decide) ?_
  refine g_aload_n hX dX6_count_85 rfl 0 rfl ?_
  refine g_getR (j := 311) hX (by decide) (by decide) xCl6 5 (by decide) (by decide) kX6_19 dX6_count_86 rfl ?_
  refine g_iload_n hX dX6_count_89 rfl 1 rfl ?_
  refine g_iconst (v := nI 1) hX dX6_count_90 (by decide) ?_
  refine g_isub (v := nI 2) hX dX6_count_91 (nI_sub (show 1 ≤ 3 by omega)) ?_
  refine g_iald (v := I 311 2) hX (by decide) (by decide) 2 rfl (by rw [(show xN 311 = 74 by decide)]; decide) dX6_count_92 (xput_o (by decide) rfl) ?_
  exact g_iret hX hR dX6_count_93 (by decide) (by decide) ⟨congrArg (fun z => some (Value.int z)) rfl, rfl, rfl, rfl⟩

theorem c_X6_count_ok4 (l : Launch) {nw sp : Nat} {I : xM}   : xC l 1 0 0 yX6_count cX6_count 4 (some .int) 319 [.ref 307, .int (nI 4)] I (xRL nw sp) (xpI (I 307 9) 319 (xput I 307 0 (nI 0)) (xRL nw sp)) := by
  refine xC_of (by decide) (Nat.le_of_ble_eq_true rfl) (fun X hXl hX hR => ?_)
  have hX : xOK X RX6 cX6_count 4 1 0 0 := hX
  show G X 319 0 0 I (xRL nw sp) 0 [(0, .ref 307), (1, .int (nI 4))] []
  refine g_aload_n hX dX6_count_0 rfl 0 rfl ?_
  refine g_iconst (v := nI 0) hX dX6_count_1 (by decide) ?_
  refine g_putI hX (by decide) (by decide) xCl6 0 (by decide) (by decide) (by decide) kX6_44 dX6_count_2 rfl rfl ?_
  refine g_iconst (v := nI 0) hX dX6_count_5 (by decide) ?_
  refine g_istore_n (L' := [(0, .ref 307), (1, .int (nI 4)), (2, .int (nI 0))]) hX dX6_count_6 rfl (by decide) rfl ?_
  refine g_iload_n hX dX6_count_7 rfl 1 rfl ?_
  refine g_tsI (a := (4 : Int)) (v := 4) (tgt := 94) hX dX6_count_8 (by decide) rfl (by decide) (by decide) rfl (by decide) ?_
  refine g_aload_n hX dX6_count_94 rfl 0 rfl ?_
  refine g_getI (v := I 307 9) hX (by decide) (by decide) xCl6 9 (by decide) (by decide) kX6_190 dX6_count_95 (xput_i (by decide) rfl) ?_
  exact g_iret hX hR dX6_count_98 (by decide) (by decide) ⟨congrArg (fun z => some (Value.int z)) rfl, rfl, rfl, rfl⟩

theorem c_X6_count_ok5 (l : Launch) {nw sp : Nat} {I : xM}   : xC l 1 0 0 yX6_count cX6_count 4 (some .int) 319 [.ref 307, .int (nI 5)] I (xRL nw sp) (xpI (I 311 3) 319 (xput I 307 0 (nI 0)) (xRL nw sp)) := by
  refine xC_of (by decide) (Nat.le_of_ble_eq_true rfl) (fun X hXl hX hR => ?_)
  have hX : xOK X RX6 cX6_count 4 1 0 0 := hX
  show G X 319 0 0 I (xRL nw sp) 0 [(0, .ref 307), (1, .int (nI 5))] []
  refine g_aload_n hX dX6_count_0 rfl 0 rfl ?_
  refine g_iconst (v := nI 0) hX dX6_count_1 (by decide) ?_
  refine g_putI hX (by decide) (by decide) xCl6 0 (by decide) (by decide) (by decide) kX6_44 dX6_count_2 rfl rfl ?_
  refine g_iconst (v := nI 0) hX dX6_count_5 (by decide) ?_
  refine g_istore_n (L' := [(0, .ref 307), (1, .int (nI 5)), (2, .int (nI 0))]) hX dX6_count_6 rfl (by decide) rfl ?_
  refine g_iload_n hX dX6_count_7 rfl 1 rfl ?_
  refine g_tsI (a := (5 : Int)) (v := 5) (tgt := 99) hX dX6_count_8 (by decide) rfl (by decide) (by decide) rfl (by decide) ?_
  refine g_aload_n hX dX6_count_99 rfl 0 rfl ?_
  refine g_getR (j := 311) hX (by decide) (by decide) xCl6 5 (by decide) (by decide) kX6_19 dX6_count_100 rfl ?_
  refine g_iconst (v := nI 3) hX dX6_count_103 (by decide) ?_
  refine g_iald (v := I 311 3) hX (by decide) (by decide) 3 rfl (by rw [(show xN 311 = 74 by decide)]; decide) dX6_count_104 (xput_o (by decide) rfl) ?_
  exact g_iret hX hR dX6_count_105 (by decide) (by decide) ⟨congrArg (fun z => some (Value.int z)) rfl, rfl, rfl, rfl⟩

theorem c_X6_count_ok6 (l : Launch) {nw sp : Nat} {I : xM}   : xC l 1 0 0 yX6_count cX6_count 4 (some .int) 319 [.ref 307, .int (nI 6)] I (xRL nw sp) (xpI (I 307 11) 319 (xput I 307 0 (nI 0)) (xRL nw sp)) := by
  refine xC_of (by decide) (Nat.le_of_ble_eq_true rfl) (fun X hXl hX hR => ?_)
  have hX : xOK X RX6 cX6_count 4 1 0 0 := hX
  show G X 319 0 0 I (xRL nw sp) 0 [(0, .ref 307), (1, .int (nI 6))] []
  refine g_aload_n hX dX6_count_0 rfl 0 rfl ?_
  refine g_iconst (v := nI 0) hX dX6_count_1 (by decide) ?_
  refine g_putI hX (by decide) (by decide) xCl6 0 (by decide) (by decide) (by decide) kX6_44 dX6_count_2 rfl rfl ?_
  refine g_iconst (v := nI 0) hX dX6_count_5 (by decide) ?_
  refine g_istore_n (L' := [(0, .ref 307), (1, .int (nI 6)), (2, .int (nI 0))]) hX dX6_count_6 rfl (by decide) rfl ?_
  refine g_iload_n hX dX6_count_7 rfl 1 rfl ?_
  refine g_tsI (a := (6 : Int)) (v := 6) (tgt := 106) hX dX6_count_8 (by decide) rfl (by decide) (by decide) rfl (by decide) ?_
  refine g_aload_n hX dX6_count_106 rfl 0 rfl ?_
  refine g_getI (v := I 307 11) hX (by decide) (by decide) xCl6 11 (by decide) (by decide) kX6_71 dX6_count_107 (xput_i (by decide) rfl) ?_
  exact g_iret hX hR dX6_count_110 (by decide) (by decide) ⟨congrArg (fun z => some (Value.int z)) rfl, rfl, rfl, rfl⟩
