theorem c_X6_fault (l : Launch) {nw sp : Nat} {I : xM}   : xC l 1 0 0 yX6_fault cX6_fault 1 (some .int) 319 [.ref 307] I (xRL nw sp) (xpI (I 307 12) 319 (xput I 307 0 (nI 0)) (xRL nw sp)) := by
  refine xC_of (by decide) (Nat.le_of_ble_eq_true rfl) (fun X hXl hX hR => ?_)
  have hX : xOK X RX6 cX6_fault 1 1 0 0 := hX
  show G X 319 0 0 I (xRL nw sp) 0 [(0, .ref 307)] []
  refine g_aload_n hX dX6_fault_0 rfl 0 rfl ?_
  refine g_iconst (v := nI 0) hX dX6_fault_1 (by decide) ?_
  refine g_putI hX (by decide) (by decide) xCl6 0 (by decide) (by decide) (by decide) kX6_44 dX6_fault_2 rfl rfl ?_
  refine g_aload_n hX dX6_fault_5 rfl 0 rfl ?_
  refine g_getI (v := I 307 12) hX (by decide) (by decide) xCl6 12 (by decide) (by decide) kX6_182 dX6_fault_6 (xput_i (by decide) rfl) ?_
  exact g_iret hX hR dX6_fault_9 (by decide) (by decide) ⟨congrArg (fun z => some (Value.int z)) rfl, rfl, rfl, rfl⟩

theorem c_X6_status (l : Launch) {nw sp : Nat} {I : xM}   : xC l 1 0 0 yX6_status cX6_status 1 (some .int) 319 [.ref 307] I (xRL nw sp) (xpI (I 307 1) 319 (xput I 307 0 (nI 0)) (xRL nw sp)) := by
  refine xC_of (by decide) (Nat.le_of_ble_eq_true rfl) (fun X hXl hX hR => ?_)
  have hX : xOK X RX6 cX6_status 1 1 0 0 := hX
  show G X 319 0 0 I (xRL nw sp) 0 [(0, .ref 307)] []
  refine g_aload_n hX dX6_status_0 rfl 0 rfl ?_
  refine g_iconst (v := nI 0) hX dX6_status_1 (by decide) ?_
  refine g_putI hX (by decide) (by decide) xCl6 0 (by decide) (by decide) (by decide) kX6_44 dX6_status_2 rfl rfl ?_
  refine g_aload_n hX dX6_status_5 rfl 0 rfl ?_
  refine g_getI (v := I 307 1) hX (by decide) (by decide) xCl6 1 (by decide) (by decide) kX6_48 dX6_status_6 (xput_i (by decide) rfl) ?_
  exact g_iret hX hR dX6_status_9 (by decide) (by decide) ⟨congrArg (fun z => some (Value.int z)) rfl, rfl, rfl, rfl⟩

theorem c_X6_years_none (l : Launch) {nw sp : Nat} {I : xM} {x : Int32} (hst : I 307 7 = nI 0) : xC l 1 0 0 yX6_years cX6_years 2 (some .int) 319 [.ref 307, .int x] I (xRL nw sp) (xpI (-1000002) 319 (xput I 307 0 (nI 0)) (xRL nw sp)) := by
  refine xC_of (by decide) (Nat.le_of_ble_eq_true rfl) (fun X hXl hX hR => ?_)
  have hX : xOK X RX6 cX6_years 2 1 0 0 := hX
  show G X 319 0 0 I (xRL nw sp) 0 [(0, .ref 307), (1, .int x)] []
  refine g_aload_n hX dX6_years_0 rfl 0 rfl ?_
  refine g_iconst (v := nI 0) hX dX6_years_1 (by decide) ?_
  refine g_putI hX (by decide) (by decide) xCl6 0 (by decide) (by decide) (by decide) kX6_44 dX6_years_2 rfl rfl ?_
  refine g_aload_n hX dX6_years_5 rfl 0 rfl ?_
  refine g_getI (v := nI 0) hX (by decide) (by decide) xCl6 7 (by decide) (by decide) kX6_186 dX6_years_6 (xput_i (by decide) hst) ?_
  refine g_cz_ne (a := (0 : Int)) (tgt := 15) hX dX6_years_9 (by decide) (by decide) (fun q => absurd q (by decide)) (fun _ => ?_)
  refine g_ldc (v := -1000002) hX cX6_205 dX6_years_12 ?_
  exact g_iret hX hR dX6_years_14 (by decide) (by decide) ⟨congrArg (fun z => some (Value.int z)) rfl, rfl, rfl, rfl⟩

theorem c_X6_years_bad (l : Launch) {nw sp : Nat} {I : xM} {x : Int32} (hst : I 307 7 = nI 1) (hb : ¬ (1 ≤ x.toInt ∧ x.toInt ≤ 99)) : xC l 2 0 0 yX6_years cX6_years 2 (some .int) 319 [.ref 307, .int x] I (xRL nw sp) (xpI (-1000001) 319 (xput I 307 0 (nI 0)) (xRL nw sp)) := by
  refine xC_of (by decide) (Nat.le_of_ble_eq_true rfl) (fun X hXl hX hR => ?_)
  have hX : xOK X RX6 cX6_years 2 2 0 0 := hX
  show G X 319 0 0 I (xRL nw sp) 0 [(0, .ref 307), (1, .int x)] []
  refine g_aload_n hX dX6_years_0 rfl 0 rfl ?_
  refine g_iconst (v := nI 0) hX dX6_years_1 (by decide) ?_
  refine g_putI hX (by decide) (by decide) xCl6 0 (by decide) (by decide) (by decide) kX6_44 dX6_years_2 rfl rfl ?_
  refine g_aload_n hX dX6_years_5 rfl 0 rfl ?_
  refine g_getI (v := nI 1) hX (by decide) (by decide) xCl6 7 (by decide) (by decide) kX6_186 dX6_years_6 (xput_i (by decide) hst) ?_
  refine g_cz_ne (a := (1 : Int)) (tgt := 15) hX dX6_years_9 (by decide) (by decide) (fun _ => ?_) (fun q => absurd q (by decide))
  refine g_iload_n hX dX6_years_15 rfl 1 rfl ?_
  refine g_i2l (v := x.toInt64) hX dX6_years_16 rfl ?_
  refine g_lconst (v := 1) hX dX6_years_17 (by decide) ?_
  refine g_ldc2 (v := 99) hX cX6_206 dX6_years_18 ?_
  refine g_callSi (as := [.long x.toInt64, .long 1, .long (99)]) hX (fun l => c_X6_in l) mX6_in sX6_in lX6_54 rfl dX6_years_21 rfl (by decide) (Nat.le_of_ble_eq_true rfl) (by decide) (by decide) ?_
  refine g_top (y := xb ((1 : Int) ≤ x.toInt ∧ x.toInt ≤ (99 : Int))) (xb_iffI ((i64_of _).trans rfl) (by decide) (by decide)) ?_
  refine g_cb_ne (tgt := 30) hX dX6_years_24 (by decide) (fun h24 => ?_) (fun h24 => ?_)
  · exfalso; omega
  · refine g_ldc (v := -1000001) hX cX6_64 dX6_years_27 ?_
    exact g_iret hX hR dX6_years_29 (by decide) (by decide) ⟨congrArg (fun z => some (Value.int z)) rfl, rfl, rfl, rfl⟩

theorem c_X6_years_full (l : Launch) {nw sp : Nat} {I : xM} {n y : Nat} (hst : I 307 7 = nI 1) (hy : I 311 2 = nI y) (hn : 1 ≤ n) (hn9 : n ≤ 99) (hy9 : y ≤ 999) (hf : 999 < y + n) : xC l 2 0 0 yX6_years cX6_years 2 (some .int) 319 [.ref 307, .int (nI n)] I (xRL nw sp) (xpI (-1000003) 319 (xput I 307 0 (nI 0)) (xRL nw sp)) := by
  refine xC_of (by decide) (Nat.le_of_ble_eq_true rfl) (fun X hXl hX hR => ?_)
  have hX : xOK X RX6 cX6_years 2 2 0 0 := hX
  show G X 319 0 0 I (xRL nw sp) 0 [(0, .ref 307), (1, .int (nI n))] []
  refine g_aload_n hX dX6_years_0 rfl 0 rfl ?_
  refine g_iconst (v := nI 0) hX dX6_years_1 (by decide) ?_
  refine g_putI hX (by decide) (by decide) xCl6 0 (by decide) (by decide) (by decide) kX6_44 dX6_years_2 rfl rfl ?_
  refine g_aload_n hX dX6_years_5 rfl 0 rfl ?_
  refine g_getI (v := nI 1) hX (by decide) (by decide) xCl6 7 (by decide) (by decide) kX6_186 dX6_years_6 (xput_i (by decide) hst) ?_
  refine g_cz_ne (a := (1 : Int)) (tgt := 15) hX dX6_years_9 (by decide) (by decide) (fun _ => ?_) (fun q => absurd q (by decide))
  refine g_iload_n hX dX6_years_15 rfl 1 rfl ?_
  refine g_i2l (v := (nI n).toInt64) hX dX6_years_16 rfl ?_
  refine g_lconst (v := 1) hX dX6_years_17 (by decide) ?_
  refine g_ldc2 (v := 99) hX cX6_206 dX6_years_18 ?_
  refine g_callSi (as := [.long ((nI n).toInt64), .long 1, .long (99)]) hX (fun l => c_X6_in l) mX6_in sX6_in lX6_54 rfl dX6_years_21 rfl (by decide) (Nat.le_of_ble_eq_true rfl) (by decide) (by decide) ?_
  refine g_top (y := xb ((1 : Int) ≤ ((n : Nat) : Int) ∧ ((n : Nat) : Int) ≤ (99 : Int))) (xb_iffI ((i64_of _).trans (nI_toInt (by omega))) (by decide) (by decide)) ?_
  refine g_cb_ne (tgt := 30) hX dX6_years_24 (by decide) (fun h24 => ?_) (fun h24 => ?_)
  · refine g_aload_n hX dX6_years_30 rfl 0 rfl ?_
    refine g_getR (j := 311) hX (by decide) (by decide) xCl6 5 (by decide) (by decide) kX6_19 dX6_years_31 rfl ?_
    refine g_iconst (v := nI 2) hX dX6_years_34 (by decide) ?_
    refine g_iald (v := nI y) hX (by decide) (by decide) 2 rfl (by rw [(show xN 311 = 74 by decide)]; decide) dX6_years_35 (xput_o (by decide) hy) ?_
    refine g_iload_n hX dX6_years_36 rfl 1 rfl ?_
    refine g_iadd (v := nI (y + n)) hX dX6_years_37 (nI_add y n) ?_
    refine g_sipush (v := nI 999) hX dX6_years_38 (by decide) ?_
    refine g_ci_le (a := ((y + n : Nat) : Int)) (b := (999 : Int)) (tgt := 47) hX dX6_years_41 (by decide) (nI_toInt (by omega)) (by decide) (fun h41 => ?_) (fun h41 => ?_)
    · exfalso; omega
    · refine g_ldc (v := -1000003) hX cX6_74 dX6_years_44 ?_
      exact g_iret hX hR dX6_years_46 (by decide) (by decide) ⟨congrArg (fun z => some (Value.int z)) rfl, rfl, rfl, rfl⟩
  · exfalso; omega

theorem c_X6_years_oklt (l : Launch) {nw sp : Nat} {I : xM} {n y : Nat} {D : Nat} (hst : I 307 7 = nI 1) (hy : I 311 2 = nI y) (hn : 1 ≤ n) (hn9 : n ≤ 99) (hf : y + n ≤ 999) (hD : I 307 9 = nI D) (hD24 : D < 24) : xC l 2 0 0 yX6_years cX6_years 2 (some .int) 319 [.ref 307, .int (nI n)] I (xRL nw sp) (xpI (nI (y + n)) 319 (xput (xput (xrow (xput I 307 0 (nI 0)) 313 (xfill (I 313) (I 311) (74 * D) 74)) 307 9 (nI (D + 1))) 311 2 (nI (y + n))) (xRL nw sp)) := by
  refine xC_of (by decide) (Nat.le_of_ble_eq_true rfl) (fun X hXl hX hR => ?_)
  have hX : xOK X RX6 cX6_years 2 2 0 0 := hX
  show G X 319 0 0 I (xRL nw sp) 0 [(0, .ref 307), (1, .int (nI n))] []
  refine g_aload_n hX dX6_years_0 rfl 0 rfl ?_
  refine g_iconst (v := nI 0) hX dX6_years_1 (by decide) ?_
  refine g_putI hX (by decide) (by decide) xCl6 0 (by decide) (by decide) (by decide) kX6_44 dX6_years_2 rfl rfl ?_
  refine g_aload_n hX dX6_years_5 rfl 0 rfl ?_
  refine g_getI (v := nI 1) hX (by decide) (by decide) xCl6 7 (by decide) (by decide) kX6_186 dX6_years_6 (xput_i (by decide) hst) ?_
  refine g_cz_ne (a := (1 : Int)) (tgt := 15) hX dX6_years_9 (by decide) (by decide) (fun _ => ?_) (fun q => absurd q (by decide))
  refine g_iload_n hX dX6_years_15 rfl 1 rfl ?_
  refine g_i2l (v := (nI n).toInt64) hX dX6_years_16 rfl ?_
  refine g_lconst (v := 1) hX dX6_years_17 (by decide) ?_
  refine g_ldc2 (v := 99) hX cX6_206 dX6_years_18 ?_
  refine g_callSi (as := [.long ((nI n).toInt64), .long 1, .long (99)]) hX (fun l => c_X6_in l) mX6_in sX6_in lX6_54 rfl dX6_years_21 rfl (by decide) (Nat.le_of_ble_eq_true rfl) (by decide) (by decide) ?_
  refine g_top (y := xb ((1 : Int) ≤ ((n : Nat) : Int) ∧ ((n : Nat) : Int) ≤ (99 : Int))) (xb_iffI ((i64_of _).trans (nI_toInt (by omega))) (by decide) (by decide)) ?_
  refine g_cb_ne (tgt := 30) hX dX6_years_24 (by decide) (fun h24 => ?_) (fun h24 => ?_)
  · refine g_aload_n hX dX6_years_30 rfl 0 rfl ?_
    refine g_getR (j := 311) hX (by decide) (by decide) xCl6 5 (by decide) (by decide) kX6_19 dX6_years_31 rfl ?_
    refine g_iconst (v := nI 2) hX dX6_years_34 (by decide) ?_
    refine g_iald (v := nI y) hX (by decide) (by decide) 2 rfl (by rw [(show xN 311 = 74 by decide)]; decide) dX6_years_35 (xput_o (by decide) hy) ?_
    refine g_iload_n hX dX6_years_36 rfl 1 rfl ?_
    refine g_iadd (v := nI (y + n)) hX dX6_years_37 (nI_add y n) ?_
    refine g_sipush (v := nI 999) hX dX6_years_38 (by decide) ?_
    refine g_ci_le (a := ((y + n : Nat) : Int)) (b := (999 : Int)) (tgt := 47) hX dX6_years_41 (by decide) (nI_toInt (by omega)) (by decide) (fun h41 => ?_) (fun h41 => ?_)
    · refine g_aload_n hX dX6_years_47 rfl 0 rfl ?_
      refine g_callVv hX (as := []) (fun l => c_X6_keep_lt l (I := (xput I 307 0 (nI 0))) (D := D) (hD := (by first | assumption | omega)) (hD24 := (by first | assumption | omega))) mX6_keep vX6_keep lX6_208 (by decide) (by decide) xCl6 rfl rfl dX6_years_48 rfl (by decide) (Nat.le_of_ble_eq_true rfl) (by decide) (by decide) ?_
      refine g_aload_n hX dX6_years_51 rfl 0 rfl ?_
      refine g_getR (j := 311) hX (by decide) (by decide) xCl6 5 (by decide) (by decide) kX6_19 dX6_years_52 rfl ?_
      refine g_iconst (v := nI 2) hX dX6_years_55 (by decide) ?_
      refine g_dup2 hX rfl rfl dX6_years_56 ?_
      refine g_iald (v := nI y) hX (by decide) (by decide) 2 rfl (by rw [(show xN 311 = 74 by decide)]; decide) dX6_years_57 hy ?_
      refine g_iload_n hX dX6_years_58 rfl 1 rfl ?_
      refine g_iadd (v := nI (y + n)) hX dX6_years_59 (nI_add y n) ?_
      refine g_iast hX (by decide) (by decide) 2 rfl (by rw [(show xN 311 = 74 by decide)]; decide) dX6_years_60 ?_
      refine g_aload_n hX dX6_years_61 rfl 0 rfl ?_
      refine g_getR (j := 311) hX (by decide) (by decide) xCl6 5 (by decide) (by decide) kX6_19 dX6_years_62 rfl ?_
      refine g_iconst (v := nI 2) hX dX6_years_65 (by decide) ?_
      refine g_iald (v := nI (y + n)) hX (by decide) (by decide) 2 rfl (by rw [(show xN 311 = 74 by decide)]; decide) dX6_years_66 xput_e ?_
      exact g_iret hX hR dX6_years_67 (by decide) (by decide) ⟨congrArg (fun z => some (Value.int z)) rfl, rfl, rfl, rfl⟩
    · exfalso; omega
  · exfalso; omega

theorem c_X6_years_okeq (l : Launch) {nw sp : Nat} {I : xM} {n y : Nat} (hst : I 307 7 = nI 1) (hy : I 311 2 = nI y) (hn : 1 ≤ n) (hn9 : n ≤ 99) (hf : y + n ≤ 999) (hD : I 307 9 = nI 24) : xC l 2 0 0 yX6_years cX6_years 2 (some .int) 319 [.ref 307, .int (nI n)] I (xRL nw sp) (xpI (nI (y + n)) 319 (xput (xrow (xput I 307 0 (nI 0)) 313 (xfill (xfill (I 313) (fun t => I 313 (t + 74)) 0 1702) (I 311) (74 * 23) 74)) 311 2 (nI (y + n))) (xRL nw sp)) := by
  refine xC_of (by decide) (Nat.le_of_ble_eq_true rfl) (fun X hXl hX hR => ?_)
  have hX : xOK X RX6 cX6_years 2 2 0 0 := hX
  show G X 319 0 0 I (xRL nw sp) 0 [(0, .ref 307), (1, .int (nI n))] []
  refine g_aload_n hX dX6_years_0 rfl 0 rfl ?_
  refine g_iconst (v := nI 0) hX dX6_years_1 (by decide) ?_
  refine g_putI hX (by decide) (by decide) xCl6 0 (by decide) (by decide) (by decide) kX6_44 dX6_years_2 rfl rfl ?_
  refine g_aload_n hX dX6_years_5 rfl 0 rfl ?_
  refine g_getI (v := nI 1) hX (by decide) (by decide) xCl6 7 (by decide) (by decide) kX6_186 dX6_years_6 (xput_i (by decide) hst) ?_
  refine g_cz_ne (a := (1 : Int)) (tgt := 15) hX dX6_years_9 (by decide) (by decide) (fun _ => ?_) (fun q => absurd q (by decide))
  refine g_iload_n hX dX6_years_15 rfl 1 rfl ?_
  refine g_i2l (v := (nI n).toInt64) hX dX6_years_16 rfl ?_
  refine g_lconst (v := 1) hX dX6_years_17 (by decide) ?_
  refine g_ldc2 (v := 99) hX cX6_206 dX6_years_18 ?_
  refine g_callSi (as := [.long ((nI n).toInt64), .long 1, .long (99)]) hX (fun l => c_X6_in l) mX6_in sX6_in lX6_54 rfl dX6_years_21 rfl (by decide) (Nat.le_of_ble_eq_true rfl) (by decide) (by decide) ?_
  refine g_top (y := xb ((1 : Int) ≤ ((n : Nat) : Int) ∧ ((n : Nat) : Int) ≤ (99 : Int))) (xb_iffI ((i64_of _).trans (nI_toInt (by omega))) (by decide) (by decide)) ?_
  refine g_cb_ne (tgt := 30) hX dX6_years_24 (by decide) (fun h24 => ?_) (fun h24 => ?_)
  · refine g_aload_n hX dX6_years_30 rfl 0 rfl ?_
    refine g_getR (j := 311) hX (by decide) (by decide) xCl6 5 (by decide) (by decide) kX6_19 dX6_years_31 rfl ?_
    refine g_iconst (v := nI 2) hX dX6_years_34 (by decide) ?_
    refine g_iald (v := nI y) hX (by decide) (by decide) 2 rfl (by rw [(show xN 311 = 74 by decide)]; decide) dX6_years_35 (xput_o (by decide) hy) ?_
    refine g_iload_n hX dX6_years_36 rfl 1 rfl ?_
    refine g_iadd (v := nI (y + n)) hX dX6_years_37 (nI_add y n) ?_
    refine g_sipush (v := nI 999) hX dX6_years_38 (by decide) ?_
    refine g_ci_le (a := ((y + n : Nat) : Int)) (b := (999 : Int)) (tgt := 47) hX dX6_years_41 (by decide) (nI_toInt (by omega)) (by decide) (fun h41 => ?_) (fun h41 => ?_)
    · refine g_aload_n hX dX6_years_47 rfl 0 rfl ?_
      refine g_callVv hX (as := []) (fun l => c_X6_keep_eq l (I := (xput I 307 0 (nI 0))) (hD := (by first | assumption | omega))) mX6_keep vX6_keep lX6_208 (by decide) (by decide) xCl6 rfl rfl dX6_years_48 rfl (by decide) (Nat.le_of_ble_eq_true rfl) (by decide) (by decide) ?_
      refine g_aload_n hX dX6_years_51 rfl 0 rfl ?_
      refine g_getR (j := 311) hX (by decide) (by decide) xCl6 5 (by decide) (by decide) kX6_19 dX6_years_52 rfl ?_
      refine g_iconst (v := nI 2) hX dX6_years_55 (by decide) ?_
      refine g_dup2 hX rfl rfl dX6_years_56 ?_
      refine g_iald (v := nI y) hX (by decide) (by decide) 2 rfl (by rw [(show xN 311 = 74 by decide)]; decide) dX6_years_57 hy ?_
      refine g_iload_n hX dX6_years_58 rfl 1 rfl ?_
      refine g_iadd (v := nI (y + n)) hX dX6_years_59 (nI_add y n) ?_
      refine g_iast hX (by decide) (by decide) 2 rfl (by rw [(show xN 311 = 74 by decide)]; decide) dX6_years_60 ?_
      refine g_aload_n hX dX6_years_61 rfl 0 rfl ?_
      refine g_getR (j := 311) hX (by decide) (by decide) xCl6 5 (by decide) (by decide) kX6_19 dX6_years_62 rfl ?_
      refine g_iconst (v := nI 2) hX dX6_years_65 (by decide) ?_
      refine g_iald (v := nI (y + n)) hX (by decide) (by decide) 2 rfl (by rw [(show xN 311 = 74 by decide)]; decide) dX6_years_66 xput_e ?_
      exact g_iret hX hR dX6_years_67 (by decide) (by decide) ⟨congrArg (fun z => some (Value.int z)) rfl, rfl, rfl, rfl⟩
    · exfalso; omega
  · exfalso; omega

theorem c_X6_winter_none (l : Launch) {nw sp : Nat} {I : xM} {x : Int32} (hst : I 307 7 = nI 0) : xC l 1 0 0 yX6_winter cX6_winter 3 (some .int) 319 [.ref 307, .int x] I (xRL nw sp) (xpI (-1000002) 319 (xput I 307 0 (nI 0)) (xRL nw sp)) := by
  refine xC_of (by decide) (Nat.le_of_ble_eq_true rfl) (fun X hXl hX hR => ?_)
  have hX : xOK X RX6 cX6_winter 3 1 0 0 := hX
  show G X 319 0 0 I (xRL nw sp) 0 [(0, .ref 307), (1, .int x)] []
  refine g_aload_n hX dX6_winter_0 rfl 0 rfl ?_
  refine g_iconst (v := nI 0) hX dX6_winter_1 (by decide) ?_
  refine g_putI hX (by decide) (by decide) xCl6 0 (by decide) (by decide) (by decide) kX6_44 dX6_winter_2 rfl rfl ?_
  refine g_aload_n hX dX6_winter_5 rfl 0 rfl ?_
  refine g_getI (v := nI 0) hX (by decide) (by decide) xCl6 7 (by decide) (by decide) kX6_186 dX6_winter_6 (xput_i (by decide) hst) ?_
  refine g_cz_ne (a := (0 : Int)) (tgt := 15) hX dX6_winter_9 (by decide) (by decide) (fun q => absurd q (by decide)) (fun _ => ?_)
  refine g_ldc (v := -1000002) hX cX6_205 dX6_winter_12 ?_
  exact g_iret hX hR dX6_winter_14 (by decide) (by decide) ⟨congrArg (fun z => some (Value.int z)) rfl, rfl, rfl, rfl⟩

theorem c_X6_winter_bad (l : Launch) {nw sp : Nat} {I : xM} {x : Int32} (hst : I 307 7 = nI 1) (hb : ¬ (0 ≤ x.toInt ∧ x.toInt ≤ 1)) : xC l 2 0 0 yX6_winter cX6_winter 3 (some .int) 319 [.ref 307, .int x] I (xRL nw sp) (xpI (-1000001) 319 (xput I 307 0 (nI 0)) (xRL nw sp)) := by
  refine xC_of (by decide) (Nat.le_of_ble_eq_true rfl) (fun X hXl hX hR => ?_)
  have hX : xOK X RX6 cX6_winter 3 2 0 0 := hX
  show G X 319 0 0 I (xRL nw sp) 0 [(0, .ref 307), (1, .int x)] []
  refine g_aload_n hX dX6_winter_0 rfl 0 rfl ?_
  refine g_iconst (v := nI 0) hX dX6_winter_1 (by decide) ?_
  refine g_putI hX (by decide) (by decide) xCl6 0 (by decide) (by decide) (by decide) kX6_44 dX6_winter_2 rfl rfl ?_
  refine g_aload_n hX dX6_winter_5 rfl 0 rfl ?_
  refine g_getI (v := nI 1) hX (by decide) (by decide) xCl6 7 (by decide) (by decide) kX6_186 dX6_winter_6 (xput_i (by decide) hst) ?_
  refine g_cz_ne (a := (1 : Int)) (tgt := 15) hX dX6_winter_9 (by decide) (by decide) (fun _ => ?_) (fun q => absurd q (by decide))
  refine g_iload_n hX dX6_winter_15 rfl 1 rfl ?_
  refine g_i2l (v := x.toInt64) hX dX6_winter_16 rfl ?_
  refine g_lconst (v := 0) hX dX6_winter_17 (by decide) ?_
  refine g_lconst (v := 1) hX dX6_winter_18 (by decide) ?_
  refine g_callSi (as := [.long x.toInt64, .long 0, .long 1]) hX (fun l => c_X6_in l) mX6_in sX6_in lX6_54 rfl dX6_winter_19 rfl (by decide) (Nat.le_of_ble_eq_true rfl) (by decide) (by decide) ?_
  refine g_top (y := xb ((0 : Int) ≤ x.toInt ∧ x.toInt ≤ (1 : Int))) (xb_iffI ((i64_of _).trans rfl) (by decide) (by decide)) ?_
  refine g_cb_ne (tgt := 28) hX dX6_winter_22 (by decide) (fun h22 => ?_) (fun h22 => ?_)
  · exfalso; omega
  · refine g_ldc (v := -1000001) hX cX6_64 dX6_winter_25 ?_
    exact g_iret hX hR dX6_winter_27 (by decide) (by decide) ⟨congrArg (fun z => some (Value.int z)) rfl, rfl, rfl, rfl⟩

theorem c_X6_winter_oklt (l : Launch) {nw sp : Nat} {I : xM} {v : Nat} {D : Nat} (hst : I 307 7 = nI 1) (hv : v ≤ 1) (hD : I 307 9 = nI D) (hD24 : D < 24) : xC l 2 0 0 yX6_winter cX6_winter 3 (some .int) 319 [.ref 307, .int (nI v)] I (xRL nw sp) (xpI (I 311 3) 319 (xput (xput (xrow (xput I 307 0 (nI 0)) 313 (xfill (I 313) (I 311) (74 * D) 74)) 307 9 (nI (D + 1))) 311 3 (nI v)) (xRL nw sp)) := by
  refine xC_of (by decide) (Nat.le_of_ble_eq_true rfl) (fun X hXl hX hR => ?_)
  have hX : xOK X RX6 cX6_winter 3 2 0 0 := hX
  show G X 319 0 0 I (xRL nw sp) 0 [(0, .ref 307), (1, .int (nI v))] []
  refine g_aload_n hX dX6_winter_0 rfl 0 rfl ?_
  refine g_iconst (v := nI 0) hX dX6_winter_1 (by decide) ?_
  refine g_putI hX (by decide) (by decide) xCl6 0 (by decide) (by decide) (by decide) kX6_44 dX6_winter_2 rfl rfl ?_
  refine g_aload_n hX dX6_winter_5 rfl 0 rfl ?_
  refine g_getI (v := nI 1) hX (by decide) (by decide) xCl6 7 (by decide) (by decide) kX6_186 dX6_winter_6 (xput_i (by decide) hst) ?_
  refine g_cz_ne (a := (1 : Int)) (tgt := 15) hX dX6_winter_9 (by decide) (by decide) (fun _ => ?_) (fun q => absurd q (by decide))
  refine g_iload_n hX dX6_winter_15 rfl 1 rfl ?_
  refine g_i2l (v := (nI v).toInt64) hX dX6_winter_16 rfl ?_
  refine g_lconst (v := 0) hX dX6_winter_17 (by decide) ?_
  refine g_lconst (v := 1) hX dX6_winter_18 (by decide) ?_
  refine g_callSi (as := [.long ((nI v).toInt64), .long 0, .long 1]) hX (fun l => c_X6_in l) mX6_in sX6_in lX6_54 rfl dX6_winter_19 rfl (by decide) (Nat.le_of_ble_eq_true rfl) (by decide) (by decide) ?_
  refine g_top (y := xb ((0 : Int) ≤ ((v : Nat) : Int) ∧ ((v : Nat) : Int) ≤ (1 : Int))) (xb_iffI ((i64_of _).trans (nI_toInt (by omega))) (by decide) (by decide)) ?_
  refine g_cb_ne (tgt := 28) hX dX6_winter_22 (by decide) (fun h22 => ?_) (fun h22 => ?_)
  · refine g_aload_n hX dX6_winter_28 rfl 0 rfl ?_
    refine g_callVv hX (as := []) (fun l => c_X6_keep_lt l (I := (xput I 307 0 (nI 0))) (D := D) (hD := (by first | assumption | omega)) (hD24 := (by first | assumption | omega))) mX6_keep vX6_keep lX6_208 (by decide) (by decide) xCl6 rfl rfl dX6_winter_29 rfl (by decide) (Nat.le_of_ble_eq_true rfl) (by decide) (by decide) ?_
    refine g_aload_n hX dX6_winter_32 rfl 0 rfl ?_
    refine g_getR (j := 311) hX (by decide) (by decide) xCl6 5 (by decide) (by decide) kX6_19 dX6_winter_33 rfl ?_
    refine g_iconst (v := nI 3) hX dX6_winter_36 (by decide) ?_
    refine g_iald (v := (xput (xrow (xput I 307 0 (nI 0)) 313 (xfill ((xput I 307 0 (nI 0)) 313) ((xput I 307 0 (nI 0)) 311) (74 * D) 74)) 307 9 (nI (D + 1))) 311 3) hX (by decide) (by decide) 3 rfl (by rw [(show xN 311 = 74 by decide)]; decide) dX6_winter_37 rfl ?_
    refine g_istore_n (L' := [(0, .ref 307), (1, .int (nI v)), (2, .int ((xput (xrow (xput I 307 0 (nI 0)) 313 (xfill ((xput I 307 0 (nI 0)) 313) ((xput I 307 0 (nI 0)) 311) (74 * D) 74)) 307 9 (nI (D + 1))) 311 3))]) hX dX6_winter_38 rfl (by decide) rfl ?_
    refine g_aload_n hX dX6_winter_39 rfl 0 rfl ?_
    refine g_getR (j := 311) hX (by decide) (by decide) xCl6 5 (by decide) (by decide) kX6_19 dX6_winter_40 rfl ?_
    refine g_iconst (v := nI 3) hX dX6_winter_43 (by decide) ?_
    refine g_iload_n hX dX6_winter_44 rfl 1 rfl ?_
    refine g_iast hX (by decide) (by decide) 3 rfl (by rw [(show xN 311 = 74 by decide)]; decide) dX6_winter_45 ?_
    refine g_iload_n hX dX6_winter_46 rfl 2 rfl ?_
    exact g_iret hX hR dX6_winter_47 (by decide) (by decide) ⟨congrArg (fun z => some (Value.int z)) rfl, rfl, rfl, rfl⟩
  · exfalso; omega

theorem c_X6_winter_okeq (l : Launch) {nw sp : Nat} {I : xM} {v : Nat} (hst : I 307 7 = nI 1) (hv : v ≤ 1) (hD : I 307 9 = nI 24) : xC l 2 0 0 yX6_winter cX6_winter 3 (some .int) 319 [.ref 307, .int (nI v)] I (xRL nw sp) (xpI (I 311 3) 319 (xput (xrow (xput I 307 0 (nI 0)) 313 (xfill (xfill (I 313) (fun t => I 313 (t + 74)) 0 1702) (I 311) (74 * 23) 74)) 311 3 (nI v)) (xRL nw sp)) := by
  refine xC_of (by decide) (Nat.le_of_ble_eq_true rfl) (fun X hXl hX hR => ?_)
  have hX : xOK X RX6 cX6_winter 3 2 0 0 := hX
  show G X 319 0 0 I (xRL nw sp) 0 [(0, .ref 307), (1, .int (nI v))] []
  refine g_aload_n hX dX6_winter_0 rfl 0 rfl ?_
  refine g_iconst (v := nI 0) hX dX6_winter_1 (by decide) ?_
  refine g_putI hX (by decide) (by decide) xCl6 0 (by decide) (by decide) (by decide) kX6_44 dX6_winter_2 rfl rfl ?_
  refine g_aload_n hX dX6_winter_5 rfl 0 rfl ?_
  refine g_getI (v := nI 1) hX (by decide) (by decide) xCl6 7 (by decide) (by decide) kX6_186 dX6_winter_6 (xput_i (by decide) hst) ?_
  refine g_cz_ne (a := (1 : Int)) (tgt := 15) hX dX6_winter_9 (by decide) (by decide) (fun _ => ?_) (fun q => absurd q (by decide))
  refine g_iload_n hX dX6_winter_15 rfl 1 rfl ?_
  refine g_i2l (v := (nI v).toInt64) hX dX6_winter_16 rfl ?_
  refine g_lconst (v := 0) hX dX6_winter_17 (by decide) ?_
  refine g_lconst (v := 1) hX dX6_winter_18 (by decide) ?_
  refine g_callSi (as := [.long ((nI v).toInt64), .long 0, .long 1]) hX (fun l => c_X6_in l) mX6_in sX6_in lX6_54 rfl dX6_winter_19 rfl (by decide) (Nat.le_of_ble_eq_true rfl) (by decide) (by decide) ?_
  refine g_top (y := xb ((0 : Int) ≤ ((v : Nat) : Int) ∧ ((v : Nat) : Int) ≤ (1 : Int))) (xb_iffI ((i64_of _).trans (nI_toInt (by omega))) (by decide) (by decide)) ?_
  refine g_cb_ne (tgt := 28) hX dX6_winter_22 (by decide) (fun h22 => ?_) (fun h22 => ?_)
  · refine g_aload_n hX dX6_winter_28 rfl 0 rfl ?_
    refine g_callVv hX (as := []) (fun l => c_X6_keep_eq l (I := (xput I 307 0 (nI 0))) (hD := (by first | assumption | omega))) mX6_keep vX6_keep lX6_208 (by decide) (by decide) xCl6 rfl rfl dX6_winter_29 rfl (by decide) (Nat.le_of_ble_eq_true rfl) (by decide) (by decide) ?_
    refine g_aload_n hX dX6_winter_32 rfl 0 rfl ?_
    refine g_getR (j := 311) hX (by decide) (by decide) xCl6 5 (by decide) (by decide) kX6_19 dX6_winter_33 rfl ?_
    refine g_iconst (v := nI 3) hX dX6_winter_36 (by decide) ?_
    refine g_iald (v := (xrow (xput I 307 0 (nI 0)) 313 (xfill (xfill ((xput I 307 0 (nI 0)) 313) (fun t => (xput I 307 0 (nI 0)) 313 (t + 74)) 0 1702) ((xput I 307 0 (nI 0)) 311) (74 * 23) 74)) 311 3) hX (by decide) (by decide) 3 rfl (by rw [(show xN 311 = 74 by decide)]; decide) dX6_winter_37 rfl ?_
    refine g_istore_n (L' := [(0, .ref 307), (1, .int (nI v)), (2, .int ((xrow (xput I 307 0 (nI 0)) 313 (xfill (xfill ((xput I 307 0 (nI 0)) 313) (fun t => (xput I 307 0 (nI 0)) 313 (t + 74)) 0 1702) ((xput I 307 0 (nI 0)) 311) (74 * 23) 74)) 311 3))]) hX dX6_winter_38 rfl (by decide) rfl ?_
    refine g_aload_n hX dX6_winter_39 rfl 0 rfl ?_
    refine g_getR (j := 311) hX (by decide) (by decide) xCl6 5 (by decide) (by decide) kX6_19 dX6_winter_40 rfl ?_
    refine g_iconst (v := nI 3) hX dX6_winter_43 (by decide) ?_
    refine g_iload_n hX dX6_winter_44 rfl 1 rfl ?_
    refine g_iast hX (by decide) (by decide) 3 rfl (by rw [(show xN 311 = 74 by decide)]; decide) dX6_winter_45 ?_
    refine g_iload_n hX dX6_winter_46 rfl 2 rfl ?_
    exact g_iret hX hR dX6_winter_47 (by decide) (by decide) ⟨congrArg (fun z => some (Value.int z)) rfl, rfl, rfl, rfl⟩
  · exfalso; omega

theorem c_X6_clip_bad (l : Launch) {nw sp : Nat} {I : xM} {T : Nat} {x y : Int32} (hT : I 311 0 = nI T) (hT6 : T ≤ 6) (hb : ¬ (0 ≤ x.toInt ∧ x.toInt < T ∧ 1 ≤ y.toInt ∧ y.toInt ≤ 99)) : xC l 3 0 0 yX6_clip cX6_clip 3 (some .int) 319 [.ref 307, .int x, .int y] I (xRL nw sp) (xpI (-1000001) 319 (xput I 307 0 (nI 0)) (xRL nw sp)) := by
  refine xC_of (by decide) (Nat.le_of_ble_eq_true rfl) (fun X hXl hX hR => ?_)
  have hX : xOK X RX6 cX6_clip 3 3 0 0 := hX
  show G X 319 0 0 I (xRL nw sp) 0 [(0, .ref 307), (1, .int x), (2, .int y)] []
  refine g_aload_n hX dX6_clip_0 rfl 0 rfl ?_
  refine g_iconst (v := nI 0) hX dX6_clip_1 (by decide) ?_
  refine g_putI hX (by decide) (by decide) xCl6 0 (by decide) (by decide) (by decide) kX6_44 dX6_clip_2 rfl rfl ?_
  refine g_aload_n hX dX6_clip_5 rfl 0 rfl ?_
  refine g_iload_n hX dX6_clip_6 rfl 1 rfl ?_
  refine g_callVi hX (as := [.int x]) (fun l => c_X6_isTree l (I := (xput I 307 0 (nI 0))) (T := T) (x := x) (hT := (by first | assumption | omega)) (hT6 := (by first | assumption | omega))) mX6_isTree vX6_isTree lX6_211 (by decide) (by decide) xCl6 rfl rfl dX6_clip_7 rfl (by decide) (Nat.le_of_ble_eq_true rfl) (by decide) (by decide) ?_
  refine g_cb_eq (tgt := 25) hX dX6_clip_10 (by decide) (fun h10 => ?_) (fun h10 => ?_)
  · refine g_ldc (v := -1000001) hX cX6_64 dX6_clip_25 ?_
    exact g_iret hX hR dX6_clip_27 (by decide) (by decide) ⟨congrArg (fun z => some (Value.int z)) rfl, rfl, rfl, rfl⟩
  · refine g_iload_n hX dX6_clip_13 rfl 2 rfl ?_
    refine g_i2l (v := y.toInt64) hX dX6_clip_14 rfl ?_
    refine g_lconst (v := 1) hX dX6_clip_15 (by decide) ?_
    refine g_ldc2 (v := 99) hX cX6_206 dX6_clip_16 ?_
    refine g_callSi (as := [.long y.toInt64, .long 1, .long (99)]) hX (fun l => c_X6_in l) mX6_in sX6_in lX6_54 rfl dX6_clip_19 rfl (by decide) (Nat.le_of_ble_eq_true rfl) (by decide) (by decide) ?_
    refine g_top (y := xb ((1 : Int) ≤ y.toInt ∧ y.toInt ≤ (99 : Int))) (xb_iffI ((i64_of _).trans rfl) (by decide) (by decide)) ?_
    refine g_cb_ne (tgt := 28) hX dX6_clip_22 (by decide) (fun h22 => ?_) (fun h22 => ?_)
    · exfalso; omega
    · refine g_ldc (v := -1000001) hX cX6_64 dX6_clip_25 ?_
      exact g_iret hX hR dX6_clip_27 (by decide) (by decide) ⟨congrArg (fun z => some (Value.int z)) rfl, rfl, rfl, rfl⟩

theorem c_X6_clip_state (l : Launch) {nw sp : Nat} {I : xM} {t n T : Nat} (hT : I 311 0 = nI T) (hT6 : T ≤ 6) (ht : t < T) (hn : 1 ≤ n) (hn9 : n ≤ 99) (hk : (I 311 (26 + 5 * t + 0)).toInt = 3 ∨ (I 311 (26 + 5 * t + 0)).toInt = 5) : xC l 3 0 0 yX6_clip cX6_clip 3 (some .int) 319 [.ref 307, .int (nI t), .int (nI n)] I (xRL nw sp) (xpI (-1000002) 319 (xput I 307 0 (nI 0)) (xRL nw sp)) := by
  refine xC_of (by decide) (Nat.le_of_ble_eq_true rfl) (fun X hXl hX hR => ?_)
  have hX : xOK X RX6 cX6_clip 3 3 0 0 := hX
  show G X 319 0 0 I (xRL nw sp) 0 [(0, .ref 307), (1, .int (nI t)), (2, .int (nI n))] []
  refine g_aload_n hX dX6_clip_0 rfl 0 rfl ?_
  refine g_iconst (v := nI 0) hX dX6_clip_1 (by decide) ?_
  refine g_putI hX (by decide) (by decide) xCl6 0 (by decide) (by decide) (by decide) kX6_44 dX6_clip_2 rfl rfl ?_
  refine g_aload_n hX dX6_clip_5 rfl 0 rfl ?_
  refine g_iload_n hX dX6_clip_6 rfl 1 rfl ?_
  refine g_callVi hX (as := [.int (nI t)]) (fun l => c_X6_isTree l (I := (xput I 307 0 (nI 0))) (T := T) (x := (nI t)) (hT := (by first | assumption | omega)) (hT6 := (by first | assumption | omega))) mX6_isTree vX6_isTree lX6_211 (by decide) (by decide) xCl6 rfl rfl dX6_clip_7 rfl (by decide) (Nat.le_of_ble_eq_true rfl) (by decide) (by decide) ?_
  refine g_top (y := xb (0 ≤ ((t : Nat) : Int) ∧ ((t : Nat) : Int) < T)) (by rw [nI_toInt (n := t) (by omega)]) ?_
  refine g_cb_eq (tgt := 25) hX dX6_clip_10 (by decide) (fun h10 => ?_) (fun h10 => ?_)
  · exfalso; omega
  · refine g_iload_n hX dX6_clip_13 rfl 2 rfl ?_
    refine g_i2l (v := (nI n).toInt64) hX dX6_clip_14 rfl ?_
    refine g_lconst (v := 1) hX dX6_clip_15 (by decide) ?_
    refine g_ldc2 (v := 99) hX cX6_206 dX6_clip_16 ?_
    refine g_callSi (as := [.long ((nI n).toInt64), .long 1, .long (99)]) hX (fun l => c_X6_in l) mX6_in sX6_in lX6_54 rfl dX6_clip_19 rfl (by decide) (Nat.le_of_ble_eq_true rfl) (by decide) (by decide) ?_
    refine g_top (y := xb ((1 : Int) ≤ ((n : Nat) : Int) ∧ ((n : Nat) : Int) ≤ (99 : Int))) (xb_iffI ((i64_of _).trans (nI_toInt (by omega))) (by decide) (by decide)) ?_
    refine g_cb_ne (tgt := 28) hX dX6_clip_22 (by decide) (fun h22 => ?_) (fun h22 => ?_)
    · refine g_aload_n hX dX6_clip_28 rfl 0 rfl ?_
      refine g_iload_n hX dX6_clip_29 rfl 1 rfl ?_
      refine g_callVi hX (as := [.int (nI t)]) (fun l => c_X6_mayBeCut l (I := (xput I 307 0 (nI 0))) (t := t) (ht := (by first | assumption | omega))) mX6_mayBeCut vX6_mayBeCut lX6_214 (by decide) (by decide) xCl6 rfl rfl dX6_clip_30 rfl (by decide) (Nat.le_of_ble_eq_true rfl) (by decide) (by decide) ?_
      refine g_cb_ne (tgt := 39) hX dX6_clip_33 (by decide) (fun h33 => ?_) (fun h33 => ?_)
      · exact absurd hk (fun q => q.elim h33.1 h33.2)
      · refine g_ldc (v := -1000002) hX cX6_205 dX6_clip_36 ?_
        exact g_iret hX hR dX6_clip_38 (by decide) (by decide) ⟨congrArg (fun z => some (Value.int z)) rfl, rfl, rfl, rfl⟩
    · exfalso; omega

theorem c_X6_clip_oklt (l : Launch) {nw sp : Nat} {I : xM} {t n T : Nat} {D : Nat} (hT : I 311 0 = nI T) (hT6 : T ≤ 6) (ht : t < T) (hn : 1 ≤ n) (hn9 : n ≤ 99) (hk : (I 311 (26 + 5 * t + 0)).toInt ≠ 3 ∧ (I 311 (26 + 5 * t + 0)).toInt ≠ 5) (hD : I 307 9 = nI D) (hD24 : D < 24) : xC l 3 0 0 yX6_clip cX6_clip 3 (some .int) 319 [.ref 307, .int (nI t), .int (nI n)] I (xRL nw sp) (xpI (hgF (upd (I 311) (26 + 5 * t + 4) (I 311 (26 + 5 * t + 4) + nI n)) (I 315) t) 319 (xput (xput (xrow (xput I 307 0 (nI 0)) 313 (xfill (I 313) (I 311) (74 * D) 74)) 307 9 (nI (D + 1))) 311 (26 + 5 * t + 4) (I 311 (26 + 5 * t + 4) + nI n)) (xRL nw sp)) := by
  refine xC_of (by decide) (Nat.le_of_ble_eq_true rfl) (fun X hXl hX hR => ?_)
  have hX : xOK X RX6 cX6_clip 3 3 0 0 := hX
  show G X 319 0 0 I (xRL nw sp) 0 [(0, .ref 307), (1, .int (nI t)), (2, .int (nI n))] []
  refine g_aload_n hX dX6_clip_0 rfl 0 rfl ?_
  refine g_iconst (v := nI 0) hX dX6_clip_1 (by decide) ?_
  refine g_putI hX (by decide) (by decide) xCl6 0 (by decide) (by decide) (by decide) kX6_44 dX6_clip_2 rfl rfl ?_
  refine g_aload_n hX dX6_clip_5 rfl 0 rfl ?_
  refine g_iload_n hX dX6_clip_6 rfl 1 rfl ?_
  refine g_callVi hX (as := [.int (nI t)]) (fun l => c_X6_isTree l (I := (xput I 307 0 (nI 0))) (T := T) (x := (nI t)) (hT := (by first | assumption | omega)) (hT6 := (by first | assumption | omega))) mX6_isTree vX6_isTree lX6_211 (by decide) (by decide) xCl6 rfl rfl dX6_clip_7 rfl (by decide) (Nat.le_of_ble_eq_true rfl) (by decide) (by decide) ?_
  refine g_top (y := xb (0 ≤ ((t : Nat) : Int) ∧ ((t : Nat) : Int) < T)) (by rw [nI_toInt (n := t) (by omega)]) ?_
  refine g_cb_eq (tgt := 25) hX dX6_clip_10 (by decide) (fun h10 => ?_) (fun h10 => ?_)
  · exfalso; omega
  · refine g_iload_n hX dX6_clip_13 rfl 2 rfl ?_
    refine g_i2l (v := (nI n).toInt64) hX dX6_clip_14 rfl ?_
    refine g_lconst (v := 1) hX dX6_clip_15 (by decide) ?_
    refine g_ldc2 (v := 99) hX cX6_206 dX6_clip_16 ?_
    refine g_callSi (as := [.long ((nI n).toInt64), .long 1, .long (99)]) hX (fun l => c_X6_in l) mX6_in sX6_in lX6_54 rfl dX6_clip_19 rfl (by decide) (Nat.le_of_ble_eq_true rfl) (by decide) (by decide) ?_
    refine g_top (y := xb ((1 : Int) ≤ ((n : Nat) : Int) ∧ ((n : Nat) : Int) ≤ (99 : Int))) (xb_iffI ((i64_of _).trans (nI_toInt (by omega))) (by decide) (by decide)) ?_
    refine g_cb_ne (tgt := 28) hX dX6_clip_22 (by decide) (fun h22 => ?_) (fun h22 => ?_)
    · refine g_aload_n hX dX6_clip_28 rfl 0 rfl ?_
      refine g_iload_n hX dX6_clip_29 rfl 1 rfl ?_
      refine g_callVi hX (as := [.int (nI t)]) (fun l => c_X6_mayBeCut l (I := (xput I 307 0 (nI 0))) (t := t) (ht := (by first | assumption | omega))) mX6_mayBeCut vX6_mayBeCut lX6_214 (by decide) (by decide) xCl6 rfl rfl dX6_clip_30 rfl (by decide) (Nat.le_of_ble_eq_true rfl) (by decide) (by decide) ?_
      refine g_cb_ne (tgt := 39) hX dX6_clip_33 (by decide) (fun h33 => ?_) (fun h33 => ?_)
      · refine g_aload_n hX dX6_clip_39 rfl 0 rfl ?_
        refine g_callVv hX (as := []) (fun l => c_X6_keep_lt l (I := (xput I 307 0 (nI 0))) (D := D) (hD := (by first | assumption | omega)) (hD24 := (by first | assumption | omega))) mX6_keep vX6_keep lX6_208 (by decide) (by decide) xCl6 rfl rfl dX6_clip_40 rfl (by decide) (Nat.le_of_ble_eq_true rfl) (by decide) (by decide) ?_
        refine g_aload_n hX dX6_clip_43 rfl 0 rfl ?_
        refine g_getR (j := 311) hX (by decide) (by decide) xCl6 5 (by decide) (by decide) kX6_19 dX6_clip_44 rfl ?_
        refine g_bipush (v := nI 26) hX dX6_clip_47 (by decide) ?_
        refine g_iconst (v := nI 5) hX dX6_clip_49 (by decide) ?_
        refine g_iload_n hX dX6_clip_50 rfl 1 rfl ?_
        refine g_imul (v := nI (5 * t)) hX dX6_clip_51 (nI_mul 5 t) ?_
        refine g_iadd (v := nI (26 + (5 * t))) hX dX6_clip_52 (nI_add 26 (5 * t)) ?_
        refine g_iconst (v := nI 4) hX dX6_clip_53 (by decide) ?_
        refine g_iadd (v := nI ((26 + (5 * t)) + 4)) hX dX6_clip_54 (nI_add (26 + (5 * t)) 4) ?_
        refine g_dup2 hX rfl rfl dX6_clip_55 ?_
        refine g_iald (v := (xput (xrow (xput I 307 0 (nI 0)) 313 (xfill ((xput I 307 0 (nI 0)) 313) ((xput I 307 0 (nI 0)) 311) (74 * D) 74)) 307 9 (nI (D + 1))) 311 ((26 + (5 * t)) + 4)) hX (by decide) (by decide) ((26 + (5 * t)) + 4) rfl (by rw [(show xN 311 = 74 by decide)]; omega) dX6_clip_56 rfl ?_
        refine g_iload_n hX dX6_clip_57 rfl 2 rfl ?_
        refine g_iadd (v := ((xput (xrow (xput I 307 0 (nI 0)) 313 (xfill ((xput I 307 0 (nI 0)) 313) ((xput I 307 0 (nI 0)) 311) (74 * D) 74)) 307 9 (nI (D + 1))) 311 ((26 + (5 * t)) + 4)) + (nI n)) hX dX6_clip_58 rfl ?_
        refine g_iast hX (by decide) (by decide) ((26 + (5 * t)) + 4) rfl (by rw [(show xN 311 = 74 by decide)]; omega) dX6_clip_59 ?_
        refine g_aload_n hX dX6_clip_60 rfl 0 rfl ?_
        refine g_iload_n hX dX6_clip_61 rfl 1 rfl ?_
        refine g_callVi hX (as := [.int (nI t)]) (fun l => c_X6_height l (I := (xput (xput (xrow (xput I 307 0 (nI 0)) 313 (xfill ((xput I 307 0 (nI 0)) 313) ((xput I 307 0 (nI 0)) 311) (74 * D) 74)) 307 9 (nI (D + 1))) 311 ((26 + (5 * t)) + 4) (((xput (xrow (xput I 307 0 (nI 0)) 313 (xfill ((xput I 307 0 (nI 0)) 313) ((xput I 307 0 (nI 0)) 311) (74 * D) 74)) 307 9 (nI (D + 1))) 311 ((26 + (5 * t)) + 4)) + (nI n)))) (t := t) (ht := (by first | assumption | omega))) mX6_height vX6_height lX6_202 (by decide) (by decide) xCl6 rfl rfl dX6_clip_62 rfl (by decide) (Nat.le_of_ble_eq_true rfl) (by decide) (by decide) ?_
        exact g_iret hX hR dX6_clip_65 (by decide) (by decide) ⟨congrArg (fun z => some (Value.int z)) rfl, rfl, rfl, rfl⟩
      · exact absurd hk h33
    · exfalso; omega

theorem c_X6_clip_okeq (l : Launch) {nw sp : Nat} {I : xM} {t n T : Nat} (hT : I 311 0 = nI T) (hT6 : T ≤ 6) (ht : t < T) (hn : 1 ≤ n) (hn9 : n ≤ 99) (hk : (I 311 (26 + 5 * t + 0)).toInt ≠ 3 ∧ (I 311 (26 + 5 * t + 0)).toInt ≠ 5) (hD : I 307 9 = nI 24) : xC l 3 0 0 yX6_clip cX6_clip 3 (some .int) 319 [.ref 307, .int (nI t), .int (nI n)] I (xRL nw sp) (xpI (hgF (upd (I 311) (26 + 5 * t + 4) (I 311 (26 + 5 * t + 4) + nI n)) (I 315) t) 319 (xput (xrow (xput I 307 0 (nI 0)) 313 (xfill (xfill (I 313) (fun t => I 313 (t + 74)) 0 1702) (I 311) (74 * 23) 74)) 311 (26 + 5 * t + 4) (I 311 (26 + 5 * t + 4) + nI n)) (xRL nw sp)) := by
  refine xC_of (by decide) (Nat.le_of_ble_eq_true rfl) (fun X hXl hX hR => ?_)
  have hX : xOK X RX6 cX6_clip 3 3 0 0 := hX
  show G X 319 0 0 I (xRL nw sp) 0 [(0, .ref 307), (1, .int (nI t)), (2, .int (nI n))] []
  refine g_aload_n hX dX6_clip_0 rfl 0 rfl ?_
  refine g_iconst (v := nI 0) hX dX6_clip_1 (by decide) ?_
  refine g_putI hX (by decide) (by decide) xCl6 0 (by decide) (by decide) (by decide) kX6_44 dX6_clip_2 rfl rfl ?_
  refine g_aload_n hX dX6_clip_5 rfl 0 rfl ?_
  refine g_iload_n hX dX6_clip_6 rfl 1 rfl ?_
  refine g_callVi hX (as := [.int (nI t)]) (fun l => c_X6_isTree l (I := (xput I 307 0 (nI 0))) (T := T) (x := (nI t)) (hT := (by first | assumption | omega)) (hT6 := (by first | assumption | omega))) mX6_isTree vX6_isTree lX6_211 (by decide) (by decide) xCl6 rfl rfl dX6_clip_7 rfl (by decide) (Nat.le_of_ble_eq_true rfl) (by decide) (by decide) ?_
  refine g_top (y := xb (0 ≤ ((t : Nat) : Int) ∧ ((t : Nat) : Int) < T)) (by rw [nI_toInt (n := t) (by omega)]) ?_
  refine g_cb_eq (tgt := 25) hX dX6_clip_10 (by decide) (fun h10 => ?_) (fun h10 => ?_)
  · exfalso; omega
  · refine g_iload_n hX dX6_clip_13 rfl 2 rfl ?_
    refine g_i2l (v := (nI n).toInt64) hX dX6_clip_14 rfl ?_
    refine g_lconst (v := 1) hX dX6_clip_15 (by decide) ?_
    refine g_ldc2 (v := 99) hX cX6_206 dX6_clip_16 ?_
    refine g_callSi (as := [.long ((nI n).toInt64), .long 1, .long (99)]) hX (fun l => c_X6_in l) mX6_in sX6_in lX6_54 rfl dX6_clip_19 rfl (by decide) (Nat.le_of_ble_eq_true rfl) (by decide) (by decide) ?_
    refine g_top (y := xb ((1 : Int) ≤ ((n : Nat) : Int) ∧ ((n : Nat) : Int) ≤ (99 : Int))) (xb_iffI ((i64_of _).trans (nI_toInt (by omega))) (by decide) (by decide)) ?_
    refine g_cb_ne (tgt := 28) hX dX6_clip_22 (by decide) (fun h22 => ?_) (fun h22 => ?_)
    · refine g_aload_n hX dX6_clip_28 rfl 0 rfl ?_
      refine g_iload_n hX dX6_clip_29 rfl 1 rfl ?_
      refine g_callVi hX (as := [.int (nI t)]) (fun l => c_X6_mayBeCut l (I := (xput I 307 0 (nI 0))) (t := t) (ht := (by first | assumption | omega))) mX6_mayBeCut vX6_mayBeCut lX6_214 (by decide) (by decide) xCl6 rfl rfl dX6_clip_30 rfl (by decide) (Nat.le_of_ble_eq_true rfl) (by decide) (by decide) ?_
      refine g_cb_ne (tgt := 39) hX dX6_clip_33 (by decide) (fun h33 => ?_) (fun h33 => ?_)
      · refine g_aload_n hX dX6_clip_39 rfl 0 rfl ?_
        refine g_callVv hX (as := []) (fun l => c_X6_keep_eq l (I := (xput I 307 0 (nI 0))) (hD := (by first | assumption | omega))) mX6_keep vX6_keep lX6_208 (by decide) (by decide) xCl6 rfl rfl dX6_clip_40 rfl (by decide) (Nat.le_of_ble_eq_true rfl) (by decide) (by decide) ?_
        refine g_aload_n hX dX6_clip_43 rfl 0 rfl ?_
        refine g_getR (j := 311) hX (by decide) (by decide) xCl6 5 (by decide) (by decide) kX6_19 dX6_clip_44 rfl ?_
        refine g_bipush (v := nI 26) hX dX6_clip_47 (by decide) ?_
        refine g_iconst (v := nI 5) hX dX6_clip_49 (by decide) ?_
        refine g_iload_n hX dX6_clip_50 rfl 1 rfl ?_
        refine g_imul (v := nI (5 * t)) hX dX6_clip_51 (nI_mul 5 t) ?_
        refine g_iadd (v := nI (26 + (5 * t))) hX dX6_clip_52 (nI_add 26 (5 * t)) ?_
        refine g_iconst (v := nI 4) hX dX6_clip_53 (by decide) ?_
        refine g_iadd (v := nI ((26 + (5 * t)) + 4)) hX dX6_clip_54 (nI_add (26 + (5 * t)) 4) ?_
        refine g_dup2 hX rfl rfl dX6_clip_55 ?_
        refine g_iald (v := (xrow (xput I 307 0 (nI 0)) 313 (xfill (xfill ((xput I 307 0 (nI 0)) 313) (fun t => (xput I 307 0 (nI 0)) 313 (t + 74)) 0 1702) ((xput I 307 0 (nI 0)) 311) (74 * 23) 74)) 311 ((26 + (5 * t)) + 4)) hX (by decide) (by decide) ((26 + (5 * t)) + 4) rfl (by rw [(show xN 311 = 74 by decide)]; omega) dX6_clip_56 rfl ?_
        refine g_iload_n hX dX6_clip_57 rfl 2 rfl ?_
        refine g_iadd (v := ((xrow (xput I 307 0 (nI 0)) 313 (xfill (xfill ((xput I 307 0 (nI 0)) 313) (fun t => (xput I 307 0 (nI 0)) 313 (t + 74)) 0 1702) ((xput I 307 0 (nI 0)) 311) (74 * 23) 74)) 311 ((26 + (5 * t)) + 4)) + (nI n)) hX dX6_clip_58 rfl ?_
        refine g_iast hX (by decide) (by decide) ((26 + (5 * t)) + 4) rfl (by rw [(show xN 311 = 74 by decide)]; omega) dX6_clip_59 ?_
        refine g_aload_n hX dX6_clip_60 rfl 0 rfl ?_
        refine g_iload_n hX dX6_clip_61 rfl 1 rfl ?_
        refine g_callVi hX (as := [.int (nI t)]) (fun l => c_X6_height l (I := (xput (xrow (xput I 307 0 (nI 0)) 313 (xfill (xfill ((xput I 307 0 (nI 0)) 313) (fun t => (xput I 307 0 (nI 0)) 313 (t + 74)) 0 1702) ((xput I 307 0 (nI 0)) 311) (74 * 23) 74)) 311 ((26 + (5 * t)) + 4) (((xrow (xput I 307 0 (nI 0)) 313 (xfill (xfill ((xput I 307 0 (nI 0)) 313) (fun t => (xput I 307 0 (nI 0)) 313 (t + 74)) 0 1702) ((xput I 307 0 (nI 0)) 311) (74 * 23) 74)) 311 ((26 + (5 * t)) + 4)) + (nI n)))) (t := t) (ht := (by first | assumption | omega))) mX6_height vX6_height lX6_202 (by decide) (by decide) xCl6 rfl rfl dX6_clip_62 rfl (by decide) (Nat.le_of_ble_eq_true rfl) (by decide) (by decide) ?_
        exact g_iret hX hR dX6_clip_65 (by decide) (by decide) ⟨congrArg (fun z => some (Value.int z)) rfl, rfl, rfl, rfl⟩
      · exact absurd hk h33
    · exfalso; omega

theorem c_X6_move_bad (l : Launch) {nw sp : Nat} {I : xM} {T : Nat} {x y : Int32} (hT : I 311 0 = nI T) (hT6 : T ≤ 6) (hb : ¬ (0 ≤ x.toInt ∧ x.toInt < T ∧ 1 ≤ y.toInt ∧ y.toInt ≤ 18)) : xC l 3 0 0 yX6_move cX6_move 4 (some .int) 319 [.ref 307, .int x, .int y] I (xRL nw sp) (xpI (-1000001) 319 (xput I 307 0 (nI 0)) (xRL nw sp)) := by
  refine xC_of (by decide) (Nat.le_of_ble_eq_true rfl) (fun X hXl hX hR => ?_)
  have hX : xOK X RX6 cX6_move 4 3 0 0 := hX
  show G X 319 0 0 I (xRL nw sp) 0 [(0, .ref 307), (1, .int x), (2, .int y)] []
  refine g_aload_n hX dX6_move_0 rfl 0 rfl ?_
  refine g_iconst (v := nI 0) hX dX6_move_1 (by decide) ?_
  refine g_putI hX (by decide) (by decide) xCl6 0 (by decide) (by decide) (by decide) kX6_44 dX6_move_2 rfl rfl ?_
  refine g_aload_n hX dX6_move_5 rfl 0 rfl ?_
  refine g_iload_n hX dX6_move_6 rfl 1 rfl ?_
  refine g_callVi hX (as := [.int x]) (fun l => c_X6_isTree l (I := (xput I 307 0 (nI 0))) (T := T) (x := x) (hT := (by first | assumption | omega)) (hT6 := (by first | assumption | omega))) mX6_isTree vX6_isTree lX6_211 (by decide) (by decide) xCl6 rfl rfl dX6_move_7 rfl (by decide) (Nat.le_of_ble_eq_true rfl) (by decide) (by decide) ?_
  refine g_cb_eq (tgt := 25) hX dX6_move_10 (by decide) (fun h10 => ?_) (fun h10 => ?_)
  · refine g_ldc (v := -1000001) hX cX6_64 dX6_move_25 ?_
    exact g_iret hX hR dX6_move_27 (by decide) (by decide) ⟨congrArg (fun z => some (Value.int z)) rfl, rfl, rfl, rfl⟩
  · refine g_iload_n hX dX6_move_13 rfl 2 rfl ?_
    refine g_i2l (v := y.toInt64) hX dX6_move_14 rfl ?_
    refine g_lconst (v := 1) hX dX6_move_15 (by decide) ?_
    refine g_ldc2 (v := 18) hX cX6_217 dX6_move_16 ?_
    refine g_callSi (as := [.long y.toInt64, .long 1, .long (18)]) hX (fun l => c_X6_in l) mX6_in sX6_in lX6_54 rfl dX6_move_19 rfl (by decide) (Nat.le_of_ble_eq_true rfl) (by decide) (by decide) ?_
    refine g_top (y := xb ((1 : Int) ≤ y.toInt ∧ y.toInt ≤ (18 : Int))) (xb_iffI ((i64_of _).trans rfl) (by decide) (by decide)) ?_
    refine g_cb_ne (tgt := 28) hX dX6_move_22 (by decide) (fun h22 => ?_) (fun h22 => ?_)
    · exfalso; omega
    · refine g_ldc (v := -1000001) hX cX6_64 dX6_move_25 ?_
      exact g_iret hX hR dX6_move_27 (by decide) (by decide) ⟨congrArg (fun z => some (Value.int z)) rfl, rfl, rfl, rfl⟩

theorem c_X6_move_state (l : Launch) {nw sp : Nat} {I : xM} {t q T u : Nat} (hT : I 311 0 = nI T) (hT6 : T ≤ 6) (ht : t < T) (hq : 1 ≤ q) (hq8 : q ≤ 18) (hu : taF (I 311) T (nI q) = some u) (hu6 : u < 6) : xC l 3 0 0 yX6_move cX6_move 4 (some .int) 319 [.ref 307, .int (nI t), .int (nI q)] I (xRL nw sp) (xpI (-1000002) 319 (xput I 307 0 (nI 0)) (xRL nw sp)) := by
  refine xC_of (by decide) (Nat.le_of_ble_eq_true rfl) (fun X hXl hX hR => ?_)
  have hX : xOK X RX6 cX6_move 4 3 0 0 := hX
  show G X 319 0 0 I (xRL nw sp) 0 [(0, .ref 307), (1, .int (nI t)), (2, .int (nI q))] []
  refine g_aload_n hX dX6_move_0 rfl 0 rfl ?_
  refine g_iconst (v := nI 0) hX dX6_move_1 (by decide) ?_
  refine g_putI hX (by decide) (by decide) xCl6 0 (by decide) (by decide) (by decide) kX6_44 dX6_move_2 rfl rfl ?_
  refine g_aload_n hX dX6_move_5 rfl 0 rfl ?_
  refine g_iload_n hX dX6_move_6 rfl 1 rfl ?_
  refine g_callVi hX (as := [.int (nI t)]) (fun l => c_X6_isTree l (I := (xput I 307 0 (nI 0))) (T := T) (x := (nI t)) (hT := (by first | assumption | omega)) (hT6 := (by first | assumption | omega))) mX6_isTree vX6_isTree lX6_211 (by decide) (by decide) xCl6 rfl rfl dX6_move_7 rfl (by decide) (Nat.le_of_ble_eq_true rfl) (by decide) (by decide) ?_
  refine g_top (y := xb (0 ≤ ((t : Nat) : Int) ∧ ((t : Nat) : Int) < T)) (by rw [nI_toInt (n := t) (by omega)]) ?_
  refine g_cb_eq (tgt := 25) hX dX6_move_10 (by decide) (fun h10 => ?_) (fun h10 => ?_)
  · exfalso; omega
  · refine g_iload_n hX dX6_move_13 rfl 2 rfl ?_
    refine g_i2l (v := (nI q).toInt64) hX dX6_move_14 rfl ?_
    refine g_lconst (v := 1) hX dX6_move_15 (by decide) ?_
    refine g_ldc2 (v := 18) hX cX6_217 dX6_move_16 ?_
    refine g_callSi (as := [.long ((nI q).toInt64), .long 1, .long (18)]) hX (fun l => c_X6_in l) mX6_in sX6_in lX6_54 rfl dX6_move_19 rfl (by decide) (Nat.le_of_ble_eq_true rfl) (by decide) (by decide) ?_
    refine g_top (y := xb ((1 : Int) ≤ ((q : Nat) : Int) ∧ ((q : Nat) : Int) ≤ (18 : Int))) (xb_iffI ((i64_of _).trans (nI_toInt (by omega))) (by decide) (by decide)) ?_
    refine g_cb_ne (tgt := 28) hX dX6_move_22 (by decide) (fun h22 => ?_) (fun h22 => ?_)
    · refine g_aload_n hX dX6_move_28 rfl 0 rfl ?_
      refine g_iload_n hX dX6_move_29 rfl 2 rfl ?_
      refine g_callVi hX (as := [.int (nI q)]) (fun l => c_X6_treeAt l (I := (xput I 307 0 (nI 0))) (T := T) (x := (nI q)) (hT := (by first | assumption | omega)) (hT6 := (by first | assumption | omega))) mX6_treeAt vX6_treeAt lX6_196 (by decide) (by decide) xCl6 rfl rfl dX6_move_30 rfl (by decide) (Nat.le_of_ble_eq_true rfl) (by decide) (by decide) ?_
      refine g_top (y := nI u) (by rw [show taF ((xput I 307 0 (nI 0)) 311) T (nI q) = some u from hu]; rfl) ?_
      refine g_ldc (v := -1000000) hX cX6_80 dX6_move_33 ?_
      refine g_ci_eq (a := ((u : Nat) : Int)) (b := (-1000000 : Int)) (tgt := 41) hX dX6_move_35 (by decide) (nI_toInt (by omega)) (by decide) (fun q => absurd q (by omega)) (fun _ => ?_)
      refine g_ldc (v := -1000002) hX cX6_205 dX6_move_38 ?_
      exact g_iret hX hR dX6_move_40 (by decide) (by decide) ⟨congrArg (fun z => some (Value.int z)) rfl, rfl, rfl, rfl⟩
    · exfalso; omega

theorem c_X6_move_oklt (l : Launch) {nw sp : Nat} {I : xM} {t q T : Nat} {D : Nat} (hT : I 311 0 = nI T) (hT6 : T ≤ 6) (ht : t < T) (hq : 1 ≤ q) (hq8 : q ≤ 18) (hu : taF (I 311) T (nI q) = none) (hD : I 307 9 = nI D) (hD24 : D < 24) : xC l 3 0 0 yX6_move cX6_move 4 (some .int) 319 [.ref 307, .int (nI t), .int (nI q)] I (xRL nw sp) (xpI (I 311 (26 + 5 * t + 1)) 319 (xput (xput (xrow (xput I 307 0 (nI 0)) 313 (xfill (I 313) (I 311) (74 * D) 74)) 307 9 (nI (D + 1))) 311 (26 + 5 * t + 1) (nI q)) (xRL nw sp)) := by
  refine xC_of (by decide) (Nat.le_of_ble_eq_true rfl) (fun X hXl hX hR => ?_)
  have hX : xOK X RX6 cX6_move 4 3 0 0 := hX
  show G X 319 0 0 I (xRL nw sp) 0 [(0, .ref 307), (1, .int (nI t)), (2, .int (nI q))] []
  refine g_aload_n hX dX6_move_0 rfl 0 rfl ?_
  refine g_iconst (v := nI 0) hX dX6_move_1 (by decide) ?_
  refine g_putI hX (by decide) (by decide) xCl6 0 (by decide) (by decide) (by decide) kX6_44 dX6_move_2 rfl rfl ?_
  refine g_aload_n hX dX6_move_5 rfl 0 rfl ?_
  refine g_iload_n hX dX6_move_6 rfl 1 rfl ?_
  refine g_callVi hX (as := [.int (nI t)]) (fun l => c_X6_isTree l (I := (xput I 307 0 (nI 0))) (T := T) (x := (nI t)) (hT := (by first | assumption | omega)) (hT6 := (by first | assumption | omega))) mX6_isTree vX6_isTree lX6_211 (by decide) (by decide) xCl6 rfl rfl dX6_move_7 rfl (by decide) (Nat.le_of_ble_eq_true rfl) (by decide) (by decide) ?_
  refine g_top (y := xb (0 ≤ ((t : Nat) : Int) ∧ ((t : Nat) : Int) < T)) (by rw [nI_toInt (n := t) (by omega)]) ?_
  refine g_cb_eq (tgt := 25) hX dX6_move_10 (by decide) (fun h10 => ?_) (fun h10 => ?_)
  · exfalso; omega
  · refine g_iload_n hX dX6_move_13 rfl 2 rfl ?_
    refine g_i2l (v := (nI q).toInt64) hX dX6_move_14 rfl ?_
    refine g_lconst (v := 1) hX dX6_move_15 (by decide) ?_
    refine g_ldc2 (v := 18) hX cX6_217 dX6_move_16 ?_
    refine g_callSi (as := [.long ((nI q).toInt64), .long 1, .long (18)]) hX (fun l => c_X6_in l) mX6_in sX6_in lX6_54 rfl dX6_move_19 rfl (by decide) (Nat.le_of_ble_eq_true rfl) (by decide) (by decide) ?_
    refine g_top (y := xb ((1 : Int) ≤ ((q : Nat) : Int) ∧ ((q : Nat) : Int) ≤ (18 : Int))) (xb_iffI ((i64_of _).trans (nI_toInt (by omega))) (by decide) (by decide)) ?_
    refine g_cb_ne (tgt := 28) hX dX6_move_22 (by decide) (fun h22 => ?_) (fun h22 => ?_)
    · refine g_aload_n hX dX6_move_28 rfl 0 rfl ?_
      refine g_iload_n hX dX6_move_29 rfl 2 rfl ?_
      refine g_callVi hX (as := [.int (nI q)]) (fun l => c_X6_treeAt l (I := (xput I 307 0 (nI 0))) (T := T) (x := (nI q)) (hT := (by first | assumption | omega)) (hT6 := (by first | assumption | omega))) mX6_treeAt vX6_treeAt lX6_196 (by decide) (by decide) xCl6 rfl rfl dX6_move_30 rfl (by decide) (Nat.le_of_ble_eq_true rfl) (by decide) (by decide) ?_
      refine g_top (y := (-1000000)) (by rw [show taF ((xput I 307 0 (nI 0)) 311) T (nI q) = none from hu]; rfl) ?_
      refine g_ldc (v := -1000000) hX cX6_80 dX6_move_33 ?_
      refine g_ci_eq (a := (-1000000 : Int)) (b := (-1000000 : Int)) (tgt := 41) hX dX6_move_35 (by decide) (by decide) (by decide) (fun _ => ?_) (fun q => absurd q (by decide))
      refine g_aload_n hX dX6_move_41 rfl 0 rfl ?_
      refine g_callVv hX (as := []) (fun l => c_X6_keep_lt l (I := (xput I 307 0 (nI 0))) (D := D) (hD := (by first | assumption | omega)) (hD24 := (by first | assumption | omega))) mX6_keep vX6_keep lX6_208 (by decide) (by decide) xCl6 rfl rfl dX6_move_42 rfl (by decide) (Nat.le_of_ble_eq_true rfl) (by decide) (by decide) ?_
      refine g_aload_n hX dX6_move_45 rfl 0 rfl ?_
      refine g_iload_n hX dX6_move_46 rfl 1 rfl ?_
      refine g_iconst (v := nI 1) hX dX6_move_47 (by decide) ?_
      refine g_callVi hX (as := [.int (nI t), .int (nI 1)]) (fun l => c_X6_of l (I := (xput (xrow (xput I 307 0 (nI 0)) 313 (xfill ((xput I 307 0 (nI 0)) 313) ((xput I 307 0 (nI 0)) 311) (74 * D) 74)) 307 9 (nI (D + 1)))) (t := t) (w := 1) (ht := (by first | assumption | omega))) mX6_of vX6_of lX6_193 (by decide) (by decide) xCl6 rfl rfl dX6_move_48 rfl (by decide) (Nat.le_of_ble_eq_true rfl) (by decide) (by decide) ?_
      refine g_istore_n (L' := [(0, .ref 307), (1, .int (nI t)), (2, .int (nI q)), (3, .int ((xput (xrow (xput I 307 0 (nI 0)) 313 (xfill ((xput I 307 0 (nI 0)) 313) ((xput I 307 0 (nI 0)) 311) (74 * D) 74)) 307 9 (nI (D + 1))) 311 (26 + 5 * t + 1)))]) hX dX6_move_51 rfl (by decide) rfl ?_
      refine g_aload_n hX dX6_move_52 rfl 0 rfl ?_
      refine g_getR (j := 311) hX (by decide) (by decide) xCl6 5 (by decide) (by decide) kX6_19 dX6_move_53 rfl ?_
      refine g_bipush (v := nI 26) hX dX6_move_56 (by decide) ?_
      refine g_iconst (v := nI 5) hX dX6_move_58 (by decide) ?_
      refine g_iload_n hX dX6_move_59 rfl 1 rfl ?_
      refine g_imul (v := nI (5 * t)) hX dX6_move_60 (nI_mul 5 t) ?_
      refine g_iadd (v := nI (26 + (5 * t))) hX dX6_move_61 (nI_add 26 (5 * t)) ?_
      refine g_iconst (v := nI 1) hX dX6_move_62 (by decide) ?_
      refine g_iadd (v := nI ((26 + (5 * t)) + 1)) hX dX6_move_63 (nI_add (26 + (5 * t)) 1) ?_
      refine g_iload_n hX dX6_move_64 rfl 2 rfl ?_
      refine g_iast hX (by decide) (by decide) ((26 + (5 * t)) + 1) rfl (by rw [(show xN 311 = 74 by decide)]; omega) dX6_move_65 ?_
      refine g_iload_n hX dX6_move_66 rfl 3 rfl ?_
      exact g_iret hX hR dX6_move_67 (by decide) (by decide) ⟨congrArg (fun z => some (Value.int z)) rfl, rfl, rfl, rfl⟩
    · exfalso; omega

theorem c_X6_move_okeq (l : Launch) {nw sp : Nat} {I : xM} {t q T : Nat} (hT : I 311 0 = nI T) (hT6 : T ≤ 6) (ht : t < T) (hq : 1 ≤ q) (hq8 : q ≤ 18) (hu : taF (I 311) T (nI q) = none) (hD : I 307 9 = nI 24) : xC l 3 0 0 yX6_move cX6_move 4 (some .int) 319 [.ref 307, .int (nI t), .int (nI q)] I (xRL nw sp) (xpI (I 311 (26 + 5 * t + 1)) 319 (xput (xrow (xput I 307 0 (nI 0)) 313 (xfill (xfill (I 313) (fun t => I 313 (t + 74)) 0 1702) (I 311) (74 * 23) 74)) 311 (26 + 5 * t + 1) (nI q)) (xRL nw sp)) := by
  refine xC_of (by decide) (Nat.le_of_ble_eq_true rfl) (fun X hXl hX hR => ?_)
  have hX : xOK X RX6 cX6_move 4 3 0 0 := hX
  show G X 319 0 0 I (xRL nw sp) 0 [(0, .ref 307), (1, .int (nI t)), (2, .int (nI q))] []
  refine g_aload_n hX dX6_move_0 rfl 0 rfl ?_
  refine g_iconst (v := nI 0) hX dX6_move_1 (by decide) ?_
  refine g_putI hX (by decide) (by decide) xCl6 0 (by decide) (by decide) (by decide) kX6_44 dX6_move_2 rfl rfl ?_
  refine g_aload_n hX dX6_move_5 rfl 0 rfl ?_
  refine g_iload_n hX dX6_move_6 rfl 1 rfl ?_
  refine g_callVi hX (as := [.int (nI t)]) (fun l => c_X6_isTree l (I := (xput I 307 0 (nI 0))) (T := T) (x := (nI t)) (hT := (by first | assumption | omega)) (hT6 := (by first | assumption | omega))) mX6_isTree vX6_isTree lX6_211 (by decide) (by decide) xCl6 rfl rfl dX6_move_7 rfl (by decide) (Nat.le_of_ble_eq_true rfl) (by decide) (by decide) ?_
  refine g_top (y := xb (0 ≤ ((t : Nat) : Int) ∧ ((t : Nat) : Int) < T)) (by rw [nI_toInt (n := t) (by omega)]) ?_
  refine g_cb_eq (tgt := 25) hX dX6_move_10 (by decide) (fun h10 => ?_) (fun h10 => ?_)
  · exfalso; omega
  · refine g_iload_n hX dX6_move_13 rfl 2 rfl ?_
    refine g_i2l (v := (nI q).toInt64) hX dX6_move_14 rfl ?_
    refine g_lconst (v := 1) hX dX6_move_15 (by decide) ?_
    refine g_ldc2 (v := 18) hX cX6_217 dX6_move_16 ?_
    refine g_callSi (as := [.long ((nI q).toInt64), .long 1, .long (18)]) hX (fun l => c_X6_in l) mX6_in sX6_in lX6_54 rfl dX6_move_19 rfl (by decide) (Nat.le_of_ble_eq_true rfl) (by decide) (by decide) ?_
    refine g_top (y := xb ((1 : Int) ≤ ((q : Nat) : Int) ∧ ((q : Nat) : Int) ≤ (18 : Int))) (xb_iffI ((i64_of _).trans (nI_toInt (by omega))) (by decide) (by decide)) ?_
    refine g_cb_ne (tgt := 28) hX dX6_move_22 (by decide) (fun h22 => ?_) (fun h22 => ?_)
    · refine g_aload_n hX dX6_move_28 rfl 0 rfl ?_
      refine g_iload_n hX dX6_move_29 rfl 2 rfl ?_
      refine g_callVi hX (as := [.int (nI q)]) (fun l => c_X6_treeAt l (I := (xput I 307 0 (nI 0))) (T := T) (x := (nI q)) (hT := (by first | assumption | omega)) (hT6 := (by first | assumption | omega))) mX6_treeAt vX6_treeAt lX6_196 (by decide) (by decide) xCl6 rfl rfl dX6_move_30 rfl (by decide) (Nat.le_of_ble_eq_true rfl) (by decide) (by decide) ?_
      refine g_top (y := (-1000000)) (by rw [show taF ((xput I 307 0 (nI 0)) 311) T (nI q) = none from hu]; rfl) ?_
      refine g_ldc (v := -1000000) hX cX6_80 dX6_move_33 ?_
      refine g_ci_eq (a := (-1000000 : Int)) (b := (-1000000 : Int)) (tgt := 41) hX dX6_move_35 (by decide) (by decide) (by decide) (fun _ => ?_) (fun q => absurd q (by decide))
      refine g_aload_n hX dX6_move_41 rfl 0 rfl ?_
      refine g_callVv hX (as := []) (fun l => c_X6_keep_eq l (I := (xput I 307 0 (nI 0))) (hD := (by first | assumption | omega))) mX6_keep vX6_keep lX6_208 (by decide) (by decide) xCl6 rfl rfl dX6_move_42 rfl (by decide) (Nat.le_of_ble_eq_true rfl) (by decide) (by decide) ?_
      refine g_aload_n hX dX6_move_45 rfl 0 rfl ?_
      refine g_iload_n hX dX6_move_46 rfl 1 rfl ?_
      refine g_iconst (v := nI 1) hX dX6_move_47 (by decide) ?_
      refine g_callVi hX (as := [.int (nI t), .int (nI 1)]) (fun l => c_X6_of l (I := (xrow (xput I 307 0 (nI 0)) 313 (xfill (xfill ((xput I 307 0 (nI 0)) 313) (fun t => (xput I 307 0 (nI 0)) 313 (t + 74)) 0 1702) ((xput I 307 0 (nI 0)) 311) (74 * 23) 74))) (t := t) (w := 1) (ht := (by first | assumption | omega))) mX6_of vX6_of lX6_193 (by decide) (by decide) xCl6 rfl rfl dX6_move_48 rfl (by decide) (Nat.le_of_ble_eq_true rfl) (by decide) (by decide) ?_
      refine g_istore_n (L' := [(0, .ref 307), (1, .int (nI t)), (2, .int (nI q)), (3, .int ((xrow (xput I 307 0 (nI 0)) 313 (xfill (xfill ((xput I 307 0 (nI 0)) 313) (fun t => (xput I 307 0 (nI 0)) 313 (t + 74)) 0 1702) ((xput I 307 0 (nI 0)) 311) (74 * 23) 74)) 311 (26 + 5 * t + 1)))]) hX dX6_move_51 rfl (by decide) rfl ?_
      refine g_aload_n hX dX6_move_52 rfl 0 rfl ?_
      refine g_getR (j := 311) hX (by decide) (by decide) xCl6 5 (by decide) (by decide) kX6_19 dX6_move_53 rfl ?_
      refine g_bipush (v := nI 26) hX dX6_move_56 (by decide) ?_
      refine g_iconst (v := nI 5) hX dX6_move_58 (by decide) ?_
      refine g_iload_n hX dX6_move_59 rfl 1 rfl ?_
      refine g_imul (v := nI (5 * t)) hX dX6_move_60 (nI_mul 5 t) ?_
      refine g_iadd (v := nI (26 + (5 * t))) hX dX6_move_61 (nI_add 26 (5 * t)) ?_
      refine g_iconst (v := nI 1) hX dX6_move_62 (by decide) ?_
      refine g_iadd (v := nI ((26 + (5 * t)) + 1)) hX dX6_move_63 (nI_add (26 + (5 * t)) 1) ?_
      refine g_iload_n hX dX6_move_64 rfl 2 rfl ?_
      refine g_iast hX (by decide) (by decide) ((26 + (5 * t)) + 1) rfl (by rw [(show xN 311 = 74 by decide)]; omega) dX6_move_65 ?_
      refine g_iload_n hX dX6_move_66 rfl 3 rfl ?_
      exact g_iret hX hR dX6_move_67 (by decide) (by decide) ⟨congrArg (fun z => some (Value.int z)) rfl, rfl, rfl, rfl⟩
    · exfalso; omega

theorem c_X6_level_none (l : Launch) {nw sp : Nat} {I : xM} {x y : Int32} (hst : I 307 7 = nI 0) : xC l 1 0 0 yX6_level cX6_level 4 (some .int) 319 [.ref 307, .int x, .int y] I (xRL nw sp) (xpI (-1000002) 319 (xput I 307 0 (nI 0)) (xRL nw sp)) := by
  refine xC_of (by decide) (Nat.le_of_ble_eq_true rfl) (fun X hXl hX hR => ?_)
  have hX : xOK X RX6 cX6_level 4 1 0 0 := hX
  show G X 319 0 0 I (xRL nw sp) 0 [(0, .ref 307), (1, .int x), (2, .int y)] []
  refine g_aload_n hX dX6_level_0 rfl 0 rfl ?_
  refine g_iconst (v := nI 0) hX dX6_level_1 (by decide) ?_
  refine g_putI hX (by decide) (by decide) xCl6 0 (by decide) (by decide) (by decide) kX6_44 dX6_level_2 rfl rfl ?_
  refine g_aload_n hX dX6_level_5 rfl 0 rfl ?_
  refine g_getI (v := nI 0) hX (by decide) (by decide) xCl6 7 (by decide) (by decide) kX6_186 dX6_level_6 (xput_i (by decide) hst) ?_
  refine g_cz_ne (a := (0 : Int)) (tgt := 15) hX dX6_level_9 (by decide) (by decide) (fun q => absurd q (by decide)) (fun _ => ?_)
  refine g_ldc (v := -1000002) hX cX6_205 dX6_level_12 ?_
  exact g_iret hX hR dX6_level_14 (by decide) (by decide) ⟨congrArg (fun z => some (Value.int z)) rfl, rfl, rfl, rfl⟩

theorem c_X6_level_bad (l : Launch) {nw sp : Nat} {I : xM} {x y : Int32} (hst : I 307 7 = nI 1) (hb : ¬ (0 ≤ x.toInt ∧ x.toInt ≤ 7)) : xC l 3 0 0 yX6_level cX6_level 4 (some .int) 319 [.ref 307, .int x, .int y] I (xRL nw sp) (xpI (-1000001) 319 (xput I 307 0 (nI 0)) (xRL nw sp)) := by
  refine xC_of (by decide) (Nat.le_of_ble_eq_true rfl) (fun X hXl hX hR => ?_)
  have hX : xOK X RX6 cX6_level 4 3 0 0 := hX
  show G X 319 0 0 I (xRL nw sp) 0 [(0, .ref 307), (1, .int x), (2, .int y)] []
  refine g_aload_n hX dX6_level_0 rfl 0 rfl ?_
  refine g_iconst (v := nI 0) hX dX6_level_1 (by decide) ?_
  refine g_putI hX (by decide) (by decide) xCl6 0 (by decide) (by decide) (by decide) kX6_44 dX6_level_2 rfl rfl ?_
  refine g_aload_n hX dX6_level_5 rfl 0 rfl ?_
  refine g_getI (v := nI 1) hX (by decide) (by decide) xCl6 7 (by decide) (by decide) kX6_186 dX6_level_6 (xput_i (by decide) hst) ?_
  refine g_cz_ne (a := (1 : Int)) (tgt := 15) hX dX6_level_9 (by decide) (by decide) (fun _ => ?_) (fun q => absurd q (by decide))
  refine g_iload_n hX dX6_level_15 rfl 1 rfl ?_
  refine g_callSi hX (as := [.int x]) (fun l => c_X6_isRow l (I := (xput I 307 0 (nI 0))) (x := x) ) mX6_isRow sX6_isRow lX6_58 rfl dX6_level_16 rfl (by decide) (Nat.le_of_ble_eq_true rfl) (by decide) (by decide) ?_
  refine g_cb_ne (tgt := 25) hX dX6_level_19 (by decide) (fun h19 => ?_) (fun h19 => ?_)
  · exfalso; omega
  · refine g_ldc (v := -1000001) hX cX6_64 dX6_level_22 ?_
    exact g_iret hX hR dX6_level_24 (by decide) (by decide) ⟨congrArg (fun z => some (Value.int z)) rfl, rfl, rfl, rfl⟩

theorem c_X6_level_null (l : Launch) {nw sp : Nat} {I : xM} {r : Nat} {y : Int32} (hst : I 307 7 = nI 1) (hr : r < 8) (hl : (I 308 r).toInt < 0) : xC l 3 0 0 yX6_level cX6_level 4 (some .int) 319 [.ref 307, .int (nI r), .int y] I (xRL nw sp) (xpI (-1000011) 319 (xput (xput I 307 0 (nI 0)) 307 1 (nI 1)) (xRL nw sp)) := by
  refine xC_of (by decide) (Nat.le_of_ble_eq_true rfl) (fun X hXl hX hR => ?_)
  have hX : xOK X RX6 cX6_level 4 3 0 0 := hX
  show G X 319 0 0 I (xRL nw sp) 0 [(0, .ref 307), (1, .int (nI r)), (2, .int y)] []
  refine g_aload_n hX dX6_level_0 rfl 0 rfl ?_
  refine g_iconst (v := nI 0) hX dX6_level_1 (by decide) ?_
  refine g_putI hX (by decide) (by decide) xCl6 0 (by decide) (by decide) (by decide) kX6_44 dX6_level_2 rfl rfl ?_
  refine g_aload_n hX dX6_level_5 rfl 0 rfl ?_
  refine g_getI (v := nI 1) hX (by decide) (by decide) xCl6 7 (by decide) (by decide) kX6_186 dX6_level_6 (xput_i (by decide) hst) ?_
  refine g_cz_ne (a := (1 : Int)) (tgt := 15) hX dX6_level_9 (by decide) (by decide) (fun _ => ?_) (fun q => absurd q (by decide))
  refine g_iload_n hX dX6_level_15 rfl 1 rfl ?_
  refine g_callSi hX (as := [.int (nI r)]) (fun l => c_X6_isRow l (I := (xput I 307 0 (nI 0))) (x := (nI r)) ) mX6_isRow sX6_isRow lX6_58 rfl dX6_level_16 rfl (by decide) (Nat.le_of_ble_eq_true rfl) (by decide) (by decide) ?_
  refine g_top (y := xb ((0 : Int) ≤ ((r : Nat) : Int) ∧ ((r : Nat) : Int) ≤ (7 : Int))) (by rw [nI_toInt (n := r) (by omega)]) ?_
  refine g_cb_ne (tgt := 25) hX dX6_level_19 (by decide) (fun h19 => ?_) (fun h19 => ?_)
  · refine g_aload_n hX dX6_level_25 rfl 0 rfl ?_
    refine g_getR (j := 308) hX (by decide) (by decide) xCl6 2 (by decide) (by decide) kX6_7 dX6_level_26 rfl ?_
    refine g_iload_n hX dX6_level_29 rfl 1 rfl ?_
    refine g_iald (v := I 308 r) hX (by decide) (by decide) r rfl (by rw [(show xN 308 = 8 by decide)]; omega) dX6_level_30 (xput_o (by decide) rfl) ?_
    refine g_cz_ge (a := (I 308 r).toInt) (tgt := 40) hX dX6_level_31 (by decide) rfl (fun h31 => ?_) (fun h31 => ?_)
    · exfalso; omega
    · refine g_aload_n hX dX6_level_34 rfl 0 rfl ?_
      refine g_iconst (v := nI 1) hX dX6_level_35 (by decide) ?_
      refine g_callVi hX (as := [.int (nI 1)]) (fun l => c_X6_finding l (I := (xput I 307 0 (nI 0))) (x := (nI 1)) ) mX6_finding vX6_finding lX6_65 (by decide) (by decide) xCl6 rfl rfl dX6_level_36 rfl (by decide) (Nat.le_of_ble_eq_true rfl) (by decide) (by decide) ?_
      exact g_iret hX hR dX6_level_39 (by decide) (by decide) ⟨congrArg (fun z => some (Value.int z)) rfl, rfl, rfl, rfl⟩
  · exfalso; omega

theorem c_X6_level_place (l : Launch) {nw sp : Nat} {I : xM} {r ln m : Nat} {y : Int32} (hst : I 307 7 = nI 1) (hr : r < 8) (hl : I 308 r = nI ln) (hln : ln < 3) (hm : I 309 r = nI m) (hm4 : m ≤ 40) (hp : ¬ (0 ≤ y.toInt ∧ y.toInt + 20 ≤ m)) : xC l 3 0 0 yX6_level cX6_level 4 (some .int) 319 [.ref 307, .int (nI r), .int y] I (xRL nw sp) (xpI (-1000012) 319 (xput (xput I 307 0 (nI 0)) 307 1 (nI 2)) (xRL nw sp)) := by
  refine xC_of (by decide) (Nat.le_of_ble_eq_true rfl) (fun X hXl hX hR => ?_)
  have hX : xOK X RX6 cX6_level 4 3 0 0 := hX
  show G X 319 0 0 I (xRL nw sp) 0 [(0, .ref 307), (1, .int (nI r)), (2, .int y)] []
  have e1 := @lcmp_gt (y.toInt64 + 20) (nI m).toInt64
  rw [i64_add20, i64_of, nI_toInt (n := m) (by omega)] at e1
  refine g_aload_n hX dX6_level_0 rfl 0 rfl ?_
  refine g_iconst (v := nI 0) hX dX6_level_1 (by decide) ?_
  refine g_putI hX (by decide) (by decide) xCl6 0 (by decide) (by decide) (by decide) kX6_44 dX6_level_2 rfl rfl ?_
  refine g_aload_n hX dX6_level_5 rfl 0 rfl ?_
  refine g_getI (v := nI 1) hX (by decide) (by decide) xCl6 7 (by decide) (by decide) kX6_186 dX6_level_6 (xput_i (by decide) hst) ?_
  refine g_cz_ne (a := (1 : Int)) (tgt := 15) hX dX6_level_9 (by decide) (by decide) (fun _ => ?_) (fun q => absurd q (by decide))
  refine g_iload_n hX dX6_level_15 rfl 1 rfl ?_
  refine g_callSi hX (as := [.int (nI r)]) (fun l => c_X6_isRow l (I := (xput I 307 0 (nI 0))) (x := (nI r)) ) mX6_isRow sX6_isRow lX6_58 rfl dX6_level_16 rfl (by decide) (Nat.le_of_ble_eq_true rfl) (by decide) (by decide) ?_
  refine g_top (y := xb ((0 : Int) ≤ ((r : Nat) : Int) ∧ ((r : Nat) : Int) ≤ (7 : Int))) (by rw [nI_toInt (n := r) (by omega)]) ?_
  refine g_cb_ne (tgt := 25) hX dX6_level_19 (by decide) (fun h19 => ?_) (fun h19 => ?_)
  · refine g_aload_n hX dX6_level_25 rfl 0 rfl ?_
    refine g_getR (j := 308) hX (by decide) (by decide) xCl6 2 (by decide) (by decide) kX6_7 dX6_level_26 rfl ?_
    refine g_iload_n hX dX6_level_29 rfl 1 rfl ?_
    refine g_iald (v := nI ln) hX (by decide) (by decide) r rfl (by rw [(show xN 308 = 8 by decide)]; omega) dX6_level_30 (xput_o (by decide) hl) ?_
    refine g_cz_ge (a := ((ln : Nat) : Int)) (tgt := 40) hX dX6_level_31 (by decide) (nI_toInt (by omega)) (fun h31 => ?_) (fun h31 => ?_)
    · refine g_iload_n hX dX6_level_40 rfl 2 rfl ?_
      refine g_cz_lt (a := y.toInt) (tgt := 61) hX dX6_level_41 (by decide) rfl (fun h41 => ?_) (fun h41 => ?_)
      · refine g_aload_n hX dX6_level_61 rfl 0 rfl ?_
        refine g_iconst (v := nI 2) hX dX6_level_62 (by decide) ?_
        refine g_callVi hX (as := [.int (nI 2)]) (fun l => c_X6_finding l (I := (xput I 307 0 (nI 0))) (x := (nI 2)) ) mX6_finding vX6_finding lX6_65 (by decide) (by decide) xCl6 rfl rfl dX6_level_63 rfl (by decide) (Nat.le_of_ble_eq_true rfl) (by decide) (by decide) ?_
        exact g_iret hX hR dX6_level_66 (by decide) (by decide) ⟨congrArg (fun z => some (Value.int z)) rfl, rfl, rfl, rfl⟩
      · refine g_iload_n hX dX6_level_44 rfl 2 rfl ?_
        refine g_i2l (v := y.toInt64) hX dX6_level_45 rfl ?_
        refine g_ldc2 (v := 20) hX cX6_219 dX6_level_46 ?_
        refine g_ladd (v := y.toInt64 + (20)) hX dX6_level_49 rfl ?_
        refine g_aload_n hX dX6_level_50 rfl 0 rfl ?_
        refine g_getR (j := 309) hX (by decide) (by decide) xCl6 3 (by decide) (by decide) kX6_13 dX6_level_51 rfl ?_
        refine g_iload_n hX dX6_level_54 rfl 1 rfl ?_
        refine g_iald (v := nI m) hX (by decide) (by decide) r rfl (by rw [(show xN 309 = 8 by decide)]; omega) dX6_level_55 (xput_o (by decide) hm) ?_
        refine g_i2l (v := (nI m).toInt64) hX dX6_level_56 rfl ?_
        refine g_lcmp (v := lg_cmp (y.toInt64 + (20)) ((nI m).toInt64)) hX dX6_level_57 rfl ?_
        refine g_cz_le (a := (lg_cmp (y.toInt64 + (20)) ((nI m).toInt64)).toInt) (tgt := 67) hX dX6_level_58 (by decide) rfl (fun h58 => ?_) (fun h58 => ?_)
        · exfalso; omega
        · refine g_aload_n hX dX6_level_61 rfl 0 rfl ?_
          refine g_iconst (v := nI 2) hX dX6_level_62 (by decide) ?_
          refine g_callVi hX (as := [.int (nI 2)]) (fun l => c_X6_finding l (I := (xput I 307 0 (nI 0))) (x := (nI 2)) ) mX6_finding vX6_finding lX6_65 (by decide) (by decide) xCl6 rfl rfl dX6_level_63 rfl (by decide) (Nat.le_of_ble_eq_true rfl) (by decide) (by decide) ?_
          exact g_iret hX hR dX6_level_66 (by decide) (by decide) ⟨congrArg (fun z => some (Value.int z)) rfl, rfl, rfl, rfl⟩
    · exfalso; omega
  · exfalso; omega

theorem c_X6_level_val (l : Launch) {nw sp : Nat} {I : xM} {r i ln m p : Nat} (hst : I 307 7 = nI 1) (hr : r < 8) (hl : I 308 r = nI ln) (hln : ln < 3) (hm : I 309 r = nI m) (hm4 : m ≤ 40) (hi : i + 20 ≤ m) (hp : p < 20) (hv : ¬ (0 ≤ (I 310 (40 * r + i + p)).toInt ∧ (I 310 (40 * r + i + p)).toInt ≤ 60)) : xC l 3 0 0 yX6_level cX6_level 4 (some .int) 319 [.ref 307, .int (nI r), .int (nI i)] I (xRL nw sp) (xpI (-1000001) 319 (xput I 307 0 (nI 0)) (xRL nw sp)) := by
  refine xC_of (by decide) (Nat.le_of_ble_eq_true rfl) (fun X hXl hX hR => ?_)
  have hX : xOK X RX6 cX6_level 4 3 0 0 := hX
  show G X 319 0 0 I (xRL nw sp) 0 [(0, .ref 307), (1, .int (nI r)), (2, .int (nI i))] []
  have e1 := @lcmp_gt ((nI i).toInt64 + 20) (nI m).toInt64
  rw [i64_add20, nI_toInt (n := i) (by omega), i64_of, nI_toInt (n := m) (by omega)] at e1
  refine g_aload_n hX dX6_level_0 rfl 0 rfl ?_
  refine g_iconst (v := nI 0) hX dX6_level_1 (by decide) ?_
  refine g_putI hX (by decide) (by decide) xCl6 0 (by decide) (by decide) (by decide) kX6_44 dX6_level_2 rfl rfl ?_
  refine g_aload_n hX dX6_level_5 rfl 0 rfl ?_
  refine g_getI (v := nI 1) hX (by decide) (by decide) xCl6 7 (by decide) (by decide) kX6_186 dX6_level_6 (xput_i (by decide) hst) ?_
  refine g_cz_ne (a := (1 : Int)) (tgt := 15) hX dX6_level_9 (by decide) (by decide) (fun _ => ?_) (fun q => absurd q (by decide))
  refine g_iload_n hX dX6_level_15 rfl 1 rfl ?_
  refine g_callSi hX (as := [.int (nI r)]) (fun l => c_X6_isRow l (I := (xput I 307 0 (nI 0))) (x := (nI r)) ) mX6_isRow sX6_isRow lX6_58 rfl dX6_level_16 rfl (by decide) (Nat.le_of_ble_eq_true rfl) (by decide) (by decide) ?_
  refine g_top (y := xb ((0 : Int) ≤ ((r : Nat) : Int) ∧ ((r : Nat) : Int) ≤ (7 : Int))) (by rw [nI_toInt (n := r) (by omega)]) ?_
  refine g_cb_ne (tgt := 25) hX dX6_level_19 (by decide) (fun h19 => ?_) (fun h19 => ?_)
  · refine g_aload_n hX dX6_level_25 rfl 0 rfl ?_
    refine g_getR (j := 308) hX (by decide) (by decide) xCl6 2 (by decide) (by decide) kX6_7 dX6_level_26 rfl ?_
    refine g_iload_n hX dX6_level_29 rfl 1 rfl ?_
    refine g_iald (v := nI ln) hX (by decide) (by decide) r rfl (by rw [(show xN 308 = 8 by decide)]; omega) dX6_level_30 (xput_o (by decide) hl) ?_
    refine g_cz_ge (a := ((ln : Nat) : Int)) (tgt := 40) hX dX6_level_31 (by decide) (nI_toInt (by omega)) (fun h31 => ?_) (fun h31 => ?_)
    · refine g_iload_n hX dX6_level_40 rfl 2 rfl ?_
      refine g_cz_lt (a := ((i : Nat) : Int)) (tgt := 61) hX dX6_level_41 (by decide) (nI_toInt (by omega)) (fun h41 => ?_) (fun h41 => ?_)
      · exfalso; omega
      · refine g_iload_n hX dX6_level_44 rfl 2 rfl ?_
        refine g_i2l (v := (nI i).toInt64) hX dX6_level_45 rfl ?_
        refine g_ldc2 (v := 20) hX cX6_219 dX6_level_46 ?_
        refine g_ladd (v := ((nI i).toInt64) + (20)) hX dX6_level_49 rfl ?_
        refine g_aload_n hX dX6_level_50 rfl 0 rfl ?_
        refine g_getR (j := 309) hX (by decide) (by decide) xCl6 3 (by decide) (by decide) kX6_13 dX6_level_51 rfl ?_
        refine g_iload_n hX dX6_level_54 rfl 1 rfl ?_
        refine g_iald (v := nI m) hX (by decide) (by decide) r rfl (by rw [(show xN 309 = 8 by decide)]; omega) dX6_level_55 (xput_o (by decide) hm) ?_
        refine g_i2l (v := (nI m).toInt64) hX dX6_level_56 rfl ?_
        refine g_lcmp (v := lg_cmp (((nI i).toInt64) + (20)) ((nI m).toInt64)) hX dX6_level_57 rfl ?_
        refine g_cz_le (a := (lg_cmp (((nI i).toInt64) + (20)) ((nI m).toInt64)).toInt) (tgt := 67) hX dX6_level_58 (by decide) rfl (fun h58 => ?_) (fun h58 => ?_)
        · refine g_iconst (v := nI 0) hX dX6_level_67 (by decide) ?_
          refine g_istore_n (L' := [(0, .ref 307), (1, .int (nI r)), (2, .int (nI i)), (3, .int (nI 0))]) hX dX6_level_68 rfl (by decide) rfl ?_
          have cut69 : ∀ (fuel : Nat) (q : Nat) (hq : q ≤ p), 20 - q < fuel → G X 319 0 0 (xput I 307 0 (nI 0)) (xRL nw sp) 69 [(0, .ref 307), (1, .int (nI r)), (2, .int (nI i)), (3, .int (nI q))] [] := by
            intro fuel
            induction fuel with
            | zero => intro q hq hfuel; omega
            | succ fuel ih =>
              intro q hq hfuel
              refine g_iload_n hX dX6_level_69 rfl 3 rfl ?_
              refine g_bipush (v := nI 20) hX dX6_level_70 (by decide) ?_
              refine g_ci_ge (a := ((q : Nat) : Int)) (b := (20 : Int)) (tgt := 108) hX dX6_level_72 (by decide) (nI_toInt (by omega)) (by decide) (fun h72 => ?_) (fun h72 => ?_)
              · exfalso; omega
              · refine g_aload_n hX dX6_level_75 rfl 0 rfl ?_
                refine g_getR (j := 310) hX (by decide) (by decide) xCl6 4 (by decide) (by decide) kX6_16 dX6_level_76 rfl ?_
                refine g_bipush (v := nI 40) hX dX6_level_79 (by decide) ?_
                refine g_iload_n hX dX6_level_81 rfl 1 rfl ?_
                refine g_imul (v := nI (40 * r)) hX dX6_level_82 (nI_mul 40 r) ?_
                refine g_iload_n hX dX6_level_83 rfl 2 rfl ?_
                refine g_iadd (v := nI ((40 * r) + i)) hX dX6_level_84 (nI_add (40 * r) i) ?_
                refine g_iload_n hX dX6_level_85 rfl 3 rfl ?_
                refine g_iadd (v := nI (((40 * r) + i) + q)) hX dX6_level_86 (nI_add ((40 * r) + i) q) ?_
                refine g_iald (v := (xput I 307 0 (nI 0)) 310 (((40 * r) + i) + q)) hX (by decide) (by decide) (((40 * r) + i) + q) rfl (by rw [(show xN 310 = 320 by decide)]; omega) dX6_level_87 rfl ?_
                refine g_i2l (v := ((xput I 307 0 (nI 0)) 310 (((40 * r) + i) + q)).toInt64) hX dX6_level_88 rfl ?_
                refine g_lconst (v := 0) hX dX6_level_89 (by decide) ?_
                refine g_ldc2 (v := 60) hX cX6_221 dX6_level_90 ?_
                refine g_callSi (as := [.long (((xput I 307 0 (nI 0)) 310 (((40 * r) + i) + q)).toInt64), .long 0, .long (60)]) hX (fun l => c_X6_in l) mX6_in sX6_in lX6_54 rfl dX6_level_93 rfl (by decide) (Nat.le_of_ble_eq_true rfl) (by decide) (by decide) ?_
                refine g_top (y := xb ((0 : Int) ≤ ((xput I 307 0 (nI 0)) 310 (((40 * r) + i) + q)).toInt ∧ ((xput I 307 0 (nI 0)) 310 (((40 * r) + i) + q)).toInt ≤ (60 : Int))) (xb_iffI ((i64_of _).trans rfl) (by decide) (by decide)) ?_
                refine g_cb_ne (tgt := 102) hX dX6_level_96 (by decide) (fun h96 => ?_) (fun h96 => ?_)
                · refine g_iinc (v := nI (q + 1)) (L' := [(0, .ref 307), (1, .int (nI r)), (2, .int (nI i)), (3, .int (nI (q + 1)))]) hX dX6_level_102 (by decide) 3 rfl (nI_add q 1) rfl ?_
                  refine g_goto (tgt := 69) hX dX6_level_105 (by decide) ?_
                  exact ih (q + 1) (Nat.lt_of_le_of_ne hq (fun e => by subst e; exact hv h96)) (by omega)
                · refine g_ldc (v := -1000001) hX cX6_64 dX6_level_99 ?_
                  exact g_iret hX hR dX6_level_101 (by decide) (by decide) ⟨congrArg (fun z => some (Value.int z)) rfl, rfl, rfl, rfl⟩
          exact cut69 _ 0 (by first | assumption | omega) (Nat.lt_succ_self _)
        · exfalso; omega
    · exfalso; omega
  · exfalso; omega

theorem c_X6_level_oklt (l : Launch) {nw sp : Nat} {I : xM} {r i ln m : Nat} {D : Nat} (hst : I 307 7 = nI 1) (hr : r < 8) (hl : I 308 r = nI ln) (hln : ln < 3) (hm : I 309 r = nI m) (hm4 : m ≤ 40) (hi : i + 20 ≤ m) (hv : ∀ p, p < 20 → 0 ≤ (I 310 (40 * r + i + p)).toInt ∧ (I 310 (40 * r + i + p)).toInt ≤ 60) (hD : I 307 9 = nI D) (hD24 : D < 24) : xC l 3 0 0 yX6_level cX6_level 4 (some .int) 319 [.ref 307, .int (nI r), .int (nI i)] I (xRL nw sp) (xpI (nI 1) 319 (xrow (xput (xrow (xput (xput I 307 0 (nI 0)) 307 1 (nI 0)) 313 (xfill (I 313) (I 311) (74 * D) 74)) 307 9 (nI (D + 1))) 311 (xfill (I 311) (fun p => I 310 (40 * r + i + p)) 6 20)) (xRL nw sp)) := by
  refine xC_of (by decide) (Nat.le_of_ble_eq_true rfl) (fun X hXl hX hR => ?_)
  have hX : xOK X RX6 cX6_level 4 3 0 0 := hX
  show G X 319 0 0 I (xRL nw sp) 0 [(0, .ref 307), (1, .int (nI r)), (2, .int (nI i))] []
  have e1 := @lcmp_gt ((nI i).toInt64 + 20) (nI m).toInt64
  rw [i64_add20, nI_toInt (n := i) (by omega), i64_of, nI_toInt (n := m) (by omega)] at e1
  refine g_aload_n hX dX6_level_0 rfl 0 rfl ?_
  refine g_iconst (v := nI 0) hX dX6_level_1 (by decide) ?_
  refine g_putI hX (by decide) (by decide) xCl6 0 (by decide) (by decide) (by decide) kX6_44 dX6_level_2 rfl rfl ?_
  refine g_aload_n hX dX6_level_5 rfl 0 rfl ?_
  refine g_getI (v := nI 1) hX (by decide) (by decide) xCl6 7 (by decide) (by decide) kX6_186 dX6_level_6 (xput_i (by decide) hst) ?_
  refine g_cz_ne (a := (1 : Int)) (tgt := 15) hX dX6_level_9 (by decide) (by decide) (fun _ => ?_) (fun q => absurd q (by decide))
  refine g_iload_n hX dX6_level_15 rfl 1 rfl ?_
  refine g_callSi hX (as := [.int (nI r)]) (fun l => c_X6_isRow l (I := (xput I 307 0 (nI 0))) (x := (nI r)) ) mX6_isRow sX6_isRow lX6_58 rfl dX6_level_16 rfl (by decide) (Nat.le_of_ble_eq_true rfl) (by decide) (by decide) ?_
  refine g_top (y := xb ((0 : Int) ≤ ((r : Nat) : Int) ∧ ((r : Nat) : Int) ≤ (7 : Int))) (by rw [nI_toInt (n := r) (by omega)]) ?_
  refine g_cb_ne (tgt := 25) hX dX6_level_19 (by decide) (fun h19 => ?_) (fun h19 => ?_)
  · refine g_aload_n hX dX6_level_25 rfl 0 rfl ?_
    refine g_getR (j := 308) hX (by decide) (by decide) xCl6 2 (by decide) (by decide) kX6_7 dX6_level_26 rfl ?_
    refine g_iload_n hX dX6_level_29 rfl 1 rfl ?_
    refine g_iald (v := nI ln) hX (by decide) (by decide) r rfl (by rw [(show xN 308 = 8 by decide)]; omega) dX6_level_30 (xput_o (by decide) hl) ?_
    refine g_cz_ge (a := ((ln : Nat) : Int)) (tgt := 40) hX dX6_level_31 (by decide) (nI_toInt (by omega)) (fun h31 => ?_) (fun h31 => ?_)
    · refine g_iload_n hX dX6_level_40 rfl 2 rfl ?_
      refine g_cz_lt (a := ((i : Nat) : Int)) (tgt := 61) hX dX6_level_41 (by decide) (nI_toInt (by omega)) (fun h41 => ?_) (fun h41 => ?_)
      · exfalso; omega
      · refine g_iload_n hX dX6_level_44 rfl 2 rfl ?_
        refine g_i2l (v := (nI i).toInt64) hX dX6_level_45 rfl ?_
        refine g_ldc2 (v := 20) hX cX6_219 dX6_level_46 ?_
        refine g_ladd (v := ((nI i).toInt64) + (20)) hX dX6_level_49 rfl ?_
        refine g_aload_n hX dX6_level_50 rfl 0 rfl ?_
        refine g_getR (j := 309) hX (by decide) (by decide) xCl6 3 (by decide) (by decide) kX6_13 dX6_level_51 rfl ?_
        refine g_iload_n hX dX6_level_54 rfl 1 rfl ?_
        refine g_iald (v := nI m) hX (by decide) (by decide) r rfl (by rw [(show xN 309 = 8 by decide)]; omega) dX6_level_55 (xput_o (by decide) hm) ?_
        refine g_i2l (v := (nI m).toInt64) hX dX6_level_56 rfl ?_
        refine g_lcmp (v := lg_cmp (((nI i).toInt64) + (20)) ((nI m).toInt64)) hX dX6_level_57 rfl ?_
        refine g_cz_le (a := (lg_cmp (((nI i).toInt64) + (20)) ((nI m).toInt64)).toInt) (tgt := 67) hX dX6_level_58 (by decide) rfl (fun h58 => ?_) (fun h58 => ?_)
        · refine g_iconst (v := nI 0) hX dX6_level_67 (by decide) ?_
          refine g_istore_n (L' := [(0, .ref 307), (1, .int (nI r)), (2, .int (nI i)), (3, .int (nI 0))]) hX dX6_level_68 rfl (by decide) rfl ?_
          have cut69 : ∀ (fuel : Nat) (q : Nat) (hq : q ≤ 20), 20 - q < fuel → G X 319 0 0 (xput I 307 0 (nI 0)) (xRL nw sp) 69 [(0, .ref 307), (1, .int (nI r)), (2, .int (nI i)), (3, .int (nI q))] [] := by
            intro fuel
            induction fuel with
            | zero => intro q hq hfuel; omega
            | succ fuel ih =>
              intro q hq hfuel
              refine g_iload_n hX dX6_level_69 rfl 3 rfl ?_
              refine g_bipush (v := nI 20) hX dX6_level_70 (by decide) ?_
              refine g_ci_ge (a := ((q : Nat) : Int)) (b := (20 : Int)) (tgt := 108) hX dX6_level_72 (by decide) (nI_toInt (by omega)) (by decide) (fun h72 => ?_) (fun h72 => ?_)
              · refine g_aload_n hX dX6_level_108 rfl 0 rfl ?_
                refine g_iconst (v := nI 0) hX dX6_level_109 (by decide) ?_
                refine g_putI hX (by decide) (by decide) xCl6 1 (by decide) (by decide) (by decide) kX6_48 dX6_level_110 rfl rfl ?_
                refine g_aload_n hX dX6_level_113 rfl 0 rfl ?_
                refine g_callVv hX (as := []) (fun l => c_X6_keep_lt l (I := (xput (xput I 307 0 (nI 0)) 307 1 (nI 0))) (D := D) (hD := (by first | assumption | omega)) (hD24 := (by first | assumption | omega))) mX6_keep vX6_keep lX6_208 (by decide) (by decide) xCl6 rfl rfl dX6_level_114 rfl (by decide) (Nat.le_of_ble_eq_true rfl) (by decide) (by decide) ?_
                refine g_iconst (v := nI 0) hX dX6_level_117 (by decide) ?_
                refine g_istore_n (L' := [(0, .ref 307), (1, .int (nI r)), (2, .int (nI i)), (3, .int (nI 0))]) hX dX6_level_118 rfl (by decide) rfl ?_
                have cut119 : ∀ (fuel119 : Nat) (q : Nat) (J : xM) (hq : q ≤ 20) (hJ : J = xrow (xput (xrow (xput (xput I 307 0 (nI 0)) 307 1 (nI 0)) 313 (xfill (I 313) (I 311) (74 * D) 74)) 307 9 (nI (D + 1))) 311 (xfill (I 311) (fun p => I 310 (40 * r + i + p)) 6 q)), 20 - q < fuel119 → G X 319 0 0 J (xRL nw sp) 119 [(0, .ref 307), (1, .int (nI r)), (2, .int (nI i)), (3, .int (nI q))] [] := by
                  intro fuel119
                  induction fuel119 with
                  | zero => intro q J hq hJ hfuel119; omega
                  | succ fuel119 ih119 =>
                    intro q J hq hJ hfuel119
                    refine g_iload_n hX dX6_level_119 rfl 3 rfl ?_
                    refine g_bipush (v := nI 20) hX dX6_level_120 (by decide) ?_
                    refine g_ci_ge (a := ((q : Nat) : Int)) (b := (20 : Int)) (tgt := 153) hX dX6_level_122 (by decide) (nI_toInt (by omega)) (by decide) (fun h122 => ?_) (fun h122 => ?_)
                    · refine g_iconst (v := nI 1) hX dX6_level_153 (by decide) ?_
                      exact g_iret hX hR dX6_level_154 (by decide) (by decide) ⟨congrArg (fun z => some (Value.int z)) rfl, rfl, (by rw [hJ, show q = 20 by omega]), rfl⟩
                    · refine g_aload_n hX dX6_level_125 rfl 0 rfl ?_
                      refine g_getR (j := 311) hX (by decide) (by decide) xCl6 5 (by decide) (by decide) kX6_19 dX6_level_126 rfl ?_
                      refine g_bipush (v := nI 6) hX dX6_level_129 (by decide) ?_
                      refine g_iload_n hX dX6_level_131 rfl 3 rfl ?_
                      refine g_iadd (v := nI (6 + q)) hX dX6_level_132 (nI_add 6 q) ?_
                      refine g_aload_n hX dX6_level_133 rfl 0 rfl ?_
                      refine g_getR (j := 310) hX (by decide) (by decide) xCl6 4 (by decide) (by decide) kX6_16 dX6_level_134 rfl ?_
                      refine g_bipush (v := nI 40) hX dX6_level_137 (by decide) ?_
                      refine g_iload_n hX dX6_level_139 rfl 1 rfl ?_
                      refine g_imul (v := nI (40 * r)) hX dX6_level_140 (nI_mul 40 r) ?_
                      refine g_iload_n hX dX6_level_141 rfl 2 rfl ?_
                      refine g_iadd (v := nI ((40 * r) + i)) hX dX6_level_142 (nI_add (40 * r) i) ?_
                      refine g_iload_n hX dX6_level_143 rfl 3 rfl ?_
                      refine g_iadd (v := nI (((40 * r) + i) + q)) hX dX6_level_144 (nI_add ((40 * r) + i) q) ?_
                      refine g_iald (v := I 310 (40 * r + i + q)) hX (by decide) (by decide) (((40 * r) + i) + q) rfl (by rw [(show xN 310 = 320 by decide)]; omega) dX6_level_145 (by rw [hJ]; rfl) ?_
                      refine g_iast hX (by decide) (by decide) (6 + q) rfl (by rw [(show xN 311 = 74 by decide)]; omega) dX6_level_146 ?_
                      refine g_iinc (v := nI (q + 1)) (L' := [(0, .ref 307), (1, .int (nI r)), (2, .int (nI i)), (3, .int (nI (q + 1)))]) hX dX6_level_147 (by decide) 3 rfl (nI_add q 1) rfl ?_
                      refine g_goto (tgt := 119) hX dX6_level_150 (by decide) ?_
                      exact ih119 (q + 1) (xput J 311 (6 + q) (I 310 (40 * r + i + q))) (by first | assumption | omega) (xfill_step hJ rfl rfl) (by omega)
                exact cut119 _ 0 (xput (xrow (xput (xput I 307 0 (nI 0)) 307 1 (nI 0)) 313 (xfill ((xput (xput I 307 0 (nI 0)) 307 1 (nI 0)) 313) ((xput (xput I 307 0 (nI 0)) 307 1 (nI 0)) 311) (74 * D) 74)) 307 9 (nI (D + 1))) (by first | assumption | omega) (xfill_start rfl) (Nat.lt_succ_self _)
              · refine g_aload_n hX dX6_level_75 rfl 0 rfl ?_
                refine g_getR (j := 310) hX (by decide) (by decide) xCl6 4 (by decide) (by decide) kX6_16 dX6_level_76 rfl ?_
                refine g_bipush (v := nI 40) hX dX6_level_79 (by decide) ?_
                refine g_iload_n hX dX6_level_81 rfl 1 rfl ?_
                refine g_imul (v := nI (40 * r)) hX dX6_level_82 (nI_mul 40 r) ?_
                refine g_iload_n hX dX6_level_83 rfl 2 rfl ?_
                refine g_iadd (v := nI ((40 * r) + i)) hX dX6_level_84 (nI_add (40 * r) i) ?_
                refine g_iload_n hX dX6_level_85 rfl 3 rfl ?_
                refine g_iadd (v := nI (((40 * r) + i) + q)) hX dX6_level_86 (nI_add ((40 * r) + i) q) ?_
                refine g_iald (v := (xput I 307 0 (nI 0)) 310 (((40 * r) + i) + q)) hX (by decide) (by decide) (((40 * r) + i) + q) rfl (by rw [(show xN 310 = 320 by decide)]; omega) dX6_level_87 rfl ?_
                refine g_i2l (v := ((xput I 307 0 (nI 0)) 310 (((40 * r) + i) + q)).toInt64) hX dX6_level_88 rfl ?_
                refine g_lconst (v := 0) hX dX6_level_89 (by decide) ?_
                refine g_ldc2 (v := 60) hX cX6_221 dX6_level_90 ?_
                refine g_callSi (as := [.long (((xput I 307 0 (nI 0)) 310 (((40 * r) + i) + q)).toInt64), .long 0, .long (60)]) hX (fun l => c_X6_in l) mX6_in sX6_in lX6_54 rfl dX6_level_93 rfl (by decide) (Nat.le_of_ble_eq_true rfl) (by decide) (by decide) ?_
                refine g_top (y := xb ((0 : Int) ≤ ((xput I 307 0 (nI 0)) 310 (((40 * r) + i) + q)).toInt ∧ ((xput I 307 0 (nI 0)) 310 (((40 * r) + i) + q)).toInt ≤ (60 : Int))) (xb_iffI ((i64_of _).trans rfl) (by decide) (by decide)) ?_
                refine g_cb_ne (tgt := 102) hX dX6_level_96 (by decide) (fun h96 => ?_) (fun h96 => ?_)
                · refine g_iinc (v := nI (q + 1)) (L' := [(0, .ref 307), (1, .int (nI r)), (2, .int (nI i)), (3, .int (nI (q + 1)))]) hX dX6_level_102 (by decide) 3 rfl (nI_add q 1) rfl ?_
                  refine g_goto (tgt := 69) hX dX6_level_105 (by decide) ?_
                  exact ih (q + 1) (by first | assumption | omega) (by omega)
                · exact absurd (hv q (by omega)) h96
          exact cut69 _ 0 (by first | assumption | omega) (Nat.lt_succ_self _)
        · exfalso; omega
    · exfalso; omega
  · exfalso; omega

theorem c_X6_level_okeq (l : Launch) {nw sp : Nat} {I : xM} {r i ln m : Nat} (hst : I 307 7 = nI 1) (hr : r < 8) (hl : I 308 r = nI ln) (hln : ln < 3) (hm : I 309 r = nI m) (hm4 : m ≤ 40) (hi : i + 20 ≤ m) (hv : ∀ p, p < 20 → 0 ≤ (I 310 (40 * r + i + p)).toInt ∧ (I 310 (40 * r + i + p)).toInt ≤ 60) (hD : I 307 9 = nI 24) : xC l 3 0 0 yX6_level cX6_level 4 (some .int) 319 [.ref 307, .int (nI r), .int (nI i)] I (xRL nw sp) (xpI (nI 1) 319 (xrow (xrow (xput (xput I 307 0 (nI 0)) 307 1 (nI 0)) 313 (xfill (xfill (I 313) (fun t => I 313 (t + 74)) 0 1702) (I 311) (74 * 23) 74)) 311 (xfill (I 311) (fun p => I 310 (40 * r + i + p)) 6 20)) (xRL nw sp)) := by
  refine xC_of (by decide) (Nat.le_of_ble_eq_true rfl) (fun X hXl hX hR => ?_)
  have hX : xOK X RX6 cX6_level 4 3 0 0 := hX
  show G X 319 0 0 I (xRL nw sp) 0 [(0, .ref 307), (1, .int (nI r)), (2, .int (nI i))] []
  have e1 := @lcmp_gt ((nI i).toInt64 + 20) (nI m).toInt64
  rw [i64_add20, nI_toInt (n := i) (by omega), i64_of, nI_toInt (n := m) (by omega)] at e1
  refine g_aload_n hX dX6_level_0 rfl 0 rfl ?_
  refine g_iconst (v := nI 0) hX dX6_level_1 (by decide) ?_
  refine g_putI hX (by decide) (by decide) xCl6 0 (by decide) (by decide) (by decide) kX6_44 dX6_level_2 rfl rfl ?_
  refine g_aload_n hX dX6_level_5 rfl 0 rfl ?_
  refine g_getI (v := nI 1) hX (by decide) (by decide) xCl6 7 (by decide) (by decide) kX6_186 dX6_level_6 (xput_i (by decide) hst) ?_
  refine g_cz_ne (a := (1 : Int)) (tgt := 15) hX dX6_level_9 (by decide) (by decide) (fun _ => ?_) (fun q => absurd q (by decide))
  refine g_iload_n hX dX6_level_15 rfl 1 rfl ?_
  refine g_callSi hX (as := [.int (nI r)]) (fun l => c_X6_isRow l (I := (xput I 307 0 (nI 0))) (x := (nI r)) ) mX6_isRow sX6_isRow lX6_58 rfl dX6_level_16 rfl (by decide) (Nat.le_of_ble_eq_true rfl) (by decide) (by decide) ?_
  refine g_top (y := xb ((0 : Int) ≤ ((r : Nat) : Int) ∧ ((r : Nat) : Int) ≤ (7 : Int))) (by rw [nI_toInt (n := r) (by omega)]) ?_
  refine g_cb_ne (tgt := 25) hX dX6_level_19 (by decide) (fun h19 => ?_) (fun h19 => ?_)
  · refine g_aload_n hX dX6_level_25 rfl 0 rfl ?_
    refine g_getR (j := 308) hX (by decide) (by decide) xCl6 2 (by decide) (by decide) kX6_7 dX6_level_26 rfl ?_
    refine g_iload_n hX dX6_level_29 rfl 1 rfl ?_
    refine g_iald (v := nI ln) hX (by decide) (by decide) r rfl (by rw [(show xN 308 = 8 by decide)]; omega) dX6_level_30 (xput_o (by decide) hl) ?_
    refine g_cz_ge (a := ((ln : Nat) : Int)) (tgt := 40) hX dX6_level_31 (by decide) (nI_toInt (by omega)) (fun h31 => ?_) (fun h31 => ?_)
    · refine g_iload_n hX dX6_level_40 rfl 2 rfl ?_
      refine g_cz_lt (a := ((i : Nat) : Int)) (tgt := 61) hX dX6_level_41 (by decide) (nI_toInt (by omega)) (fun h41 => ?_) (fun h41 => ?_)
      · exfalso; omega
      · refine g_iload_n hX dX6_level_44 rfl 2 rfl ?_
        refine g_i2l (v := (nI i).toInt64) hX dX6_level_45 rfl ?_
        refine g_ldc2 (v := 20) hX cX6_219 dX6_level_46 ?_
        refine g_ladd (v := ((nI i).toInt64) + (20)) hX dX6_level_49 rfl ?_
        refine g_aload_n hX dX6_level_50 rfl 0 rfl ?_
        refine g_getR (j := 309) hX (by decide) (by decide) xCl6 3 (by decide) (by decide) kX6_13 dX6_level_51 rfl ?_
        refine g_iload_n hX dX6_level_54 rfl 1 rfl ?_
        refine g_iald (v := nI m) hX (by decide) (by decide) r rfl (by rw [(show xN 309 = 8 by decide)]; omega) dX6_level_55 (xput_o (by decide) hm) ?_
        refine g_i2l (v := (nI m).toInt64) hX dX6_level_56 rfl ?_
        refine g_lcmp (v := lg_cmp (((nI i).toInt64) + (20)) ((nI m).toInt64)) hX dX6_level_57 rfl ?_
        refine g_cz_le (a := (lg_cmp (((nI i).toInt64) + (20)) ((nI m).toInt64)).toInt) (tgt := 67) hX dX6_level_58 (by decide) rfl (fun h58 => ?_) (fun h58 => ?_)
        · refine g_iconst (v := nI 0) hX dX6_level_67 (by decide) ?_
          refine g_istore_n (L' := [(0, .ref 307), (1, .int (nI r)), (2, .int (nI i)), (3, .int (nI 0))]) hX dX6_level_68 rfl (by decide) rfl ?_
          have cut69 : ∀ (fuel : Nat) (q : Nat) (hq : q ≤ 20), 20 - q < fuel → G X 319 0 0 (xput I 307 0 (nI 0)) (xRL nw sp) 69 [(0, .ref 307), (1, .int (nI r)), (2, .int (nI i)), (3, .int (nI q))] [] := by
            intro fuel
            induction fuel with
            | zero => intro q hq hfuel; omega
            | succ fuel ih =>
              intro q hq hfuel
              refine g_iload_n hX dX6_level_69 rfl 3 rfl ?_
              refine g_bipush (v := nI 20) hX dX6_level_70 (by decide) ?_
              refine g_ci_ge (a := ((q : Nat) : Int)) (b := (20 : Int)) (tgt := 108) hX dX6_level_72 (by decide) (nI_toInt (by omega)) (by decide) (fun h72 => ?_) (fun h72 => ?_)
              · refine g_aload_n hX dX6_level_108 rfl 0 rfl ?_
                refine g_iconst (v := nI 0) hX dX6_level_109 (by decide) ?_
                refine g_putI hX (by decide) (by decide) xCl6 1 (by decide) (by decide) (by decide) kX6_48 dX6_level_110 rfl rfl ?_
                refine g_aload_n hX dX6_level_113 rfl 0 rfl ?_
                refine g_callVv hX (as := []) (fun l => c_X6_keep_eq l (I := (xput (xput I 307 0 (nI 0)) 307 1 (nI 0))) (hD := (by first | assumption | omega))) mX6_keep vX6_keep lX6_208 (by decide) (by decide) xCl6 rfl rfl dX6_level_114 rfl (by decide) (Nat.le_of_ble_eq_true rfl) (by decide) (by decide) ?_
                refine g_iconst (v := nI 0) hX dX6_level_117 (by decide) ?_
                refine g_istore_n (L' := [(0, .ref 307), (1, .int (nI r)), (2, .int (nI i)), (3, .int (nI 0))]) hX dX6_level_118 rfl (by decide) rfl ?_
                have cut119 : ∀ (fuel119 : Nat) (q : Nat) (J : xM) (hq : q ≤ 20) (hJ : J = xrow (xrow (xput (xput I 307 0 (nI 0)) 307 1 (nI 0)) 313 (xfill (xfill (I 313) (fun t => I 313 (t + 74)) 0 1702) (I 311) (74 * 23) 74)) 311 (xfill (I 311) (fun p => I 310 (40 * r + i + p)) 6 q)), 20 - q < fuel119 → G X 319 0 0 J (xRL nw sp) 119 [(0, .ref 307), (1, .int (nI r)), (2, .int (nI i)), (3, .int (nI q))] [] := by
                  intro fuel119
                  induction fuel119 with
                  | zero => intro q J hq hJ hfuel119; omega
                  | succ fuel119 ih119 =>
                    intro q J hq hJ hfuel119
                    refine g_iload_n hX dX6_level_119 rfl 3 rfl ?_
                    refine g_bipush (v := nI 20) hX dX6_level_120 (by decide) ?_
                    refine g_ci_ge (a := ((q : Nat) : Int)) (b := (20 : Int)) (tgt := 153) hX dX6_level_122 (by decide) (nI_toInt (by omega)) (by decide) (fun h122 => ?_) (fun h122 => ?_)
                    · refine g_iconst (v := nI 1) hX dX6_level_153 (by decide) ?_
                      exact g_iret hX hR dX6_level_154 (by decide) (by decide) ⟨congrArg (fun z => some (Value.int z)) rfl, rfl, (by rw [hJ, show q = 20 by omega]), rfl⟩
                    · refine g_aload_n hX dX6_level_125 rfl 0 rfl ?_
                      refine g_getR (j := 311) hX (by decide) (by decide) xCl6 5 (by decide) (by decide) kX6_19 dX6_level_126 rfl ?_
                      refine g_bipush (v := nI 6) hX dX6_level_129 (by decide) ?_
                      refine g_iload_n hX dX6_level_131 rfl 3 rfl ?_
                      refine g_iadd (v := nI (6 + q)) hX dX6_level_132 (nI_add 6 q) ?_
                      refine g_aload_n hX dX6_level_133 rfl 0 rfl ?_
                      refine g_getR (j := 310) hX (by decide) (by decide) xCl6 4 (by decide) (by decide) kX6_16 dX6_level_134 rfl ?_
                      refine g_bipush (v := nI 40) hX dX6_level_137 (by decide) ?_
                      refine g_iload_n hX dX6_level_139 rfl 1 rfl ?_
                      refine g_imul (v := nI (40 * r)) hX dX6_level_140 (nI_mul 40 r) ?_
                      refine g_iload_n hX dX6_level_141 rfl 2 rfl ?_
                      refine g_iadd (v := nI ((40 * r) + i)) hX dX6_level_142 (nI_add (40 * r) i) ?_
                      refine g_iload_n hX dX6_level_143 rfl 3 rfl ?_
                      refine g_iadd (v := nI (((40 * r) + i) + q)) hX dX6_level_144 (nI_add ((40 * r) + i) q) ?_
                      refine g_iald (v := I 310 (40 * r + i + q)) hX (by decide) (by decide) (((40 * r) + i) + q) rfl (by rw [(show xN 310 = 320 by decide)]; omega) dX6_level_145 (by rw [hJ]; rfl) ?_
                      refine g_iast hX (by decide) (by decide) (6 + q) rfl (by rw [(show xN 311 = 74 by decide)]; omega) dX6_level_146 ?_
                      refine g_iinc (v := nI (q + 1)) (L' := [(0, .ref 307), (1, .int (nI r)), (2, .int (nI i)), (3, .int (nI (q + 1)))]) hX dX6_level_147 (by decide) 3 rfl (nI_add q 1) rfl ?_
                      refine g_goto (tgt := 119) hX dX6_level_150 (by decide) ?_
                      exact ih119 (q + 1) (xput J 311 (6 + q) (I 310 (40 * r + i + q))) (by first | assumption | omega) (xfill_step hJ rfl rfl) (by omega)
                exact cut119 _ 0 (xrow (xput (xput I 307 0 (nI 0)) 307 1 (nI 0)) 313 (xfill (xfill ((xput (xput I 307 0 (nI 0)) 307 1 (nI 0)) 313) (fun t => (xput (xput I 307 0 (nI 0)) 307 1 (nI 0)) 313 (t + 74)) 0 1702) ((xput (xput I 307 0 (nI 0)) 307 1 (nI 0)) 311) (74 * 23) 74)) (by first | assumption | omega) (xfill_start rfl) (Nat.lt_succ_self _)
              · refine g_aload_n hX dX6_level_75 rfl 0 rfl ?_
                refine g_getR (j := 310) hX (by decide) (by decide) xCl6 4 (by decide) (by decide) kX6_16 dX6_level_76 rfl ?_
                refine g_bipush (v := nI 40) hX dX6_level_79 (by decide) ?_
                refine g_iload_n hX dX6_level_81 rfl 1 rfl ?_
                refine g_imul (v := nI (40 * r)) hX dX6_level_82 (nI_mul 40 r) ?_
                refine g_iload_n hX dX6_level_83 rfl 2 rfl ?_
                refine g_iadd (v := nI ((40 * r) + i)) hX dX6_level_84 (nI_add (40 * r) i) ?_
                refine g_iload_n hX dX6_level_85 rfl 3 rfl ?_
                refine g_iadd (v := nI (((40 * r) + i) + q)) hX dX6_level_86 (nI_add ((40 * r) + i) q) ?_
                refine g_iald (v := (xput I 307 0 (nI 0)) 310 (((40 * r) + i) + q)) hX (by decide) (by decide) (((40 * r) + i) + q) rfl (by rw [(show xN 310 = 320 by decide)]; omega) dX6_level_87 rfl ?_
                refine g_i2l (v := ((xput I 307 0 (nI 0)) 310 (((40 * r) + i) + q)).toInt64) hX dX6_level_88 rfl ?_
                refine g_lconst (v := 0) hX dX6_level_89 (by decide) ?_
                refine g_ldc2 (v := 60) hX cX6_221 dX6_level_90 ?_
                refine g_callSi (as := [.long (((xput I 307 0 (nI 0)) 310 (((40 * r) + i) + q)).toInt64), .long 0, .long (60)]) hX (fun l => c_X6_in l) mX6_in sX6_in lX6_54 rfl dX6_level_93 rfl (by decide) (Nat.le_of_ble_eq_true rfl) (by decide) (by decide) ?_
                refine g_top (y := xb ((0 : Int) ≤ ((xput I 307 0 (nI 0)) 310 (((40 * r) + i) + q)).toInt ∧ ((xput I 307 0 (nI 0)) 310 (((40 * r) + i) + q)).toInt ≤ (60 : Int))) (xb_iffI ((i64_of _).trans rfl) (by decide) (by decide)) ?_
                refine g_cb_ne (tgt := 102) hX dX6_level_96 (by decide) (fun h96 => ?_) (fun h96 => ?_)
                · refine g_iinc (v := nI (q + 1)) (L' := [(0, .ref 307), (1, .int (nI r)), (2, .int (nI i)), (3, .int (nI (q + 1)))]) hX dX6_level_102 (by decide) 3 rfl (nI_add q 1) rfl ?_
                  refine g_goto (tgt := 69) hX dX6_level_105 (by decide) ?_
                  exact ih (q + 1) (by first | assumption | omega) (by omega)
                · exact absurd (hv q (by omega)) h96
          exact cut69 _ 0 (by first | assumption | omega) (Nat.lt_succ_self _)
        · exfalso; omega
    · exfalso; omega
  · exfalso; omega

theorem c_X6_undo_none (l : Launch) {nw sp : Nat} {I : xM}  (hD : I 307 9 = nI 0) : xC l 1 0 0 yX6_undo cX6_undo 2 (some .int) 319 [.ref 307] I (xRL nw sp) (xpI (-1000002) 319 (xput I 307 0 (nI 0)) (xRL nw sp)) := by
  refine xC_of (by decide) (Nat.le_of_ble_eq_true rfl) (fun X hXl hX hR => ?_)
  have hX : xOK X RX6 cX6_undo 2 1 0 0 := hX
  show G X 319 0 0 I (xRL nw sp) 0 [(0, .ref 307)] []
  refine g_aload_n hX dX6_undo_0 rfl 0 rfl ?_
  refine g_iconst (v := nI 0) hX dX6_undo_1 (by decide) ?_
  refine g_putI hX (by decide) (by decide) xCl6 0 (by decide) (by decide) (by decide) kX6_44 dX6_undo_2 rfl rfl ?_
  refine g_aload_n hX dX6_undo_5 rfl 0 rfl ?_
  refine g_getI (v := nI 0) hX (by decide) (by decide) xCl6 9 (by decide) (by decide) kX6_190 dX6_undo_6 (xput_i (by decide) hD) ?_
  refine g_cz_ne (a := (0 : Int)) (tgt := 15) hX dX6_undo_9 (by decide) (by decide) (fun q => absurd q (by decide)) (fun _ => ?_)
  refine g_ldc (v := -1000002) hX cX6_205 dX6_undo_12 ?_
  exact g_iret hX hR dX6_undo_14 (by decide) (by decide) ⟨congrArg (fun z => some (Value.int z)) rfl, rfl, rfl, rfl⟩

theorem c_X6_undo_ok (l : Launch) {nw sp : Nat} {I : xM} {D : Nat} (hD : I 307 9 = nI (D + 1)) (hD24 : D < 24) : xC l 1 0 0 yX6_undo cX6_undo 2 (some .int) 319 [.ref 307] I (xRL nw sp) (xpI (nI D) 319 (xrow (xput (xput I 307 0 (nI 0)) 307 9 (nI D)) 311 (xfill (I 311) (fun j => I 313 (74 * D + j)) 0 74)) (xRL nw sp)) := by
  refine xC_of (by decide) (Nat.le_of_ble_eq_true rfl) (fun X hXl hX hR => ?_)
  have hX : xOK X RX6 cX6_undo 2 1 0 0 := hX
  show G X 319 0 0 I (xRL nw sp) 0 [(0, .ref 307)] []
  refine g_aload_n hX dX6_undo_0 rfl 0 rfl ?_
  refine g_iconst (v := nI 0) hX dX6_undo_1 (by decide) ?_
  refine g_putI hX (by decide) (by decide) xCl6 0 (by decide) (by decide) (by decide) kX6_44 dX6_undo_2 rfl rfl ?_
  refine g_aload_n hX dX6_undo_5 rfl 0 rfl ?_
  refine g_getI (v := nI (D + 1)) hX (by decide) (by decide) xCl6 9 (by decide) (by decide) kX6_190 dX6_undo_6 (xput_i (by decide) hD) ?_
  refine g_cz_ne (a := ((D + 1 : Nat) : Int)) (tgt := 15) hX dX6_undo_9 (by decide) (nI_toInt (by omega)) (fun h9 => ?_) (fun h9 => ?_)
  · refine g_aload_n hX dX6_undo_15 rfl 0 rfl ?_
    refine g_dup hX rfl dX6_undo_16 ?_
    refine g_getI (v := nI (D + 1)) hX (by decide) (by decide) xCl6 9 (by decide) (by decide) kX6_190 dX6_undo_17 (xput_i (by decide) hD) ?_
    refine g_iconst (v := nI 1) hX dX6_undo_20 (by decide) ?_
    refine g_isub (v := nI D) hX dX6_undo_21 (pk_1 D) ?_
    refine g_putI hX (by decide) (by decide) xCl6 9 (by decide) (by decide) (by decide) kX6_190 dX6_undo_22 rfl rfl ?_
    refine g_iconst (v := nI 0) hX dX6_undo_25 (by decide) ?_
    refine g_istore_n (L' := [(0, .ref 307), (1, .int (nI 0))]) hX dX6_undo_26 rfl (by decide) rfl ?_
    have cut27 : ∀ (fuel : Nat) (k : Nat) (J : xM) (hk : k ≤ 74) (hJ : J = xrow (xput (xput I 307 0 (nI 0)) 307 9 (nI D)) 311 (xfill (I 311) (fun j => I 313 (74 * D + j)) 0 k)) (hJD : J 307 9 = nI D), 74 - k < fuel → G X 319 0 0 J (xRL nw sp) 27 [(0, .ref 307), (1, .int (nI k))] [] := by
      intro fuel
      induction fuel with
      | zero => intro k J hk hJ hJD hfuel; omega
      | succ fuel ih =>
        intro k J hk hJ hJD hfuel
        refine g_iload_n hX dX6_undo_27 rfl 1 rfl ?_
        refine g_bipush (v := nI 74) hX dX6_undo_28 (by decide) ?_
        refine g_ci_ge (a := ((k : Nat) : Int)) (b := (74 : Int)) (tgt := 59) hX dX6_undo_30 (by decide) (nI_toInt (by omega)) (by decide) (fun h30 => ?_) (fun h30 => ?_)
        · refine g_aload_n hX dX6_undo_59 rfl 0 rfl ?_
          refine g_getI (v := nI D) hX (by decide) (by decide) xCl6 9 (by decide) (by decide) kX6_190 dX6_undo_60 hJD ?_
          exact g_iret hX hR dX6_undo_63 (by decide) (by decide) ⟨congrArg (fun z => some (Value.int z)) rfl, rfl, (by rw [hJ, show k = 74 by omega]), rfl⟩
        · refine g_aload_n hX dX6_undo_33 rfl 0 rfl ?_
          refine g_getR (j := 311) hX (by decide) (by decide) xCl6 5 (by decide) (by decide) kX6_19 dX6_undo_34 rfl ?_
          refine g_iload_n hX dX6_undo_37 rfl 1 rfl ?_
          refine g_aload_n hX dX6_undo_38 rfl 0 rfl ?_
          refine g_getR (j := 313) hX (by decide) (by decide) xCl6 8 (by decide) (by decide) kX6_25 dX6_undo_39 rfl ?_
          refine g_bipush (v := nI 74) hX dX6_undo_42 (by decide) ?_
          refine g_aload_n hX dX6_undo_44 rfl 0 rfl ?_
          refine g_getI (v := nI D) hX (by decide) (by decide) xCl6 9 (by decide) (by decide) kX6_190 dX6_undo_45 hJD ?_
          refine g_imul (v := nI (74 * D)) hX dX6_undo_48 (nI_mul 74 D) ?_
          refine g_iload_n hX dX6_undo_49 rfl 1 rfl ?_
          refine g_iadd (v := nI ((74 * D) + k)) hX dX6_undo_50 (nI_add (74 * D) k) ?_
          refine g_iald (v := I 313 (74 * D + k)) hX (by decide) (by decide) ((74 * D) + k) rfl (by rw [(show xN 313 = 1776 by decide)]; omega) dX6_undo_51 (by rw [hJ]; rfl) ?_
          refine g_iast hX (by decide) (by decide) k rfl (by rw [(show xN 311 = 74 by decide)]; omega) dX6_undo_52 ?_
          refine g_iinc (v := nI (k + 1)) (L' := [(0, .ref 307), (1, .int (nI (k + 1)))]) hX dX6_undo_53 (by decide) 1 rfl (nI_add k 1) rfl ?_
          refine g_goto (tgt := 27) hX dX6_undo_56 (by decide) ?_
          exact ih (k + 1) (xput J 311 k (I 313 (74 * D + k))) (by first | assumption | omega) (xfill_step hJ (Nat.zero_add _).symm rfl) (xput_o (by decide) hJD) (by omega)
    exact cut27 _ 0 (xput (xput I 307 0 (nI 0)) 307 9 (nI D)) (by first | assumption | omega) (xfill_start rfl) xput_e (Nat.lt_succ_self _)
  · exfalso; omega

theorem c_X6_tree_bad (l : Launch) {nw sp : Nat} {I : xM} {T : Nat} {x y : Int32} (hT : I 311 0 = nI T) (hT6 : T ≤ 6) (hb : ¬ (0 ≤ x.toInt ∧ x.toInt < T ∧ 0 ≤ y.toInt ∧ y.toInt ≤ 3)) : xC l 3 0 0 yX6_tree cX6_tree 3 (some .int) 319 [.ref 307, .int x, .int y] I (xRL nw sp) (xpI (-1000001) 319 (xput I 307 0 (nI 0)) (xRL nw sp)) := by
  refine xC_of (by decide) (Nat.le_of_ble_eq_true rfl) (fun X hXl hX hR => ?_)
  have hX : xOK X RX6 cX6_tree 3 3 0 0 := hX
  show G X 319 0 0 I (xRL nw sp) 0 [(0, .ref 307), (1, .int x), (2, .int y)] []
  refine g_aload_n hX dX6_tree_0 rfl 0 rfl ?_
  refine g_iconst (v := nI 0) hX dX6_tree_1 (by decide) ?_
  refine g_putI hX (by decide) (by decide) xCl6 0 (by decide) (by decide) (by decide) kX6_44 dX6_tree_2 rfl rfl ?_
  refine g_aload_n hX dX6_tree_5 rfl 0 rfl ?_
  refine g_iload_n hX dX6_tree_6 rfl 1 rfl ?_
  refine g_callVi hX (as := [.int x]) (fun l => c_X6_isTree l (I := (xput I 307 0 (nI 0))) (T := T) (x := x) (hT := (by first | assumption | omega)) (hT6 := (by first | assumption | omega))) mX6_isTree vX6_isTree lX6_211 (by decide) (by decide) xCl6 rfl rfl dX6_tree_7 rfl (by decide) (Nat.le_of_ble_eq_true rfl) (by decide) (by decide) ?_
  refine g_cb_eq (tgt := 25) hX dX6_tree_10 (by decide) (fun h10 => ?_) (fun h10 => ?_)
  · refine g_ldc (v := -1000001) hX cX6_64 dX6_tree_25 ?_
    exact g_iret hX hR dX6_tree_27 (by decide) (by decide) ⟨congrArg (fun z => some (Value.int z)) rfl, rfl, rfl, rfl⟩
  · refine g_iload_n hX dX6_tree_13 rfl 2 rfl ?_
    refine g_i2l (v := y.toInt64) hX dX6_tree_14 rfl ?_
    refine g_lconst (v := 0) hX dX6_tree_15 (by decide) ?_
    refine g_ldc2 (v := 3) hX cX6_223 dX6_tree_16 ?_
    refine g_callSi (as := [.long y.toInt64, .long 0, .long (3)]) hX (fun l => c_X6_in l) mX6_in sX6_in lX6_54 rfl dX6_tree_19 rfl (by decide) (Nat.le_of_ble_eq_true rfl) (by decide) (by decide) ?_
    refine g_top (y := xb ((0 : Int) ≤ y.toInt ∧ y.toInt ≤ (3 : Int))) (xb_iffI ((i64_of _).trans rfl) (by decide) (by decide)) ?_
    refine g_cb_ne (tgt := 28) hX dX6_tree_22 (by decide) (fun h22 => ?_) (fun h22 => ?_)
    · exfalso; omega
    · refine g_ldc (v := -1000001) hX cX6_64 dX6_tree_25 ?_
      exact g_iret hX hR dX6_tree_27 (by decide) (by decide) ⟨congrArg (fun z => some (Value.int z)) rfl, rfl, rfl, rfl⟩

theorem c_X6_tree_ok0 (l : Launch) {nw sp : Nat} {I : xM} {t T : Nat} (hT : I 311 0 = nI T) (hT6 : T ≤ 6) (ht : t < T) : xC l 3 0 0 yX6_tree cX6_tree 3 (some .int) 319 [.ref 307, .int (nI t), .int (nI 0)] I (xRL nw sp) (xpI (I 311 (26 + 5 * t + 1)) 319 (xput I 307 0 (nI 0)) (xRL nw sp)) := by
  refine xC_of (by decide) (Nat.le_of_ble_eq_true rfl) (fun X hXl hX hR => ?_)
  have hX : xOK X RX6 cX6_tree 3 3 0 0 := hX
  show G X 319 0 0 I (xRL nw sp) 0 [(0, .ref 307), (1, .int (nI t)), (2, .int (nI 0))] []
  refine g_aload_n hX dX6_tree_0 rfl 0 rfl ?_
  refine g_iconst (v := nI 0) hX dX6_tree_1 (by decide) ?_
  refine g_putI hX (by decide) (by decide) xCl6 0 (by decide) (by decide) (by decide) kX6_44 dX6_tree_2 rfl rfl ?_
  refine g_aload_n hX dX6_tree_5 rfl 0 rfl ?_
  refine g_iload_n hX dX6_tree_6 rfl 1 rfl ?_
  refine g_callVi hX (as := [.int (nI t)]) (fun l => c_X6_isTree l (I := (xput I 307 0 (nI 0))) (T := T) (x := (nI t)) (hT := (by first | assumption | omega)) (hT6 := (by first | assumption | omega))) mX6_isTree vX6_isTree lX6_211 (by decide) (by decide) xCl6 rfl rfl dX6_tree_7 rfl (by decide) (Nat.le_of_ble_eq_true rfl) (by decide) (by decide) ?_
  refine g_top (y := xb (0 ≤ ((t : Nat) : Int) ∧ ((t : Nat) : Int) < T)) (by rw [nI_toInt (n := t) (by omega)]) ?_
  refine g_cb_eq (tgt := 25) hX dX6_tree_10 (by decide) (fun h10 => ?_) (fun h10 => ?_)
  · exfalso; omega
  · refine g_iload_n hX dX6_tree_13 rfl 2 rfl ?_
    refine g_i2l (v := (nI 0).toInt64) hX dX6_tree_14 rfl ?_
    refine g_lconst (v := 0) hX dX6_tree_15 (by decide) ?_
    refine g_ldc2 (v := 3) hX cX6_223 dX6_tree_16 ?_
    refine g_callSi (as := [.long ((nI 0).toInt64), .long 0, .long (3)]) hX (fun l => c_X6_in l) mX6_in sX6_in lX6_54 rfl dX6_tree_19 rfl (by decide) (Nat.le_of_ble_eq_true rfl) (by decide) (by decide) ?_
    refine g_top (y := xb ((0 : Int) ≤ (0 : Int) ∧ (0 : Int) ≤ (3 : Int))) (xb_iffI ((i64_of _).trans (by decide)) (by decide) (by decide)) ?_
    refine g_cb_ne (tgt := 28) hX dX6_tree_22 (by decide) (fun h22 => ?_) (fun h22 => ?_)
    · refine g_iload_n hX dX6_tree_28 rfl 2 rfl ?_
      refine g_cz_ne (a := (0 : Int)) (tgt := 41) hX dX6_tree_29 (by decide) (by decide) (fun q => absurd q (by decide)) (fun _ => ?_)
      refine g_aload_n hX dX6_tree_32 rfl 0 rfl ?_
      refine g_iload_n hX dX6_tree_33 rfl 1 rfl ?_
      refine g_iconst (v := nI 1) hX dX6_tree_34 (by decide) ?_
      refine g_callVi hX (as := [.int (nI t), .int (nI 1)]) (fun l => c_X6_of l (I := (xput I 307 0 (nI 0))) (t := t) (w := 1) (ht := (by first | assumption | omega))) mX6_of vX6_of lX6_193 (by decide) (by decide) xCl6 rfl rfl dX6_tree_35 rfl (by decide) (Nat.le_of_ble_eq_true rfl) (by decide) (by decide) ?_
      refine g_top (y := I 311 (26 + 5 * t + 1)) (by rw [show (xput I 307 0 (nI 0)) 311 = I 311 from ((xput_ne (by decide)).trans rfl)]) ?_
      refine g_goto (tgt := 74) hX dX6_tree_38 (by decide) ?_
      exact g_iret hX hR dX6_tree_74 (by decide) (by decide) ⟨congrArg (fun z => some (Value.int z)) rfl, rfl, rfl, rfl⟩
    · exfalso; omega

theorem c_X6_tree_ok1 (l : Launch) {nw sp : Nat} {I : xM} {t T : Nat} (hT : I 311 0 = nI T) (hT6 : T ≤ 6) (ht : t < T) : xC l 3 0 0 yX6_tree cX6_tree 3 (some .int) 319 [.ref 307, .int (nI t), .int (nI 1)] I (xRL nw sp) (xpI (hgF (I 311) (I 315) t) 319 (xput I 307 0 (nI 0)) (xRL nw sp)) := by
  refine xC_of (by decide) (Nat.le_of_ble_eq_true rfl) (fun X hXl hX hR => ?_)
  have hX : xOK X RX6 cX6_tree 3 3 0 0 := hX
  show G X 319 0 0 I (xRL nw sp) 0 [(0, .ref 307), (1, .int (nI t)), (2, .int (nI 1))] []
  refine g_aload_n hX dX6_tree_0 rfl 0 rfl ?_
  refine g_iconst (v := nI 0) hX dX6_tree_1 (by decide) ?_
  refine g_putI hX (by decide) (by decide) xCl6 0 (by decide) (by decide) (by decide) kX6_44 dX6_tree_2 rfl rfl ?_
  refine g_aload_n hX dX6_tree_5 rfl 0 rfl ?_
  refine g_iload_n hX dX6_tree_6 rfl 1 rfl ?_
  refine g_callVi hX (as := [.int (nI t)]) (fun l => c_X6_isTree l (I := (xput I 307 0 (nI 0))) (T := T) (x := (nI t)) (hT := (by first | assumption | omega)) (hT6 := (by first | assumption | omega))) mX6_isTree vX6_isTree lX6_211 (by decide) (by decide) xCl6 rfl rfl dX6_tree_7 rfl (by decide) (Nat.le_of_ble_eq_true rfl) (by decide) (by decide) ?_
  refine g_top (y := xb (0 ≤ ((t : Nat) : Int) ∧ ((t : Nat) : Int) < T)) (by rw [nI_toInt (n := t) (by omega)]) ?_
  refine g_cb_eq (tgt := 25) hX dX6_tree_10 (by decide) (fun h10 => ?_) (fun h10 => ?_)
  · exfalso; omega
  · refine g_iload_n hX dX6_tree_13 rfl 2 rfl ?_
    refine g_i2l (v := (nI 1).toInt64) hX dX6_tree_14 rfl ?_
    refine g_lconst (v := 0) hX dX6_tree_15 (by decide) ?_
    refine g_ldc2 (v := 3) hX cX6_223 dX6_tree_16 ?_
    refine g_callSi (as := [.long ((nI 1).toInt64), .long 0, .long (3)]) hX (fun l => c_X6_in l) mX6_in sX6_in lX6_54 rfl dX6_tree_19 rfl (by decide) (Nat.le_of_ble_eq_true rfl) (by decide) (by decide) ?_
    refine g_top (y := xb ((0 : Int) ≤ (1 : Int) ∧ (1 : Int) ≤ (3 : Int))) (xb_iffI ((i64_of _).trans (by decide)) (by decide) (by decide)) ?_
    refine g_cb_ne (tgt := 28) hX dX6_tree_22 (by decide) (fun h22 => ?_) (fun h22 => ?_)
    · refine g_iload_n hX dX6_tree_28 rfl 2 rfl ?_
      refine g_cz_ne (a := (1 : Int)) (tgt := 41) hX dX6_tree_29 (by decide) (by decide) (fun _ => ?_) (fun q => absurd q (by decide))
      refine g_iload_n hX dX6_tree_41 rfl 2 rfl ?_
      refine g_iconst (v := nI 1) hX dX6_tree_42 (by decide) ?_
      refine g_ci_ne (a := (1 : Int)) (b := (1 : Int)) (tgt := 54) hX dX6_tree_43 (by decide) (by decide) (by decide) (fun q => absurd q (by decide)) (fun _ => ?_)
      refine g_aload_n hX dX6_tree_46 rfl 0 rfl ?_
      refine g_iload_n hX dX6_tree_47 rfl 1 rfl ?_
      refine g_callVi hX (as := [.int (nI t)]) (fun l => c_X6_height l (I := (xput I 307 0 (nI 0))) (t := t) (ht := (by first | assumption | omega))) mX6_height vX6_height lX6_202 (by decide) (by decide) xCl6 rfl rfl dX6_tree_48 rfl (by decide) (Nat.le_of_ble_eq_true rfl) (by decide) (by decide) ?_
      refine g_top (y := hgF (I 311) (I 315) t) (by rw [show (xput I 307 0 (nI 0)) 311 = I 311 from ((xput_ne (by decide)).trans rfl), show (xput I 307 0 (nI 0)) 315 = I 315 from ((xput_ne (by decide)).trans rfl)]) ?_
      refine g_goto (tgt := 74) hX dX6_tree_51 (by decide) ?_
      exact g_iret hX hR dX6_tree_74 (by decide) (by decide) ⟨congrArg (fun z => some (Value.int z)) rfl, rfl, rfl, rfl⟩
    · exfalso; omega

theorem c_X6_tree_ok2 (l : Launch) {nw sp : Nat} {I : xM} {t T : Nat} (hT : I 311 0 = nI T) (hT6 : T ≤ 6) (ht : t < T) : xC l 3 0 0 yX6_tree cX6_tree 3 (some .int) 319 [.ref 307, .int (nI t), .int (nI 2)] I (xRL nw sp) (xpI (I 311 (26 + 5 * t + 4)) 319 (xput I 307 0 (nI 0)) (xRL nw sp)) := by
  refine xC_of (by decide) (Nat.le_of_ble_eq_true rfl) (fun X hXl hX hR => ?_)
  have hX : xOK X RX6 cX6_tree 3 3 0 0 := hX
  show G X 319 0 0 I (xRL nw sp) 0 [(0, .ref 307), (1, .int (nI t)), (2, .int (nI 2))] []
  refine g_aload_n hX dX6_tree_0 rfl 0 rfl ?_
  refine g_iconst (v := nI 0) hX dX6_tree_1 (by decide) ?_
  refine g_putI hX (by decide) (by decide) xCl6 0 (by decide) (by decide) (by decide) kX6_44 dX6_tree_2 rfl rfl ?_
  refine g_aload_n hX dX6_tree_5 rfl 0 rfl ?_
  refine g_iload_n hX dX6_tree_6 rfl 1 rfl ?_
  refine g_callVi hX (as := [.int (nI t)]) (fun l => c_X6_isTree l (I := (xput I 307 0 (nI 0))) (T := T) (x := (nI t)) (hT := (by first | assumption | omega)) (hT6 := (by first | assumption | omega))) mX6_isTree vX6_isTree lX6_211 (by decide) (by decide) xCl6 rfl rfl dX6_tree_7 rfl (by decide) (Nat.le_of_ble_eq_true rfl) (by decide) (by decide) ?_
  refine g_top (y := xb (0 ≤ ((t : Nat) : Int) ∧ ((t : Nat) : Int) < T)) (by rw [nI_toInt (n := t) (by omega)]) ?_
  refine g_cb_eq (tgt := 25) hX dX6_tree_10 (by decide) (fun h10 => ?_) (fun h10 => ?_)
  · exfalso; omega
  · refine g_iload_n hX dX6_tree_13 rfl 2 rfl ?_
    refine g_i2l (v := (nI 2).toInt64) hX dX6_tree_14 rfl ?_
    refine g_lconst (v := 0) hX dX6_tree_15 (by decide) ?_
    refine g_ldc2 (v := 3) hX cX6_223 dX6_tree_16 ?_
    refine g_callSi (as := [.long ((nI 2).toInt64), .long 0, .long (3)]) hX (fun l => c_X6_in l) mX6_in sX6_in lX6_54 rfl dX6_tree_19 rfl (by decide) (Nat.le_of_ble_eq_true rfl) (by decide) (by decide) ?_
    refine g_top (y := xb ((0 : Int) ≤ (2 : Int) ∧ (2 : Int) ≤ (3 : Int))) (xb_iffI ((i64_of _).trans (by decide)) (by decide) (by decide)) ?_
    refine g_cb_ne (tgt := 28) hX dX6_tree_22 (by decide) (fun h22 => ?_) (fun h22 => ?_)
    · refine g_iload_n hX dX6_tree_28 rfl 2 rfl ?_
      refine g_cz_ne (a := (2 : Int)) (tgt := 41) hX dX6_tree_29 (by decide) (by decide) (fun _ => ?_) (fun q => absurd q (by decide))
      refine g_iload_n hX dX6_tree_41 rfl 2 rfl ?_
      refine g_iconst (v := nI 1) hX dX6_tree_42 (by decide) ?_
      refine g_ci_ne (a := (2 : Int)) (b := (1 : Int)) (tgt := 54) hX dX6_tree_43 (by decide) (by decide) (by decide) (fun _ => ?_) (fun q => absurd q (by decide))
      refine g_iload_n hX dX6_tree_54 rfl 2 rfl ?_
      refine g_iconst (v := nI 2) hX dX6_tree_55 (by decide) ?_
      refine g_ci_ne (a := (2 : Int)) (b := (2 : Int)) (tgt := 68) hX dX6_tree_56 (by decide) (by decide) (by decide) (fun q => absurd q (by decide)) (fun _ => ?_)
      refine g_aload_n hX dX6_tree_59 rfl 0 rfl ?_
      refine g_iload_n hX dX6_tree_60 rfl 1 rfl ?_
      refine g_iconst (v := nI 4) hX dX6_tree_61 (by decide) ?_
      refine g_callVi hX (as := [.int (nI t), .int (nI 4)]) (fun l => c_X6_of l (I := (xput I 307 0 (nI 0))) (t := t) (w := 4) (ht := (by first | assumption | omega))) mX6_of vX6_of lX6_193 (by decide) (by decide) xCl6 rfl rfl dX6_tree_62 rfl (by decide) (Nat.le_of_ble_eq_true rfl) (by decide) (by decide) ?_
      refine g_top (y := I 311 (26 + 5 * t + 4)) (by rw [show (xput I 307 0 (nI 0)) 311 = I 311 from ((xput_ne (by decide)).trans rfl)]) ?_
      refine g_goto (tgt := 74) hX dX6_tree_65 (by decide) ?_
      exact g_iret hX hR dX6_tree_74 (by decide) (by decide) ⟨congrArg (fun z => some (Value.int z)) rfl, rfl, rfl, rfl⟩
    · exfalso; omega

theorem c_X6_tree_ok3 (l : Launch) {nw sp : Nat} {I : xM} {t T : Nat} (hT : I 311 0 = nI T) (hT6 : T ≤ 6) (ht : t < T) : xC l 3 0 0 yX6_tree cX6_tree 3 (some .int) 319 [.ref 307, .int (nI t), .int (nI 3)] I (xRL nw sp) (xpI (I 311 (26 + 5 * t + 3)) 319 (xput I 307 0 (nI 0)) (xRL nw sp)) := by
  refine xC_of (by decide) (Nat.le_of_ble_eq_true rfl) (fun X hXl hX hR => ?_)
  have hX : xOK X RX6 cX6_tree 3 3 0 0 := hX
  show G X 319 0 0 I (xRL nw sp) 0 [(0, .ref 307), (1, .int (nI t)), (2, .int (nI 3))] []
  refine g_aload_n hX dX6_tree_0 rfl 0 rfl ?_
  refine g_iconst (v := nI 0) hX dX6_tree_1 (by decide) ?_
  refine g_putI hX (by decide) (by decide) xCl6 0 (by decide) (by decide) (by decide) kX6_44 dX6_tree_2 rfl rfl ?_
  refine g_aload_n hX dX6_tree_5 rfl 0 rfl ?_
  refine g_iload_n hX dX6_tree_6 rfl 1 rfl ?_
  refine g_callVi hX (as := [.int (nI t)]) (fun l => c_X6_isTree l (I := (xput I 307 0 (nI 0))) (T := T) (x := (nI t)) (hT := (by first | assumption | omega)) (hT6 := (by first | assumption | omega))) mX6_isTree vX6_isTree lX6_211 (by decide) (by decide) xCl6 rfl rfl dX6_tree_7 rfl (by decide) (Nat.le_of_ble_eq_true rfl) (by decide) (by decide) ?_
  refine g_top (y := xb (0 ≤ ((t : Nat) : Int) ∧ ((t : Nat) : Int) < T)) (by rw [nI_toInt (n := t) (by omega)]) ?_
  refine g_cb_eq (tgt := 25) hX dX6_tree_10 (by decide) (fun h10 => ?_) (fun h10 => ?_)
  · exfalso; omega
  · refine g_iload_n hX dX6_tree_13 rfl 2 rfl ?_
    refine g_i2l (v := (nI 3).toInt64) hX dX6_tree_14 rfl ?_
    refine g_lconst (v := 0) hX dX6_tree_15 (by decide) ?_
    refine g_ldc2 (v := 3) hX cX6_223 dX6_tree_16 ?_
    refine g_callSi (as := [.long ((nI 3).toInt64), .long 0, .long (3)]) hX (fun l => c_X6_in l) mX6_in sX6_in lX6_54 rfl dX6_tree_19 rfl (by decide) (Nat.le_of_ble_eq_true rfl) (by decide) (by decide) ?_
    refine g_top (y := xb ((0 : Int) ≤ (3 : Int) ∧ (3 : Int) ≤ (3 : Int))) (xb_iffI ((i64_of _).trans (by decide)) (by decide) (by decide)) ?_
    refine g_cb_ne (tgt := 28) hX dX6_tree_22 (by decide) (fun h22 => ?_) (fun h22 => ?_)
    · refine g_iload_n hX dX6_tree_28 rfl 2 rfl ?_
      refine g_cz_ne (a := (3 : Int)) (tgt := 41) hX dX6_tree_29 (by decide) (by decide) (fun _ => ?_) (fun q => absurd q (by decide))
      refine g_iload_n hX dX6_tree_41 rfl 2 rfl ?_
      refine g_iconst (v := nI 1) hX dX6_tree_42 (by decide) ?_
      refine g_ci_ne (a := (3 : Int)) (b := (1 : Int)) (tgt := 54) hX dX6_tree_43 (by decide) (by decide) (by decide) (fun _ => ?_) (fun q => absurd q (by decide))
      refine g_iload_n hX dX6_tree_54 rfl 2 rfl ?_
      refine g_iconst (v := nI 2) hX dX6_tree_55 (by decide) ?_
      refine g_ci_ne (a := (3 : Int)) (b := (2 : Int)) (tgt := 68) hX dX6_tree_56 (by decide) (by decide) (by decide) (fun _ => ?_) (fun q => absurd q (by decide))
      refine g_aload_n hX dX6_tree_68 rfl 0 rfl ?_
      refine g_iload_n hX dX6_tree_69 rfl 1 rfl ?_
      refine g_iconst (v := nI 3) hX dX6_tree_70 (by decide) ?_
      refine g_callVi hX (as := [.int (nI t), .int (nI 3)]) (fun l => c_X6_of l (I := (xput I 307 0 (nI 0))) (t := t) (w := 3) (ht := (by first | assumption | omega))) mX6_of vX6_of lX6_193 (by decide) (by decide) xCl6 rfl rfl dX6_tree_71 rfl (by decide) (Nat.le_of_ble_eq_true rfl) (by decide) (by decide) ?_
      refine g_top (y := I 311 (26 + 5 * t + 3)) (by rw [show (xput I 307 0 (nI 0)) 311 = I 311 from ((xput_ne (by decide)).trans rfl)]) ?_
      exact g_iret hX hR dX6_tree_74 (by decide) (by decide) ⟨congrArg (fun z => some (Value.int z)) rfl, rfl, rfl, rfl⟩
    · exfalso; omega

theorem c_X6_site_none (l : Launch) {nw sp : Nat} {I : xM} {x y : Int32} (hst : I 307 7 = nI 0) : xC l 1 0 0 yX6_site cX6_site 3 (some .int) 319 [.ref 307, .int x, .int y] I (xRL nw sp) (xpI (-1000002) 319 (xput I 307 0 (nI 0)) (xRL nw sp)) := by
  refine xC_of (by decide) (Nat.le_of_ble_eq_true rfl) (fun X hXl hX hR => ?_)
  have hX : xOK X RX6 cX6_site 3 1 0 0 := hX
  show G X 319 0 0 I (xRL nw sp) 0 [(0, .ref 307), (1, .int x), (2, .int y)] []
  refine g_aload_n hX dX6_site_0 rfl 0 rfl ?_
  refine g_iconst (v := nI 0) hX dX6_site_1 (by decide) ?_
  refine g_putI hX (by decide) (by decide) xCl6 0 (by decide) (by decide) (by decide) kX6_44 dX6_site_2 rfl rfl ?_
  refine g_aload_n hX dX6_site_5 rfl 0 rfl ?_
  refine g_getI (v := nI 0) hX (by decide) (by decide) xCl6 7 (by decide) (by decide) kX6_186 dX6_site_6 (xput_i (by decide) hst) ?_
  refine g_cz_ne (a := (0 : Int)) (tgt := 15) hX dX6_site_9 (by decide) (by decide) (fun q => absurd q (by decide)) (fun _ => ?_)
  refine g_ldc (v := -1000002) hX cX6_205 dX6_site_12 ?_
  exact g_iret hX hR dX6_site_14 (by decide) (by decide) ⟨congrArg (fun z => some (Value.int z)) rfl, rfl, rfl, rfl⟩

theorem c_X6_site_bad (l : Launch) {nw sp : Nat} {I : xM} {x y : Int32} (hst : I 307 7 = nI 1) (hb : ¬ (0 ≤ x.toInt ∧ x.toInt ≤ 19 ∧ 0 ≤ y.toInt ∧ y.toInt ≤ 2)) : xC l 2 0 0 yX6_site cX6_site 3 (some .int) 319 [.ref 307, .int x, .int y] I (xRL nw sp) (xpI (-1000001) 319 (xput I 307 0 (nI 0)) (xRL nw sp)) := by
  refine xC_of (by decide) (Nat.le_of_ble_eq_true rfl) (fun X hXl hX hR => ?_)
  have hX : xOK X RX6 cX6_site 3 2 0 0 := hX
  show G X 319 0 0 I (xRL nw sp) 0 [(0, .ref 307), (1, .int x), (2, .int y)] []
  refine g_aload_n hX dX6_site_0 rfl 0 rfl ?_
  refine g_iconst (v := nI 0) hX dX6_site_1 (by decide) ?_
  refine g_putI hX (by decide) (by decide) xCl6 0 (by decide) (by decide) (by decide) kX6_44 dX6_site_2 rfl rfl ?_
  refine g_aload_n hX dX6_site_5 rfl 0 rfl ?_
  refine g_getI (v := nI 1) hX (by decide) (by decide) xCl6 7 (by decide) (by decide) kX6_186 dX6_site_6 (xput_i (by decide) hst) ?_
  refine g_cz_ne (a := (1 : Int)) (tgt := 15) hX dX6_site_9 (by decide) (by decide) (fun _ => ?_) (fun q => absurd q (by decide))
  refine g_iload_n hX dX6_site_15 rfl 1 rfl ?_
  refine g_i2l (v := x.toInt64) hX dX6_site_16 rfl ?_
  refine g_lconst (v := 0) hX dX6_site_17 (by decide) ?_
  refine g_ldc2 (v := 19) hX cX6_225 dX6_site_18 ?_
  refine g_callSi (as := [.long x.toInt64, .long 0, .long (19)]) hX (fun l => c_X6_in l) mX6_in sX6_in lX6_54 rfl dX6_site_21 rfl (by decide) (Nat.le_of_ble_eq_true rfl) (by decide) (by decide) ?_
  refine g_top (y := xb ((0 : Int) ≤ x.toInt ∧ x.toInt ≤ (19 : Int))) (xb_iffI ((i64_of _).trans rfl) (by decide) (by decide)) ?_
  refine g_cb_eq (tgt := 39) hX dX6_site_24 (by decide) (fun h24 => ?_) (fun h24 => ?_)
  · refine g_ldc (v := -1000001) hX cX6_64 dX6_site_39 ?_
    exact g_iret hX hR dX6_site_41 (by decide) (by decide) ⟨congrArg (fun z => some (Value.int z)) rfl, rfl, rfl, rfl⟩
  · refine g_iload_n hX dX6_site_27 rfl 2 rfl ?_
    refine g_i2l (v := y.toInt64) hX dX6_site_28 rfl ?_
    refine g_lconst (v := 0) hX dX6_site_29 (by decide) ?_
    refine g_ldc2 (v := 2) hX cX6_62 dX6_site_30 ?_
    refine g_callSi (as := [.long y.toInt64, .long 0, .long (2)]) hX (fun l => c_X6_in l) mX6_in sX6_in lX6_54 rfl dX6_site_33 rfl (by decide) (Nat.le_of_ble_eq_true rfl) (by decide) (by decide) ?_
    refine g_top (y := xb ((0 : Int) ≤ y.toInt ∧ y.toInt ≤ (2 : Int))) (xb_iffI ((i64_of _).trans rfl) (by decide) (by decide)) ?_
    refine g_cb_ne (tgt := 42) hX dX6_site_36 (by decide) (fun h36 => ?_) (fun h36 => ?_)
    · exfalso; omega
    · refine g_ldc (v := -1000001) hX cX6_64 dX6_site_39 ?_
      exact g_iret hX hR dX6_site_41 (by decide) (by decide) ⟨congrArg (fun z => some (Value.int z)) rfl, rfl, rfl, rfl⟩

theorem c_X6_site_ok0 (l : Launch) {nw sp : Nat} {I : xM} {q T : Nat} (hst : I 307 7 = nI 1) (hT : I 311 0 = nI T) (hT6 : T ≤ 6) (hq : q < 20) : xC l 2 0 0 yX6_site cX6_site 3 (some .int) 319 [.ref 307, .int (nI q), .int (nI 0)] I (xRL nw sp) (xpI (I 311 (6 + q)) 319 (xput I 307 0 (nI 0)) (xRL nw sp)) := by
  refine xC_of (by decide) (Nat.le_of_ble_eq_true rfl) (fun X hXl hX hR => ?_)
  have hX : xOK X RX6 cX6_site 3 2 0 0 := hX
  show G X 319 0 0 I (xRL nw sp) 0 [(0, .ref 307), (1, .int (nI q)), (2, .int (nI 0))] []
  refine g_aload_n hX dX6_site_0 rfl 0 rfl ?_
  refine g_iconst (v := nI 0) hX dX6_site_1 (by decide) ?_
  refine g_putI hX (by decide) (by decide) xCl6 0 (by decide) (by decide) (by decide) kX6_44 dX6_site_2 rfl rfl ?_
  refine g_aload_n hX dX6_site_5 rfl 0 rfl ?_
  refine g_getI (v := nI 1) hX (by decide) (by decide) xCl6 7 (by decide) (by decide) kX6_186 dX6_site_6 (xput_i (by decide) hst) ?_
  refine g_cz_ne (a := (1 : Int)) (tgt := 15) hX dX6_site_9 (by decide) (by decide) (fun _ => ?_) (fun q => absurd q (by decide))
  refine g_iload_n hX dX6_site_15 rfl 1 rfl ?_
  refine g_i2l (v := (nI q).toInt64) hX dX6_site_16 rfl ?_
  refine g_lconst (v := 0) hX dX6_site_17 (by decide) ?_
  refine g_ldc2 (v := 19) hX cX6_225 dX6_site_18 ?_
  refine g_callSi (as := [.long ((nI q).toInt64), .long 0, .long (19)]) hX (fun l => c_X6_in l) mX6_in sX6_in lX6_54 rfl dX6_site_21 rfl (by decide) (Nat.le_of_ble_eq_true rfl) (by decide) (by decide) ?_
  refine g_top (y := xb ((0 : Int) ≤ ((q : Nat) : Int) ∧ ((q : Nat) : Int) ≤ (19 : Int))) (xb_iffI ((i64_of _).trans (nI_toInt (by omega))) (by decide) (by decide)) ?_
  refine g_cb_eq (tgt := 39) hX dX6_site_24 (by decide) (fun h24 => ?_) (fun h24 => ?_)
  · exfalso; omega
  · refine g_iload_n hX dX6_site_27 rfl 2 rfl ?_
    refine g_i2l (v := (nI 0).toInt64) hX dX6_site_28 rfl ?_
    refine g_lconst (v := 0) hX dX6_site_29 (by decide) ?_
    refine g_ldc2 (v := 2) hX cX6_62 dX6_site_30 ?_
    refine g_callSi (as := [.long ((nI 0).toInt64), .long 0, .long (2)]) hX (fun l => c_X6_in l) mX6_in sX6_in lX6_54 rfl dX6_site_33 rfl (by decide) (Nat.le_of_ble_eq_true rfl) (by decide) (by decide) ?_
    refine g_top (y := xb ((0 : Int) ≤ (0 : Int) ∧ (0 : Int) ≤ (2 : Int))) (xb_iffI ((i64_of _).trans (by decide)) (by decide) (by decide)) ?_
    refine g_cb_ne (tgt := 42) hX dX6_site_36 (by decide) (fun h36 => ?_) (fun h36 => ?_)
    · refine g_iload_n hX dX6_site_42 rfl 2 rfl ?_
      refine g_cz_ne (a := (0 : Int)) (tgt := 54) hX dX6_site_43 (by decide) (by decide) (fun q => absurd q (by decide)) (fun _ => ?_)
      refine g_aload_n hX dX6_site_46 rfl 0 rfl ?_
      refine g_iload_n hX dX6_site_47 rfl 1 rfl ?_
      refine g_callVi hX (as := [.int (nI q)]) (fun l => c_X6_ground l (I := (xput I 307 0 (nI 0))) (q := q) (hq := (by first | assumption | omega))) mX6_ground vX6_ground lX6_199 (by decide) (by decide) xCl6 rfl rfl dX6_site_48 rfl (by decide) (Nat.le_of_ble_eq_true rfl) (by decide) (by decide) ?_
      refine g_top (y := I 311 (6 + q)) (by rw [show (xput I 307 0 (nI 0)) 311 = I 311 from ((xput_ne (by decide)).trans rfl)]) ?_
      refine g_goto (tgt := 72) hX dX6_site_51 (by decide) ?_
      exact g_iret hX hR dX6_site_72 (by decide) (by decide) ⟨congrArg (fun z => some (Value.int z)) rfl, rfl, rfl, rfl⟩
    · exfalso; omega

theorem c_X6_site_ok1 (l : Launch) {nw sp : Nat} {I : xM} {q T : Nat} (hst : I 307 7 = nI 1) (hT : I 311 0 = nI T) (hT6 : T ≤ 6) (hq : q < 20) : xC l 4 0 0 yX6_site cX6_site 3 (some .int) 319 [.ref 307, .int (nI q), .int (nI 1)] I (xRL nw sp) (xpI (brF (I 311) (I 315) T q) 319 (xput I 307 0 (nI 0)) (xRL nw sp)) := by
  refine xC_of (by decide) (Nat.le_of_ble_eq_true rfl) (fun X hXl hX hR => ?_)
  have hX : xOK X RX6 cX6_site 3 4 0 0 := hX
  show G X 319 0 0 I (xRL nw sp) 0 [(0, .ref 307), (1, .int (nI q)), (2, .int (nI 1))] []
  refine g_aload_n hX dX6_site_0 rfl 0 rfl ?_
  refine g_iconst (v := nI 0) hX dX6_site_1 (by decide) ?_
  refine g_putI hX (by decide) (by decide) xCl6 0 (by decide) (by decide) (by decide) kX6_44 dX6_site_2 rfl rfl ?_
  refine g_aload_n hX dX6_site_5 rfl 0 rfl ?_
  refine g_getI (v := nI 1) hX (by decide) (by decide) xCl6 7 (by decide) (by decide) kX6_186 dX6_site_6 (xput_i (by decide) hst) ?_
  refine g_cz_ne (a := (1 : Int)) (tgt := 15) hX dX6_site_9 (by decide) (by decide) (fun _ => ?_) (fun q => absurd q (by decide))
  refine g_iload_n hX dX6_site_15 rfl 1 rfl ?_
  refine g_i2l (v := (nI q).toInt64) hX dX6_site_16 rfl ?_
  refine g_lconst (v := 0) hX dX6_site_17 (by decide) ?_
  refine g_ldc2 (v := 19) hX cX6_225 dX6_site_18 ?_
  refine g_callSi (as := [.long ((nI q).toInt64), .long 0, .long (19)]) hX (fun l => c_X6_in l) mX6_in sX6_in lX6_54 rfl dX6_site_21 rfl (by decide) (Nat.le_of_ble_eq_true rfl) (by decide) (by decide) ?_
  refine g_top (y := xb ((0 : Int) ≤ ((q : Nat) : Int) ∧ ((q : Nat) : Int) ≤ (19 : Int))) (xb_iffI ((i64_of _).trans (nI_toInt (by omega))) (by decide) (by decide)) ?_
  refine g_cb_eq (tgt := 39) hX dX6_site_24 (by decide) (fun h24 => ?_) (fun h24 => ?_)
  · exfalso; omega
  · refine g_iload_n hX dX6_site_27 rfl 2 rfl ?_
    refine g_i2l (v := (nI 1).toInt64) hX dX6_site_28 rfl ?_
    refine g_lconst (v := 0) hX dX6_site_29 (by decide) ?_
    refine g_ldc2 (v := 2) hX cX6_62 dX6_site_30 ?_
    refine g_callSi (as := [.long ((nI 1).toInt64), .long 0, .long (2)]) hX (fun l => c_X6_in l) mX6_in sX6_in lX6_54 rfl dX6_site_33 rfl (by decide) (Nat.le_of_ble_eq_true rfl) (by decide) (by decide) ?_
    refine g_top (y := xb ((0 : Int) ≤ (1 : Int) ∧ (1 : Int) ≤ (2 : Int))) (xb_iffI ((i64_of _).trans (by decide)) (by decide) (by decide)) ?_
    refine g_cb_ne (tgt := 42) hX dX6_site_36 (by decide) (fun h36 => ?_) (fun h36 => ?_)
    · refine g_iload_n hX dX6_site_42 rfl 2 rfl ?_
      refine g_cz_ne (a := (1 : Int)) (tgt := 54) hX dX6_site_43 (by decide) (by decide) (fun _ => ?_) (fun q => absurd q (by decide))
      refine g_iload_n hX dX6_site_54 rfl 2 rfl ?_
      refine g_iconst (v := nI 1) hX dX6_site_55 (by decide) ?_
      refine g_ci_ne (a := (1 : Int)) (b := (1 : Int)) (tgt := 67) hX dX6_site_56 (by decide) (by decide) (by decide) (fun q => absurd q (by decide)) (fun _ => ?_)
      refine g_aload_n hX dX6_site_59 rfl 0 rfl ?_
      refine g_iload_n hX dX6_site_60 rfl 1 rfl ?_
      refine g_callVi hX (as := [.int (nI q)]) (fun l => c_X6_bar l (I := (xput I 307 0 (nI 0))) (q := q) (T := T) (hT := (by first | assumption | omega)) (hT6 := (by first | assumption | omega)) (hq := (by first | assumption | omega))) mX6_bar vX6_bar lX6_227 (by decide) (by decide) xCl6 rfl rfl dX6_site_61 rfl (by decide) (Nat.le_of_ble_eq_true rfl) (by decide) (by decide) ?_
      refine g_top (y := brF (I 311) (I 315) T q) (by rw [show (xput I 307 0 (nI 0)) 311 = I 311 from ((xput_ne (by decide)).trans rfl), show (xput I 307 0 (nI 0)) 315 = I 315 from ((xput_ne (by decide)).trans rfl)]) ?_
      refine g_goto (tgt := 72) hX dX6_site_64 (by decide) ?_
      exact g_iret hX hR dX6_site_72 (by decide) (by decide) ⟨congrArg (fun z => some (Value.int z)) rfl, rfl, rfl, rfl⟩
    · exfalso; omega

theorem c_X6_site_ok2 (l : Launch) {nw sp : Nat} {I : xM} {q T : Nat} (hst : I 307 7 = nI 1) (hT : I 311 0 = nI T) (hT6 : T ≤ 6) (hq : q < 20) : xC l 3 0 0 yX6_site cX6_site 3 (some .int) 319 [.ref 307, .int (nI q), .int (nI 2)] I (xRL nw sp) (xpI (oI (taF (I 311) T (nI q))) 319 (xput I 307 0 (nI 0)) (xRL nw sp)) := by
  refine xC_of (by decide) (Nat.le_of_ble_eq_true rfl) (fun X hXl hX hR => ?_)
  have hX : xOK X RX6 cX6_site 3 3 0 0 := hX
  show G X 319 0 0 I (xRL nw sp) 0 [(0, .ref 307), (1, .int (nI q)), (2, .int (nI 2))] []
  refine g_aload_n hX dX6_site_0 rfl 0 rfl ?_
  refine g_iconst (v := nI 0) hX dX6_site_1 (by decide) ?_
  refine g_putI hX (by decide) (by decide) xCl6 0 (by decide) (by decide) (by decide) kX6_44 dX6_site_2 rfl rfl ?_
  refine g_aload_n hX dX6_site_5 rfl 0 rfl ?_
  refine g_getI (v := nI 1) hX (by decide) (by decide) xCl6 7 (by decide) (by decide) kX6_186 dX6_site_6 (xput_i (by decide) hst) ?_
  refine g_cz_ne (a := (1 : Int)) (tgt := 15) hX dX6_site_9 (by decide) (by decide) (fun _ => ?_) (fun q => absurd q (by decide))
  refine g_iload_n hX dX6_site_15 rfl 1 rfl ?_
  refine g_i2l (v := (nI q).toInt64) hX dX6_site_16 rfl ?_
  refine g_lconst (v := 0) hX dX6_site_17 (by decide) ?_
  refine g_ldc2 (v := 19) hX cX6_225 dX6_site_18 ?_
  refine g_callSi (as := [.long ((nI q).toInt64), .long 0, .long (19)]) hX (fun l => c_X6_in l) mX6_in sX6_in lX6_54 rfl dX6_site_21 rfl (by decide) (Nat.le_of_ble_eq_true rfl) (by decide) (by decide) ?_
  refine g_top (y := xb ((0 : Int) ≤ ((q : Nat) : Int) ∧ ((q : Nat) : Int) ≤ (19 : Int))) (xb_iffI ((i64_of _).trans (nI_toInt (by omega))) (by decide) (by decide)) ?_
  refine g_cb_eq (tgt := 39) hX dX6_site_24 (by decide) (fun h24 => ?_) (fun h24 => ?_)
  · exfalso; omega
  · refine g_iload_n hX dX6_site_27 rfl 2 rfl ?_
    refine g_i2l (v := (nI 2).toInt64) hX dX6_site_28 rfl ?_
    refine g_lconst (v := 0) hX dX6_site_29 (by decide) ?_
    refine g_ldc2 (v := 2) hX cX6_62 dX6_site_30 ?_
    refine g_callSi (as := [.long ((nI 2).toInt64), .long 0, .long (2)]) hX (fun l => c_X6_in l) mX6_in sX6_in lX6_54 rfl dX6_site_33 rfl (by decide) (Nat.le_of_ble_eq_true rfl) (by decide) (by decide) ?_
    refine g_top (y := xb ((0 : Int) ≤ (2 : Int) ∧ (2 : Int) ≤ (2 : Int))) (xb_iffI ((i64_of _).trans (by decide)) (by decide) (by decide)) ?_
    refine g_cb_ne (tgt := 42) hX dX6_site_36 (by decide) (fun h36 => ?_) (fun h36 => ?_)
    · refine g_iload_n hX dX6_site_42 rfl 2 rfl ?_
      refine g_cz_ne (a := (2 : Int)) (tgt := 54) hX dX6_site_43 (by decide) (by decide) (fun _ => ?_) (fun q => absurd q (by decide))
      refine g_iload_n hX dX6_site_54 rfl 2 rfl ?_
      refine g_iconst (v := nI 1) hX dX6_site_55 (by decide) ?_
      refine g_ci_ne (a := (2 : Int)) (b := (1 : Int)) (tgt := 67) hX dX6_site_56 (by decide) (by decide) (by decide) (fun _ => ?_) (fun q => absurd q (by decide))
      refine g_aload_n hX dX6_site_67 rfl 0 rfl ?_
      refine g_iload_n hX dX6_site_68 rfl 1 rfl ?_
      refine g_callVi hX (as := [.int (nI q)]) (fun l => c_X6_treeAt l (I := (xput I 307 0 (nI 0))) (T := T) (x := (nI q)) (hT := (by first | assumption | omega)) (hT6 := (by first | assumption | omega))) mX6_treeAt vX6_treeAt lX6_196 (by decide) (by decide) xCl6 rfl rfl dX6_site_69 rfl (by decide) (Nat.le_of_ble_eq_true rfl) (by decide) (by decide) ?_
      refine g_top (y := oI (taF (I 311) T (nI q))) (by rw [show (xput I 307 0 (nI 0)) 311 = I 311 from ((xput_ne (by decide)).trans rfl)]) ?_
      exact g_iret hX hR dX6_site_72 (by decide) (by decide) ⟨congrArg (fun z => some (Value.int z)) rfl, rfl, rfl, rfl⟩
    · exfalso; omega

theorem c_X6_seen_none (l : Launch) {nw sp : Nat} {I : xM} {x y : Int32} (hst : I 307 7 = nI 0) : xC l 1 0 0 yX6_seen cX6_seen 3 (some .int) 319 [.ref 307, .int x, .int y] I (xRL nw sp) (xpI (-1000002) 319 (xput I 307 0 (nI 0)) (xRL nw sp)) := by
  refine xC_of (by decide) (Nat.le_of_ble_eq_true rfl) (fun X hXl hX hR => ?_)
  have hX : xOK X RX6 cX6_seen 3 1 0 0 := hX
  show G X 319 0 0 I (xRL nw sp) 0 [(0, .ref 307), (1, .int x), (2, .int y)] []
  refine g_aload_n hX dX6_seen_0 rfl 0 rfl ?_
  refine g_iconst (v := nI 0) hX dX6_seen_1 (by decide) ?_
  refine g_putI hX (by decide) (by decide) xCl6 0 (by decide) (by decide) (by decide) kX6_44 dX6_seen_2 rfl rfl ?_
  refine g_aload_n hX dX6_seen_5 rfl 0 rfl ?_
  refine g_getI (v := nI 0) hX (by decide) (by decide) xCl6 7 (by decide) (by decide) kX6_186 dX6_seen_6 (xput_i (by decide) hst) ?_
  refine g_cz_ne (a := (0 : Int)) (tgt := 15) hX dX6_seen_9 (by decide) (by decide) (fun q => absurd q (by decide)) (fun _ => ?_)
  refine g_ldc (v := -1000002) hX cX6_205 dX6_seen_12 ?_
  exact g_iret hX hR dX6_seen_14 (by decide) (by decide) ⟨congrArg (fun z => some (Value.int z)) rfl, rfl, rfl, rfl⟩

theorem c_X6_seen_bad (l : Launch) {nw sp : Nat} {I : xM} {x y : Int32} (hst : I 307 7 = nI 1) (hb : ¬ (0 ≤ x.toInt ∧ x.toInt ≤ 18 ∧ 0 ≤ y.toInt ∧ y.toInt ≤ 30)) : xC l 3 0 0 yX6_seen cX6_seen 3 (some .int) 319 [.ref 307, .int x, .int y] I (xRL nw sp) (xpI (-1000001) 319 (xput I 307 0 (nI 0)) (xRL nw sp)) := by
  refine xC_of (by decide) (Nat.le_of_ble_eq_true rfl) (fun X hXl hX hR => ?_)
  have hX : xOK X RX6 cX6_seen 3 3 0 0 := hX
  show G X 319 0 0 I (xRL nw sp) 0 [(0, .ref 307), (1, .int x), (2, .int y)] []
  refine g_aload_n hX dX6_seen_0 rfl 0 rfl ?_
  refine g_iconst (v := nI 0) hX dX6_seen_1 (by decide) ?_
  refine g_putI hX (by decide) (by decide) xCl6 0 (by decide) (by decide) (by decide) kX6_44 dX6_seen_2 rfl rfl ?_
  refine g_aload_n hX dX6_seen_5 rfl 0 rfl ?_
  refine g_getI (v := nI 1) hX (by decide) (by decide) xCl6 7 (by decide) (by decide) kX6_186 dX6_seen_6 (xput_i (by decide) hst) ?_
  refine g_cz_ne (a := (1 : Int)) (tgt := 15) hX dX6_seen_9 (by decide) (by decide) (fun _ => ?_) (fun q => absurd q (by decide))
  refine g_iload_n hX dX6_seen_15 rfl 1 rfl ?_
  refine g_i2l (v := x.toInt64) hX dX6_seen_16 rfl ?_
  refine g_lconst (v := 0) hX dX6_seen_17 (by decide) ?_
  refine g_ldc2 (v := 18) hX cX6_217 dX6_seen_18 ?_
  refine g_callSi (as := [.long x.toInt64, .long 0, .long (18)]) hX (fun l => c_X6_in l) mX6_in sX6_in lX6_54 rfl dX6_seen_21 rfl (by decide) (Nat.le_of_ble_eq_true rfl) (by decide) (by decide) ?_
  refine g_top (y := xb ((0 : Int) ≤ x.toInt ∧ x.toInt ≤ (18 : Int))) (xb_iffI ((i64_of _).trans rfl) (by decide) (by decide)) ?_
  refine g_cb_eq (tgt := 43) hX dX6_seen_24 (by decide) (fun h24 => ?_) (fun h24 => ?_)
  · refine g_ldc (v := -1000001) hX cX6_64 dX6_seen_43 ?_
    exact g_iret hX hR dX6_seen_45 (by decide) (by decide) ⟨congrArg (fun z => some (Value.int z)) rfl, rfl, rfl, rfl⟩
  · refine g_iload_n hX dX6_seen_27 rfl 2 rfl ?_
    refine g_callSi hX (as := [.int y]) (fun l => c_X6_isEye l (I := (xput I 307 0 (nI 0))) (x := y) ) mX6_isEye sX6_isEye lX6_243 rfl dX6_seen_28 rfl (by decide) (Nat.le_of_ble_eq_true rfl) (by decide) (by decide) ?_
    refine g_cb_eq (tgt := 43) hX dX6_seen_31 (by decide) (fun h31 => ?_) (fun h31 => ?_)
    · refine g_ldc (v := -1000001) hX cX6_64 dX6_seen_43 ?_
      exact g_iret hX hR dX6_seen_45 (by decide) (by decide) ⟨congrArg (fun z => some (Value.int z)) rfl, rfl, rfl, rfl⟩
    · exfalso; omega

theorem c_X6_seen_ok (l : Launch) {nw sp : Nat} {I : xM} {s T S : Nat} {e : Int32} (hst : I 307 7 = nI 1) (hT : I 311 0 = nI T) (hT6 : T ≤ 6) (hS : I 311 1 = nI S) (hS6 : S ≤ 6) (hth : thP (I 311) S) (hs : s < 19) (he0 : 0 ≤ e.toInt) (he3 : e.toInt ≤ 30) : xC l 7 0 0 yX6_seen cX6_seen 3 (some .int) 319 [.ref 307, .int (nI s), .int e] I (xRL nw sp) (xpI (bitsI (snP (brF (I 311) (I 315) T) (I 311) s e) S) 319 (xput I 307 0 (nI 0)) (xRL nw sp)) := by
  refine xC_of (by decide) (Nat.le_of_ble_eq_true rfl) (fun X hXl hX hR => ?_)
  have hX : xOK X RX6 cX6_seen 3 7 0 0 := hX
  show G X 319 0 0 I (xRL nw sp) 0 [(0, .ref 307), (1, .int (nI s)), (2, .int e)] []
  refine g_aload_n hX dX6_seen_0 rfl 0 rfl ?_
  refine g_iconst (v := nI 0) hX dX6_seen_1 (by decide) ?_
  refine g_putI hX (by decide) (by decide) xCl6 0 (by decide) (by decide) (by decide) kX6_44 dX6_seen_2 rfl rfl ?_
  refine g_aload_n hX dX6_seen_5 rfl 0 rfl ?_
  refine g_getI (v := nI 1) hX (by decide) (by decide) xCl6 7 (by decide) (by decide) kX6_186 dX6_seen_6 (xput_i (by decide) hst) ?_
  refine g_cz_ne (a := (1 : Int)) (tgt := 15) hX dX6_seen_9 (by decide) (by decide) (fun _ => ?_) (fun q => absurd q (by decide))
  refine g_iload_n hX dX6_seen_15 rfl 1 rfl ?_
  refine g_i2l (v := (nI s).toInt64) hX dX6_seen_16 rfl ?_
  refine g_lconst (v := 0) hX dX6_seen_17 (by decide) ?_
  refine g_ldc2 (v := 18) hX cX6_217 dX6_seen_18 ?_
  refine g_callSi (as := [.long ((nI s).toInt64), .long 0, .long (18)]) hX (fun l => c_X6_in l) mX6_in sX6_in lX6_54 rfl dX6_seen_21 rfl (by decide) (Nat.le_of_ble_eq_true rfl) (by decide) (by decide) ?_
  refine g_top (y := xb ((0 : Int) ≤ ((s : Nat) : Int) ∧ ((s : Nat) : Int) ≤ (18 : Int))) (xb_iffI ((i64_of _).trans (nI_toInt (by omega))) (by decide) (by decide)) ?_
  refine g_cb_eq (tgt := 43) hX dX6_seen_24 (by decide) (fun h24 => ?_) (fun h24 => ?_)
  · exfalso; omega
  · refine g_iload_n hX dX6_seen_27 rfl 2 rfl ?_
    refine g_callSi hX (as := [.int e]) (fun l => c_X6_isEye l (I := (xput I 307 0 (nI 0))) (x := e) ) mX6_isEye sX6_isEye lX6_243 rfl dX6_seen_28 rfl (by decide) (Nat.le_of_ble_eq_true rfl) (by decide) (by decide) ?_
    refine g_cb_eq (tgt := 43) hX dX6_seen_31 (by decide) (fun h31 => ?_) (fun h31 => ?_)
    · exfalso; omega
    · refine g_aload_n hX dX6_seen_34 rfl 0 rfl ?_
      refine g_iload_n hX dX6_seen_35 rfl 1 rfl ?_
      refine g_iload_n hX dX6_seen_36 rfl 2 rfl ?_
      refine g_callVi hX (as := [.int (nI s), .int e]) (fun l => c_X6_seenFrom l (I := (xput I 307 0 (nI 0))) (s := s) (T := T) (S := S) (e := e) (hT := (by first | assumption | omega)) (hT6 := (by first | assumption | omega)) (hS := (by first | assumption | omega)) (hS6 := (by first | assumption | omega)) (hth := (by first | assumption | omega)) (hs := (by first | assumption | omega))) mX6_seenFrom vX6_seenFrom lX6_246 (by decide) (by decide) xCl6 rfl rfl dX6_seen_37 rfl (by decide) (Nat.le_of_ble_eq_true rfl) (by decide) (by decide) ?_
      refine g_top (y := bitsI (snP (brF (I 311) (I 315) T) (I 311) s e) S) (by rw [show (xput I 307 0 (nI 0)) 311 = I 311 from ((xput_ne (by decide)).trans rfl), show (xput I 307 0 (nI 0)) 315 = I 315 from ((xput_ne (by decide)).trans rfl)]) ?_
      refine g_goto (tgt := 45) hX dX6_seen_40 (by decide) ?_
      exact g_iret hX hR dX6_seen_45 (by decide) (by decide) ⟨congrArg (fun z => some (Value.int z)) rfl, rfl, rfl, rfl⟩

theorem c_X6_doubled_none (l : Launch) {nw sp : Nat} {I : xM} {x : Int32} (hst : I 307 7 = nI 0) : xC l 1 0 0 yX6_doubled cX6_doubled 4 (some .int) 319 [.ref 307, .int x] I (xRL nw sp) (xpI (-1000002) 319 (xput I 307 0 (nI 0)) (xRL nw sp)) := by
  refine xC_of (by decide) (Nat.le_of_ble_eq_true rfl) (fun X hXl hX hR => ?_)
  have hX : xOK X RX6 cX6_doubled 4 1 0 0 := hX
  show G X 319 0 0 I (xRL nw sp) 0 [(0, .ref 307), (1, .int x)] []
  refine g_aload_n hX dX6_doubled_0 rfl 0 rfl ?_
  refine g_iconst (v := nI 0) hX dX6_doubled_1 (by decide) ?_
  refine g_putI hX (by decide) (by decide) xCl6 0 (by decide) (by decide) (by decide) kX6_44 dX6_doubled_2 rfl rfl ?_
  refine g_aload_n hX dX6_doubled_5 rfl 0 rfl ?_
  refine g_getI (v := nI 0) hX (by decide) (by decide) xCl6 7 (by decide) (by decide) kX6_186 dX6_doubled_6 (xput_i (by decide) hst) ?_
  refine g_cz_ne (a := (0 : Int)) (tgt := 15) hX dX6_doubled_9 (by decide) (by decide) (fun q => absurd q (by decide)) (fun _ => ?_)
  refine g_ldc (v := -1000002) hX cX6_205 dX6_doubled_12 ?_
  exact g_iret hX hR dX6_doubled_14 (by decide) (by decide) ⟨congrArg (fun z => some (Value.int z)) rfl, rfl, rfl, rfl⟩

theorem c_X6_doubled_bad (l : Launch) {nw sp : Nat} {I : xM} {x : Int32} (hst : I 307 7 = nI 1) (hb : ¬ (0 ≤ x.toInt ∧ x.toInt ≤ 30)) : xC l 3 0 0 yX6_doubled cX6_doubled 4 (some .int) 319 [.ref 307, .int x] I (xRL nw sp) (xpI (-1000001) 319 (xput I 307 0 (nI 0)) (xRL nw sp)) := by
  refine xC_of (by decide) (Nat.le_of_ble_eq_true rfl) (fun X hXl hX hR => ?_)
  have hX : xOK X RX6 cX6_doubled 4 3 0 0 := hX
  show G X 319 0 0 I (xRL nw sp) 0 [(0, .ref 307), (1, .int x)] []
  refine g_aload_n hX dX6_doubled_0 rfl 0 rfl ?_
  refine g_iconst (v := nI 0) hX dX6_doubled_1 (by decide) ?_
  refine g_putI hX (by decide) (by decide) xCl6 0 (by decide) (by decide) (by decide) kX6_44 dX6_doubled_2 rfl rfl ?_
  refine g_aload_n hX dX6_doubled_5 rfl 0 rfl ?_
  refine g_getI (v := nI 1) hX (by decide) (by decide) xCl6 7 (by decide) (by decide) kX6_186 dX6_doubled_6 (xput_i (by decide) hst) ?_
  refine g_cz_ne (a := (1 : Int)) (tgt := 15) hX dX6_doubled_9 (by decide) (by decide) (fun _ => ?_) (fun q => absurd q (by decide))
  refine g_iload_n hX dX6_doubled_15 rfl 1 rfl ?_
  refine g_callSi hX (as := [.int x]) (fun l => c_X6_isEye l (I := (xput I 307 0 (nI 0))) (x := x) ) mX6_isEye sX6_isEye lX6_243 rfl dX6_doubled_16 rfl (by decide) (Nat.le_of_ble_eq_true rfl) (by decide) (by decide) ?_
  refine g_cb_ne (tgt := 25) hX dX6_doubled_19 (by decide) (fun h19 => ?_) (fun h19 => ?_)
  · exfalso; omega
  · refine g_ldc (v := -1000001) hX cX6_64 dX6_doubled_22 ?_
    exact g_iret hX hR dX6_doubled_24 (by decide) (by decide) ⟨congrArg (fun z => some (Value.int z)) rfl, rfl, rfl, rfl⟩

theorem c_X6_moon_none (l : Launch) {nw sp : Nat} {I : xM} {x : Int32} (hst : I 307 7 = nI 0) : xC l 1 0 0 yX6_moon cX6_moon 4 (some .int) 319 [.ref 307, .int x] I (xRL nw sp) (xpI (-1000002) 319 (xput I 307 0 (nI 0)) (xRL nw sp)) := by
  refine xC_of (by decide) (Nat.le_of_ble_eq_true rfl) (fun X hXl hX hR => ?_)
  have hX : xOK X RX6 cX6_moon 4 1 0 0 := hX
  show G X 319 0 0 I (xRL nw sp) 0 [(0, .ref 307), (1, .int x)] []
  refine g_aload_n hX dX6_moon_0 rfl 0 rfl ?_
  refine g_iconst (v := nI 0) hX dX6_moon_1 (by decide) ?_
  refine g_putI hX (by decide) (by decide) xCl6 0 (by decide) (by decide) (by decide) kX6_44 dX6_moon_2 rfl rfl ?_
  refine g_aload_n hX dX6_moon_5 rfl 0 rfl ?_
  refine g_getI (v := nI 0) hX (by decide) (by decide) xCl6 7 (by decide) (by decide) kX6_186 dX6_moon_6 (xput_i (by decide) hst) ?_
  refine g_cz_ne (a := (0 : Int)) (tgt := 15) hX dX6_moon_9 (by decide) (by decide) (fun q => absurd q (by decide)) (fun _ => ?_)
  refine g_ldc (v := -1000002) hX cX6_205 dX6_moon_12 ?_
  exact g_iret hX hR dX6_moon_14 (by decide) (by decide) ⟨congrArg (fun z => some (Value.int z)) rfl, rfl, rfl, rfl⟩

theorem c_X6_moon_bad (l : Launch) {nw sp : Nat} {I : xM} {x : Int32} (hst : I 307 7 = nI 1) (hb : ¬ (0 ≤ x.toInt ∧ x.toInt ≤ 30)) : xC l 3 0 0 yX6_moon cX6_moon 4 (some .int) 319 [.ref 307, .int x] I (xRL nw sp) (xpI (-1000001) 319 (xput I 307 0 (nI 0)) (xRL nw sp)) := by
  refine xC_of (by decide) (Nat.le_of_ble_eq_true rfl) (fun X hXl hX hR => ?_)
  have hX : xOK X RX6 cX6_moon 4 3 0 0 := hX
  show G X 319 0 0 I (xRL nw sp) 0 [(0, .ref 307), (1, .int x)] []
  refine g_aload_n hX dX6_moon_0 rfl 0 rfl ?_
  refine g_iconst (v := nI 0) hX dX6_moon_1 (by decide) ?_
  refine g_putI hX (by decide) (by decide) xCl6 0 (by decide) (by decide) (by decide) kX6_44 dX6_moon_2 rfl rfl ?_
  refine g_aload_n hX dX6_moon_5 rfl 0 rfl ?_
  refine g_getI (v := nI 1) hX (by decide) (by decide) xCl6 7 (by decide) (by decide) kX6_186 dX6_moon_6 (xput_i (by decide) hst) ?_
  refine g_cz_ne (a := (1 : Int)) (tgt := 15) hX dX6_moon_9 (by decide) (by decide) (fun _ => ?_) (fun q => absurd q (by decide))
  refine g_iload_n hX dX6_moon_15 rfl 1 rfl ?_
  refine g_callSi hX (as := [.int x]) (fun l => c_X6_isEye l (I := (xput I 307 0 (nI 0))) (x := x) ) mX6_isEye sX6_isEye lX6_243 rfl dX6_moon_16 rfl (by decide) (Nat.le_of_ble_eq_true rfl) (by decide) (by decide) ?_
  refine g_cb_ne (tgt := 25) hX dX6_moon_19 (by decide) (fun h19 => ?_) (fun h19 => ?_)
  · exfalso; omega
  · refine g_ldc (v := -1000001) hX cX6_64 dX6_moon_22 ?_
    exact g_iret hX hR dX6_moon_24 (by decide) (by decide) ⟨congrArg (fun z => some (Value.int z)) rfl, rfl, rfl, rfl⟩

theorem c_X6_doubled_ok (l : Launch) {nw sp : Nat} {I : xM} {T S F W : Nat} {e : Int32} (hst : I 307 7 = nI 1) (hT : I 311 0 = nI T) (hT6 : T ≤ 6) (hS : I 311 1 = nI S) (hS6 : S ≤ 6) (hth : thP (I 311) S) (hF : I 311 4 = nI F) (hF20 : F ≤ 20) (hW : I 311 5 = nI W) (hW20 : W ≤ 20) (he0 : 0 ≤ e.toInt) (he3 : e.toInt ≤ 30) : xC l 7 0 0 yX6_doubled cX6_doubled 4 (some .int) 319 [.ref 307, .int e] I (xRL nw sp) (xpI (bitsI (dbP (brF (I 311) (I 315) T) (I 311) F W e) S) 319 (xput I 307 0 (nI 0)) (xRL nw sp)) := by
  refine xC_of (by decide) (Nat.le_of_ble_eq_true rfl) (fun X hXl hX hR => ?_)
  have hX : xOK X RX6 cX6_doubled 4 7 0 0 := hX
  show G X 319 0 0 I (xRL nw sp) 0 [(0, .ref 307), (1, .int e)] []
  refine g_aload_n hX dX6_doubled_0 rfl 0 rfl ?_
  refine g_iconst (v := nI 0) hX dX6_doubled_1 (by decide) ?_
  refine g_putI hX (by decide) (by decide) xCl6 0 (by decide) (by decide) (by decide) kX6_44 dX6_doubled_2 rfl rfl ?_
  refine g_aload_n hX dX6_doubled_5 rfl 0 rfl ?_
  refine g_getI (v := nI 1) hX (by decide) (by decide) xCl6 7 (by decide) (by decide) kX6_186 dX6_doubled_6 (xput_i (by decide) hst) ?_
  refine g_cz_ne (a := (1 : Int)) (tgt := 15) hX dX6_doubled_9 (by decide) (by decide) (fun _ => ?_) (fun q => absurd q (by decide))
  refine g_iload_n hX dX6_doubled_15 rfl 1 rfl ?_
  refine g_callSi hX (as := [.int e]) (fun l => c_X6_isEye l (I := (xput I 307 0 (nI 0))) (x := e) ) mX6_isEye sX6_isEye lX6_243 rfl dX6_doubled_16 rfl (by decide) (Nat.le_of_ble_eq_true rfl) (by decide) (by decide) ?_
  refine g_cb_ne (tgt := 25) hX dX6_doubled_19 (by decide) (fun h19 => ?_) (fun h19 => ?_)
  · refine g_iconst (v := nI 0) hX dX6_doubled_25 (by decide) ?_
    refine g_istore_n (L' := [(0, .ref 307), (1, .int e), (2, .int (nI 0))]) hX dX6_doubled_26 rfl (by decide) rfl ?_
    refine g_iconst (v := nI 0) hX dX6_doubled_27 (by decide) ?_
    refine g_istore_n (L' := [(0, .ref 307), (1, .int e), (2, .int (nI 0)), (3, .int (nI 0))]) hX dX6_doubled_28 rfl (by decide) rfl ?_
    have cut29 : ∀ (fuel : Nat) (b : Int32) (k : Nat) (hk : k ≤ S) (hb : b = bitsI (dbP (brF (I 311) (I 315) T) (I 311) F W e) k), S - k < fuel → G X 319 0 0 (xput I 307 0 (nI 0)) (xRL nw sp) 29 [(0, .ref 307), (1, .int e), (2, .int b), (3, .int (nI k))] [] := by
      intro fuel
      induction fuel with
      | zero => intro b k hk hb hfuel; omega
      | succ fuel ih =>
        intro b k hk hb hfuel
        refine g_iload_n hX dX6_doubled_29 rfl 3 rfl ?_
        refine g_aload_n hX dX6_doubled_30 rfl 0 rfl ?_
        refine g_getR (j := 311) hX (by decide) (by decide) xCl6 5 (by decide) (by decide) kX6_19 dX6_doubled_31 rfl ?_
        refine g_iconst (v := nI 1) hX dX6_doubled_34 (by decide) ?_
        refine g_iald (v := nI S) hX (by decide) (by decide) 1 rfl (by rw [(show xN 311 = 74 by decide)]; decide) dX6_doubled_35 hS ?_
        refine g_ci_ge (a := ((k : Nat) : Int)) (b := ((S : Nat) : Int)) (tgt := 64) hX dX6_doubled_36 (by decide) (nI_toInt (by omega)) (nI_toInt (by omega)) (fun h36 => ?_) (fun h36 => ?_)
        · refine g_iload_n hX dX6_doubled_64 rfl 2 rfl ?_
          exact g_iret hX hR dX6_doubled_65 (by decide) (by decide) ⟨congrArg (fun z => some (Value.int z)) (by rw [hb, show k = S by omega]), rfl, rfl, rfl⟩
        · refine g_iload_n hX dX6_doubled_39 rfl 2 rfl ?_
          refine g_aload_n hX dX6_doubled_40 rfl 0 rfl ?_
          refine g_iload_n hX dX6_doubled_41 rfl 1 rfl ?_
          refine g_iload_n hX dX6_doubled_42 rfl 3 rfl ?_
          refine g_callVi hX (as := [.int e, .int (nI k)]) (fun l => c_X6_isDoubled l (I := (xput I 307 0 (nI 0))) (k := k) (T := T) (S := S) (F := F) (W := W) (e := e) (hT := (by first | assumption | omega)) (hT6 := (by first | assumption | omega)) (hS := (by first | assumption | omega)) (hS6 := (by first | assumption | omega)) (hth := (by first | assumption | omega)) (hF := (by first | assumption | omega)) (hF20 := (by first | assumption | omega)) (hW := (by first | assumption | omega)) (hW20 := (by first | assumption | omega)) (hk := (by first | assumption | omega))) mX6_isDoubled vX6_isDoubled lX6_249 (by decide) (by decide) xCl6 rfl rfl dX6_doubled_43 rfl (by decide) (Nat.le_of_ble_eq_true rfl) (by decide) (by decide) ?_
          refine g_cb_eq (tgt := 55) hX dX6_doubled_46 (by decide) (fun h46 => ?_) (fun h46 => ?_)
          · refine g_iconst (v := nI 0) hX dX6_doubled_55 (by decide) ?_
            refine g_ior (v := b ||| (nI 0)) hX dX6_doubled_56 rfl ?_
            refine g_istore_n (L' := [(0, .ref 307), (1, .int e), (2, .int (b ||| (nI 0))), (3, .int (nI k))]) hX dX6_doubled_57 rfl (by decide) rfl ?_
            refine g_iinc (v := nI (k + 1)) (L' := [(0, .ref 307), (1, .int e), (2, .int (b ||| (nI 0))), (3, .int (nI (k + 1)))]) hX dX6_doubled_58 (by decide) 3 rfl (nI_add k 1) rfl ?_
            refine g_goto (tgt := 29) hX dX6_doubled_61 (by decide) ?_
            exact ih (b ||| (nI 0)) (k + 1) (by first | assumption | omega) (by first | exact bits_t hb h46 | exact bits_f hb h46) (by omega)
          · refine g_iconst (v := nI 1) hX dX6_doubled_49 (by decide) ?_
            refine g_iload_n hX dX6_doubled_50 rfl 3 rfl ?_
            refine g_ishl (v := (nI 1) <<< ((nI k) &&& 31)) hX dX6_doubled_51 rfl ?_
            refine g_goto (tgt := 56) hX dX6_doubled_52 (by decide) ?_
            refine g_ior (v := b ||| ((nI 1) <<< ((nI k) &&& 31))) hX dX6_doubled_56 rfl ?_
            refine g_istore_n (L' := [(0, .ref 307), (1, .int e), (2, .int (b ||| ((nI 1) <<< ((nI k) &&& 31)))), (3, .int (nI k))]) hX dX6_doubled_57 rfl (by decide) rfl ?_
            refine g_iinc (v := nI (k + 1)) (L' := [(0, .ref 307), (1, .int e), (2, .int (b ||| ((nI 1) <<< ((nI k) &&& 31)))), (3, .int (nI (k + 1)))]) hX dX6_doubled_58 (by decide) 3 rfl (nI_add k 1) rfl ?_
            refine g_goto (tgt := 29) hX dX6_doubled_61 (by decide) ?_
            exact ih (b ||| ((nI 1) <<< ((nI k) &&& 31))) (k + 1) (by first | assumption | omega) (by first | exact bits_t hb h46 | exact bits_f hb h46) (by omega)
    exact cut29 _ (nI 0) 0 (by first | assumption | omega) rfl (Nat.lt_succ_self _)
  · exfalso; omega

theorem c_X6_met_none (l : Launch) {nw sp : Nat} {I : xM} {x : Int32} (hst : I 307 7 = nI 0) : xC l 1 0 0 yX6_met cX6_met 2 (some .int) 319 [.ref 307, .int x] I (xRL nw sp) (xpI (-1000002) 319 (xput I 307 0 (nI 0)) (xRL nw sp)) := by
  refine xC_of (by decide) (Nat.le_of_ble_eq_true rfl) (fun X hXl hX hR => ?_)
  have hX : xOK X RX6 cX6_met 2 1 0 0 := hX
  show G X 319 0 0 I (xRL nw sp) 0 [(0, .ref 307), (1, .int x)] []
  refine g_aload_n hX dX6_met_0 rfl 0 rfl ?_
  refine g_iconst (v := nI 0) hX dX6_met_1 (by decide) ?_
  refine g_putI hX (by decide) (by decide) xCl6 0 (by decide) (by decide) (by decide) kX6_44 dX6_met_2 rfl rfl ?_
  refine g_aload_n hX dX6_met_5 rfl 0 rfl ?_
  refine g_getI (v := nI 0) hX (by decide) (by decide) xCl6 7 (by decide) (by decide) kX6_186 dX6_met_6 (xput_i (by decide) hst) ?_
  refine g_cz_ne (a := (0 : Int)) (tgt := 15) hX dX6_met_9 (by decide) (by decide) (fun q => absurd q (by decide)) (fun _ => ?_)
  refine g_ldc (v := -1000002) hX cX6_205 dX6_met_12 ?_
  exact g_iret hX hR dX6_met_14 (by decide) (by decide) ⟨congrArg (fun z => some (Value.int z)) rfl, rfl, rfl, rfl⟩

theorem c_X6_met_bad (l : Launch) {nw sp : Nat} {I : xM} {x : Int32} (hst : I 307 7 = nI 1) (hb : x.toInt < 0) : xC l 1 0 0 yX6_met cX6_met 2 (some .int) 319 [.ref 307, .int x] I (xRL nw sp) (xpI (-1000001) 319 (xput I 307 0 (nI 0)) (xRL nw sp)) := by
  refine xC_of (by decide) (Nat.le_of_ble_eq_true rfl) (fun X hXl hX hR => ?_)
  have hX : xOK X RX6 cX6_met 2 1 0 0 := hX
  show G X 319 0 0 I (xRL nw sp) 0 [(0, .ref 307), (1, .int x)] []
  refine g_aload_n hX dX6_met_0 rfl 0 rfl ?_
  refine g_iconst (v := nI 0) hX dX6_met_1 (by decide) ?_
  refine g_putI hX (by decide) (by decide) xCl6 0 (by decide) (by decide) (by decide) kX6_44 dX6_met_2 rfl rfl ?_
  refine g_aload_n hX dX6_met_5 rfl 0 rfl ?_
  refine g_getI (v := nI 1) hX (by decide) (by decide) xCl6 7 (by decide) (by decide) kX6_186 dX6_met_6 (xput_i (by decide) hst) ?_
  refine g_cz_ne (a := (1 : Int)) (tgt := 15) hX dX6_met_9 (by decide) (by decide) (fun _ => ?_) (fun q => absurd q (by decide))
  refine g_iload_n hX dX6_met_15 rfl 1 rfl ?_
  refine g_cz_ge (a := x.toInt) (tgt := 24) hX dX6_met_16 (by decide) rfl (fun h16 => ?_) (fun h16 => ?_)
  · exfalso; omega
  · refine g_ldc (v := -1000001) hX cX6_64 dX6_met_19 ?_
    refine g_goto (tgt := 29) hX dX6_met_21 (by decide) ?_
    exact g_iret hX hR dX6_met_29 (by decide) (by decide) ⟨congrArg (fun z => some (Value.int z)) rfl, rfl, rfl, rfl⟩

theorem c_X6_met_ok (l : Launch) {nw sp : Nat} {I : xM} {T S : Nat} {x : Int32} (hst : I 307 7 = nI 1) (hT : I 311 0 = nI T) (hT6 : T ≤ 6) (hS : I 311 1 = nI S) (hS6 : S ≤ 6) (hth : thP (I 311) S) (hx : 0 ≤ x.toInt) : xC l 8 0 0 yX6_met cX6_met 2 (some .int) 319 [.ref 307, .int x] I (xRL nw sp) (xpI (bitsI (fun e => inP x e ∧ mtP (brF (I 311) (I 315) T) (I 311) S (nI e)) 31) 319 (xput I 307 0 (nI 0)) (xRL nw sp)) := by
  refine xC_of (by decide) (Nat.le_of_ble_eq_true rfl) (fun X hXl hX hR => ?_)
  have hX : xOK X RX6 cX6_met 2 8 0 0 := hX
  show G X 319 0 0 I (xRL nw sp) 0 [(0, .ref 307), (1, .int x)] []
  refine g_aload_n hX dX6_met_0 rfl 0 rfl ?_
  refine g_iconst (v := nI 0) hX dX6_met_1 (by decide) ?_
  refine g_putI hX (by decide) (by decide) xCl6 0 (by decide) (by decide) (by decide) kX6_44 dX6_met_2 rfl rfl ?_
  refine g_aload_n hX dX6_met_5 rfl 0 rfl ?_
  refine g_getI (v := nI 1) hX (by decide) (by decide) xCl6 7 (by decide) (by decide) kX6_186 dX6_met_6 (xput_i (by decide) hst) ?_
  refine g_cz_ne (a := (1 : Int)) (tgt := 15) hX dX6_met_9 (by decide) (by decide) (fun _ => ?_) (fun q => absurd q (by decide))
  refine g_iload_n hX dX6_met_15 rfl 1 rfl ?_
  refine g_cz_ge (a := x.toInt) (tgt := 24) hX dX6_met_16 (by decide) rfl (fun h16 => ?_) (fun h16 => ?_)
  · refine g_aload_n hX dX6_met_24 rfl 0 rfl ?_
    refine g_iload_n hX dX6_met_25 rfl 1 rfl ?_
    refine g_callVi hX (as := [.int x]) (fun l => c_X6_metBy l (I := (xput I 307 0 (nI 0))) (T := T) (S := S) (x := x) (hT := (by first | assumption | omega)) (hT6 := (by first | assumption | omega)) (hS := (by first | assumption | omega)) (hS6 := (by first | assumption | omega)) (hth := (by first | assumption | omega))) mX6_metBy vX6_metBy lX6_256 (by decide) (by decide) xCl6 rfl rfl dX6_met_26 rfl (by decide) (Nat.le_of_ble_eq_true rfl) (by decide) (by decide) ?_
    refine g_top (y := bitsI (fun e => inP x e ∧ mtP (brF (I 311) (I 315) T) (I 311) S (nI e)) 31) (by rw [show (xput I 307 0 (nI 0)) 311 = I 311 from ((xput_ne (by decide)).trans rfl), show (xput I 307 0 (nI 0)) 315 = I 315 from ((xput_ne (by decide)).trans rfl)]) ?_
    exact g_iret hX hR dX6_met_29 (by decide) (by decide) ⟨congrArg (fun z => some (Value.int z)) rfl, rfl, rfl, rfl⟩
  · exfalso; omega

theorem c_X6_moon_ok (l : Launch) {nw sp : Nat} {I : xM} {T : Nat} {e : Int32} (hst : I 307 7 = nI 1) (hT : I 311 0 = nI T) (hT6 : T ≤ 6) (he0 : 0 ≤ e.toInt) (he3 : e.toInt ≤ 30) : xC l 5 0 0 yX6_moon cX6_moon 4 (some .int) 319 [.ref 307, .int e] I (xRL nw sp) (xpI (bitsI (mnP (brF (I 311) (I 315) T) (I 311) e) 13) 319 (xput I 307 0 (nI 0)) (xRL nw sp)) := by
  refine xC_of (by decide) (Nat.le_of_ble_eq_true rfl) (fun X hXl hX hR => ?_)
  have hX : xOK X RX6 cX6_moon 4 5 0 0 := hX
  show G X 319 0 0 I (xRL nw sp) 0 [(0, .ref 307), (1, .int e)] []
  refine g_aload_n hX dX6_moon_0 rfl 0 rfl ?_
  refine g_iconst (v := nI 0) hX dX6_moon_1 (by decide) ?_
  refine g_putI hX (by decide) (by decide) xCl6 0 (by decide) (by decide) (by decide) kX6_44 dX6_moon_2 rfl rfl ?_
  refine g_aload_n hX dX6_moon_5 rfl 0 rfl ?_
  refine g_getI (v := nI 1) hX (by decide) (by decide) xCl6 7 (by decide) (by decide) kX6_186 dX6_moon_6 (xput_i (by decide) hst) ?_
  refine g_cz_ne (a := (1 : Int)) (tgt := 15) hX dX6_moon_9 (by decide) (by decide) (fun _ => ?_) (fun q => absurd q (by decide))
  refine g_iload_n hX dX6_moon_15 rfl 1 rfl ?_
  refine g_callSi hX (as := [.int e]) (fun l => c_X6_isEye l (I := (xput I 307 0 (nI 0))) (x := e) ) mX6_isEye sX6_isEye lX6_243 rfl dX6_moon_16 rfl (by decide) (Nat.le_of_ble_eq_true rfl) (by decide) (by decide) ?_
  refine g_cb_ne (tgt := 25) hX dX6_moon_19 (by decide) (fun h19 => ?_) (fun h19 => ?_)
  · refine g_iconst (v := nI 0) hX dX6_moon_25 (by decide) ?_
    refine g_istore_n (L' := [(0, .ref 307), (1, .int e), (2, .int (nI 0))]) hX dX6_moon_26 rfl (by decide) rfl ?_
    refine g_iconst (v := nI 0) hX dX6_moon_27 (by decide) ?_
    refine g_istore_n (L' := [(0, .ref 307), (1, .int e), (2, .int (nI 0)), (3, .int (nI 0))]) hX dX6_moon_28 rfl (by decide) rfl ?_
    have cut29 : ∀ (fuel : Nat) (b : Int32) (k : Nat) (hk : k ≤ 13) (hb : b = bitsI (mnP (brF (I 311) (I 315) T) (I 311) e) k), 13 - k < fuel → G X 319 0 0 (xput I 307 0 (nI 0)) (xRL nw sp) 29 [(0, .ref 307), (1, .int e), (2, .int b), (3, .int (nI k))] [] := by
      intro fuel
      induction fuel with
      | zero => intro b k hk hb hfuel; omega
      | succ fuel ih =>
        intro b k hk hb hfuel
        refine g_iload_n hX dX6_moon_29 rfl 3 rfl ?_
        refine g_bipush (v := nI 12) hX dX6_moon_30 (by decide) ?_
        refine g_ci_gt (a := ((k : Nat) : Int)) (b := (12 : Int)) (tgt := 81) hX dX6_moon_32 (by decide) (nI_toInt (by omega)) (by decide) (fun h32 => ?_) (fun h32 => ?_)
        · refine g_iload_n hX dX6_moon_81 rfl 2 rfl ?_
          exact g_iret hX hR dX6_moon_82 (by decide) (by decide) ⟨congrArg (fun z => some (Value.int z)) (by rw [hb, show k = 13 by omega]), rfl, rfl, rfl⟩
        · refine g_iload_n hX dX6_moon_35 rfl 2 rfl ?_
          refine g_aload_n hX dX6_moon_36 rfl 0 rfl ?_
          refine g_iconst (v := nI 0) hX dX6_moon_37 (by decide) ?_
          refine g_aload_n hX dX6_moon_38 rfl 0 rfl ?_
          refine g_iconst (v := nI 0) hX dX6_moon_39 (by decide) ?_
          refine g_callVi hX (as := [.int (nI 0)]) (fun l => c_X6_ground l (I := (xput I 307 0 (nI 0))) (q := 0) (hq := (by first | assumption | omega))) mX6_ground vX6_ground lX6_199 (by decide) (by decide) xCl6 rfl rfl dX6_moon_40 rfl (by decide) (Nat.le_of_ble_eq_true rfl) (by decide) (by decide) ?_
          refine g_iload_n hX dX6_moon_43 rfl 1 rfl ?_
          refine g_iadd (v := ((xput I 307 0 (nI 0)) 311 (6 + 0)) + e) hX dX6_moon_44 rfl ?_
          refine g_bipush (v := nI 19) hX dX6_moon_45 (by decide) ?_
          refine g_aload_n hX dX6_moon_47 rfl 0 rfl ?_
          refine g_bipush (v := nI 19) hX dX6_moon_48 (by decide) ?_
          refine g_callVi hX (as := [.int (nI 19)]) (fun l => c_X6_ground l (I := (xput I 307 0 (nI 0))) (q := 19) (hq := (by first | assumption | omega))) mX6_ground vX6_ground lX6_199 (by decide) (by decide) xCl6 rfl rfl dX6_moon_50 rfl (by decide) (Nat.le_of_ble_eq_true rfl) (by decide) (by decide) ?_
          refine g_bipush (v := nI 20) hX dX6_moon_53 (by decide) ?_
          refine g_iadd (v := ((xput I 307 0 (nI 0)) 311 (6 + 19)) + (nI 20)) hX dX6_moon_55 rfl ?_
          refine g_iconst (v := nI 3) hX dX6_moon_56 (by decide) ?_
          refine g_iload_n hX dX6_moon_57 rfl 3 rfl ?_
          refine g_imul (v := nI (3 * k)) hX dX6_moon_58 (nI_mul 3 k) ?_
          refine g_iadd (v := (((xput I 307 0 (nI 0)) 311 (6 + 19)) + (nI 20)) + (nI (3 * k))) hX dX6_moon_59 rfl ?_
          refine g_callVi hX (as := [.int (nI 0), .int (((xput I 307 0 (nI 0)) 311 (6 + 0)) + e), .int (nI 19), .int ((((xput I 307 0 (nI 0)) 311 (6 + 19)) + (nI 20)) + (nI (3 * k)))]) (fun l => c_X6_isFree l (I := (xput I 307 0 (nI 0))) (a := 0) (c := 19) (T := T) (x := (((xput I 307 0 (nI 0)) 311 (6 + 0)) + e)) (y := ((((xput I 307 0 (nI 0)) 311 (6 + 19)) + (nI 20)) + (nI (3 * k)))) (hT := (by first | assumption | omega)) (hT6 := (by first | assumption | omega)) (ha := (by first | assumption | omega)) (hc := (by first | assumption | omega))) mX6_isFree vX6_isFree lX6_233 (by decide) (by decide) xCl6 rfl rfl dX6_moon_60 rfl (by decide) (Nat.le_of_ble_eq_true rfl) (by decide) (by decide) ?_
          refine g_cb_eq (tgt := 72) hX dX6_moon_63 (by decide) (fun h63 => ?_) (fun h63 => ?_)
          · refine g_iconst (v := nI 0) hX dX6_moon_72 (by decide) ?_
            refine g_ior (v := b ||| (nI 0)) hX dX6_moon_73 rfl ?_
            refine g_istore_n (L' := [(0, .ref 307), (1, .int e), (2, .int (b ||| (nI 0))), (3, .int (nI k))]) hX dX6_moon_74 rfl (by decide) rfl ?_
            refine g_iinc (v := nI (k + 1)) (L' := [(0, .ref 307), (1, .int e), (2, .int (b ||| (nI 0))), (3, .int (nI (k + 1)))]) hX dX6_moon_75 (by decide) 3 rfl (nI_add k 1) rfl ?_
            refine g_goto (tgt := 29) hX dX6_moon_78 (by decide) ?_
            exact ih (b ||| (nI 0)) (k + 1) (by first | assumption | omega) (by first | exact bits_t hb h63 | exact bits_f hb h63) (by omega)
          · refine g_iconst (v := nI 1) hX dX6_moon_66 (by decide) ?_
            refine g_iload_n hX dX6_moon_67 rfl 3 rfl ?_
            refine g_ishl (v := (nI 1) <<< ((nI k) &&& 31)) hX dX6_moon_68 rfl ?_
            refine g_goto (tgt := 73) hX dX6_moon_69 (by decide) ?_
            refine g_ior (v := b ||| ((nI 1) <<< ((nI k) &&& 31))) hX dX6_moon_73 rfl ?_
            refine g_istore_n (L' := [(0, .ref 307), (1, .int e), (2, .int (b ||| ((nI 1) <<< ((nI k) &&& 31)))), (3, .int (nI k))]) hX dX6_moon_74 rfl (by decide) rfl ?_
            refine g_iinc (v := nI (k + 1)) (L' := [(0, .ref 307), (1, .int e), (2, .int (b ||| ((nI 1) <<< ((nI k) &&& 31)))), (3, .int (nI (k + 1)))]) hX dX6_moon_75 (by decide) 3 rfl (nI_add k 1) rfl ?_
            refine g_goto (tgt := 29) hX dX6_moon_78 (by decide) ?_
            exact ih (b ||| ((nI 1) <<< ((nI k) &&& 31))) (k + 1) (by first | assumption | omega) (by first | exact bits_t hb h63 | exact bits_f hb h63) (by omega)
    exact cut29 _ (nI 0) 0 (by first | assumption | omega) rfl (Nat.lt_succ_self _)
  · exfalso; omega

theorem c_X6_path_none (l : Launch) {nw sp : Nat} {I : xM} {x y : Int32} (hst : I 307 7 = nI 0) : xC l 1 0 0 yX6_path cX6_path 5 (some .int) 319 [.ref 307, .int x, .int y] I (xRL nw sp) (xpI (-1000002) 319 (xput I 307 0 (nI 0)) (xRL nw sp)) := by
  refine xC_of (by decide) (Nat.le_of_ble_eq_true rfl) (fun X hXl hX hR => ?_)
  have hX : xOK X RX6 cX6_path 5 1 0 0 := hX
  show G X 319 0 0 I (xRL nw sp) 0 [(0, .ref 307), (1, .int x), (2, .int y)] []
  refine g_aload_n hX dX6_path_0 rfl 0 rfl ?_
  refine g_iconst (v := nI 0) hX dX6_path_1 (by decide) ?_
  refine g_putI hX (by decide) (by decide) xCl6 0 (by decide) (by decide) (by decide) kX6_44 dX6_path_2 rfl rfl ?_
  refine g_aload_n hX dX6_path_5 rfl 0 rfl ?_
  refine g_getI (v := nI 0) hX (by decide) (by decide) xCl6 7 (by decide) (by decide) kX6_186 dX6_path_6 (xput_i (by decide) hst) ?_
  refine g_cz_ne (a := (0 : Int)) (tgt := 15) hX dX6_path_9 (by decide) (by decide) (fun q => absurd q (by decide)) (fun _ => ?_)
  refine g_ldc (v := -1000002) hX cX6_205 dX6_path_12 ?_
  exact g_iret hX hR dX6_path_14 (by decide) (by decide) ⟨congrArg (fun z => some (Value.int z)) rfl, rfl, rfl, rfl⟩

theorem c_X6_path_bad (l : Launch) {nw sp : Nat} {I : xM} {S : Nat} {x y : Int32} (hst : I 307 7 = nI 1) (hS : I 311 1 = nI S) (hS6 : S ≤ 6) (hb : ¬ (0 ≤ x.toInt ∧ x.toInt ≤ 30 ∧ (0 ≤ y.toInt ∧ y.toInt < 2 ^ S))) : xC l 3 0 0 yX6_path cX6_path 5 (some .int) 319 [.ref 307, .int x, .int y] I (xRL nw sp) (xpI (-1000001) 319 (xput I 307 0 (nI 0)) (xRL nw sp)) := by
  refine xC_of (by decide) (Nat.le_of_ble_eq_true rfl) (fun X hXl hX hR => ?_)
  have hX : xOK X RX6 cX6_path 5 3 0 0 := hX
  show G X 319 0 0 I (xRL nw sp) 0 [(0, .ref 307), (1, .int x), (2, .int y)] []
  refine g_aload_n hX dX6_path_0 rfl 0 rfl ?_
  refine g_iconst (v := nI 0) hX dX6_path_1 (by decide) ?_
  refine g_putI hX (by decide) (by decide) xCl6 0 (by decide) (by decide) (by decide) kX6_44 dX6_path_2 rfl rfl ?_
  refine g_aload_n hX dX6_path_5 rfl 0 rfl ?_
  refine g_getI (v := nI 1) hX (by decide) (by decide) xCl6 7 (by decide) (by decide) kX6_186 dX6_path_6 (xput_i (by decide) hst) ?_
  refine g_cz_ne (a := (1 : Int)) (tgt := 15) hX dX6_path_9 (by decide) (by decide) (fun _ => ?_) (fun q => absurd q (by decide))
  refine g_iload_n hX dX6_path_15 rfl 1 rfl ?_
  refine g_callSi hX (as := [.int x]) (fun l => c_X6_isEye l (I := (xput I 307 0 (nI 0))) (x := x) ) mX6_isEye sX6_isEye lX6_243 rfl dX6_path_16 rfl (by decide) (Nat.le_of_ble_eq_true rfl) (by decide) (by decide) ?_
  refine g_cb_eq (tgt := 30) hX dX6_path_19 (by decide) (fun h19 => ?_) (fun h19 => ?_)
  · refine g_ldc (v := -1000001) hX cX6_64 dX6_path_30 ?_
    exact g_iret hX hR dX6_path_32 (by decide) (by decide) ⟨congrArg (fun z => some (Value.int z)) rfl, rfl, rfl, rfl⟩
  · refine g_aload_n hX dX6_path_22 rfl 0 rfl ?_
    refine g_iload_n hX dX6_path_23 rfl 2 rfl ?_
    refine g_callVi hX (as := [.int y]) (fun l => c_X6_areThings l (I := (xput I 307 0 (nI 0))) (S := S) (x := y) (hS := (by first | assumption | omega)) (hS6 := (by first | assumption | omega))) mX6_areThings vX6_areThings lX6_266 (by decide) (by decide) xCl6 rfl rfl dX6_path_24 rfl (by decide) (Nat.le_of_ble_eq_true rfl) (by decide) (by decide) ?_
    refine g_cb_ne (tgt := 33) hX dX6_path_27 (by decide) (fun h27 => ?_) (fun h27 => ?_)
    · exact absurd ⟨h19.1, h19.2, h27⟩ hb
    · refine g_ldc (v := -1000001) hX cX6_64 dX6_path_30 ?_
      exact g_iret hX hR dX6_path_32 (by decide) (by decide) ⟨congrArg (fun z => some (Value.int z)) rfl, rfl, rfl, rfl⟩

theorem c_X6_path_ok (l : Launch) {nw sp : Nat} {I : xM} {T S : Nat} {e x : Int32} (hst : I 307 7 = nI 1) (hT : I 311 0 = nI T) (hT6 : T ≤ 6) (hS : I 311 1 = nI S) (hS6 : S ≤ 6) (hth : thP (I 311) S) (he0 : 0 ≤ e.toInt) (he3 : e.toInt ≤ 30) (hth2 : 0 ≤ x.toInt ∧ x.toInt < 2 ^ S) : xC l 7 0 0 yX6_path cX6_path 5 (some .int) 319 [.ref 307, .int e, .int x] I (xRL nw sp) (xpI (bitsI (fun q => (bitsI (snP (brF (I 311) (I 315) T) (I 311) q e) S &&& x).toInt = 0) 19) 319 (xput I 307 0 (nI 0)) (xRL nw sp)) := by
  refine xC_of (by decide) (Nat.le_of_ble_eq_true rfl) (fun X hXl hX hR => ?_)
  have hX : xOK X RX6 cX6_path 5 7 0 0 := hX
  show G X 319 0 0 I (xRL nw sp) 0 [(0, .ref 307), (1, .int e), (2, .int x)] []
  refine g_aload_n hX dX6_path_0 rfl 0 rfl ?_
  refine g_iconst (v := nI 0) hX dX6_path_1 (by decide) ?_
  refine g_putI hX (by decide) (by decide) xCl6 0 (by decide) (by decide) (by decide) kX6_44 dX6_path_2 rfl rfl ?_
  refine g_aload_n hX dX6_path_5 rfl 0 rfl ?_
  refine g_getI (v := nI 1) hX (by decide) (by decide) xCl6 7 (by decide) (by decide) kX6_186 dX6_path_6 (xput_i (by decide) hst) ?_
  refine g_cz_ne (a := (1 : Int)) (tgt := 15) hX dX6_path_9 (by decide) (by decide) (fun _ => ?_) (fun q => absurd q (by decide))
  refine g_iload_n hX dX6_path_15 rfl 1 rfl ?_
  refine g_callSi hX (as := [.int e]) (fun l => c_X6_isEye l (I := (xput I 307 0 (nI 0))) (x := e) ) mX6_isEye sX6_isEye lX6_243 rfl dX6_path_16 rfl (by decide) (Nat.le_of_ble_eq_true rfl) (by decide) (by decide) ?_
  refine g_cb_eq (tgt := 30) hX dX6_path_19 (by decide) (fun h19 => ?_) (fun h19 => ?_)
  · exfalso; omega
  · refine g_aload_n hX dX6_path_22 rfl 0 rfl ?_
    refine g_iload_n hX dX6_path_23 rfl 2 rfl ?_
    refine g_callVi hX (as := [.int x]) (fun l => c_X6_areThings l (I := (xput I 307 0 (nI 0))) (S := S) (x := x) (hS := (by first | assumption | omega)) (hS6 := (by first | assumption | omega))) mX6_areThings vX6_areThings lX6_266 (by decide) (by decide) xCl6 rfl rfl dX6_path_24 rfl (by decide) (Nat.le_of_ble_eq_true rfl) (by decide) (by decide) ?_
    refine g_cb_ne (tgt := 33) hX dX6_path_27 (by decide) (fun h27 => ?_) (fun h27 => ?_)
    · refine g_iconst (v := nI 0) hX dX6_path_33 (by decide) ?_
      refine g_istore_n (L' := [(0, .ref 307), (1, .int e), (2, .int x), (3, .int (nI 0))]) hX dX6_path_34 rfl (by decide) rfl ?_
      refine g_iconst (v := nI 0) hX dX6_path_35 (by decide) ?_
      refine g_istore (L' := [(0, .ref 307), (1, .int e), (2, .int x), (3, .int (nI 0)), (4, .int (nI 0))]) hX dX6_path_36 (by decide) rfl ?_
      have cut38 : ∀ (fuel : Nat) (b : Int32) (k : Nat) (hk : k ≤ 19) (hb : b = bitsI (fun q => (bitsI (snP (brF (I 311) (I 315) T) (I 311) q e) S &&& x).toInt = 0) k), 19 - k < fuel → G X 319 0 0 (xput I 307 0 (nI 0)) (xRL nw sp) 38 [(0, .ref 307), (1, .int e), (2, .int x), (3, .int b), (4, .int (nI k))] [] := by
        intro fuel
        induction fuel with
        | zero => intro b k hk hb hfuel; omega
        | succ fuel ih =>
          intro b k hk hb hfuel
          refine g_iload hX dX6_path_38 4 rfl ?_
          refine g_bipush (v := nI 18) hX dX6_path_40 (by decide) ?_
          refine g_ci_gt (a := ((k : Nat) : Int)) (b := (18 : Int)) (tgt := 74) hX dX6_path_42 (by decide) (nI_toInt (by omega)) (by decide) (fun h42 => ?_) (fun h42 => ?_)
          · refine g_iload_n hX dX6_path_74 rfl 3 rfl ?_
            exact g_iret hX hR dX6_path_75 (by decide) (by decide) ⟨congrArg (fun z => some (Value.int z)) (by rw [hb, show k = 19 by omega]), rfl, rfl, rfl⟩
          · refine g_iload_n hX dX6_path_45 rfl 3 rfl ?_
            refine g_aload_n hX dX6_path_46 rfl 0 rfl ?_
            refine g_iload hX dX6_path_47 4 rfl ?_
            refine g_iload_n hX dX6_path_49 rfl 1 rfl ?_
            refine g_callVi hX (as := [.int (nI k), .int e]) (fun l => c_X6_seenFrom l (I := (xput I 307 0 (nI 0))) (s := k) (T := T) (S := S) (e := e) (hT := (by first | assumption | omega)) (hT6 := (by first | assumption | omega)) (hS := (by first | assumption | omega)) (hS6 := (by first | assumption | omega)) (hth := (by first | assumption | omega)) (hs := (by first | assumption | omega))) mX6_seenFrom vX6_seenFrom lX6_246 (by decide) (by decide) xCl6 rfl rfl dX6_path_50 rfl (by decide) (Nat.le_of_ble_eq_true rfl) (by decide) (by decide) ?_
            refine g_iload_n hX dX6_path_53 rfl 2 rfl ?_
            refine g_iand (v := (bitsI (snP (brF ((xput I 307 0 (nI 0)) 311) ((xput I 307 0 (nI 0)) 315) T) ((xput I 307 0 (nI 0)) 311) k e) S) &&& x) hX dX6_path_54 rfl ?_
            refine g_cz_ne (a := ((bitsI (snP (brF ((xput I 307 0 (nI 0)) 311) ((xput I 307 0 (nI 0)) 315) T) ((xput I 307 0 (nI 0)) 311) k e) S) &&& x).toInt) (tgt := 65) hX dX6_path_55 (by decide) rfl (fun h55 => ?_) (fun h55 => ?_)
            · refine g_iconst (v := nI 0) hX dX6_path_65 (by decide) ?_
              refine g_ior (v := b ||| (nI 0)) hX dX6_path_66 rfl ?_
              refine g_istore_n (L' := [(0, .ref 307), (1, .int e), (2, .int x), (3, .int (b ||| (nI 0))), (4, .int (nI k))]) hX dX6_path_67 rfl (by decide) rfl ?_
              refine g_iinc (v := nI (k + 1)) (L' := [(0, .ref 307), (1, .int e), (2, .int x), (3, .int (b ||| (nI 0))), (4, .int (nI (k + 1)))]) hX dX6_path_68 (by decide) 4 rfl (nI_add k 1) rfl ?_
              refine g_goto (tgt := 38) hX dX6_path_71 (by decide) ?_
              exact ih (b ||| (nI 0)) (k + 1) (by first | assumption | omega) (by first | exact bits_t hb h55 | exact bits_f hb h55) (by omega)
            · refine g_iconst (v := nI 1) hX dX6_path_58 (by decide) ?_
              refine g_iload hX dX6_path_59 4 rfl ?_
              refine g_ishl (v := (nI 1) <<< ((nI k) &&& 31)) hX dX6_path_61 rfl ?_
              refine g_goto (tgt := 66) hX dX6_path_62 (by decide) ?_
              refine g_ior (v := b ||| ((nI 1) <<< ((nI k) &&& 31))) hX dX6_path_66 rfl ?_
              refine g_istore_n (L' := [(0, .ref 307), (1, .int e), (2, .int x), (3, .int (b ||| ((nI 1) <<< ((nI k) &&& 31)))), (4, .int (nI k))]) hX dX6_path_67 rfl (by decide) rfl ?_
              refine g_iinc (v := nI (k + 1)) (L' := [(0, .ref 307), (1, .int e), (2, .int x), (3, .int (b ||| ((nI 1) <<< ((nI k) &&& 31)))), (4, .int (nI (k + 1)))]) hX dX6_path_68 (by decide) 4 rfl (nI_add k 1) rfl ?_
              refine g_goto (tgt := 38) hX dX6_path_71 (by decide) ?_
              exact ih (b ||| ((nI 1) <<< ((nI k) &&& 31))) (k + 1) (by first | assumption | omega) (by first | exact bits_t hb h55 | exact bits_f hb h55) (by omega)
      exact cut38 _ (nI 0) 0 (by first | assumption | omega) rfl (Nat.lt_succ_self _)
    · exact absurd hth2 h27

theorem c_X6_picture_none (l : Launch) {nw sp : Nat} {I : xM} {x y : Int32} (hst : I 307 7 = nI 0) : xC l 1 0 0 yX6_picture cX6_picture 5 (some .int) 319 [.ref 307, .int x, .int y] I (xRL nw sp) (xpI (-1000002) 319 (xput I 307 0 (nI 0)) (xRL nw sp)) := by
  refine xC_of (by decide) (Nat.le_of_ble_eq_true rfl) (fun X hXl hX hR => ?_)
  have hX : xOK X RX6 cX6_picture 5 1 0 0 := hX
  show G X 319 0 0 I (xRL nw sp) 0 [(0, .ref 307), (1, .int x), (2, .int y)] []
  refine g_aload_n hX dX6_picture_0 rfl 0 rfl ?_
  refine g_iconst (v := nI 0) hX dX6_picture_1 (by decide) ?_
  refine g_putI hX (by decide) (by decide) xCl6 0 (by decide) (by decide) (by decide) kX6_44 dX6_picture_2 rfl rfl ?_
  refine g_aload_n hX dX6_picture_5 rfl 0 rfl ?_
  refine g_getI (v := nI 0) hX (by decide) (by decide) xCl6 7 (by decide) (by decide) kX6_186 dX6_picture_6 (xput_i (by decide) hst) ?_
  refine g_cz_ne (a := (0 : Int)) (tgt := 15) hX dX6_picture_9 (by decide) (by decide) (fun q => absurd q (by decide)) (fun _ => ?_)
  refine g_ldc (v := -1000002) hX cX6_205 dX6_picture_12 ?_
  exact g_iret hX hR dX6_picture_14 (by decide) (by decide) ⟨congrArg (fun z => some (Value.int z)) rfl, rfl, rfl, rfl⟩

theorem c_X6_picture_bad (l : Launch) {nw sp : Nat} {I : xM} {S : Nat} {x y : Int32} (hst : I 307 7 = nI 1) (hS : I 311 1 = nI S) (hS6 : S ≤ 6) (hb : ¬ (0 ≤ x.toInt ∧ x.toInt ≤ 30 ∧ (0 ≤ y.toInt ∧ y.toInt < 2 ^ S))) : xC l 3 0 0 yX6_picture cX6_picture 5 (some .int) 319 [.ref 307, .int x, .int y] I (xRL nw sp) (xpI (-1000001) 319 (xput I 307 0 (nI 0)) (xRL nw sp)) := by
  refine xC_of (by decide) (Nat.le_of_ble_eq_true rfl) (fun X hXl hX hR => ?_)
  have hX : xOK X RX6 cX6_picture 5 3 0 0 := hX
  show G X 319 0 0 I (xRL nw sp) 0 [(0, .ref 307), (1, .int x), (2, .int y)] []
  refine g_aload_n hX dX6_picture_0 rfl 0 rfl ?_
  refine g_iconst (v := nI 0) hX dX6_picture_1 (by decide) ?_
  refine g_putI hX (by decide) (by decide) xCl6 0 (by decide) (by decide) (by decide) kX6_44 dX6_picture_2 rfl rfl ?_
  refine g_aload_n hX dX6_picture_5 rfl 0 rfl ?_
  refine g_getI (v := nI 1) hX (by decide) (by decide) xCl6 7 (by decide) (by decide) kX6_186 dX6_picture_6 (xput_i (by decide) hst) ?_
  refine g_cz_ne (a := (1 : Int)) (tgt := 15) hX dX6_picture_9 (by decide) (by decide) (fun _ => ?_) (fun q => absurd q (by decide))
  refine g_iload_n hX dX6_picture_15 rfl 1 rfl ?_
  refine g_callSi hX (as := [.int x]) (fun l => c_X6_isEye l (I := (xput I 307 0 (nI 0))) (x := x) ) mX6_isEye sX6_isEye lX6_243 rfl dX6_picture_16 rfl (by decide) (Nat.le_of_ble_eq_true rfl) (by decide) (by decide) ?_
  refine g_cb_eq (tgt := 30) hX dX6_picture_19 (by decide) (fun h19 => ?_) (fun h19 => ?_)
  · refine g_ldc (v := -1000001) hX cX6_64 dX6_picture_30 ?_
    exact g_iret hX hR dX6_picture_32 (by decide) (by decide) ⟨congrArg (fun z => some (Value.int z)) rfl, rfl, rfl, rfl⟩
  · refine g_aload_n hX dX6_picture_22 rfl 0 rfl ?_
    refine g_iload_n hX dX6_picture_23 rfl 2 rfl ?_
    refine g_callVi hX (as := [.int y]) (fun l => c_X6_areThings l (I := (xput I 307 0 (nI 0))) (S := S) (x := y) (hS := (by first | assumption | omega)) (hS6 := (by first | assumption | omega))) mX6_areThings vX6_areThings lX6_266 (by decide) (by decide) xCl6 rfl rfl dX6_picture_24 rfl (by decide) (Nat.le_of_ble_eq_true rfl) (by decide) (by decide) ?_
    refine g_cb_ne (tgt := 33) hX dX6_picture_27 (by decide) (fun h27 => ?_) (fun h27 => ?_)
    · exact absurd ⟨h19.1, h19.2, h27⟩ hb
    · refine g_ldc (v := -1000001) hX cX6_64 dX6_picture_30 ?_
      exact g_iret hX hR dX6_picture_32 (by decide) (by decide) ⟨congrArg (fun z => some (Value.int z)) rfl, rfl, rfl, rfl⟩

theorem c_X6_picture_ok (l : Launch) {nw sp : Nat} {I : xM} {T S : Nat} {e x : Int32} (hst : I 307 7 = nI 1) (hT : I 311 0 = nI T) (hT6 : T ≤ 6) (hS : I 311 1 = nI S) (hS6 : S ≤ 6) (hth : thP (I 311) S) (he0 : 0 ≤ e.toInt) (he3 : e.toInt ≤ 30) (hth2 : 0 ≤ x.toInt ∧ x.toInt < 2 ^ S) : xC l 7 0 0 yX6_picture cX6_picture 5 (some .int) 319 [.ref 307, .int e, .int x] I (xRL nw sp) (xpI (bitsI (fun q => (bitsI (snP (brF (I 311) (I 315) T) (I 311) q e) S).toInt = x.toInt) 19) 319 (xput I 307 0 (nI 0)) (xRL nw sp)) := by
  refine xC_of (by decide) (Nat.le_of_ble_eq_true rfl) (fun X hXl hX hR => ?_)
  have hX : xOK X RX6 cX6_picture 5 7 0 0 := hX
  show G X 319 0 0 I (xRL nw sp) 0 [(0, .ref 307), (1, .int e), (2, .int x)] []
  refine g_aload_n hX dX6_picture_0 rfl 0 rfl ?_
  refine g_iconst (v := nI 0) hX dX6_picture_1 (by decide) ?_
  refine g_putI hX (by decide) (by decide) xCl6 0 (by decide) (by decide) (by decide) kX6_44 dX6_picture_2 rfl rfl ?_
  refine g_aload_n hX dX6_picture_5 rfl 0 rfl ?_
  refine g_getI (v := nI 1) hX (by decide) (by decide) xCl6 7 (by decide) (by decide) kX6_186 dX6_picture_6 (xput_i (by decide) hst) ?_
  refine g_cz_ne (a := (1 : Int)) (tgt := 15) hX dX6_picture_9 (by decide) (by decide) (fun _ => ?_) (fun q => absurd q (by decide))
  refine g_iload_n hX dX6_picture_15 rfl 1 rfl ?_
  refine g_callSi hX (as := [.int e]) (fun l => c_X6_isEye l (I := (xput I 307 0 (nI 0))) (x := e) ) mX6_isEye sX6_isEye lX6_243 rfl dX6_picture_16 rfl (by decide) (Nat.le_of_ble_eq_true rfl) (by decide) (by decide) ?_
  refine g_cb_eq (tgt := 30) hX dX6_picture_19 (by decide) (fun h19 => ?_) (fun h19 => ?_)
  · exfalso; omega
  · refine g_aload_n hX dX6_picture_22 rfl 0 rfl ?_
    refine g_iload_n hX dX6_picture_23 rfl 2 rfl ?_
    refine g_callVi hX (as := [.int x]) (fun l => c_X6_areThings l (I := (xput I 307 0 (nI 0))) (S := S) (x := x) (hS := (by first | assumption | omega)) (hS6 := (by first | assumption | omega))) mX6_areThings vX6_areThings lX6_266 (by decide) (by decide) xCl6 rfl rfl dX6_picture_24 rfl (by decide) (Nat.le_of_ble_eq_true rfl) (by decide) (by decide) ?_
    refine g_cb_ne (tgt := 33) hX dX6_picture_27 (by decide) (fun h27 => ?_) (fun h27 => ?_)
    · refine g_iconst (v := nI 0) hX dX6_picture_33 (by decide) ?_
      refine g_istore_n (L' := [(0, .ref 307), (1, .int e), (2, .int x), (3, .int (nI 0))]) hX dX6_picture_34 rfl (by decide) rfl ?_
      refine g_iconst (v := nI 0) hX dX6_picture_35 (by decide) ?_
      refine g_istore (L' := [(0, .ref 307), (1, .int e), (2, .int x), (3, .int (nI 0)), (4, .int (nI 0))]) hX dX6_picture_36 (by decide) rfl ?_
      have cut38 : ∀ (fuel : Nat) (b : Int32) (k : Nat) (hk : k ≤ 19) (hb : b = bitsI (fun q => (bitsI (snP (brF (I 311) (I 315) T) (I 311) q e) S).toInt = x.toInt) k), 19 - k < fuel → G X 319 0 0 (xput I 307 0 (nI 0)) (xRL nw sp) 38 [(0, .ref 307), (1, .int e), (2, .int x), (3, .int b), (4, .int (nI k))] [] := by
        intro fuel
        induction fuel with
        | zero => intro b k hk hb hfuel; omega
        | succ fuel ih =>
          intro b k hk hb hfuel
          refine g_iload hX dX6_picture_38 4 rfl ?_
          refine g_bipush (v := nI 18) hX dX6_picture_40 (by decide) ?_
          refine g_ci_gt (a := ((k : Nat) : Int)) (b := (18 : Int)) (tgt := 73) hX dX6_picture_42 (by decide) (nI_toInt (by omega)) (by decide) (fun h42 => ?_) (fun h42 => ?_)
          · refine g_iload_n hX dX6_picture_73 rfl 3 rfl ?_
            exact g_iret hX hR dX6_picture_74 (by decide) (by decide) ⟨congrArg (fun z => some (Value.int z)) (by rw [hb, show k = 19 by omega]), rfl, rfl, rfl⟩
          · refine g_iload_n hX dX6_picture_45 rfl 3 rfl ?_
            refine g_aload_n hX dX6_picture_46 rfl 0 rfl ?_
            refine g_iload hX dX6_picture_47 4 rfl ?_
            refine g_iload_n hX dX6_picture_49 rfl 1 rfl ?_
            refine g_callVi hX (as := [.int (nI k), .int e]) (fun l => c_X6_seenFrom l (I := (xput I 307 0 (nI 0))) (s := k) (T := T) (S := S) (e := e) (hT := (by first | assumption | omega)) (hT6 := (by first | assumption | omega)) (hS := (by first | assumption | omega)) (hS6 := (by first | assumption | omega)) (hth := (by first | assumption | omega)) (hs := (by first | assumption | omega))) mX6_seenFrom vX6_seenFrom lX6_246 (by decide) (by decide) xCl6 rfl rfl dX6_picture_50 rfl (by decide) (Nat.le_of_ble_eq_true rfl) (by decide) (by decide) ?_
            refine g_iload_n hX dX6_picture_53 rfl 2 rfl ?_
            refine g_ci_ne (a := (bitsI (snP (brF ((xput I 307 0 (nI 0)) 311) ((xput I 307 0 (nI 0)) 315) T) ((xput I 307 0 (nI 0)) 311) k e) S).toInt) (b := x.toInt) (tgt := 64) hX dX6_picture_54 (by decide) rfl rfl (fun h54 => ?_) (fun h54 => ?_)
            · refine g_iconst (v := nI 0) hX dX6_picture_64 (by decide) ?_
              refine g_ior (v := b ||| (nI 0)) hX dX6_picture_65 rfl ?_
              refine g_istore_n (L' := [(0, .ref 307), (1, .int e), (2, .int x), (3, .int (b ||| (nI 0))), (4, .int (nI k))]) hX dX6_picture_66 rfl (by decide) rfl ?_
              refine g_iinc (v := nI (k + 1)) (L' := [(0, .ref 307), (1, .int e), (2, .int x), (3, .int (b ||| (nI 0))), (4, .int (nI (k + 1)))]) hX dX6_picture_67 (by decide) 4 rfl (nI_add k 1) rfl ?_
              refine g_goto (tgt := 38) hX dX6_picture_70 (by decide) ?_
              exact ih (b ||| (nI 0)) (k + 1) (by first | assumption | omega) (by first | exact bits_t hb h54 | exact bits_f hb h54) (by omega)
            · refine g_iconst (v := nI 1) hX dX6_picture_57 (by decide) ?_
              refine g_iload hX dX6_picture_58 4 rfl ?_
              refine g_ishl (v := (nI 1) <<< ((nI k) &&& 31)) hX dX6_picture_60 rfl ?_
              refine g_goto (tgt := 65) hX dX6_picture_61 (by decide) ?_
              refine g_ior (v := b ||| ((nI 1) <<< ((nI k) &&& 31))) hX dX6_picture_65 rfl ?_
              refine g_istore_n (L' := [(0, .ref 307), (1, .int e), (2, .int x), (3, .int (b ||| ((nI 1) <<< ((nI k) &&& 31)))), (4, .int (nI k))]) hX dX6_picture_66 rfl (by decide) rfl ?_
              refine g_iinc (v := nI (k + 1)) (L' := [(0, .ref 307), (1, .int e), (2, .int x), (3, .int (b ||| ((nI 1) <<< ((nI k) &&& 31)))), (4, .int (nI (k + 1)))]) hX dX6_picture_67 (by decide) 4 rfl (nI_add k 1) rfl ?_
              refine g_goto (tgt := 38) hX dX6_picture_70 (by decide) ?_
              exact ih (b ||| ((nI 1) <<< ((nI k) &&& 31))) (k + 1) (by first | assumption | omega) (by first | exact bits_t hb h54 | exact bits_f hb h54) (by omega)
      exact cut38 _ (nI 0) 0 (by first | assumption | omega) rfl (Nat.lt_succ_self _)
    · exact absurd hth2 h27
