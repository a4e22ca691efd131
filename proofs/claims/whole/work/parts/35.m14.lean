theorem c_X6_plant_none (l : Launch) {nw sp : Nat} {I : xM} {E s gr y : Int32} (hst : I 307 7 = nI 0) : xC l 1 0 0 yX6_plant cX6_plant 9 (some .int) 319 [.ref 307, .int E, .int s, .int gr, .int y] I (xRL nw sp) (xpI (-1000002) 319 (xput I 307 0 (nI 0)) (xRL nw sp)) := by
  refine xC_of (by decide) (Nat.le_of_ble_eq_true rfl) (fun X hXl hX hR => ?_)
  have hX : xOK X RX6 cX6_plant 9 1 0 0 := hX
  show G X 319 0 0 I (xRL nw sp) 0 [(0, .ref 307), (1, .int E), (2, .int s), (3, .int gr), (4, .int y)] []
  refine g_aload_n hX dX6_plant_0 rfl 0 rfl ?_
  refine g_iconst (v := nI 0) hX dX6_plant_1 (by decide) ?_
  refine g_putI hX (by decide) (by decide) xCl6 0 (by decide) (by decide) (by decide) kX6_44 dX6_plant_2 rfl rfl ?_
  refine g_aload_n hX dX6_plant_5 rfl 0 rfl ?_
  refine g_getI (v := nI 0) hX (by decide) (by decide) xCl6 7 (by decide) (by decide) kX6_186 dX6_plant_6 (xput_i (by decide) hst) ?_
  refine g_cz_ne (a := (0 : Int)) (tgt := 15) hX dX6_plant_9 (by decide) (by decide) (fun q => absurd q (by decide)) (fun _ => ?_)
  refine g_ldc (v := -1000002) hX cX6_205 dX6_plant_12 ?_
  exact g_iret hX hR dX6_plant_14 (by decide) (by decide) ⟨congrArg (fun z => some (Value.int z)) rfl, rfl, rfl, rfl⟩

theorem c_X6_plant_bad (l : Launch) {nw sp : Nat} {I : xM} {E s gr y : Int32} (hst : I 307 7 = nI 1) (hb : ¬ (0 ≤ E.toInt ∧ (0 ≤ s.toInt ∧ s.toInt ≤ 4) ∧ (0 ≤ gr.toInt ∧ gr.toInt ≤ 9) ∧ 0 ≤ y.toInt ∧ y.toInt ≤ 99)) : xC l 2 0 0 yX6_plant cX6_plant 9 (some .int) 319 [.ref 307, .int E, .int s, .int gr, .int y] I (xRL nw sp) (xpI (-1000001) 319 (xput I 307 0 (nI 0)) (xRL nw sp)) := by
  refine xC_of (by decide) (Nat.le_of_ble_eq_true rfl) (fun X hXl hX hR => ?_)
  have hX : xOK X RX6 cX6_plant 9 2 0 0 := hX
  show G X 319 0 0 I (xRL nw sp) 0 [(0, .ref 307), (1, .int E), (2, .int s), (3, .int gr), (4, .int y)] []
  refine g_aload_n hX dX6_plant_0 rfl 0 rfl ?_
  refine g_iconst (v := nI 0) hX dX6_plant_1 (by decide) ?_
  refine g_putI hX (by decide) (by decide) xCl6 0 (by decide) (by decide) (by decide) kX6_44 dX6_plant_2 rfl rfl ?_
  refine g_aload_n hX dX6_plant_5 rfl 0 rfl ?_
  refine g_getI (v := nI 1) hX (by decide) (by decide) xCl6 7 (by decide) (by decide) kX6_186 dX6_plant_6 (xput_i (by decide) hst) ?_
  refine g_cz_ne (a := (1 : Int)) (tgt := 15) hX dX6_plant_9 (by decide) (by decide) (fun _ => ?_) (fun q => absurd q (by decide))
  refine g_iload_n hX dX6_plant_15 rfl 1 rfl ?_
  refine g_cz_lt (a := E.toInt) (tgt := 56) hX dX6_plant_16 (by decide) rfl (fun h16 => ?_) (fun h16 => ?_)
  · refine g_ldc (v := -1000001) hX cX6_64 dX6_plant_56 ?_
    exact g_iret hX hR dX6_plant_58 (by decide) (by decide) ⟨congrArg (fun z => some (Value.int z)) rfl, rfl, rfl, rfl⟩
  · refine g_iload_n hX dX6_plant_19 rfl 2 rfl ?_
    refine g_i2l (v := s.toInt64) hX dX6_plant_20 rfl ?_
    refine g_lconst (v := 0) hX dX6_plant_21 (by decide) ?_
    refine g_ldc2 (v := 4) hX cX6_259 dX6_plant_22 ?_
    refine g_callSi (as := [.long s.toInt64, .long 0, .long (4)]) hX (fun l => c_X6_in l) mX6_in sX6_in lX6_54 rfl dX6_plant_25 rfl (by decide) (Nat.le_of_ble_eq_true rfl) (by decide) (by decide) ?_
    refine g_top (y := xb ((0 : Int) ≤ s.toInt ∧ s.toInt ≤ (4 : Int))) (xb_iffI ((i64_of _).trans rfl) (by decide) (by decide)) ?_
    refine g_cb_eq (tgt := 56) hX dX6_plant_28 (by decide) (fun h28 => ?_) (fun h28 => ?_)
    · refine g_ldc (v := -1000001) hX cX6_64 dX6_plant_56 ?_
      exact g_iret hX hR dX6_plant_58 (by decide) (by decide) ⟨congrArg (fun z => some (Value.int z)) rfl, rfl, rfl, rfl⟩
    · refine g_iload_n hX dX6_plant_31 rfl 3 rfl ?_
      refine g_i2l (v := gr.toInt64) hX dX6_plant_32 rfl ?_
      refine g_lconst (v := 0) hX dX6_plant_33 (by decide) ?_
      refine g_ldc2 (v := 9) hX cX6_261 dX6_plant_34 ?_
      refine g_callSi (as := [.long gr.toInt64, .long 0, .long (9)]) hX (fun l => c_X6_in l) mX6_in sX6_in lX6_54 rfl dX6_plant_37 rfl (by decide) (Nat.le_of_ble_eq_true rfl) (by decide) (by decide) ?_
      refine g_top (y := xb ((0 : Int) ≤ gr.toInt ∧ gr.toInt ≤ (9 : Int))) (xb_iffI ((i64_of _).trans rfl) (by decide) (by decide)) ?_
      refine g_cb_eq (tgt := 56) hX dX6_plant_40 (by decide) (fun h40 => ?_) (fun h40 => ?_)
      · refine g_ldc (v := -1000001) hX cX6_64 dX6_plant_56 ?_
        exact g_iret hX hR dX6_plant_58 (by decide) (by decide) ⟨congrArg (fun z => some (Value.int z)) rfl, rfl, rfl, rfl⟩
      · refine g_iload hX dX6_plant_43 4 rfl ?_
        refine g_i2l (v := y.toInt64) hX dX6_plant_45 rfl ?_
        refine g_lconst (v := 0) hX dX6_plant_46 (by decide) ?_
        refine g_ldc2 (v := 99) hX cX6_206 dX6_plant_47 ?_
        refine g_callSi (as := [.long y.toInt64, .long 0, .long (99)]) hX (fun l => c_X6_in l) mX6_in sX6_in lX6_54 rfl dX6_plant_50 rfl (by decide) (Nat.le_of_ble_eq_true rfl) (by decide) (by decide) ?_
        refine g_top (y := xb ((0 : Int) ≤ y.toInt ∧ y.toInt ≤ (99 : Int))) (xb_iffI ((i64_of _).trans rfl) (by decide) (by decide)) ?_
        refine g_cb_ne (tgt := 59) hX dX6_plant_53 (by decide) (fun h53 => ?_) (fun h53 => ?_)
        · exfalso; omega
        · refine g_ldc (v := -1000001) hX cX6_64 dX6_plant_56 ?_
          exact g_iret hX hR dX6_plant_58 (by decide) (by decide) ⟨congrArg (fun z => some (Value.int z)) rfl, rfl, rfl, rfl⟩

theorem c_X6_plant_full (l : Launch) {nw sp : Nat} {I : xM} {s gr y : Nat} {E : Int32} (hst : I 307 7 = nI 1) (hx : 0 ≤ E.toInt) (hs5 : s < 5) (hg9 : gr ≤ 9) (hy9 : y ≤ 99) (hT : I 311 0 = nI 6) : xC l 2 0 0 yX6_plant cX6_plant 9 (some .int) 319 [.ref 307, .int E, .int (nI s), .int (nI gr), .int (nI y)] I (xRL nw sp) (xpI (-1000000) 319 (xput I 307 0 (nI 0)) (xRL nw sp)) := by
  refine xC_of (by decide) (Nat.le_of_ble_eq_true rfl) (fun X hXl hX hR => ?_)
  have hX : xOK X RX6 cX6_plant 9 2 0 0 := hX
  show G X 319 0 0 I (xRL nw sp) 0 [(0, .ref 307), (1, .int E), (2, .int (nI s)), (3, .int (nI gr)), (4, .int (nI y))] []
  refine g_aload_n hX dX6_plant_0 rfl 0 rfl ?_
  refine g_iconst (v := nI 0) hX dX6_plant_1 (by decide) ?_
  refine g_putI hX (by decide) (by decide) xCl6 0 (by decide) (by decide) (by decide) kX6_44 dX6_plant_2 rfl rfl ?_
  refine g_aload_n hX dX6_plant_5 rfl 0 rfl ?_
  refine g_getI (v := nI 1) hX (by decide) (by decide) xCl6 7 (by decide) (by decide) kX6_186 dX6_plant_6 (xput_i (by decide) hst) ?_
  refine g_cz_ne (a := (1 : Int)) (tgt := 15) hX dX6_plant_9 (by decide) (by decide) (fun _ => ?_) (fun q => absurd q (by decide))
  refine g_iload_n hX dX6_plant_15 rfl 1 rfl ?_
  refine g_cz_lt (a := E.toInt) (tgt := 56) hX dX6_plant_16 (by decide) rfl (fun h16 => ?_) (fun h16 => ?_)
  · exfalso; omega
  · refine g_iload_n hX dX6_plant_19 rfl 2 rfl ?_
    refine g_i2l (v := (nI s).toInt64) hX dX6_plant_20 rfl ?_
    refine g_lconst (v := 0) hX dX6_plant_21 (by decide) ?_
    refine g_ldc2 (v := 4) hX cX6_259 dX6_plant_22 ?_
    refine g_callSi (as := [.long ((nI s).toInt64), .long 0, .long (4)]) hX (fun l => c_X6_in l) mX6_in sX6_in lX6_54 rfl dX6_plant_25 rfl (by decide) (Nat.le_of_ble_eq_true rfl) (by decide) (by decide) ?_
    refine g_top (y := xb ((0 : Int) ≤ ((s : Nat) : Int) ∧ ((s : Nat) : Int) ≤ (4 : Int))) (xb_iffI ((i64_of _).trans (nI_toInt (by omega))) (by decide) (by decide)) ?_
    refine g_cb_eq (tgt := 56) hX dX6_plant_28 (by decide) (fun h28 => ?_) (fun h28 => ?_)
    · exfalso; omega
    · refine g_iload_n hX dX6_plant_31 rfl 3 rfl ?_
      refine g_i2l (v := (nI gr).toInt64) hX dX6_plant_32 rfl ?_
      refine g_lconst (v := 0) hX dX6_plant_33 (by decide) ?_
      refine g_ldc2 (v := 9) hX cX6_261 dX6_plant_34 ?_
      refine g_callSi (as := [.long ((nI gr).toInt64), .long 0, .long (9)]) hX (fun l => c_X6_in l) mX6_in sX6_in lX6_54 rfl dX6_plant_37 rfl (by decide) (Nat.le_of_ble_eq_true rfl) (by decide) (by decide) ?_
      refine g_top (y := xb ((0 : Int) ≤ ((gr : Nat) : Int) ∧ ((gr : Nat) : Int) ≤ (9 : Int))) (xb_iffI ((i64_of _).trans (nI_toInt (by omega))) (by decide) (by decide)) ?_
      refine g_cb_eq (tgt := 56) hX dX6_plant_40 (by decide) (fun h40 => ?_) (fun h40 => ?_)
      · exfalso; omega
      · refine g_iload hX dX6_plant_43 4 rfl ?_
        refine g_i2l (v := (nI y).toInt64) hX dX6_plant_45 rfl ?_
        refine g_lconst (v := 0) hX dX6_plant_46 (by decide) ?_
        refine g_ldc2 (v := 99) hX cX6_206 dX6_plant_47 ?_
        refine g_callSi (as := [.long ((nI y).toInt64), .long 0, .long (99)]) hX (fun l => c_X6_in l) mX6_in sX6_in lX6_54 rfl dX6_plant_50 rfl (by decide) (Nat.le_of_ble_eq_true rfl) (by decide) (by decide) ?_
        refine g_top (y := xb ((0 : Int) ≤ ((y : Nat) : Int) ∧ ((y : Nat) : Int) ≤ (99 : Int))) (xb_iffI ((i64_of _).trans (nI_toInt (by omega))) (by decide) (by decide)) ?_
        refine g_cb_ne (tgt := 59) hX dX6_plant_53 (by decide) (fun h53 => ?_) (fun h53 => ?_)
        · refine g_aload_n hX dX6_plant_59 rfl 0 rfl ?_
          refine g_getR (j := 311) hX (by decide) (by decide) xCl6 5 (by decide) (by decide) kX6_19 dX6_plant_60 rfl ?_
          refine g_iconst (v := nI 0) hX dX6_plant_63 (by decide) ?_
          refine g_iald (v := nI 6) hX (by decide) (by decide) 0 rfl (by rw [(show xN 311 = 74 by decide)]; decide) dX6_plant_64 (xput_o (by decide) hT) ?_
          refine g_bipush (v := nI 6) hX dX6_plant_65 (by decide) ?_
          refine g_ci_ne (a := (6 : Int)) (b := (6 : Int)) (tgt := 73) hX dX6_plant_67 (by decide) (by decide) (by decide) (fun q => absurd q (by decide)) (fun _ => ?_)
          refine g_ldc (v := -1000000) hX cX6_80 dX6_plant_70 ?_
          exact g_iret hX hR dX6_plant_72 (by decide) (by decide) ⟨congrArg (fun z => some (Value.int z)) rfl, rfl, rfl, rfl⟩
        · exfalso; omega

theorem c_X6_plant_ok (l : Launch) {nw sp : Nat} {I : xM} {s gr y T S F W yr : Nat} {E : Int32} (hst : I 307 7 = nI 1) (hx : 0 ≤ E.toInt) (hs5 : s < 5) (hg9 : gr ≤ 9) (hy9 : y ≤ 99) (hT : I 311 0 = nI T) (hT6 : T ≤ 6) (hS : I 311 1 = nI S) (hS6 : S ≤ 6) (hth : thP (I 311) S) (hT5 : T ≤ 5) (hyr : I 311 2 = nI yr) (hyr9 : yr ≤ 999) (hW : WF (I 311) T S F W) (had : ∀ t, t < 6 → I 315 t = 0) : xC l 8 0 0 yX6_plant cX6_plant 9 (some .int) 319 [.ref 307, .int E, .int (nI s), .int (nI gr), .int (nI y)] I (xRL nw sp) (xpR 319 (xRL nw sp) (fun r K => r = oI (xfind (plP (I 311) T S ((I 311) 2 + nI y) (plH s gr y) E) 19) ∧ ∃ g, K = xrow (xput I 307 0 (nI 0)) 311 g ∧ ∀ j, (j < 26 + 5 * T ∨ 26 + 5 * T + 5 ≤ j) → g j = I 311 j)) := by
  refine xC_of (by decide) (Nat.le_of_ble_eq_true rfl) (fun X hXl hX hR => ?_)
  have hX : xOK X RX6 cX6_plant 9 8 0 0 := hX
  show G X 319 0 0 I (xRL nw sp) 0 [(0, .ref 307), (1, .int E), (2, .int (nI s)), (3, .int (nI gr)), (4, .int (nI y))] []
  refine g_aload_n hX dX6_plant_0 rfl 0 rfl ?_
  refine g_iconst (v := nI 0) hX dX6_plant_1 (by decide) ?_
  refine g_putI hX (by decide) (by decide) xCl6 0 (by decide) (by decide) (by decide) kX6_44 dX6_plant_2 rfl rfl ?_
  refine g_aload_n hX dX6_plant_5 rfl 0 rfl ?_
  refine g_getI (v := nI 1) hX (by decide) (by decide) xCl6 7 (by decide) (by decide) kX6_186 dX6_plant_6 (xput_i (by decide) hst) ?_
  refine g_cz_ne (a := (1 : Int)) (tgt := 15) hX dX6_plant_9 (by decide) (by decide) (fun _ => ?_) (fun q => absurd q (by decide))
  refine g_iload_n hX dX6_plant_15 rfl 1 rfl ?_
  refine g_cz_lt (a := E.toInt) (tgt := 56) hX dX6_plant_16 (by decide) rfl (fun h16 => ?_) (fun h16 => ?_)
  · exfalso; omega
  · refine g_iload_n hX dX6_plant_19 rfl 2 rfl ?_
    refine g_i2l (v := (nI s).toInt64) hX dX6_plant_20 rfl ?_
    refine g_lconst (v := 0) hX dX6_plant_21 (by decide) ?_
    refine g_ldc2 (v := 4) hX cX6_259 dX6_plant_22 ?_
    refine g_callSi (as := [.long ((nI s).toInt64), .long 0, .long (4)]) hX (fun l => c_X6_in l) mX6_in sX6_in lX6_54 rfl dX6_plant_25 rfl (by decide) (Nat.le_of_ble_eq_true rfl) (by decide) (by decide) ?_
    refine g_top (y := xb ((0 : Int) ≤ ((s : Nat) : Int) ∧ ((s : Nat) : Int) ≤ (4 : Int))) (xb_iffI ((i64_of _).trans (nI_toInt (by omega))) (by decide) (by decide)) ?_
    refine g_cb_eq (tgt := 56) hX dX6_plant_28 (by decide) (fun h28 => ?_) (fun h28 => ?_)
    · exfalso; omega
    · refine g_iload_n hX dX6_plant_31 rfl 3 rfl ?_
      refine g_i2l (v := (nI gr).toInt64) hX dX6_plant_32 rfl ?_
      refine g_lconst (v := 0) hX dX6_plant_33 (by decide) ?_
      refine g_ldc2 (v := 9) hX cX6_261 dX6_plant_34 ?_
      refine g_callSi (as := [.long ((nI gr).toInt64), .long 0, .long (9)]) hX (fun l => c_X6_in l) mX6_in sX6_in lX6_54 rfl dX6_plant_37 rfl (by decide) (Nat.le_of_ble_eq_true rfl) (by decide) (by decide) ?_
      refine g_top (y := xb ((0 : Int) ≤ ((gr : Nat) : Int) ∧ ((gr : Nat) : Int) ≤ (9 : Int))) (xb_iffI ((i64_of _).trans (nI_toInt (by omega))) (by decide) (by decide)) ?_
      refine g_cb_eq (tgt := 56) hX dX6_plant_40 (by decide) (fun h40 => ?_) (fun h40 => ?_)
      · exfalso; omega
      · refine g_iload hX dX6_plant_43 4 rfl ?_
        refine g_i2l (v := (nI y).toInt64) hX dX6_plant_45 rfl ?_
        refine g_lconst (v := 0) hX dX6_plant_46 (by decide) ?_
        refine g_ldc2 (v := 99) hX cX6_206 dX6_plant_47 ?_
        refine g_callSi (as := [.long ((nI y).toInt64), .long 0, .long (99)]) hX (fun l => c_X6_in l) mX6_in sX6_in lX6_54 rfl dX6_plant_50 rfl (by decide) (Nat.le_of_ble_eq_true rfl) (by decide) (by decide) ?_
        refine g_top (y := xb ((0 : Int) ≤ ((y : Nat) : Int) ∧ ((y : Nat) : Int) ≤ (99 : Int))) (xb_iffI ((i64_of _).trans (nI_toInt (by omega))) (by decide) (by decide)) ?_
        refine g_cb_ne (tgt := 59) hX dX6_plant_53 (by decide) (fun h53 => ?_) (fun h53 => ?_)
        · refine g_aload_n hX dX6_plant_59 rfl 0 rfl ?_
          refine g_getR (j := 311) hX (by decide) (by decide) xCl6 5 (by decide) (by decide) kX6_19 dX6_plant_60 rfl ?_
          refine g_iconst (v := nI 0) hX dX6_plant_63 (by decide) ?_
          refine g_iald (v := nI T) hX (by decide) (by decide) 0 rfl (by rw [(show xN 311 = 74 by decide)]; decide) dX6_plant_64 (xput_o (by decide) hT) ?_
          refine g_bipush (v := nI 6) hX dX6_plant_65 (by decide) ?_
          refine g_ci_ne (a := ((T : Nat) : Int)) (b := (6 : Int)) (tgt := 73) hX dX6_plant_67 (by decide) (nI_toInt (by omega)) (by decide) (fun h67 => ?_) (fun h67 => ?_)
          · refine g_bipush (v := nI 26) hX dX6_plant_73 (by decide) ?_
            refine g_iconst (v := nI 5) hX dX6_plant_75 (by decide) ?_
            refine g_aload_n hX dX6_plant_76 rfl 0 rfl ?_
            refine g_getR (j := 311) hX (by decide) (by decide) xCl6 5 (by decide) (by decide) kX6_19 dX6_plant_77 rfl ?_
            refine g_iconst (v := nI 0) hX dX6_plant_80 (by decide) ?_
            refine g_iald (v := nI T) hX (by decide) (by decide) 0 rfl (by rw [(show xN 311 = 74 by decide)]; decide) dX6_plant_81 (xput_o (by decide) hT) ?_
            refine g_imul (v := nI (5 * T)) hX dX6_plant_82 (nI_mul 5 T) ?_
            refine g_iadd (v := nI (26 + (5 * T))) hX dX6_plant_83 (nI_add 26 (5 * T)) ?_
            refine g_istore (L' := [(0, .ref 307), (1, .int E), (2, .int (nI s)), (3, .int (nI gr)), (4, .int (nI y)), (5, .int (nI (26 + (5 * T))))]) hX dX6_plant_84 (by decide) rfl ?_
            refine g_aload_n hX dX6_plant_86 rfl 0 rfl ?_
            refine g_getR (j := 311) hX (by decide) (by decide) xCl6 5 (by decide) (by decide) kX6_19 dX6_plant_87 rfl ?_
            refine g_iconst (v := nI 3) hX dX6_plant_90 (by decide) ?_
            refine g_iald (v := I 311 3) hX (by decide) (by decide) 3 rfl (by rw [(show xN 311 = 74 by decide)]; decide) dX6_plant_91 (xput_o (by decide) rfl) ?_
            refine g_istore (L' := [(0, .ref 307), (1, .int E), (2, .int (nI s)), (3, .int (nI gr)), (4, .int (nI y)), (5, .int (nI (26 + (5 * T)))), (6, .int (I 311 3))]) hX dX6_plant_92 (by decide) rfl ?_
            refine g_aload_n hX dX6_plant_94 rfl 0 rfl ?_
            refine g_getR (j := 311) hX (by decide) (by decide) xCl6 5 (by decide) (by decide) kX6_19 dX6_plant_95 rfl ?_
            refine g_iload hX dX6_plant_98 5 rfl ?_
            refine g_iload_n hX dX6_plant_100 rfl 2 rfl ?_
            refine g_callSi hX (as := [.int (nI s)]) (fun l => c_X6_kindOfSort l (I := (xput I 307 0 (nI 0))) (s := s) (hs := (by first | assumption | omega))) mX6_kindOfSort sX6_kindOfSort lX6_263 rfl dX6_plant_101 rfl (by decide) (Nat.le_of_ble_eq_true rfl) (by decide) (by decide) ?_
            refine g_iast hX (by decide) (by decide) (26 + (5 * T)) rfl (by rw [(show xN 311 = 74 by decide)]; omega) dX6_plant_104 ?_
            refine g_aload_n hX dX6_plant_105 rfl 0 rfl ?_
            refine g_getR (j := 311) hX (by decide) (by decide) xCl6 5 (by decide) (by decide) kX6_19 dX6_plant_106 rfl ?_
            refine g_iload hX dX6_plant_109 5 rfl ?_
            refine g_iconst (v := nI 2) hX dX6_plant_111 (by decide) ?_
            refine g_iadd (v := nI ((26 + (5 * T)) + 2)) hX dX6_plant_112 (nI_add (26 + (5 * T)) 2) ?_
            refine g_iload_n hX dX6_plant_113 rfl 2 rfl ?_
            refine g_iconst (v := nI 3) hX dX6_plant_114 (by decide) ?_
            refine g_ci_ge (a := ((s : Nat) : Int)) (b := (3 : Int)) (tgt := 131) hX dX6_plant_115 (by decide) (nI_toInt (by omega)) (by decide) (fun h115 => ?_) (fun h115 => ?_)
            · refine g_iconst (v := nI 5) hX dX6_plant_131 (by decide) ?_
              refine g_iast hX (by decide) (by decide) ((26 + (5 * T)) + 2) rfl (by rw [(show xN 311 = 74 by decide)]; omega) dX6_plant_132 ?_
              refine g_aload_n hX dX6_plant_133 rfl 0 rfl ?_
              refine g_getR (j := 311) hX (by decide) (by decide) xCl6 5 (by decide) (by decide) kX6_19 dX6_plant_134 rfl ?_
              refine g_iload hX dX6_plant_137 5 rfl ?_
              refine g_iconst (v := nI 3) hX dX6_plant_139 (by decide) ?_
              refine g_iadd (v := nI ((26 + (5 * T)) + 3)) hX dX6_plant_140 (nI_add (26 + (5 * T)) 3) ?_
              refine g_iload_n hX dX6_plant_141 rfl 3 rfl ?_
              refine g_iast hX (by decide) (by decide) ((26 + (5 * T)) + 3) rfl (by rw [(show xN 311 = 74 by decide)]; omega) dX6_plant_142 ?_
              refine g_aload_n hX dX6_plant_143 rfl 0 rfl ?_
              refine g_getR (j := 311) hX (by decide) (by decide) xCl6 5 (by decide) (by decide) kX6_19 dX6_plant_144 rfl ?_
              refine g_iload hX dX6_plant_147 5 rfl ?_
              refine g_iconst (v := nI 4) hX dX6_plant_149 (by decide) ?_
              refine g_iadd (v := nI ((26 + (5 * T)) + 4)) hX dX6_plant_150 (nI_add (26 + (5 * T)) 4) ?_
              refine g_iconst (v := nI 0) hX dX6_plant_151 (by decide) ?_
              refine g_iast hX (by decide) (by decide) ((26 + (5 * T)) + 4) rfl (by rw [(show xN 311 = 74 by decide)]; omega) dX6_plant_152 ?_
              refine g_aload_n hX dX6_plant_153 rfl 0 rfl ?_
              refine g_getR (j := 311) hX (by decide) (by decide) xCl6 5 (by decide) (by decide) kX6_19 dX6_plant_154 rfl ?_
              refine g_iconst (v := nI 3) hX dX6_plant_157 (by decide) ?_
              refine g_iconst (v := nI 0) hX dX6_plant_158 (by decide) ?_
              refine g_iast hX (by decide) (by decide) 3 rfl (by rw [(show xN 311 = 74 by decide)]; decide) dX6_plant_159 ?_
              refine g_aload_n hX dX6_plant_160 rfl 0 rfl ?_
              refine g_getR (j := 311) hX (by decide) (by decide) xCl6 5 (by decide) (by decide) kX6_19 dX6_plant_161 rfl ?_
              refine g_iconst (v := nI 2) hX dX6_plant_164 (by decide) ?_
              refine g_dup2 hX rfl rfl dX6_plant_165 ?_
              refine g_iald (v := I 311 2) hX (by decide) (by decide) 2 rfl (by rw [(show xN 311 = 74 by decide)]; decide) dX6_plant_166 (xput_i (by decide) (xput_i (by omega) (xput_i (by omega) (xput_i (by omega) (xput_i (by omega) (xput_o (by decide) rfl)))))) ?_
              refine g_iload hX dX6_plant_167 4 rfl ?_
              refine g_iadd (v := (I 311 2) + (nI y)) hX dX6_plant_169 rfl ?_
              refine g_iast hX (by decide) (by decide) 2 rfl (by rw [(show xN 311 = 74 by decide)]; decide) dX6_plant_170 ?_
              refine g_ldc (v := -1000000) hX cX6_80 dX6_plant_171 ?_
              refine g_istore (L' := [(0, .ref 307), (1, .int E), (2, .int (nI s)), (3, .int (nI gr)), (4, .int (nI y)), (5, .int (nI (26 + (5 * T)))), (6, .int (I 311 3)), (7, .int (-1000000))]) hX dX6_plant_173 (by decide) rfl ?_
              refine g_iconst (v := nI 1) hX dX6_plant_175 (by decide) ?_
              refine g_istore (L' := [(0, .ref 307), (1, .int E), (2, .int (nI s)), (3, .int (nI gr)), (4, .int (nI y)), (5, .int (nI (26 + (5 * T)))), (6, .int (I 311 3)), (7, .int (-1000000)), (8, .int (nI 1))]) hX dX6_plant_176 (by decide) rfl ?_
              have cut178 : ∀ (fuel : Nat) (v7 : Int32) (u : Nat) (J : xM) (hu1 : 1 ≤ u) (hu19 : u ≤ 19) (hs : (v7.toInt = -1000000 ∧ ∀ k, k < u → ¬ plP (I 311) T S (I 311 2 + nI y) (plH s gr y) E k) ∨ (v7 = oI (xfind (plP (I 311) T S ((I 311) 2 + nI y) (plH s gr y) E) 19) ∧ v7.toInt ≠ -1000000)) (hJ : plJ (xput I 307 0 (nI 0)) (I 311) T (I 311 2 + nI y) (plH s gr y) J), 20 - u < fuel → G X 319 0 0 J (xRL nw sp) 178 [(0, .ref 307), (1, .int E), (2, .int (nI s)), (3, .int (nI gr)), (4, .int (nI y)), (5, .int (nI (26 + (5 * T)))), (6, .int (I 311 3)), (7, .int v7), (8, .int (nI u))] [] := by
                intro fuel
                induction fuel with
                | zero => intro v7 u J hu1 hu19 hs hJ hfuel; omega
                | succ fuel ih =>
                  intro v7 u J hu1 hu19 hs hJ hfuel
                  refine g_iload hX dX6_plant_178 8 rfl ?_
                  refine g_bipush (v := nI 18) hX dX6_plant_180 (by decide) ?_
                  refine g_ci_gt (a := ((u : Nat) : Int)) (b := (18 : Int)) (tgt := 258) hX dX6_plant_182 (by decide) (nI_toInt (by omega)) (by decide) (fun h182 => ?_) (fun h182 => ?_)
                  · refine g_aload_n hX dX6_plant_258 rfl 0 rfl ?_
                    refine g_getR (j := 311) hX (by decide) (by decide) xCl6 5 (by decide) (by decide) kX6_19 dX6_plant_259 rfl ?_
                    refine g_iconst (v := nI 3) hX dX6_plant_262 (by decide) ?_
                    refine g_iload hX dX6_plant_263 6 rfl ?_
                    refine g_iast hX (by decide) (by decide) 3 rfl (by rw [(show xN 311 = 74 by decide)]; decide) dX6_plant_265 ?_
                    refine g_aload_n hX dX6_plant_266 rfl 0 rfl ?_
                    refine g_getR (j := 311) hX (by decide) (by decide) xCl6 5 (by decide) (by decide) kX6_19 dX6_plant_267 rfl ?_
                    refine g_iconst (v := nI 2) hX dX6_plant_270 (by decide) ?_
                    refine g_dup2 hX rfl rfl dX6_plant_271 ?_
                    refine g_iald (v := I 311 2 + nI y) hX (by decide) (by decide) 2 rfl (by rw [(show xN 311 = 74 by decide)]; decide) dX6_plant_272 (xput_i (by decide) (plJ_2 hJ)) ?_
                    refine g_iload hX dX6_plant_273 4 rfl ?_
                    refine g_isub (v := (I 311 2 + nI y) - (nI y)) hX dX6_plant_275 rfl ?_
                    refine g_iast hX (by decide) (by decide) 2 rfl (by rw [(show xN 311 = 74 by decide)]; decide) dX6_plant_276 ?_
                    refine g_iload hX dX6_plant_277 7 rfl ?_
                    exact g_iret hX hR dX6_plant_279 (by decide) (by decide) ⟨_, rfl, rfl, ⟨pl_end hs (by omega), plJ_end hT5 hJ hT rfl (add_sub_id _ _)⟩, rfl⟩
                  · refine g_iload hX dX6_plant_185 7 rfl ?_
                    refine g_ldc (v := -1000000) hX cX6_80 dX6_plant_187 ?_
                    refine g_ci_ne (a := v7.toInt) (b := (-1000000 : Int)) (tgt := 258) hX dX6_plant_189 (by decide) rfl (by decide) (fun h189 => ?_) (fun h189 => ?_)
                    · refine g_aload_n hX dX6_plant_258 rfl 0 rfl ?_
                      refine g_getR (j := 311) hX (by decide) (by decide) xCl6 5 (by decide) (by decide) kX6_19 dX6_plant_259 rfl ?_
                      refine g_iconst (v := nI 3) hX dX6_plant_262 (by decide) ?_
                      refine g_iload hX dX6_plant_263 6 rfl ?_
                      refine g_iast hX (by decide) (by decide) 3 rfl (by rw [(show xN 311 = 74 by decide)]; decide) dX6_plant_265 ?_
                      refine g_aload_n hX dX6_plant_266 rfl 0 rfl ?_
                      refine g_getR (j := 311) hX (by decide) (by decide) xCl6 5 (by decide) (by decide) kX6_19 dX6_plant_267 rfl ?_
                      refine g_iconst (v := nI 2) hX dX6_plant_270 (by decide) ?_
                      refine g_dup2 hX rfl rfl dX6_plant_271 ?_
                      refine g_iald (v := I 311 2 + nI y) hX (by decide) (by decide) 2 rfl (by rw [(show xN 311 = 74 by decide)]; decide) dX6_plant_272 (xput_i (by decide) (plJ_2 hJ)) ?_
                      refine g_iload hX dX6_plant_273 4 rfl ?_
                      refine g_isub (v := (I 311 2 + nI y) - (nI y)) hX dX6_plant_275 rfl ?_
                      refine g_iast hX (by decide) (by decide) 2 rfl (by rw [(show xN 311 = 74 by decide)]; decide) dX6_plant_276 ?_
                      refine g_iload hX dX6_plant_277 7 rfl ?_
                      exact g_iret hX hR dX6_plant_279 (by decide) (by decide) ⟨_, rfl, rfl, ⟨pl_end hs (by omega), plJ_end hT5 hJ hT rfl (add_sub_id _ _)⟩, rfl⟩
                    · refine g_aload_n hX dX6_plant_192 rfl 0 rfl ?_
                      refine g_iload hX dX6_plant_193 8 rfl ?_
                      refine g_callVi hX (as := [.int (nI u)]) (fun l => c_X6_treeAt l (I := J) (T := T) (x := (nI u)) (hT := (plJ_0 hJ)) (hT6 := (by first | assumption | omega))) mX6_treeAt vX6_treeAt lX6_196 (by decide) (by decide) xCl6 rfl rfl dX6_plant_195 rfl (by decide) (Nat.le_of_ble_eq_true rfl) (by decide) (by decide) ?_
                      refine g_top (y := oI (taF (I 311) T (nI u))) (plJ_ta hT5 hJ _) ?_
                      rcases Option.eq_none_or_eq_some (taF (I 311) T (nI u)) with ho195 | ⟨t, ho195⟩
                      · refine g_top (y := (-1000000)) (by rw [ho195]; rfl) ?_
                        refine g_ldc (v := -1000000) hX cX6_80 dX6_plant_198 ?_
                        refine g_ci_ne (a := (-1000000 : Int)) (b := (-1000000 : Int)) (tgt := 252) hX dX6_plant_200 (by decide) (by decide) (by decide) (fun q => absurd q (by decide)) (fun _ => ?_)
                        refine g_aload_n hX dX6_plant_203 rfl 0 rfl ?_
                        refine g_getR (j := 311) hX (by decide) (by decide) xCl6 5 (by decide) (by decide) kX6_19 dX6_plant_204 rfl ?_
                        refine g_iload hX dX6_plant_207 5 rfl ?_
                        refine g_iconst (v := nI 1) hX dX6_plant_209 (by decide) ?_
                        refine g_iadd (v := nI ((26 + (5 * T)) + 1)) hX dX6_plant_210 (nI_add (26 + (5 * T)) 1) ?_
                        refine g_iload hX dX6_plant_211 8 rfl ?_
                        refine g_iast hX (by decide) (by decide) ((26 + (5 * T)) + 1) rfl (by rw [(show xN 311 = 74 by decide)]; omega) dX6_plant_213 ?_
                        refine g_aload_n hX dX6_plant_214 rfl 0 rfl ?_
                        refine g_getR (j := 311) hX (by decide) (by decide) xCl6 5 (by decide) (by decide) kX6_19 dX6_plant_215 rfl ?_
                        refine g_iconst (v := nI 0) hX dX6_plant_218 (by decide) ?_
                        refine g_dup2 hX rfl rfl dX6_plant_219 ?_
                        refine g_iald (v := nI T) hX (by decide) (by decide) 0 rfl (by rw [(show xN 311 = 74 by decide)]; decide) dX6_plant_220 (xput_i (by omega) (plJ_0 hJ)) ?_
                        refine g_iconst (v := nI 1) hX dX6_plant_221 (by decide) ?_
                        refine g_iadd (v := nI (T + 1)) hX dX6_plant_222 (nI_add T 1) ?_
                        refine g_iast hX (by decide) (by decide) 0 rfl (by rw [(show xN 311 = 74 by decide)]; decide) dX6_plant_223 ?_
                        refine g_aload_n hX dX6_plant_224 rfl 0 rfl ?_
                        refine g_iload_n hX dX6_plant_225 rfl 1 rfl ?_
                        refine g_callVi hX (as := [.int E]) (fun l => c_X6_metBy l (I := (xput (xput J 311 ((26 + (5 * T)) + 1) (nI u)) 311 0 (nI (T + 1)))) (T := (T + 1)) (S := S) (x := E) (hT := ((pl_met (B := (xput I 307 0 (nI 0))) (E := E) hW hT5 had hJ (by omega) ho195 rfl).1.1)) (hT6 := (by first | assumption | omega)) (hS := ((pl_met (B := (xput I 307 0 (nI 0))) (E := E) hW hT5 had hJ (by omega) ho195 rfl).1.2.1)) (hS6 := (by first | assumption | omega)) (hth := ((pl_met (B := (xput I 307 0 (nI 0))) (E := E) hW hT5 had hJ (by omega) ho195 rfl).1.2.2))) mX6_metBy vX6_metBy lX6_256 (by decide) (by decide) xCl6 rfl rfl dX6_plant_226 rfl (by decide) (Nat.le_of_ble_eq_true rfl) (by decide) (by decide) ?_
                        have hmt := (pl_met (B := (xput I 307 0 (nI 0))) (E := E) hW hT5 had hJ (by omega) ho195 rfl)
                        refine g_iload_n hX dX6_plant_229 rfl 1 rfl ?_
                        refine g_ci_ne (a := (bitsI (fun e => inP E e ∧ mtP (brF ((xput (xput J 311 ((26 + (5 * T)) + 1) (nI u)) 311 0 (nI (T + 1))) 311) ((xput (xput J 311 ((26 + (5 * T)) + 1) (nI u)) 311 0 (nI (T + 1))) 315) (T + 1)) ((xput (xput J 311 ((26 + (5 * T)) + 1) (nI u)) 311 0 (nI (T + 1))) 311) S (nI e)) 31).toInt) (b := E.toInt) (tgt := 238) hX dX6_plant_230 (by decide) rfl rfl (fun h230 => ?_) (fun h230 => ?_)
                        · refine g_ldc (v := -1000000) hX cX6_80 dX6_plant_238 ?_
                          refine g_istore (L' := [(0, .ref 307), (1, .int E), (2, .int (nI s)), (3, .int (nI gr)), (4, .int (nI y)), (5, .int (nI (26 + (5 * T)))), (6, .int (I 311 3)), (7, .int (-1000000)), (8, .int (nI u))]) hX dX6_plant_240 (by decide) rfl ?_
                          refine g_aload_n hX dX6_plant_242 rfl 0 rfl ?_
                          refine g_getR (j := 311) hX (by decide) (by decide) xCl6 5 (by decide) (by decide) kX6_19 dX6_plant_243 rfl ?_
                          refine g_iconst (v := nI 0) hX dX6_plant_246 (by decide) ?_
                          refine g_dup2 hX rfl rfl dX6_plant_247 ?_
                          refine g_iald (v := nI (T + 1)) hX (by decide) (by decide) 0 rfl (by rw [(show xN 311 = 74 by decide)]; decide) dX6_plant_248 xput_e ?_
                          refine g_iconst (v := nI 1) hX dX6_plant_249 (by decide) ?_
                          refine g_isub (v := nI T) hX dX6_plant_250 (pk_1 T) ?_
                          refine g_iast hX (by decide) (by decide) 0 rfl (by rw [(show xN 311 = 74 by decide)]; decide) dX6_plant_251 ?_
                          refine g_iinc (v := nI (u + 1)) (L' := [(0, .ref 307), (1, .int E), (2, .int (nI s)), (3, .int (nI gr)), (4, .int (nI y)), (5, .int (nI (26 + (5 * T)))), (6, .int (I 311 3)), (7, .int (-1000000)), (8, .int (nI (u + 1)))]) hX dX6_plant_252 (by decide) 8 rfl (nI_add u 1) rfl ?_
                          refine g_goto (tgt := 178) hX dX6_plant_255 (by decide) ?_
                          exact ih (-1000000) (u + 1) (xput (xput (xput J 311 ((26 + (5 * T)) + 1) (nI u)) 311 0 (nI (T + 1))) 311 0 (nI T)) (by first | assumption | omega) (by first | assumption | omega) (by first | exact pl_no hs h189 (fun q => Option.some_ne_none _ (ho195.symm.trans q.2.1)) | exact pl_no2 hs h189 (fun q => h230 ((met_all hx).mpr (hmt.2.mpr q.2.2))) | exact pl_yes hs h189 (by omega) ⟨hu1, ho195, hmt.2.mp ((met_all hx).mp h230)⟩) (by first | exact hJ | exact plJ_step hT5 hJ) (by omega)
                        · refine g_iload hX dX6_plant_233 8 rfl ?_
                          refine g_goto (tgt := 240) hX dX6_plant_235 (by decide) ?_
                          refine g_istore (L' := [(0, .ref 307), (1, .int E), (2, .int (nI s)), (3, .int (nI gr)), (4, .int (nI y)), (5, .int (nI (26 + (5 * T)))), (6, .int (I 311 3)), (7, .int (nI u)), (8, .int (nI u))]) hX dX6_plant_240 (by decide) rfl ?_
                          refine g_aload_n hX dX6_plant_242 rfl 0 rfl ?_
                          refine g_getR (j := 311) hX (by decide) (by decide) xCl6 5 (by decide) (by decide) kX6_19 dX6_plant_243 rfl ?_
                          refine g_iconst (v := nI 0) hX dX6_plant_246 (by decide) ?_
                          refine g_dup2 hX rfl rfl dX6_plant_247 ?_
                          refine g_iald (v := nI (T + 1)) hX (by decide) (by decide) 0 rfl (by rw [(show xN 311 = 74 by decide)]; decide) dX6_plant_248 xput_e ?_
                          refine g_iconst (v := nI 1) hX dX6_plant_249 (by decide) ?_
                          refine g_isub (v := nI T) hX dX6_plant_250 (pk_1 T) ?_
                          refine g_iast hX (by decide) (by decide) 0 rfl (by rw [(show xN 311 = 74 by decide)]; decide) dX6_plant_251 ?_
                          refine g_iinc (v := nI (u + 1)) (L' := [(0, .ref 307), (1, .int E), (2, .int (nI s)), (3, .int (nI gr)), (4, .int (nI y)), (5, .int (nI (26 + (5 * T)))), (6, .int (I 311 3)), (7, .int (nI u)), (8, .int (nI (u + 1)))]) hX dX6_plant_252 (by decide) 8 rfl (nI_add u 1) rfl ?_
                          refine g_goto (tgt := 178) hX dX6_plant_255 (by decide) ?_
                          exact ih (nI u) (u + 1) (xput (xput (xput J 311 ((26 + (5 * T)) + 1) (nI u)) 311 0 (nI (T + 1))) 311 0 (nI T)) (by first | assumption | omega) (by first | assumption | omega) (by first | exact pl_no hs h189 (fun q => Option.some_ne_none _ (ho195.symm.trans q.2.1)) | exact pl_no2 hs h189 (fun q => h230 ((met_all hx).mpr (hmt.2.mpr q.2.2))) | exact pl_yes hs h189 (by omega) ⟨hu1, ho195, hmt.2.mp ((met_all hx).mp h230)⟩) (by first | exact hJ | exact plJ_step hT5 hJ) (by omega)
                      · refine g_top (y := nI t) (by rw [ho195]; rfl) ?_
                        have htT := (xfind_spec ho195).1
                        refine g_ldc (v := -1000000) hX cX6_80 dX6_plant_198 ?_
                        refine g_ci_ne (a := ((t : Nat) : Int)) (b := (-1000000 : Int)) (tgt := 252) hX dX6_plant_200 (by decide) (nI_toInt (by omega)) (by decide) (fun _ => ?_) (fun q => absurd q (by omega))
                        refine g_iinc (v := nI (u + 1)) (L' := [(0, .ref 307), (1, .int E), (2, .int (nI s)), (3, .int (nI gr)), (4, .int (nI y)), (5, .int (nI (26 + (5 * T)))), (6, .int (I 311 3)), (7, .int v7), (8, .int (nI (u + 1)))]) hX dX6_plant_252 (by decide) 8 rfl (nI_add u 1) rfl ?_
                        refine g_goto (tgt := 178) hX dX6_plant_255 (by decide) ?_
                        exact ih v7 (u + 1) J (by first | assumption | omega) (by first | assumption | omega) (by first | exact pl_no hs h189 (fun q => Option.some_ne_none _ (ho195.symm.trans q.2.1)) | exact pl_no2 hs h189 (fun q => h230 ((met_all hx).mpr (hmt.2.mpr q.2.2))) | exact pl_yes hs h189 (by omega) ⟨hu1, ho195, hmt.2.mp ((met_all hx).mp h230)⟩) (by first | exact hJ | exact plJ_step hT5 hJ) (by omega)
              exact cut178 _ (-1000000) 1 (xput (xput (xput (xput (xput (xput (xput I 307 0 (nI 0)) 311 (26 + (5 * T)) (nI (ksN s))) 311 ((26 + (5 * T)) + 2) (nI 5)) 311 ((26 + (5 * T)) + 3) (nI gr)) 311 ((26 + (5 * T)) + 4) (nI 0)) 311 3 (nI 0)) 311 2 ((I 311 2) + (nI y))) (by first | assumption | omega) (by first | assumption | omega) (Or.inl ⟨rfl, fun k hk hp => by have := hp.1; omega⟩) (by first | exact (plJ_start hT5 rfl hT (by rw [hyr]; exact pl_hi hs5 hg9 hy9 hyr9 (by rw [if_pos (by omega)]))) | exact (plJ_start hT5 rfl hT (by rw [hyr]; exact pl_hi hs5 hg9 hy9 hyr9 (by rw [if_neg (by omega)])))) (Nat.lt_succ_self _)
            · refine g_iconst (v := nI 5) hX dX6_plant_118 (by decide) ?_
              refine g_iload_n hX dX6_plant_119 rfl 3 rfl ?_
              refine g_aload_n hX dX6_plant_120 rfl 0 rfl ?_
              refine g_getR (j := 311) hX (by decide) (by decide) xCl6 5 (by decide) (by decide) kX6_19 dX6_plant_121 rfl ?_
              refine g_iconst (v := nI 2) hX dX6_plant_124 (by decide) ?_
              refine g_iald (v := I 311 2) hX (by decide) (by decide) 2 rfl (by rw [(show xN 311 = 74 by decide)]; decide) dX6_plant_125 (xput_i (by omega) (xput_o (by decide) rfl)) ?_
              refine g_imul (v := (nI gr) * (I 311 2)) hX dX6_plant_126 rfl ?_
              refine g_isub (v := (nI 5) - ((nI gr) * (I 311 2))) hX dX6_plant_127 rfl ?_
              refine g_goto (tgt := 132) hX dX6_plant_128 (by decide) ?_
              refine g_iast hX (by decide) (by decide) ((26 + (5 * T)) + 2) rfl (by rw [(show xN 311 = 74 by decide)]; omega) dX6_plant_132 ?_
              refine g_aload_n hX dX6_plant_133 rfl 0 rfl ?_
              refine g_getR (j := 311) hX (by decide) (by decide) xCl6 5 (by decide) (by decide) kX6_19 dX6_plant_134 rfl ?_
              refine g_iload hX dX6_plant_137 5 rfl ?_
              refine g_iconst (v := nI 3) hX dX6_plant_139 (by decide) ?_
              refine g_iadd (v := nI ((26 + (5 * T)) + 3)) hX dX6_plant_140 (nI_add (26 + (5 * T)) 3) ?_
              refine g_iload_n hX dX6_plant_141 rfl 3 rfl ?_
              refine g_iast hX (by decide) (by decide) ((26 + (5 * T)) + 3) rfl (by rw [(show xN 311 = 74 by decide)]; omega) dX6_plant_142 ?_
              refine g_aload_n hX dX6_plant_143 rfl 0 rfl ?_
              refine g_getR (j := 311) hX (by decide) (by decide) xCl6 5 (by decide) (by decide) kX6_19 dX6_plant_144 rfl ?_
              refine g_iload hX dX6_plant_147 5 rfl ?_
              refine g_iconst (v := nI 4) hX dX6_plant_149 (by decide) ?_
              refine g_iadd (v := nI ((26 + (5 * T)) + 4)) hX dX6_plant_150 (nI_add (26 + (5 * T)) 4) ?_
              refine g_iconst (v := nI 0) hX dX6_plant_151 (by decide) ?_
              refine g_iast hX (by decide) (by decide) ((26 + (5 * T)) + 4) rfl (by rw [(show xN 311 = 74 by decide)]; omega) dX6_plant_152 ?_
              refine g_aload_n hX dX6_plant_153 rfl 0 rfl ?_
              refine g_getR (j := 311) hX (by decide) (by decide) xCl6 5 (by decide) (by decide) kX6_19 dX6_plant_154 rfl ?_
              refine g_iconst (v := nI 3) hX dX6_plant_157 (by decide) ?_
              refine g_iconst (v := nI 0) hX dX6_plant_158 (by decide) ?_
              refine g_iast hX (by decide) (by decide) 3 rfl (by rw [(show xN 311 = 74 by decide)]; decide) dX6_plant_159 ?_
              refine g_aload_n hX dX6_plant_160 rfl 0 rfl ?_
              refine g_getR (j := 311) hX (by decide) (by decide) xCl6 5 (by decide) (by decide) kX6_19 dX6_plant_161 rfl ?_
              refine g_iconst (v := nI 2) hX dX6_plant_164 (by decide) ?_
              refine g_dup2 hX rfl rfl dX6_plant_165 ?_
              refine g_iald (v := I 311 2) hX (by decide) (by decide) 2 rfl (by rw [(show xN 311 = 74 by decide)]; decide) dX6_plant_166 (xput_i (by decide) (xput_i (by omega) (xput_i (by omega) (xput_i (by omega) (xput_i (by omega) (xput_o (by decide) rfl)))))) ?_
              refine g_iload hX dX6_plant_167 4 rfl ?_
              refine g_iadd (v := (I 311 2) + (nI y)) hX dX6_plant_169 rfl ?_
              refine g_iast hX (by decide) (by decide) 2 rfl (by rw [(show xN 311 = 74 by decide)]; decide) dX6_plant_170 ?_
              refine g_ldc (v := -1000000) hX cX6_80 dX6_plant_171 ?_
              refine g_istore (L' := [(0, .ref 307), (1, .int E), (2, .int (nI s)), (3, .int (nI gr)), (4, .int (nI y)), (5, .int (nI (26 + (5 * T)))), (6, .int (I 311 3)), (7, .int (-1000000))]) hX dX6_plant_173 (by decide) rfl ?_
              refine g_iconst (v := nI 1) hX dX6_plant_175 (by decide) ?_
              refine g_istore (L' := [(0, .ref 307), (1, .int E), (2, .int (nI s)), (3, .int (nI gr)), (4, .int (nI y)), (5, .int (nI (26 + (5 * T)))), (6, .int (I 311 3)), (7, .int (-1000000)), (8, .int (nI 1))]) hX dX6_plant_176 (by decide) rfl ?_
              have cut178 : ∀ (fuel : Nat) (v7 : Int32) (u : Nat) (J : xM) (hu1 : 1 ≤ u) (hu19 : u ≤ 19) (hs : (v7.toInt = -1000000 ∧ ∀ k, k < u → ¬ plP (I 311) T S (I 311 2 + nI y) (plH s gr y) E k) ∨ (v7 = oI (xfind (plP (I 311) T S ((I 311) 2 + nI y) (plH s gr y) E) 19) ∧ v7.toInt ≠ -1000000)) (hJ : plJ (xput I 307 0 (nI 0)) (I 311) T (I 311 2 + nI y) (plH s gr y) J), 20 - u < fuel → G X 319 0 0 J (xRL nw sp) 178 [(0, .ref 307), (1, .int E), (2, .int (nI s)), (3, .int (nI gr)), (4, .int (nI y)), (5, .int (nI (26 + (5 * T)))), (6, .int (I 311 3)), (7, .int v7), (8, .int (nI u))] [] := by
                intro fuel
                induction fuel with
                | zero => intro v7 u J hu1 hu19 hs hJ hfuel; omega
                | succ fuel ih =>
                  intro v7 u J hu1 hu19 hs hJ hfuel
                  refine g_iload hX dX6_plant_178 8 rfl ?_
                  refine g_bipush (v := nI 18) hX dX6_plant_180 (by decide) ?_
                  refine g_ci_gt (a := ((u : Nat) : Int)) (b := (18 : Int)) (tgt := 258) hX dX6_plant_182 (by decide) (nI_toInt (by omega)) (by decide) (fun h182 => ?_) (fun h182 => ?_)
                  · refine g_aload_n hX dX6_plant_258 rfl 0 rfl ?_
                    refine g_getR (j := 311) hX (by decide) (by decide) xCl6 5 (by decide) (by decide) kX6_19 dX6_plant_259 rfl ?_
                    refine g_iconst (v := nI 3) hX dX6_plant_262 (by decide) ?_
                    refine g_iload hX dX6_plant_263 6 rfl ?_
                    refine g_iast hX (by decide) (by decide) 3 rfl (by rw [(show xN 311 = 74 by decide)]; decide) dX6_plant_265 ?_
                    refine g_aload_n hX dX6_plant_266 rfl 0 rfl ?_
                    refine g_getR (j := 311) hX (by decide) (by decide) xCl6 5 (by decide) (by decide) kX6_19 dX6_plant_267 rfl ?_
                    refine g_iconst (v := nI 2) hX dX6_plant_270 (by decide) ?_
                    refine g_dup2 hX rfl rfl dX6_plant_271 ?_
                    refine g_iald (v := I 311 2 + nI y) hX (by decide) (by decide) 2 rfl (by rw [(show xN 311 = 74 by decide)]; decide) dX6_plant_272 (xput_i (by decide) (plJ_2 hJ)) ?_
                    refine g_iload hX dX6_plant_273 4 rfl ?_
                    refine g_isub (v := (I 311 2 + nI y) - (nI y)) hX dX6_plant_275 rfl ?_
                    refine g_iast hX (by decide) (by decide) 2 rfl (by rw [(show xN 311 = 74 by decide)]; decide) dX6_plant_276 ?_
                    refine g_iload hX dX6_plant_277 7 rfl ?_
                    exact g_iret hX hR dX6_plant_279 (by decide) (by decide) ⟨_, rfl, rfl, ⟨pl_end hs (by omega), plJ_end hT5 hJ hT rfl (add_sub_id _ _)⟩, rfl⟩
                  · refine g_iload hX dX6_plant_185 7 rfl ?_
                    refine g_ldc (v := -1000000) hX cX6_80 dX6_plant_187 ?_
                    refine g_ci_ne (a := v7.toInt) (b := (-1000000 : Int)) (tgt := 258) hX dX6_plant_189 (by decide) rfl (by decide) (fun h189 => ?_) (fun h189 => ?_)
                    · refine g_aload_n hX dX6_plant_258 rfl 0 rfl ?_
                      refine g_getR (j := 311) hX (by decide) (by decide) xCl6 5 (by decide) (by decide) kX6_19 dX6_plant_259 rfl ?_
                      refine g_iconst (v := nI 3) hX dX6_plant_262 (by decide) ?_
                      refine g_iload hX dX6_plant_263 6 rfl ?_
                      refine g_iast hX (by decide) (by decide) 3 rfl (by rw [(show xN 311 = 74 by decide)]; decide) dX6_plant_265 ?_
                      refine g_aload_n hX dX6_plant_266 rfl 0 rfl ?_
                      refine g_getR (j := 311) hX (by decide) (by decide) xCl6 5 (by decide) (by decide) kX6_19 dX6_plant_267 rfl ?_
                      refine g_iconst (v := nI 2) hX dX6_plant_270 (by decide) ?_
                      refine g_dup2 hX rfl rfl dX6_plant_271 ?_
                      refine g_iald (v := I 311 2 + nI y) hX (by decide) (by decide) 2 rfl (by rw [(show xN 311 = 74 by decide)]; decide) dX6_plant_272 (xput_i (by decide) (plJ_2 hJ)) ?_
                      refine g_iload hX dX6_plant_273 4 rfl ?_
                      refine g_isub (v := (I 311 2 + nI y) - (nI y)) hX dX6_plant_275 rfl ?_
                      refine g_iast hX (by decide) (by decide) 2 rfl (by rw [(show xN 311 = 74 by decide)]; decide) dX6_plant_276 ?_
                      refine g_iload hX dX6_plant_277 7 rfl ?_
                      exact g_iret hX hR dX6_plant_279 (by decide) (by decide) ⟨_, rfl, rfl, ⟨pl_end hs (by omega), plJ_end hT5 hJ hT rfl (add_sub_id _ _)⟩, rfl⟩
                    · refine g_aload_n hX dX6_plant_192 rfl 0 rfl ?_
                      refine g_iload hX dX6_plant_193 8 rfl ?_
                      refine g_callVi hX (as := [.int (nI u)]) (fun l => c_X6_treeAt l (I := J) (T := T) (x := (nI u)) (hT := (plJ_0 hJ)) (hT6 := (by first | assumption | omega))) mX6_treeAt vX6_treeAt lX6_196 (by decide) (by decide) xCl6 rfl rfl dX6_plant_195 rfl (by decide) (Nat.le_of_ble_eq_true rfl) (by decide) (by decide) ?_
                      refine g_top (y := oI (taF (I 311) T (nI u))) (plJ_ta hT5 hJ _) ?_
                      rcases Option.eq_none_or_eq_some (taF (I 311) T (nI u)) with ho195 | ⟨t, ho195⟩
                      · refine g_top (y := (-1000000)) (by rw [ho195]; rfl) ?_
                        refine g_ldc (v := -1000000) hX cX6_80 dX6_plant_198 ?_
                        refine g_ci_ne (a := (-1000000 : Int)) (b := (-1000000 : Int)) (tgt := 252) hX dX6_plant_200 (by decide) (by decide) (by decide) (fun q => absurd q (by decide)) (fun _ => ?_)
                        refine g_aload_n hX dX6_plant_203 rfl 0 rfl ?_
                        refine g_getR (j := 311) hX (by decide) (by decide) xCl6 5 (by decide) (by decide) kX6_19 dX6_plant_204 rfl ?_
                        refine g_iload hX dX6_plant_207 5 rfl ?_
                        refine g_iconst (v := nI 1) hX dX6_plant_209 (by decide) ?_
                        refine g_iadd (v := nI ((26 + (5 * T)) + 1)) hX dX6_plant_210 (nI_add (26 + (5 * T)) 1) ?_
                        refine g_iload hX dX6_plant_211 8 rfl ?_
                        refine g_iast hX (by decide) (by decide) ((26 + (5 * T)) + 1) rfl (by rw [(show xN 311 = 74 by decide)]; omega) dX6_plant_213 ?_
                        refine g_aload_n hX dX6_plant_214 rfl 0 rfl ?_
                        refine g_getR (j := 311) hX (by decide) (by decide) xCl6 5 (by decide) (by decide) kX6_19 dX6_plant_215 rfl ?_
                        refine g_iconst (v := nI 0) hX dX6_plant_218 (by decide) ?_
                        refine g_dup2 hX rfl rfl dX6_plant_219 ?_
                        refine g_iald (v := nI T) hX (by decide) (by decide) 0 rfl (by rw [(show xN 311 = 74 by decide)]; decide) dX6_plant_220 (xput_i (by omega) (plJ_0 hJ)) ?_
                        refine g_iconst (v := nI 1) hX dX6_plant_221 (by decide) ?_
                        refine g_iadd (v := nI (T + 1)) hX dX6_plant_222 (nI_add T 1) ?_
                        refine g_iast hX (by decide) (by decide) 0 rfl (by rw [(show xN 311 = 74 by decide)]; decide) dX6_plant_223 ?_
                        refine g_aload_n hX dX6_plant_224 rfl 0 rfl ?_
                        refine g_iload_n hX dX6_plant_225 rfl 1 rfl ?_
                        refine g_callVi hX (as := [.int E]) (fun l => c_X6_metBy l (I := (xput (xput J 311 ((26 + (5 * T)) + 1) (nI u)) 311 0 (nI (T + 1)))) (T := (T + 1)) (S := S) (x := E) (hT := ((pl_met (B := (xput I 307 0 (nI 0))) (E := E) hW hT5 had hJ (by omega) ho195 rfl).1.1)) (hT6 := (by first | assumption | omega)) (hS := ((pl_met (B := (xput I 307 0 (nI 0))) (E := E) hW hT5 had hJ (by omega) ho195 rfl).1.2.1)) (hS6 := (by first | assumption | omega)) (hth := ((pl_met (B := (xput I 307 0 (nI 0))) (E := E) hW hT5 had hJ (by omega) ho195 rfl).1.2.2))) mX6_metBy vX6_metBy lX6_256 (by decide) (by decide) xCl6 rfl rfl dX6_plant_226 rfl (by decide) (Nat.le_of_ble_eq_true rfl) (by decide) (by decide) ?_
                        have hmt := (pl_met (B := (xput I 307 0 (nI 0))) (E := E) hW hT5 had hJ (by omega) ho195 rfl)
                        refine g_iload_n hX dX6_plant_229 rfl 1 rfl ?_
                        refine g_ci_ne (a := (bitsI (fun e => inP E e ∧ mtP (brF ((xput (xput J 311 ((26 + (5 * T)) + 1) (nI u)) 311 0 (nI (T + 1))) 311) ((xput (xput J 311 ((26 + (5 * T)) + 1) (nI u)) 311 0 (nI (T + 1))) 315) (T + 1)) ((xput (xput J 311 ((26 + (5 * T)) + 1) (nI u)) 311 0 (nI (T + 1))) 311) S (nI e)) 31).toInt) (b := E.toInt) (tgt := 238) hX dX6_plant_230 (by decide) rfl rfl (fun h230 => ?_) (fun h230 => ?_)
                        · refine g_ldc (v := -1000000) hX cX6_80 dX6_plant_238 ?_
                          refine g_istore (L' := [(0, .ref 307), (1, .int E), (2, .int (nI s)), (3, .int (nI gr)), (4, .int (nI y)), (5, .int (nI (26 + (5 * T)))), (6, .int (I 311 3)), (7, .int (-1000000)), (8, .int (nI u))]) hX dX6_plant_240 (by decide) rfl ?_
                          refine g_aload_n hX dX6_plant_242 rfl 0 rfl ?_
                          refine g_getR (j := 311) hX (by decide) (by decide) xCl6 5 (by decide) (by decide) kX6_19 dX6_plant_243 rfl ?_
                          refine g_iconst (v := nI 0) hX dX6_plant_246 (by decide) ?_
                          refine g_dup2 hX rfl rfl dX6_plant_247 ?_
                          refine g_iald (v := nI (T + 1)) hX (by decide) (by decide) 0 rfl (by rw [(show xN 311 = 74 by decide)]; decide) dX6_plant_248 xput_e ?_
                          refine g_iconst (v := nI 1) hX dX6_plant_249 (by decide) ?_
                          refine g_isub (v := nI T) hX dX6_plant_250 (pk_1 T) ?_
                          refine g_iast hX (by decide) (by decide) 0 rfl (by rw [(show xN 311 = 74 by decide)]; decide) dX6_plant_251 ?_
                          refine g_iinc (v := nI (u + 1)) (L' := [(0, .ref 307), (1, .int E), (2, .int (nI s)), (3, .int (nI gr)), (4, .int (nI y)), (5, .int (nI (26 + (5 * T)))), (6, .int (I 311 3)), (7, .int (-1000000)), (8, .int (nI (u + 1)))]) hX dX6_plant_252 (by decide) 8 rfl (nI_add u 1) rfl ?_
                          refine g_goto (tgt := 178) hX dX6_plant_255 (by decide) ?_
                          exact ih (-1000000) (u + 1) (xput (xput (xput J 311 ((26 + (5 * T)) + 1) (nI u)) 311 0 (nI (T + 1))) 311 0 (nI T)) (by first | assumption | omega) (by first | assumption | omega) (by first | exact pl_no hs h189 (fun q => Option.some_ne_none _ (ho195.symm.trans q.2.1)) | exact pl_no2 hs h189 (fun q => h230 ((met_all hx).mpr (hmt.2.mpr q.2.2))) | exact pl_yes hs h189 (by omega) ⟨hu1, ho195, hmt.2.mp ((met_all hx).mp h230)⟩) (by first | exact hJ | exact plJ_step hT5 hJ) (by omega)
                        · refine g_iload hX dX6_plant_233 8 rfl ?_
                          refine g_goto (tgt := 240) hX dX6_plant_235 (by decide) ?_
                          refine g_istore (L' := [(0, .ref 307), (1, .int E), (2, .int (nI s)), (3, .int (nI gr)), (4, .int (nI y)), (5, .int (nI (26 + (5 * T)))), (6, .int (I 311 3)), (7, .int (nI u)), (8, .int (nI u))]) hX dX6_plant_240 (by decide) rfl ?_
                          refine g_aload_n hX dX6_plant_242 rfl 0 rfl ?_
                          refine g_getR (j := 311) hX (by decide) (by decide) xCl6 5 (by decide) (by decide) kX6_19 dX6_plant_243 rfl ?_
                          refine g_iconst (v := nI 0) hX dX6_plant_246 (by decide) ?_
                          refine g_dup2 hX rfl rfl dX6_plant_247 ?_
                          refine g_iald (v := nI (T + 1)) hX (by decide) (by decide) 0 rfl (by rw [(show xN 311 = 74 by decide)]; decide) dX6_plant_248 xput_e ?_
                          refine g_iconst (v := nI 1) hX dX6_plant_249 (by decide) ?_
                          refine g_isub (v := nI T) hX dX6_plant_250 (pk_1 T) ?_
                          refine g_iast hX (by decide) (by decide) 0 rfl (by rw [(show xN 311 = 74 by decide)]; decide) dX6_plant_251 ?_
                          refine g_iinc (v := nI (u + 1)) (L' := [(0, .ref 307), (1, .int E), (2, .int (nI s)), (3, .int (nI gr)), (4, .int (nI y)), (5, .int (nI (26 + (5 * T)))), (6, .int (I 311 3)), (7, .int (nI u)), (8, .int (nI (u + 1)))]) hX dX6_plant_252 (by decide) 8 rfl (nI_add u 1) rfl ?_
                          refine g_goto (tgt := 178) hX dX6_plant_255 (by decide) ?_
                          exact ih (nI u) (u + 1) (xput (xput (xput J 311 ((26 + (5 * T)) + 1) (nI u)) 311 0 (nI (T + 1))) 311 0 (nI T)) (by first | assumption | omega) (by first | assumption | omega) (by first | exact pl_no hs h189 (fun q => Option.some_ne_none _ (ho195.symm.trans q.2.1)) | exact pl_no2 hs h189 (fun q => h230 ((met_all hx).mpr (hmt.2.mpr q.2.2))) | exact pl_yes hs h189 (by omega) ⟨hu1, ho195, hmt.2.mp ((met_all hx).mp h230)⟩) (by first | exact hJ | exact plJ_step hT5 hJ) (by omega)
                      · refine g_top (y := nI t) (by rw [ho195]; rfl) ?_
                        have htT := (xfind_spec ho195).1
                        refine g_ldc (v := -1000000) hX cX6_80 dX6_plant_198 ?_
                        refine g_ci_ne (a := ((t : Nat) : Int)) (b := (-1000000 : Int)) (tgt := 252) hX dX6_plant_200 (by decide) (nI_toInt (by omega)) (by decide) (fun _ => ?_) (fun q => absurd q (by omega))
                        refine g_iinc (v := nI (u + 1)) (L' := [(0, .ref 307), (1, .int E), (2, .int (nI s)), (3, .int (nI gr)), (4, .int (nI y)), (5, .int (nI (26 + (5 * T)))), (6, .int (I 311 3)), (7, .int v7), (8, .int (nI (u + 1)))]) hX dX6_plant_252 (by decide) 8 rfl (nI_add u 1) rfl ?_
                        refine g_goto (tgt := 178) hX dX6_plant_255 (by decide) ?_
                        exact ih v7 (u + 1) J (by first | assumption | omega) (by first | assumption | omega) (by first | exact pl_no hs h189 (fun q => Option.some_ne_none _ (ho195.symm.trans q.2.1)) | exact pl_no2 hs h189 (fun q => h230 ((met_all hx).mpr (hmt.2.mpr q.2.2))) | exact pl_yes hs h189 (by omega) ⟨hu1, ho195, hmt.2.mp ((met_all hx).mp h230)⟩) (by first | exact hJ | exact plJ_step hT5 hJ) (by omega)
              exact cut178 _ (-1000000) 1 (xput (xput (xput (xput (xput (xput (xput I 307 0 (nI 0)) 311 (26 + (5 * T)) (nI (ksN s))) 311 ((26 + (5 * T)) + 2) ((nI 5) - ((nI gr) * (I 311 2)))) 311 ((26 + (5 * T)) + 3) (nI gr)) 311 ((26 + (5 * T)) + 4) (nI 0)) 311 3 (nI 0)) 311 2 ((I 311 2) + (nI y))) (by first | assumption | omega) (by first | assumption | omega) (Or.inl ⟨rfl, fun k hk hp => by have := hp.1; omega⟩) (by first | exact (plJ_start hT5 rfl hT (by rw [hyr]; exact pl_hi hs5 hg9 hy9 hyr9 (by rw [if_pos (by omega)]))) | exact (plJ_start hT5 rfl hT (by rw [hyr]; exact pl_hi hs5 hg9 hy9 hyr9 (by rw [if_neg (by omega)])))) (Nat.lt_succ_self _)
          · exfalso; omega
        · exfalso; omega

theorem c_X5_plant_none (l : Launch) {nw sp : Nat} {I : xM} {E s gr y : Int32} (hst : I 0 6 = nI 0) : xC l 1 0 0 yX5_plant cX5_plant 9 (some .int) 319 [.ref 0, .int E, .int s, .int gr, .int y] I (xRL nw sp) (xpI (-1000002) 319 I (xRL nw sp)) := by
  refine xC_of (by decide) (Nat.le_of_ble_eq_true rfl) (fun X hXl hX hR => ?_)
  have hX : xOK X RX5 cX5_plant 9 1 0 0 := hX
  show G X 319 0 0 I (xRL nw sp) 0 [(0, .ref 0), (1, .int E), (2, .int s), (3, .int gr), (4, .int y)] []
  refine g_aload_n hX dX5_plant_0 rfl 0 rfl ?_
  refine g_getI (v := nI 0) hX (by decide) (by decide) xCl5 6 (by decide) (by decide) kX5_46 dX5_plant_1 hst ?_
  refine g_cz_ne (a := (0 : Int)) (tgt := 10) hX dX5_plant_4 (by decide) (by decide) (fun q => absurd q (by decide)) (fun _ => ?_)
  refine g_ldc (v := -1000002) hX cX5_139 dX5_plant_7 ?_
  exact g_iret hX hR dX5_plant_9 (by decide) (by decide) ⟨congrArg (fun z => some (Value.int z)) rfl, rfl, rfl, rfl⟩

theorem c_X5_plant_bad (l : Launch) {nw sp : Nat} {I : xM} {E s gr y : Int32} (hst : I 0 6 = nI 1) (hb : ¬ (0 ≤ E.toInt ∧ (0 ≤ s.toInt ∧ s.toInt ≤ 4) ∧ (0 ≤ gr.toInt ∧ gr.toInt ≤ 9) ∧ 0 ≤ y.toInt ∧ y.toInt ≤ 99)) : xC l 1 0 0 yX5_plant cX5_plant 9 (some .int) 319 [.ref 0, .int E, .int s, .int gr, .int y] I (xRL nw sp) (xpI (-1000001) 319 I (xRL nw sp)) := by
  refine xC_of (by decide) (Nat.le_of_ble_eq_true rfl) (fun X hXl hX hR => ?_)
  have hX : xOK X RX5 cX5_plant 9 1 0 0 := hX
  show G X 319 0 0 I (xRL nw sp) 0 [(0, .ref 0), (1, .int E), (2, .int s), (3, .int gr), (4, .int y)] []
  refine g_aload_n hX dX5_plant_0 rfl 0 rfl ?_
  refine g_getI (v := nI 1) hX (by decide) (by decide) xCl5 6 (by decide) (by decide) kX5_46 dX5_plant_1 hst ?_
  refine g_cz_ne (a := (1 : Int)) (tgt := 10) hX dX5_plant_4 (by decide) (by decide) (fun _ => ?_) (fun q => absurd q (by decide))
  refine g_iload_n hX dX5_plant_10 rfl 1 rfl ?_
  refine g_cz_lt (a := E.toInt) (tgt := 45) hX dX5_plant_11 (by decide) rfl (fun h11 => ?_) (fun h11 => ?_)
  · refine g_ldc (v := -1000001) hX cX5_79 dX5_plant_45 ?_
    exact g_iret hX hR dX5_plant_47 (by decide) (by decide) ⟨congrArg (fun z => some (Value.int z)) rfl, rfl, rfl, rfl⟩
  · refine g_iload_n hX dX5_plant_14 rfl 2 rfl ?_
    refine g_cz_lt (a := s.toInt) (tgt := 45) hX dX5_plant_15 (by decide) rfl (fun h15 => ?_) (fun h15 => ?_)
    · refine g_ldc (v := -1000001) hX cX5_79 dX5_plant_45 ?_
      exact g_iret hX hR dX5_plant_47 (by decide) (by decide) ⟨congrArg (fun z => some (Value.int z)) rfl, rfl, rfl, rfl⟩
    · refine g_iload_n hX dX5_plant_18 rfl 2 rfl ?_
      refine g_iconst (v := nI 4) hX dX5_plant_19 (by decide) ?_
      refine g_ci_gt (a := s.toInt) (b := (4 : Int)) (tgt := 45) hX dX5_plant_20 (by decide) rfl (by decide) (fun h20 => ?_) (fun h20 => ?_)
      · refine g_ldc (v := -1000001) hX cX5_79 dX5_plant_45 ?_
        exact g_iret hX hR dX5_plant_47 (by decide) (by decide) ⟨congrArg (fun z => some (Value.int z)) rfl, rfl, rfl, rfl⟩
      · refine g_iload_n hX dX5_plant_23 rfl 3 rfl ?_
        refine g_cz_lt (a := gr.toInt) (tgt := 45) hX dX5_plant_24 (by decide) rfl (fun h24 => ?_) (fun h24 => ?_)
        · refine g_ldc (v := -1000001) hX cX5_79 dX5_plant_45 ?_
          exact g_iret hX hR dX5_plant_47 (by decide) (by decide) ⟨congrArg (fun z => some (Value.int z)) rfl, rfl, rfl, rfl⟩
        · refine g_iload_n hX dX5_plant_27 rfl 3 rfl ?_
          refine g_bipush (v := nI 9) hX dX5_plant_28 (by decide) ?_
          refine g_ci_gt (a := gr.toInt) (b := (9 : Int)) (tgt := 45) hX dX5_plant_30 (by decide) rfl (by decide) (fun h30 => ?_) (fun h30 => ?_)
          · refine g_ldc (v := -1000001) hX cX5_79 dX5_plant_45 ?_
            exact g_iret hX hR dX5_plant_47 (by decide) (by decide) ⟨congrArg (fun z => some (Value.int z)) rfl, rfl, rfl, rfl⟩
          · refine g_iload hX dX5_plant_33 4 rfl ?_
            refine g_cz_lt (a := y.toInt) (tgt := 45) hX dX5_plant_35 (by decide) rfl (fun h35 => ?_) (fun h35 => ?_)
            · refine g_ldc (v := -1000001) hX cX5_79 dX5_plant_45 ?_
              exact g_iret hX hR dX5_plant_47 (by decide) (by decide) ⟨congrArg (fun z => some (Value.int z)) rfl, rfl, rfl, rfl⟩
            · refine g_iload hX dX5_plant_38 4 rfl ?_
              refine g_bipush (v := nI 99) hX dX5_plant_40 (by decide) ?_
              refine g_ci_le (a := y.toInt) (b := (99 : Int)) (tgt := 48) hX dX5_plant_42 (by decide) rfl (by decide) (fun h42 => ?_) (fun h42 => ?_)
              · exfalso; omega
              · refine g_ldc (v := -1000001) hX cX5_79 dX5_plant_45 ?_
                exact g_iret hX hR dX5_plant_47 (by decide) (by decide) ⟨congrArg (fun z => some (Value.int z)) rfl, rfl, rfl, rfl⟩

theorem c_X5_plant_full (l : Launch) {nw sp : Nat} {I : xM} {T S F W : Nat} {f : Nat → Int32} {s gr y : Nat} {E : Int32} (hst : I 0 6 = nI 1) (hx : 0 ≤ E.toInt) (hs5 : s < 5) (hg9 : gr ≤ 9) (hy9 : y ≤ 99) (hnw : xG nw) (hG : GX I nw f T S F W) (hW : WF f T S F W) (hT6q : T = 6) : xC l 1 0 0 yX5_plant cX5_plant 9 (some .int) 319 [.ref 0, .int E, .int (nI s), .int (nI gr), .int (nI y)] I (xRL nw sp) (xpI (-1000000) 319 I (xRL nw sp)) := by
  refine xC_of (by decide) (Nat.le_of_ble_eq_true rfl) (fun X hXl hX hR => ?_)
  have hX : xOK X RX5 cX5_plant 9 1 0 0 := hX
  show G X 319 0 0 I (xRL nw sp) 0 [(0, .ref 0), (1, .int E), (2, .int (nI s)), (3, .int (nI gr)), (4, .int (nI y))] []
  have hg8 := xG_8 hnw
  have hT6 := hW.T6
  have hS6 := hW.S6
  refine g_aload_n hX dX5_plant_0 rfl 0 rfl ?_
  refine g_getI (v := nI 1) hX (by decide) (by decide) xCl5 6 (by decide) (by decide) kX5_46 dX5_plant_1 hst ?_
  refine g_cz_ne (a := (1 : Int)) (tgt := 10) hX dX5_plant_4 (by decide) (by decide) (fun _ => ?_) (fun q => absurd q (by decide))
  refine g_iload_n hX dX5_plant_10 rfl 1 rfl ?_
  refine g_cz_lt (a := E.toInt) (tgt := 45) hX dX5_plant_11 (by decide) rfl (fun h11 => ?_) (fun h11 => ?_)
  · exfalso; omega
  · refine g_iload_n hX dX5_plant_14 rfl 2 rfl ?_
    refine g_cz_lt (a := ((s : Nat) : Int)) (tgt := 45) hX dX5_plant_15 (by decide) (nI_toInt (by omega)) (fun h15 => ?_) (fun h15 => ?_)
    · exfalso; omega
    · refine g_iload_n hX dX5_plant_18 rfl 2 rfl ?_
      refine g_iconst (v := nI 4) hX dX5_plant_19 (by decide) ?_
      refine g_ci_gt (a := ((s : Nat) : Int)) (b := (4 : Int)) (tgt := 45) hX dX5_plant_20 (by decide) (nI_toInt (by omega)) (by decide) (fun h20 => ?_) (fun h20 => ?_)
      · exfalso; omega
      · refine g_iload_n hX dX5_plant_23 rfl 3 rfl ?_
        refine g_cz_lt (a := ((gr : Nat) : Int)) (tgt := 45) hX dX5_plant_24 (by decide) (nI_toInt (by omega)) (fun h24 => ?_) (fun h24 => ?_)
        · exfalso; omega
        · refine g_iload_n hX dX5_plant_27 rfl 3 rfl ?_
          refine g_bipush (v := nI 9) hX dX5_plant_28 (by decide) ?_
          refine g_ci_gt (a := ((gr : Nat) : Int)) (b := (9 : Int)) (tgt := 45) hX dX5_plant_30 (by decide) (nI_toInt (by omega)) (by decide) (fun h30 => ?_) (fun h30 => ?_)
          · exfalso; omega
          · refine g_iload hX dX5_plant_33 4 rfl ?_
            refine g_cz_lt (a := ((y : Nat) : Int)) (tgt := 45) hX dX5_plant_35 (by decide) (nI_toInt (by omega)) (fun h35 => ?_) (fun h35 => ?_)
            · exfalso; omega
            · refine g_iload hX dX5_plant_38 4 rfl ?_
              refine g_bipush (v := nI 99) hX dX5_plant_40 (by decide) ?_
              refine g_ci_le (a := ((y : Nat) : Int)) (b := (99 : Int)) (tgt := 48) hX dX5_plant_42 (by decide) (nI_toInt (by omega)) (by decide) (fun h42 => ?_) (fun h42 => ?_)
              · refine g_aload_n hX dX5_plant_48 rfl 0 rfl ?_
                refine g_getR (j := nw) hX (by decide) (by decide) xCl5 4 (by decide) (by decide) kX5_39 dX5_plant_49 rfl ?_
                refine g_getI (v := nI T) hX (xG_n (j := 0) hnw (by decide)) (xG_K0 hnw) xCl0 3 (by decide) (by decide) kX5_136 dX5_plant_52 hG.tr ?_
                refine g_bipush (v := nI 6) hX dX5_plant_55 (by decide) ?_
                refine g_ci_lt (a := ((T : Nat) : Int)) (b := (6 : Int)) (tgt := 63) hX dX5_plant_57 (by decide) (nI_toInt (by omega)) (by decide) (fun h57 => ?_) (fun h57 => ?_)
                · exfalso; omega
                · refine g_ldc (v := -1000000) hX cX5_167 dX5_plant_60 ?_
                  exact g_iret hX hR dX5_plant_62 (by decide) (by decide) ⟨congrArg (fun z => some (Value.int z)) rfl, rfl, rfl, rfl⟩
              · exfalso; omega

theorem c_X5_plant_ok (l : Launch) {nw sp : Nat} {I : xM} {T S F W : Nat} {f : Nat → Int32} {s gr y : Nat} {E : Int32} (hst : I 0 6 = nI 1) (hx : 0 ≤ E.toInt) (hs5 : s < 5) (hg9 : gr ≤ 9) (hy9 : y ≤ 99) (hnw : xG nw) (hG : GX I nw f T S F W) (hW : WF f T S F W) (hT5 : T ≤ 5) : xC l 5 0 0 yX5_plant cX5_plant 9 (some .int) 319 [.ref 0, .int E, .int (nI s), .int (nI gr), .int (nI y)] I (xRL nw sp) (xpR 319 (xRL nw sp) (fun r K => r = oI (xfind (plP f T S (f 2 + nI y) (plH s gr y) E) 19) ∧ ∃ b, K = xrow I 5 b)) := by
  refine xC_of (by decide) (Nat.le_of_ble_eq_true rfl) (fun X hXl hX hR => ?_)
  have hX : xOK X RX5 cX5_plant 9 5 0 0 := hX
  show G X 319 0 0 I (xRL nw sp) 0 [(0, .ref 0), (1, .int E), (2, .int (nI s)), (3, .int (nI gr)), (4, .int (nI y))] []
  have hg8 := xG_8 hnw
  have hT6 := hW.T6
  have hS6 := hW.S6
  have hm9 := Nat.mul_le_mul hg9 hy9
  refine g_aload_n hX dX5_plant_0 rfl 0 rfl ?_
  refine g_getI (v := nI 1) hX (by decide) (by decide) xCl5 6 (by decide) (by decide) kX5_46 dX5_plant_1 hst ?_
  refine g_cz_ne (a := (1 : Int)) (tgt := 10) hX dX5_plant_4 (by decide) (by decide) (fun _ => ?_) (fun q => absurd q (by decide))
  refine g_iload_n hX dX5_plant_10 rfl 1 rfl ?_
  refine g_cz_lt (a := E.toInt) (tgt := 45) hX dX5_plant_11 (by decide) rfl (fun h11 => ?_) (fun h11 => ?_)
  · exfalso; omega
  · refine g_iload_n hX dX5_plant_14 rfl 2 rfl ?_
    refine g_cz_lt (a := ((s : Nat) : Int)) (tgt := 45) hX dX5_plant_15 (by decide) (nI_toInt (by omega)) (fun h15 => ?_) (fun h15 => ?_)
    · exfalso; omega
    · refine g_iload_n hX dX5_plant_18 rfl 2 rfl ?_
      refine g_iconst (v := nI 4) hX dX5_plant_19 (by decide) ?_
      refine g_ci_gt (a := ((s : Nat) : Int)) (b := (4 : Int)) (tgt := 45) hX dX5_plant_20 (by decide) (nI_toInt (by omega)) (by decide) (fun h20 => ?_) (fun h20 => ?_)
      · exfalso; omega
      · refine g_iload_n hX dX5_plant_23 rfl 3 rfl ?_
        refine g_cz_lt (a := ((gr : Nat) : Int)) (tgt := 45) hX dX5_plant_24 (by decide) (nI_toInt (by omega)) (fun h24 => ?_) (fun h24 => ?_)
        · exfalso; omega
        · refine g_iload_n hX dX5_plant_27 rfl 3 rfl ?_
          refine g_bipush (v := nI 9) hX dX5_plant_28 (by decide) ?_
          refine g_ci_gt (a := ((gr : Nat) : Int)) (b := (9 : Int)) (tgt := 45) hX dX5_plant_30 (by decide) (nI_toInt (by omega)) (by decide) (fun h30 => ?_) (fun h30 => ?_)
          · exfalso; omega
          · refine g_iload hX dX5_plant_33 4 rfl ?_
            refine g_cz_lt (a := ((y : Nat) : Int)) (tgt := 45) hX dX5_plant_35 (by decide) (nI_toInt (by omega)) (fun h35 => ?_) (fun h35 => ?_)
            · exfalso; omega
            · refine g_iload hX dX5_plant_38 4 rfl ?_
              refine g_bipush (v := nI 99) hX dX5_plant_40 (by decide) ?_
              refine g_ci_le (a := ((y : Nat) : Int)) (b := (99 : Int)) (tgt := 48) hX dX5_plant_42 (by decide) (nI_toInt (by omega)) (by decide) (fun h42 => ?_) (fun h42 => ?_)
              · refine g_aload_n hX dX5_plant_48 rfl 0 rfl ?_
                refine g_getR (j := nw) hX (by decide) (by decide) xCl5 4 (by decide) (by decide) kX5_39 dX5_plant_49 rfl ?_
                refine g_getI (v := nI T) hX (xG_n (j := 0) hnw (by decide)) (xG_K0 hnw) xCl0 3 (by decide) (by decide) kX5_136 dX5_plant_52 hG.tr ?_
                refine g_bipush (v := nI 6) hX dX5_plant_55 (by decide) ?_
                refine g_ci_lt (a := ((T : Nat) : Int)) (b := (6 : Int)) (tgt := 63) hX dX5_plant_57 (by decide) (nI_toInt (by omega)) (by decide) (fun h57 => ?_) (fun h57 => ?_)
                · refine g_iload_n hX dX5_plant_63 rfl 2 rfl ?_
                  refine g_iconst (v := nI 3) hX dX5_plant_64 (by decide) ?_
                  refine g_ci_eq (a := ((s : Nat) : Int)) (b := (3 : Int)) (tgt := 73) hX dX5_plant_65 (by decide) (nI_toInt (by omega)) (by decide) (fun h65 => ?_) (fun h65 => ?_)
                  · refine g_iconst (v := nI 1) hX dX5_plant_73 (by decide) ?_
                    refine g_goto (tgt := 78) hX dX5_plant_74 (by decide) ?_
                    refine g_istore (L' := [(0, .ref 0), (1, .int E), (2, .int (nI s)), (3, .int (nI gr)), (4, .int (nI y)), (5, .int (nI 1))]) hX dX5_plant_78 (by decide) rfl ?_
                    refine g_iload hX dX5_plant_80 5 rfl ?_
                    refine g_cz_eq (a := (1 : Int)) (tgt := 89) hX dX5_plant_82 (by decide) (by decide) (fun q => absurd q (by decide)) (fun _ => ?_)
                    refine g_iconst (v := nI 5) hX dX5_plant_85 (by decide) ?_
                    refine g_goto (tgt := 100) hX dX5_plant_86 (by decide) ?_
                    refine g_istore (L' := [(0, .ref 0), (1, .int E), (2, .int (nI s)), (3, .int (nI gr)), (4, .int (nI y)), (5, .int (nI 1)), (6, .int (nI 5))]) hX dX5_plant_100 (by decide) rfl ?_
                    have cut102 : ∀ (v5 hi : Nat) (hhi : hi = plH s gr y), G X 319 0 0 I (xRL nw sp) 102 [(0, .ref 0), (1, .int E), (2, .int (nI s)), (3, .int (nI gr)), (4, .int (nI y)), (5, .int (nI v5)), (6, .int (nI hi))] [] := by
                      intro v5 hi hhi
                      refine g_aload_n hX dX5_plant_102 rfl 0 rfl ?_
                      refine g_getR (j := 4) hX (by decide) (by decide) xCl5 2 (by decide) (by decide) kX5_25 dX5_plant_103 rfl ?_
                      refine g_aload_n hX dX5_plant_106 rfl 0 rfl ?_
                      refine g_getR (j := nw) hX (by decide) (by decide) xCl5 4 (by decide) (by decide) kX5_39 dX5_plant_107 rfl ?_
                      refine g_aload_n hX dX5_plant_110 rfl 0 rfl ?_
                      refine g_getR (j := nw) hX (by decide) (by decide) xCl5 4 (by decide) (by decide) kX5_39 dX5_plant_111 rfl ?_
                      refine g_getI (v := f 2) hX (xG_n (j := 0) hnw (by decide)) (xG_K0 hnw) xCl0 13 (by decide) (by decide) kX5_140 dX5_plant_114 hG.ye ?_
                      refine g_iload hX dX5_plant_117 4 rfl ?_
                      refine g_iadd (v := (f 2) + (nI y)) hX dX5_plant_119 rfl ?_
                      refine g_iconst (v := nI 0) hX dX5_plant_120 (by decide) ?_
                      refine g_callVrv hX (as := [.ref nw, .int ((f 2) + (nI y)), .int (nI 0)]) (fun l => c_X3_look l (I := I) (g := nw) (T := T) (S := S) (F := F) (W := W) (f := f) (y := ((f 2) + (nI y))) (w := (nI 0)) (hg := hnw) (hG := (by first | assumption | omega)) (hW := (by first | assumption | omega)) (hw := (Or.inl rfl))) mX3_look vX3_look lX5_223 (by decide) (by decide) xCl3 rfl rfl dX5_plant_121 rfl (by decide) (Nat.le_of_ble_eq_true rfl) (by decide) (by decide) (fun J0 hJ0 => ?_)
                      subst hhi
                      refine g_iconst (v := nI 1) hX dX5_plant_124 (by decide) ?_
                      refine g_istore (L' := [(0, .ref 0), (1, .int E), (2, .int (nI s)), (3, .int (nI gr)), (4, .int (nI y)), (5, .int (nI v5)), (6, .int (nI (plH s gr y))), (7, .int (nI 1))]) hX dX5_plant_125 (by decide) rfl ?_
                      have cut127 : ∀ (fuel : Nat) (u : Nat) (J : xM) (hu1 : 1 ≤ u) (hu19 : u ≤ 19) (hno : ∀ k, k < u → ¬ plP f T S (f 2 + nI y) (plH s gr y) E k) (hJ : ∃ b : Nat → Int32, J = xrow I 5 b ∧ ∀ q, q < 20 → b q = brY f T (f 2 + nI y) (nI 0) q), 20 - u < fuel → G X 319 0 0 J (xRL nw sp) 127 [(0, .ref 0), (1, .int E), (2, .int (nI s)), (3, .int (nI gr)), (4, .int (nI y)), (5, .int (nI v5)), (6, .int (nI (plH s gr y))), (7, .int (nI u))] [] := by
                        intro fuel
                        induction fuel with
                        | zero => intro u J hu1 hu19 hno hJ hfuel; omega
                        | succ fuel ih =>
                          intro u J hu1 hu19 hno hJ hfuel
                          have hGJ : GX J nw f T S F W := by obtain ⟨b, e, _⟩ := hJ; rw [e]; exact hG.ext (fun i h1 h2 => xrow_o (by omega))
                          have hb5 : ∀ q, q < 20 → J 5 q = brY f T (f 2 + nI y) (nI 0) q := fun q hq => by obtain ⟨b, e, hb⟩ := hJ; rw [e, xrow_e]; exact hb q hq
                          refine g_iload hX dX5_plant_127 7 rfl ?_
                          refine g_bipush (v := nI 19) hX dX5_plant_129 (by decide) ?_
                          refine g_ci_ge (a := ((u : Nat) : Int)) (b := (19 : Int)) (tgt := 199) hX dX5_plant_131 (by decide) (nI_toInt (by omega)) (by decide) (fun h131 => ?_) (fun h131 => ?_)
                          · refine g_ldc (v := -1000000) hX cX5_167 dX5_plant_199 ?_
                            exact g_iret hX hR dX5_plant_201 (by decide) (by decide) ⟨_, rfl, rfl, ⟨by rw [xfind_none (fun k hk => hno k (by omega))]; rfl, by obtain ⟨b, e, _⟩ := hJ; exact ⟨b, e⟩⟩, rfl⟩
                          · refine g_aload_n hX dX5_plant_134 rfl 0 rfl ?_
                            refine g_getR (j := nw) hX (by decide) (by decide) xCl5 4 (by decide) (by decide) kX5_39 dX5_plant_135 rfl ?_
                            refine g_iload hX dX5_plant_138 7 rfl ?_
                            refine g_callVi hX (as := [.int (nI u)]) (fun l => c_X0_treeAt l (I := J) (g := nw) (T := T) (S := S) (F := F) (W := W) (f := f) (x := (nI u)) (hg := hnw) (hG := (by first | assumption | omega)) (hW := (by first | assumption | omega))) mX0_treeAt vX0_treeAt lX5_164 (xG_n (j := 0) hnw (by decide)) (xG_K0 hnw) xCl0 rfl rfl dX5_plant_140 rfl (by decide) (Nat.le_of_ble_eq_true rfl) (by decide) (by decide) ?_
                            rcases Option.eq_none_or_eq_some (taF f T (nI u)) with ho140 | ⟨t, ho140⟩
                            · refine g_top (y := (-1000000)) (by rw [ho140]; rfl) ?_
                              refine g_ldc (v := -1000000) hX cX5_167 dX5_plant_143 ?_
                              refine g_ci_ne (a := (-1000000 : Int)) (b := (-1000000 : Int)) (tgt := 193) hX dX5_plant_145 (by decide) (by decide) (by decide) (fun q => absurd q (by decide)) (fun _ => ?_)
                              refine g_aload_n hX dX5_plant_148 rfl 0 rfl ?_
                              refine g_getR (j := 4) hX (by decide) (by decide) xCl5 2 (by decide) (by decide) kX5_25 dX5_plant_149 rfl ?_
                              refine g_iload hX dX5_plant_152 7 rfl ?_
                              refine g_iload hX dX5_plant_154 6 rfl ?_
                              refine g_callVv hX (as := [.int (nI u), .int (nI (plH s gr y))]) (fun l => c_X3_raise l (I := J) (q := u) (b := (nI (plH s gr y))) (hq := (by first | assumption | omega))) mX3_raise vX3_raise lX5_212 (by decide) (by decide) xCl3 rfl rfl dX5_plant_156 rfl (by decide) (Nat.le_of_ble_eq_true rfl) (by decide) (by decide) ?_
                              refine g_aload_n hX dX5_plant_159 rfl 0 rfl ?_
                              refine g_getR (j := 4) hX (by decide) (by decide) xCl5 2 (by decide) (by decide) kX5_25 dX5_plant_160 rfl ?_
                              refine g_aload_n hX dX5_plant_163 rfl 0 rfl ?_
                              refine g_getR (j := nw) hX (by decide) (by decide) xCl5 4 (by decide) (by decide) kX5_39 dX5_plant_164 rfl ?_
                              refine g_iload_n hX dX5_plant_167 rfl 1 rfl ?_
                              refine g_callVi hX (as := [.ref nw, .int E]) (fun l => c_X3_wantsAreMetForAll l (I := (xput J 5 u (J 5 u + (nI (plH s gr y))))) (g := nw) (T := T) (S := S) (F := F) (W := W) (f := f) (x := E) (hg := hnw) (hG := (hGJ.ext (fun i h1 h2 => xput_ne (by omega)))) (hW := (by first | assumption | omega))) mX3_wantsAreMetForAll vX3_wantsAreMetForAll lX5_215 (by decide) (by decide) xCl3 rfl rfl dX5_plant_168 rfl (by decide) (Nat.le_of_ble_eq_true rfl) (by decide) (by decide) ?_
                              refine g_top (y := xb (allM (plB f T (f 2 + nI y) u (plH s gr y)) f S E)) (xb_iff (allM_congr (fun q hq => pl_cls (by omega) hb5 hq) hW)) ?_
                              refine g_istore (L' := [(0, .ref 0), (1, .int E), (2, .int (nI s)), (3, .int (nI gr)), (4, .int (nI y)), (5, .int (nI v5)), (6, .int (nI (plH s gr y))), (7, .int (nI u)), (8, .int (xb (allM (plB f T (f 2 + nI y) u (plH s gr y)) f S E)))]) hX dX5_plant_171 (by decide) rfl ?_
                              refine g_aload_n hX dX5_plant_173 rfl 0 rfl ?_
                              refine g_getR (j := 4) hX (by decide) (by decide) xCl5 2 (by decide) (by decide) kX5_25 dX5_plant_174 rfl ?_
                              refine g_iload hX dX5_plant_177 7 rfl ?_
                              refine g_iload hX dX5_plant_179 6 rfl ?_
                              refine g_ineg (v := zI (-((plH s gr y : Nat) : Int))) hX dX5_plant_181 (zI_neg ((plH s gr y : Nat) : Int)) ?_
                              refine g_callVv hX (as := [.int (nI u), .int (zI (-((plH s gr y : Nat) : Int)))]) (fun l => c_X3_raise l (I := (xput J 5 u (J 5 u + (nI (plH s gr y))))) (q := u) (b := (zI (-((plH s gr y : Nat) : Int)))) (hq := (by first | assumption | omega))) mX3_raise vX3_raise lX5_212 (by decide) (by decide) xCl3 rfl rfl dX5_plant_182 rfl (by decide) (Nat.le_of_ble_eq_true rfl) (by decide) (by decide) ?_
                              refine g_mem (I' := J) (raise_back (h := ((plH s gr y : Nat) : Int))).symm ?_
                              refine g_iload hX dX5_plant_185 8 rfl ?_
                              refine g_cb_eq (tgt := 193) hX dX5_plant_187 (by decide) (fun h187 => ?_) (fun h187 => ?_)
                              · refine g_iinc (v := nI (u + 1)) (L' := [(0, .ref 0), (1, .int E), (2, .int (nI s)), (3, .int (nI gr)), (4, .int (nI y)), (5, .int (nI v5)), (6, .int (nI (plH s gr y))), (7, .int (nI (u + 1))), (8, .int (xb (allM (plB f T (f 2 + nI y) u (plH s gr y)) f S E)))]) hX dX5_plant_193 (by decide) 7 rfl (nI_add u 1) rfl ?_
                                refine g_goto (tgt := 127) hX dX5_plant_196 (by decide) ?_
                                refine g_loc [0, 1, 2, 3, 4, 5, 6, 7] rfl ?_
                                exact ih (u + 1) J (by first | assumption | omega) (by first | assumption | omega) (by first | exact lt_succ_or hno (fun q => Option.some_ne_none _ (ho140.symm.trans q.2.1)) | exact lt_succ_or hno (fun q => h187 q.2.2)) (by first | assumption | omega) (by omega)
                              · refine g_iload hX dX5_plant_190 7 rfl ?_
                                exact g_iret hX hR dX5_plant_192 (by decide) (by decide) ⟨_, rfl, rfl, ⟨by rw [xfind_some (p := plP f T S (f 2 + nI y) (plH s gr y) E) (i := u) ⟨hu1, ho140, h187⟩ hno (by omega)]; rfl, by obtain ⟨b, e, _⟩ := hJ; exact ⟨b, e⟩⟩, rfl⟩
                            · refine g_top (y := nI t) (by rw [ho140]; rfl) ?_
                              have htT := (xfind_spec ho140).1
                              refine g_ldc (v := -1000000) hX cX5_167 dX5_plant_143 ?_
                              refine g_ci_ne (a := ((t : Nat) : Int)) (b := (-1000000 : Int)) (tgt := 193) hX dX5_plant_145 (by decide) (nI_toInt (by omega)) (by decide) (fun _ => ?_) (fun q => absurd q (by omega))
                              refine g_iinc (v := nI (u + 1)) (L' := [(0, .ref 0), (1, .int E), (2, .int (nI s)), (3, .int (nI gr)), (4, .int (nI y)), (5, .int (nI v5)), (6, .int (nI (plH s gr y))), (7, .int (nI (u + 1)))]) hX dX5_plant_193 (by decide) 7 rfl (nI_add u 1) rfl ?_
                              refine g_goto (tgt := 127) hX dX5_plant_196 (by decide) ?_
                              exact ih (u + 1) J (by first | assumption | omega) (by first | assumption | omega) (by first | exact lt_succ_or hno (fun q => Option.some_ne_none _ (ho140.symm.trans q.2.1)) | exact lt_succ_or hno (fun q => h187 q.2.2)) (by first | assumption | omega) (by omega)
                      exact cut127 _ 1 J0 (by first | assumption | omega) (by first | assumption | omega) (fun k hk hp => by have := hp.1; omega) hJ0 (Nat.lt_succ_self _)
                    exact cut102 1 5 (by unfold plH; first | rw [if_pos (by omega)] | rw [if_neg (by omega)])
                  · refine g_iload_n hX dX5_plant_68 rfl 2 rfl ?_
                    refine g_iconst (v := nI 4) hX dX5_plant_69 (by decide) ?_
                    refine g_ci_ne (a := ((s : Nat) : Int)) (b := (4 : Int)) (tgt := 77) hX dX5_plant_70 (by decide) (nI_toInt (by omega)) (by decide) (fun h70 => ?_) (fun h70 => ?_)
                    · refine g_iconst (v := nI 0) hX dX5_plant_77 (by decide) ?_
                      refine g_istore (L' := [(0, .ref 0), (1, .int E), (2, .int (nI s)), (3, .int (nI gr)), (4, .int (nI y)), (5, .int (nI 0))]) hX dX5_plant_78 (by decide) rfl ?_
                      refine g_iload hX dX5_plant_80 5 rfl ?_
                      refine g_cz_eq (a := (0 : Int)) (tgt := 89) hX dX5_plant_82 (by decide) (by decide) (fun _ => ?_) (fun q => absurd q (by decide))
                      refine g_bipush (v := nI 99) hX dX5_plant_89 (by decide) ?_
                      refine g_iconst (v := nI 5) hX dX5_plant_91 (by decide) ?_
                      refine g_iload_n hX dX5_plant_92 rfl 3 rfl ?_
                      refine g_iload hX dX5_plant_93 4 rfl ?_
                      refine g_imul (v := nI (gr * y)) hX dX5_plant_95 (nI_mul gr y) ?_
                      refine g_iadd (v := nI (5 + (gr * y))) hX dX5_plant_96 (nI_add 5 (gr * y)) ?_
                      refine g_imin (v := nI (min 99 (5 + (gr * y)))) hX jmX5_218 jmin_s jm_i jmin_c (by decide) (Nat.le_of_ble_eq_true rfl) (by decide) (by decide) dX5_plant_97 (min99n (by omega)) ?_
                      refine g_istore (L' := [(0, .ref 0), (1, .int E), (2, .int (nI s)), (3, .int (nI gr)), (4, .int (nI y)), (5, .int (nI 0)), (6, .int (nI (min 99 (5 + (gr * y)))))]) hX dX5_plant_100 (by decide) rfl ?_
                      have cut102 : ∀ (v5 hi : Nat) (hhi : hi = plH s gr y), G X 319 0 0 I (xRL nw sp) 102 [(0, .ref 0), (1, .int E), (2, .int (nI s)), (3, .int (nI gr)), (4, .int (nI y)), (5, .int (nI v5)), (6, .int (nI hi))] [] := by
                        intro v5 hi hhi
                        refine g_aload_n hX dX5_plant_102 rfl 0 rfl ?_
                        refine g_getR (j := 4) hX (by decide) (by decide) xCl5 2 (by decide) (by decide) kX5_25 dX5_plant_103 rfl ?_
                        refine g_aload_n hX dX5_plant_106 rfl 0 rfl ?_
                        refine g_getR (j := nw) hX (by decide) (by decide) xCl5 4 (by decide) (by decide) kX5_39 dX5_plant_107 rfl ?_
                        refine g_aload_n hX dX5_plant_110 rfl 0 rfl ?_
                        refine g_getR (j := nw) hX (by decide) (by decide) xCl5 4 (by decide) (by decide) kX5_39 dX5_plant_111 rfl ?_
                        refine g_getI (v := f 2) hX (xG_n (j := 0) hnw (by decide)) (xG_K0 hnw) xCl0 13 (by decide) (by decide) kX5_140 dX5_plant_114 hG.ye ?_
                        refine g_iload hX dX5_plant_117 4 rfl ?_
                        refine g_iadd (v := (f 2) + (nI y)) hX dX5_plant_119 rfl ?_
                        refine g_iconst (v := nI 0) hX dX5_plant_120 (by decide) ?_
                        refine g_callVrv hX (as := [.ref nw, .int ((f 2) + (nI y)), .int (nI 0)]) (fun l => c_X3_look l (I := I) (g := nw) (T := T) (S := S) (F := F) (W := W) (f := f) (y := ((f 2) + (nI y))) (w := (nI 0)) (hg := hnw) (hG := (by first | assumption | omega)) (hW := (by first | assumption | omega)) (hw := (Or.inl rfl))) mX3_look vX3_look lX5_223 (by decide) (by decide) xCl3 rfl rfl dX5_plant_121 rfl (by decide) (Nat.le_of_ble_eq_true rfl) (by decide) (by decide) (fun J0 hJ0 => ?_)
                        subst hhi
                        refine g_iconst (v := nI 1) hX dX5_plant_124 (by decide) ?_
                        refine g_istore (L' := [(0, .ref 0), (1, .int E), (2, .int (nI s)), (3, .int (nI gr)), (4, .int (nI y)), (5, .int (nI v5)), (6, .int (nI (plH s gr y))), (7, .int (nI 1))]) hX dX5_plant_125 (by decide) rfl ?_
                        have cut127 : ∀ (fuel : Nat) (u : Nat) (J : xM) (hu1 : 1 ≤ u) (hu19 : u ≤ 19) (hno : ∀ k, k < u → ¬ plP f T S (f 2 + nI y) (plH s gr y) E k) (hJ : ∃ b : Nat → Int32, J = xrow I 5 b ∧ ∀ q, q < 20 → b q = brY f T (f 2 + nI y) (nI 0) q), 20 - u < fuel → G X 319 0 0 J (xRL nw sp) 127 [(0, .ref 0), (1, .int E), (2, .int (nI s)), (3, .int (nI gr)), (4, .int (nI y)), (5, .int (nI v5)), (6, .int (nI (plH s gr y))), (7, .int (nI u))] [] := by
                          intro fuel
                          induction fuel with
                          | zero => intro u J hu1 hu19 hno hJ hfuel; omega
                          | succ fuel ih =>
                            intro u J hu1 hu19 hno hJ hfuel
                            have hGJ : GX J nw f T S F W := by obtain ⟨b, e, _⟩ := hJ; rw [e]; exact hG.ext (fun i h1 h2 => xrow_o (by omega))
                            have hb5 : ∀ q, q < 20 → J 5 q = brY f T (f 2 + nI y) (nI 0) q := fun q hq => by obtain ⟨b, e, hb⟩ := hJ; rw [e, xrow_e]; exact hb q hq
                            refine g_iload hX dX5_plant_127 7 rfl ?_
                            refine g_bipush (v := nI 19) hX dX5_plant_129 (by decide) ?_
                            refine g_ci_ge (a := ((u : Nat) : Int)) (b := (19 : Int)) (tgt := 199) hX dX5_plant_131 (by decide) (nI_toInt (by omega)) (by decide) (fun h131 => ?_) (fun h131 => ?_)
                            · refine g_ldc (v := -1000000) hX cX5_167 dX5_plant_199 ?_
                              exact g_iret hX hR dX5_plant_201 (by decide) (by decide) ⟨_, rfl, rfl, ⟨by rw [xfind_none (fun k hk => hno k (by omega))]; rfl, by obtain ⟨b, e, _⟩ := hJ; exact ⟨b, e⟩⟩, rfl⟩
                            · refine g_aload_n hX dX5_plant_134 rfl 0 rfl ?_
                              refine g_getR (j := nw) hX (by decide) (by decide) xCl5 4 (by decide) (by decide) kX5_39 dX5_plant_135 rfl ?_
                              refine g_iload hX dX5_plant_138 7 rfl ?_
                              refine g_callVi hX (as := [.int (nI u)]) (fun l => c_X0_treeAt l (I := J) (g := nw) (T := T) (S := S) (F := F) (W := W) (f := f) (x := (nI u)) (hg := hnw) (hG := (by first | assumption | omega)) (hW := (by first | assumption | omega))) mX0_treeAt vX0_treeAt lX5_164 (xG_n (j := 0) hnw (by decide)) (xG_K0 hnw) xCl0 rfl rfl dX5_plant_140 rfl (by decide) (Nat.le_of_ble_eq_true rfl) (by decide) (by decide) ?_
                              rcases Option.eq_none_or_eq_some (taF f T (nI u)) with ho140 | ⟨t, ho140⟩
                              · refine g_top (y := (-1000000)) (by rw [ho140]; rfl) ?_
                                refine g_ldc (v := -1000000) hX cX5_167 dX5_plant_143 ?_
                                refine g_ci_ne (a := (-1000000 : Int)) (b := (-1000000 : Int)) (tgt := 193) hX dX5_plant_145 (by decide) (by decide) (by decide) (fun q => absurd q (by decide)) (fun _ => ?_)
                                refine g_aload_n hX dX5_plant_148 rfl 0 rfl ?_
                                refine g_getR (j := 4) hX (by decide) (by decide) xCl5 2 (by decide) (by decide) kX5_25 dX5_plant_149 rfl ?_
                                refine g_iload hX dX5_plant_152 7 rfl ?_
                                refine g_iload hX dX5_plant_154 6 rfl ?_
                                refine g_callVv hX (as := [.int (nI u), .int (nI (plH s gr y))]) (fun l => c_X3_raise l (I := J) (q := u) (b := (nI (plH s gr y))) (hq := (by first | assumption | omega))) mX3_raise vX3_raise lX5_212 (by decide) (by decide) xCl3 rfl rfl dX5_plant_156 rfl (by decide) (Nat.le_of_ble_eq_true rfl) (by decide) (by decide) ?_
                                refine g_aload_n hX dX5_plant_159 rfl 0 rfl ?_
                                refine g_getR (j := 4) hX (by decide) (by decide) xCl5 2 (by decide) (by decide) kX5_25 dX5_plant_160 rfl ?_
                                refine g_aload_n hX dX5_plant_163 rfl 0 rfl ?_
                                refine g_getR (j := nw) hX (by decide) (by decide) xCl5 4 (by decide) (by decide) kX5_39 dX5_plant_164 rfl ?_
                                refine g_iload_n hX dX5_plant_167 rfl 1 rfl ?_
                                refine g_callVi hX (as := [.ref nw, .int E]) (fun l => c_X3_wantsAreMetForAll l (I := (xput J 5 u (J 5 u + (nI (plH s gr y))))) (g := nw) (T := T) (S := S) (F := F) (W := W) (f := f) (x := E) (hg := hnw) (hG := (hGJ.ext (fun i h1 h2 => xput_ne (by omega)))) (hW := (by first | assumption | omega))) mX3_wantsAreMetForAll vX3_wantsAreMetForAll lX5_215 (by decide) (by decide) xCl3 rfl rfl dX5_plant_168 rfl (by decide) (Nat.le_of_ble_eq_true rfl) (by decide) (by decide) ?_
                                refine g_top (y := xb (allM (plB f T (f 2 + nI y) u (plH s gr y)) f S E)) (xb_iff (allM_congr (fun q hq => pl_cls (by omega) hb5 hq) hW)) ?_
                                refine g_istore (L' := [(0, .ref 0), (1, .int E), (2, .int (nI s)), (3, .int (nI gr)), (4, .int (nI y)), (5, .int (nI v5)), (6, .int (nI (plH s gr y))), (7, .int (nI u)), (8, .int (xb (allM (plB f T (f 2 + nI y) u (plH s gr y)) f S E)))]) hX dX5_plant_171 (by decide) rfl ?_
                                refine g_aload_n hX dX5_plant_173 rfl 0 rfl ?_
                                refine g_getR (j := 4) hX (by decide) (by decide) xCl5 2 (by decide) (by decide) kX5_25 dX5_plant_174 rfl ?_
                                refine g_iload hX dX5_plant_177 7 rfl ?_
                                refine g_iload hX dX5_plant_179 6 rfl ?_
                                refine g_ineg (v := zI (-((plH s gr y : Nat) : Int))) hX dX5_plant_181 (zI_neg ((plH s gr y : Nat) : Int)) ?_
                                refine g_callVv hX (as := [.int (nI u), .int (zI (-((plH s gr y : Nat) : Int)))]) (fun l => c_X3_raise l (I := (xput J 5 u (J 5 u + (nI (plH s gr y))))) (q := u) (b := (zI (-((plH s gr y : Nat) : Int)))) (hq := (by first | assumption | omega))) mX3_raise vX3_raise lX5_212 (by decide) (by decide) xCl3 rfl rfl dX5_plant_182 rfl (by decide) (Nat.le_of_ble_eq_true rfl) (by decide) (by decide) ?_
                                refine g_mem (I' := J) (raise_back (h := ((plH s gr y : Nat) : Int))).symm ?_
                                refine g_iload hX dX5_plant_185 8 rfl ?_
                                refine g_cb_eq (tgt := 193) hX dX5_plant_187 (by decide) (fun h187 => ?_) (fun h187 => ?_)
                                · refine g_iinc (v := nI (u + 1)) (L' := [(0, .ref 0), (1, .int E), (2, .int (nI s)), (3, .int (nI gr)), (4, .int (nI y)), (5, .int (nI v5)), (6, .int (nI (plH s gr y))), (7, .int (nI (u + 1))), (8, .int (xb (allM (plB f T (f 2 + nI y) u (plH s gr y)) f S E)))]) hX dX5_plant_193 (by decide) 7 rfl (nI_add u 1) rfl ?_
                                  refine g_goto (tgt := 127) hX dX5_plant_196 (by decide) ?_
                                  refine g_loc [0, 1, 2, 3, 4, 5, 6, 7] rfl ?_
                                  exact ih (u + 1) J (by first | assumption | omega) (by first | assumption | omega) (by first | exact lt_succ_or hno (fun q => Option.some_ne_none _ (ho140.symm.trans q.2.1)) | exact lt_succ_or hno (fun q => h187 q.2.2)) (by first | assumption | omega) (by omega)
                                · refine g_iload hX dX5_plant_190 7 rfl ?_
                                  exact g_iret hX hR dX5_plant_192 (by decide) (by decide) ⟨_, rfl, rfl, ⟨by rw [xfind_some (p := plP f T S (f 2 + nI y) (plH s gr y) E) (i := u) ⟨hu1, ho140, h187⟩ hno (by omega)]; rfl, by obtain ⟨b, e, _⟩ := hJ; exact ⟨b, e⟩⟩, rfl⟩
                              · refine g_top (y := nI t) (by rw [ho140]; rfl) ?_
                                have htT := (xfind_spec ho140).1
                                refine g_ldc (v := -1000000) hX cX5_167 dX5_plant_143 ?_
                                refine g_ci_ne (a := ((t : Nat) : Int)) (b := (-1000000 : Int)) (tgt := 193) hX dX5_plant_145 (by decide) (nI_toInt (by omega)) (by decide) (fun _ => ?_) (fun q => absurd q (by omega))
                                refine g_iinc (v := nI (u + 1)) (L' := [(0, .ref 0), (1, .int E), (2, .int (nI s)), (3, .int (nI gr)), (4, .int (nI y)), (5, .int (nI v5)), (6, .int (nI (plH s gr y))), (7, .int (nI (u + 1)))]) hX dX5_plant_193 (by decide) 7 rfl (nI_add u 1) rfl ?_
                                refine g_goto (tgt := 127) hX dX5_plant_196 (by decide) ?_
                                exact ih (u + 1) J (by first | assumption | omega) (by first | assumption | omega) (by first | exact lt_succ_or hno (fun q => Option.some_ne_none _ (ho140.symm.trans q.2.1)) | exact lt_succ_or hno (fun q => h187 q.2.2)) (by first | assumption | omega) (by omega)
                        exact cut127 _ 1 J0 (by first | assumption | omega) (by first | assumption | omega) (fun k hk hp => by have := hp.1; omega) hJ0 (Nat.lt_succ_self _)
                      exact cut102 0 (min 99 (5 + (gr * y))) (by unfold plH; first | rw [if_pos (by omega)] | rw [if_neg (by omega)])
                    · refine g_iconst (v := nI 1) hX dX5_plant_73 (by decide) ?_
                      refine g_goto (tgt := 78) hX dX5_plant_74 (by decide) ?_
                      refine g_istore (L' := [(0, .ref 0), (1, .int E), (2, .int (nI s)), (3, .int (nI gr)), (4, .int (nI y)), (5, .int (nI 1))]) hX dX5_plant_78 (by decide) rfl ?_
                      refine g_iload hX dX5_plant_80 5 rfl ?_
                      refine g_cz_eq (a := (1 : Int)) (tgt := 89) hX dX5_plant_82 (by decide) (by decide) (fun q => absurd q (by decide)) (fun _ => ?_)
                      refine g_iconst (v := nI 5) hX dX5_plant_85 (by decide) ?_
                      refine g_goto (tgt := 100) hX dX5_plant_86 (by decide) ?_
                      refine g_istore (L' := [(0, .ref 0), (1, .int E), (2, .int (nI s)), (3, .int (nI gr)), (4, .int (nI y)), (5, .int (nI 1)), (6, .int (nI 5))]) hX dX5_plant_100 (by decide) rfl ?_
                      have cut102 : ∀ (v5 hi : Nat) (hhi : hi = plH s gr y), G X 319 0 0 I (xRL nw sp) 102 [(0, .ref 0), (1, .int E), (2, .int (nI s)), (3, .int (nI gr)), (4, .int (nI y)), (5, .int (nI v5)), (6, .int (nI hi))] [] := by
                        intro v5 hi hhi
                        refine g_aload_n hX dX5_plant_102 rfl 0 rfl ?_
                        refine g_getR (j := 4) hX (by decide) (by decide) xCl5 2 (by decide) (by decide) kX5_25 dX5_plant_103 rfl ?_
                        refine g_aload_n hX dX5_plant_106 rfl 0 rfl ?_
                        refine g_getR (j := nw) hX (by decide) (by decide) xCl5 4 (by decide) (by decide) kX5_39 dX5_plant_107 rfl ?_
                        refine g_aload_n hX dX5_plant_110 rfl 0 rfl ?_
                        refine g_getR (j := nw) hX (by decide) (by decide) xCl5 4 (by decide) (by decide) kX5_39 dX5_plant_111 rfl ?_
                        refine g_getI (v := f 2) hX (xG_n (j := 0) hnw (by decide)) (xG_K0 hnw) xCl0 13 (by decide) (by decide) kX5_140 dX5_plant_114 hG.ye ?_
                        refine g_iload hX dX5_plant_117 4 rfl ?_
                        refine g_iadd (v := (f 2) + (nI y)) hX dX5_plant_119 rfl ?_
                        refine g_iconst (v := nI 0) hX dX5_plant_120 (by decide) ?_
                        refine g_callVrv hX (as := [.ref nw, .int ((f 2) + (nI y)), .int (nI 0)]) (fun l => c_X3_look l (I := I) (g := nw) (T := T) (S := S) (F := F) (W := W) (f := f) (y := ((f 2) + (nI y))) (w := (nI 0)) (hg := hnw) (hG := (by first | assumption | omega)) (hW := (by first | assumption | omega)) (hw := (Or.inl rfl))) mX3_look vX3_look lX5_223 (by decide) (by decide) xCl3 rfl rfl dX5_plant_121 rfl (by decide) (Nat.le_of_ble_eq_true rfl) (by decide) (by decide) (fun J0 hJ0 => ?_)
                        subst hhi
                        refine g_iconst (v := nI 1) hX dX5_plant_124 (by decide) ?_
                        refine g_istore (L' := [(0, .ref 0), (1, .int E), (2, .int (nI s)), (3, .int (nI gr)), (4, .int (nI y)), (5, .int (nI v5)), (6, .int (nI (plH s gr y))), (7, .int (nI 1))]) hX dX5_plant_125 (by decide) rfl ?_
                        have cut127 : ∀ (fuel : Nat) (u : Nat) (J : xM) (hu1 : 1 ≤ u) (hu19 : u ≤ 19) (hno : ∀ k, k < u → ¬ plP f T S (f 2 + nI y) (plH s gr y) E k) (hJ : ∃ b : Nat → Int32, J = xrow I 5 b ∧ ∀ q, q < 20 → b q = brY f T (f 2 + nI y) (nI 0) q), 20 - u < fuel → G X 319 0 0 J (xRL nw sp) 127 [(0, .ref 0), (1, .int E), (2, .int (nI s)), (3, .int (nI gr)), (4, .int (nI y)), (5, .int (nI v5)), (6, .int (nI (plH s gr y))), (7, .int (nI u))] [] := by
                          intro fuel
                          induction fuel with
                          | zero => intro u J hu1 hu19 hno hJ hfuel; omega
                          | succ fuel ih =>
                            intro u J hu1 hu19 hno hJ hfuel
                            have hGJ : GX J nw f T S F W := by obtain ⟨b, e, _⟩ := hJ; rw [e]; exact hG.ext (fun i h1 h2 => xrow_o (by omega))
                            have hb5 : ∀ q, q < 20 → J 5 q = brY f T (f 2 + nI y) (nI 0) q := fun q hq => by obtain ⟨b, e, hb⟩ := hJ; rw [e, xrow_e]; exact hb q hq
                            refine g_iload hX dX5_plant_127 7 rfl ?_
                            refine g_bipush (v := nI 19) hX dX5_plant_129 (by decide) ?_
                            refine g_ci_ge (a := ((u : Nat) : Int)) (b := (19 : Int)) (tgt := 199) hX dX5_plant_131 (by decide) (nI_toInt (by omega)) (by decide) (fun h131 => ?_) (fun h131 => ?_)
                            · refine g_ldc (v := -1000000) hX cX5_167 dX5_plant_199 ?_
                              exact g_iret hX hR dX5_plant_201 (by decide) (by decide) ⟨_, rfl, rfl, ⟨by rw [xfind_none (fun k hk => hno k (by omega))]; rfl, by obtain ⟨b, e, _⟩ := hJ; exact ⟨b, e⟩⟩, rfl⟩
                            · refine g_aload_n hX dX5_plant_134 rfl 0 rfl ?_
                              refine g_getR (j := nw) hX (by decide) (by decide) xCl5 4 (by decide) (by decide) kX5_39 dX5_plant_135 rfl ?_
                              refine g_iload hX dX5_plant_138 7 rfl ?_
                              refine g_callVi hX (as := [.int (nI u)]) (fun l => c_X0_treeAt l (I := J) (g := nw) (T := T) (S := S) (F := F) (W := W) (f := f) (x := (nI u)) (hg := hnw) (hG := (by first | assumption | omega)) (hW := (by first | assumption | omega))) mX0_treeAt vX0_treeAt lX5_164 (xG_n (j := 0) hnw (by decide)) (xG_K0 hnw) xCl0 rfl rfl dX5_plant_140 rfl (by decide) (Nat.le_of_ble_eq_true rfl) (by decide) (by decide) ?_
                              rcases Option.eq_none_or_eq_some (taF f T (nI u)) with ho140 | ⟨t, ho140⟩
                              · refine g_top (y := (-1000000)) (by rw [ho140]; rfl) ?_
                                refine g_ldc (v := -1000000) hX cX5_167 dX5_plant_143 ?_
                                refine g_ci_ne (a := (-1000000 : Int)) (b := (-1000000 : Int)) (tgt := 193) hX dX5_plant_145 (by decide) (by decide) (by decide) (fun q => absurd q (by decide)) (fun _ => ?_)
                                refine g_aload_n hX dX5_plant_148 rfl 0 rfl ?_
                                refine g_getR (j := 4) hX (by decide) (by decide) xCl5 2 (by decide) (by decide) kX5_25 dX5_plant_149 rfl ?_
                                refine g_iload hX dX5_plant_152 7 rfl ?_
                                refine g_iload hX dX5_plant_154 6 rfl ?_
                                refine g_callVv hX (as := [.int (nI u), .int (nI (plH s gr y))]) (fun l => c_X3_raise l (I := J) (q := u) (b := (nI (plH s gr y))) (hq := (by first | assumption | omega))) mX3_raise vX3_raise lX5_212 (by decide) (by decide) xCl3 rfl rfl dX5_plant_156 rfl (by decide) (Nat.le_of_ble_eq_true rfl) (by decide) (by decide) ?_
                                refine g_aload_n hX dX5_plant_159 rfl 0 rfl ?_
                                refine g_getR (j := 4) hX (by decide) (by decide) xCl5 2 (by decide) (by decide) kX5_25 dX5_plant_160 rfl ?_
                                refine g_aload_n hX dX5_plant_163 rfl 0 rfl ?_
                                refine g_getR (j := nw) hX (by decide) (by decide) xCl5 4 (by decide) (by decide) kX5_39 dX5_plant_164 rfl ?_
                                refine g_iload_n hX dX5_plant_167 rfl 1 rfl ?_
                                refine g_callVi hX (as := [.ref nw, .int E]) (fun l => c_X3_wantsAreMetForAll l (I := (xput J 5 u (J 5 u + (nI (plH s gr y))))) (g := nw) (T := T) (S := S) (F := F) (W := W) (f := f) (x := E) (hg := hnw) (hG := (hGJ.ext (fun i h1 h2 => xput_ne (by omega)))) (hW := (by first | assumption | omega))) mX3_wantsAreMetForAll vX3_wantsAreMetForAll lX5_215 (by decide) (by decide) xCl3 rfl rfl dX5_plant_168 rfl (by decide) (Nat.le_of_ble_eq_true rfl) (by decide) (by decide) ?_
                                refine g_top (y := xb (allM (plB f T (f 2 + nI y) u (plH s gr y)) f S E)) (xb_iff (allM_congr (fun q hq => pl_cls (by omega) hb5 hq) hW)) ?_
                                refine g_istore (L' := [(0, .ref 0), (1, .int E), (2, .int (nI s)), (3, .int (nI gr)), (4, .int (nI y)), (5, .int (nI v5)), (6, .int (nI (plH s gr y))), (7, .int (nI u)), (8, .int (xb (allM (plB f T (f 2 + nI y) u (plH s gr y)) f S E)))]) hX dX5_plant_171 (by decide) rfl ?_
                                refine g_aload_n hX dX5_plant_173 rfl 0 rfl ?_
                                refine g_getR (j := 4) hX (by decide) (by decide) xCl5 2 (by decide) (by decide) kX5_25 dX5_plant_174 rfl ?_
                                refine g_iload hX dX5_plant_177 7 rfl ?_
                                refine g_iload hX dX5_plant_179 6 rfl ?_
                                refine g_ineg (v := zI (-((plH s gr y : Nat) : Int))) hX dX5_plant_181 (zI_neg ((plH s gr y : Nat) : Int)) ?_
                                refine g_callVv hX (as := [.int (nI u), .int (zI (-((plH s gr y : Nat) : Int)))]) (fun l => c_X3_raise l (I := (xput J 5 u (J 5 u + (nI (plH s gr y))))) (q := u) (b := (zI (-((plH s gr y : Nat) : Int)))) (hq := (by first | assumption | omega))) mX3_raise vX3_raise lX5_212 (by decide) (by decide) xCl3 rfl rfl dX5_plant_182 rfl (by decide) (Nat.le_of_ble_eq_true rfl) (by decide) (by decide) ?_
                                refine g_mem (I' := J) (raise_back (h := ((plH s gr y : Nat) : Int))).symm ?_
                                refine g_iload hX dX5_plant_185 8 rfl ?_
                                refine g_cb_eq (tgt := 193) hX dX5_plant_187 (by decide) (fun h187 => ?_) (fun h187 => ?_)
                                · refine g_iinc (v := nI (u + 1)) (L' := [(0, .ref 0), (1, .int E), (2, .int (nI s)), (3, .int (nI gr)), (4, .int (nI y)), (5, .int (nI v5)), (6, .int (nI (plH s gr y))), (7, .int (nI (u + 1))), (8, .int (xb (allM (plB f T (f 2 + nI y) u (plH s gr y)) f S E)))]) hX dX5_plant_193 (by decide) 7 rfl (nI_add u 1) rfl ?_
                                  refine g_goto (tgt := 127) hX dX5_plant_196 (by decide) ?_
                                  refine g_loc [0, 1, 2, 3, 4, 5, 6, 7] rfl ?_
                                  exact ih (u + 1) J (by first | assumption | omega) (by first | assumption | omega) (by first | exact lt_succ_or hno (fun q => Option.some_ne_none _ (ho140.symm.trans q.2.1)) | exact lt_succ_or hno (fun q => h187 q.2.2)) (by first | assumption | omega) (by omega)
                                · refine g_iload hX dX5_plant_190 7 rfl ?_
                                  exact g_iret hX hR dX5_plant_192 (by decide) (by decide) ⟨_, rfl, rfl, ⟨by rw [xfind_some (p := plP f T S (f 2 + nI y) (plH s gr y) E) (i := u) ⟨hu1, ho140, h187⟩ hno (by omega)]; rfl, by obtain ⟨b, e, _⟩ := hJ; exact ⟨b, e⟩⟩, rfl⟩
                              · refine g_top (y := nI t) (by rw [ho140]; rfl) ?_
                                have htT := (xfind_spec ho140).1
                                refine g_ldc (v := -1000000) hX cX5_167 dX5_plant_143 ?_
                                refine g_ci_ne (a := ((t : Nat) : Int)) (b := (-1000000 : Int)) (tgt := 193) hX dX5_plant_145 (by decide) (nI_toInt (by omega)) (by decide) (fun _ => ?_) (fun q => absurd q (by omega))
                                refine g_iinc (v := nI (u + 1)) (L' := [(0, .ref 0), (1, .int E), (2, .int (nI s)), (3, .int (nI gr)), (4, .int (nI y)), (5, .int (nI v5)), (6, .int (nI (plH s gr y))), (7, .int (nI (u + 1)))]) hX dX5_plant_193 (by decide) 7 rfl (nI_add u 1) rfl ?_
                                refine g_goto (tgt := 127) hX dX5_plant_196 (by decide) ?_
                                exact ih (u + 1) J (by first | assumption | omega) (by first | assumption | omega) (by first | exact lt_succ_or hno (fun q => Option.some_ne_none _ (ho140.symm.trans q.2.1)) | exact lt_succ_or hno (fun q => h187 q.2.2)) (by first | assumption | omega) (by omega)
                        exact cut127 _ 1 J0 (by first | assumption | omega) (by first | assumption | omega) (fun k hk hp => by have := hp.1; omega) hJ0 (Nat.lt_succ_self _)
                      exact cut102 1 5 (by unfold plH; first | rw [if_pos (by omega)] | rw [if_neg (by omega)])
                · exfalso; omega
              · exfalso; omega
