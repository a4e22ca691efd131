theorem c_X6_moreOf_no1 (l : Launch) {nw sp : Nat} {I : xM} {t x y q g : Nat} (ht : t < 6) (eq_ : I 311 (26 + 5 * t + 1) = nI q) (hq : q < 20) (eg : I 311 (6 + q) = nI g) (hg : g ≤ 60) (hx : x ≤ 1000) (hy : y ≤ 1000) (hm : ¬ ((1 ≤ q ∧ q ≤ 17) ∧ (((I 311) (26 + 5 * t + 0)).toInt ≠ 3 ∧ ((I 311) (26 + 5 * t + 0)).toInt ≠ 5) ∧ ¬ (((I 311) (26 + 5 * t + 0)).toInt = 1 ∧ ((I 311) 3).toInt = 1))) : xC l 3 0 0 yX6_moreOf cX6_moreOf 8 (some .int) 319 [.ref 307, .int (nI t), .int (nI x), .int (nI y)] I (xRL nw sp) (xpI (-1000000) 319 I (xRL nw sp)) := by
  refine xC_of (by decide) (Nat.le_of_ble_eq_true rfl) (fun X hXl hX hR => ?_)
  have hX : xOK X RX6 cX6_moreOf 8 3 0 0 := hX
  show G X 319 0 0 I (xRL nw sp) 0 [(0, .ref 307), (1, .int (nI t)), (2, .int (nI x)), (3, .int (nI y))] []
  refine g_aload_n hX dX6_moreOf_0 rfl 0 rfl ?_
  refine g_iload_n hX dX6_moreOf_1 rfl 1 rfl ?_
  refine g_iconst (v := nI 1) hX dX6_moreOf_2 (by decide) ?_
  refine g_callVi hX (as := [.int (nI t), .int (nI 1)]) (fun l => c_X6_of l (I := I) (t := t) (w := 1) (ht := (by first | assumption | omega))) mX6_of vX6_of lX6_193 (by decide) (by decide) xCl6 rfl rfl dX6_moreOf_3 rfl (by decide) (Nat.le_of_ble_eq_true rfl) (by decide) (by decide) ?_
  refine g_top (y := nI q) eq_ ?_
  refine g_istore (L' := [(0, .ref 307), (1, .int (nI t)), (2, .int (nI x)), (3, .int (nI y)), (4, .int (nI q))]) hX dX6_moreOf_6 (by decide) rfl ?_
  refine g_iload hX dX6_moreOf_8 4 rfl ?_
  refine g_i2l (v := (nI q).toInt64) hX dX6_moreOf_10 rfl ?_
  refine g_lconst (v := 1) hX dX6_moreOf_11 (by decide) ?_
  refine g_ldc2 (v := 17) hX cX6_269 dX6_moreOf_12 ?_
  refine g_callSi (as := [.long ((nI q).toInt64), .long 1, .long (17)]) hX (fun l => c_X6_in l) mX6_in sX6_in lX6_54 rfl dX6_moreOf_15 rfl (by decide) (Nat.le_of_ble_eq_true rfl) (by decide) (by decide) ?_
  refine g_top (y := xb ((1 : Int) ≤ ((q : Nat) : Int) ∧ ((q : Nat) : Int) ≤ (17 : Int))) (xb_iffI ((i64_of _).trans (nI_toInt (by omega))) (by decide) (by decide)) ?_
  refine g_cb_eq (tgt := 53) hX dX6_moreOf_18 (by decide) (fun h18 => ?_) (fun h18 => ?_)
  · refine g_iconst (v := nI 0) hX dX6_moreOf_53 (by decide) ?_
    refine g_istore (L' := [(0, .ref 307), (1, .int (nI t)), (2, .int (nI x)), (3, .int (nI y)), (4, .int (nI q)), (5, .int (nI 0))]) hX dX6_moreOf_54 (by decide) rfl ?_
    refine g_iload_n hX dX6_moreOf_56 rfl 3 rfl ?_
    refine g_iload_n hX dX6_moreOf_57 rfl 2 rfl ?_
    refine g_isub (v := zI (((y : Nat) : Int) - ((x : Nat) : Int))) hX dX6_moreOf_58 (zI_sub (((y : Nat) : Int)) (((x : Nat) : Int))) ?_
    refine g_iload hX dX6_moreOf_59 4 rfl ?_
    refine g_imul (v := zI ((((y : Nat) : Int) - ((x : Nat) : Int)) * ((q : Nat) : Int))) hX dX6_moreOf_61 (zI_mul ((((y : Nat) : Int) - ((x : Nat) : Int))) (((q : Nat) : Int))) ?_
    refine g_iload_n hX dX6_moreOf_62 rfl 2 rfl ?_
    refine g_bipush (v := nI 18) hX dX6_moreOf_63 (by decide) ?_
    refine g_imul (v := nI (x * 18)) hX dX6_moreOf_65 (nI_mul x 18) ?_
    obtain ⟨l0, hl0⟩ : ∃ l0, l0 = zI ((((y : Nat) : Int) - ((x : Nat) : Int)) * ((q : Nat) : Int)) + nI (x * 18) := ⟨_, rfl⟩
    refine g_iadd (v := l0) hX dX6_moreOf_66 hl0.symm ?_
    refine g_istore (L' := [(0, .ref 307), (1, .int (nI t)), (2, .int (nI x)), (3, .int (nI y)), (4, .int (nI q)), (5, .int (nI 0)), (6, .int l0)]) hX dX6_moreOf_67 (by decide) rfl ?_
    refine g_iload hX dX6_moreOf_69 6 rfl ?_
    refine g_bipush (v := nI 17) hX dX6_moreOf_71 (by decide) ?_
    refine g_iadd (v := l0 + (nI 17)) hX dX6_moreOf_73 rfl ?_
    refine g_bipush (v := nI 18) hX dX6_moreOf_74 (by decide) ?_
    refine g_idiv (v := (l0 + (nI 17)) / (nI 18)) hX dX6_moreOf_76 (by decide) rfl ?_
    refine g_aload_n hX dX6_moreOf_77 rfl 0 rfl ?_
    refine g_iload hX dX6_moreOf_78 4 rfl ?_
    refine g_callVi hX (as := [.int (nI q)]) (fun l => c_X6_ground l (I := I) (q := q) (hq := (by first | assumption | omega))) mX6_ground vX6_ground lX6_199 (by decide) (by decide) xCl6 rfl rfl dX6_moreOf_80 rfl (by decide) (Nat.le_of_ble_eq_true rfl) (by decide) (by decide) ?_
    refine g_isub (v := ((l0 + (nI 17)) / (nI 18)) - (I 311 (6 + q))) hX dX6_moreOf_83 rfl ?_
    refine g_istore (L' := [(0, .ref 307), (1, .int (nI t)), (2, .int (nI x)), (3, .int (nI y)), (4, .int (nI q)), (5, .int (nI 0)), (6, .int l0), (7, .int (((l0 + (nI 17)) / (nI 18)) - (I 311 (6 + q))))]) hX dX6_moreOf_84 (by decide) rfl ?_
    refine g_iload hX dX6_moreOf_86 6 rfl ?_
    refine g_cz_ge (a := l0.toInt) (tgt := 95) hX dX6_moreOf_88 (by decide) rfl (fun h88 => ?_) (fun h88 => ?_)
    · refine g_iload hX dX6_moreOf_95 7 rfl ?_
      refine g_istore (L' := [(0, .ref 307), (1, .int (nI t)), (2, .int (nI x)), (3, .int (nI y)), (4, .int (nI q)), (5, .int (nI 0)), (6, .int l0), (7, .int (((l0 + (nI 17)) / (nI 18)) - (I 311 (6 + q))))]) hX dX6_moreOf_97 (by decide) rfl ?_
      refine g_iload hX dX6_moreOf_99 5 rfl ?_
      refine g_cz_eq (a := (0 : Int)) (tgt := 122) hX dX6_moreOf_101 (by decide) (by decide) (fun _ => ?_) (fun q => absurd q (by decide))
      refine g_ldc (v := -1000000) hX cX6_80 dX6_moreOf_122 ?_
      exact g_iret hX hR dX6_moreOf_124 (by decide) (by decide) ⟨congrArg (fun z => some (Value.int z)) rfl, rfl, rfl, rfl⟩
    · refine g_iconst (v := nI 0) hX dX6_moreOf_91 (by decide) ?_
      refine g_goto (tgt := 97) hX dX6_moreOf_92 (by decide) ?_
      refine g_istore (L' := [(0, .ref 307), (1, .int (nI t)), (2, .int (nI x)), (3, .int (nI y)), (4, .int (nI q)), (5, .int (nI 0)), (6, .int l0), (7, .int (nI 0))]) hX dX6_moreOf_97 (by decide) rfl ?_
      refine g_iload hX dX6_moreOf_99 5 rfl ?_
      refine g_cz_eq (a := (0 : Int)) (tgt := 122) hX dX6_moreOf_101 (by decide) (by decide) (fun _ => ?_) (fun q => absurd q (by decide))
      refine g_ldc (v := -1000000) hX cX6_80 dX6_moreOf_122 ?_
      exact g_iret hX hR dX6_moreOf_124 (by decide) (by decide) ⟨congrArg (fun z => some (Value.int z)) rfl, rfl, rfl, rfl⟩
  · refine g_aload_n hX dX6_moreOf_21 rfl 0 rfl ?_
    refine g_iload_n hX dX6_moreOf_22 rfl 1 rfl ?_
    refine g_callVi hX (as := [.int (nI t)]) (fun l => c_X6_mayBeCut l (I := I) (t := t) (ht := (by first | assumption | omega))) mX6_mayBeCut vX6_mayBeCut lX6_214 (by decide) (by decide) xCl6 rfl rfl dX6_moreOf_23 rfl (by decide) (Nat.le_of_ble_eq_true rfl) (by decide) (by decide) ?_
    refine g_cb_eq (tgt := 53) hX dX6_moreOf_26 (by decide) (fun h26 => ?_) (fun h26 => ?_)
    · refine g_iconst (v := nI 0) hX dX6_moreOf_53 (by decide) ?_
      refine g_istore (L' := [(0, .ref 307), (1, .int (nI t)), (2, .int (nI x)), (3, .int (nI y)), (4, .int (nI q)), (5, .int (nI 0))]) hX dX6_moreOf_54 (by decide) rfl ?_
      refine g_iload_n hX dX6_moreOf_56 rfl 3 rfl ?_
      refine g_iload_n hX dX6_moreOf_57 rfl 2 rfl ?_
      refine g_isub (v := zI (((y : Nat) : Int) - ((x : Nat) : Int))) hX dX6_moreOf_58 (zI_sub (((y : Nat) : Int)) (((x : Nat) : Int))) ?_
      refine g_iload hX dX6_moreOf_59 4 rfl ?_
      refine g_imul (v := zI ((((y : Nat) : Int) - ((x : Nat) : Int)) * ((q : Nat) : Int))) hX dX6_moreOf_61 (zI_mul ((((y : Nat) : Int) - ((x : Nat) : Int))) (((q : Nat) : Int))) ?_
      refine g_iload_n hX dX6_moreOf_62 rfl 2 rfl ?_
      refine g_bipush (v := nI 18) hX dX6_moreOf_63 (by decide) ?_
      refine g_imul (v := nI (x * 18)) hX dX6_moreOf_65 (nI_mul x 18) ?_
      obtain ⟨l0, hl0⟩ : ∃ l0, l0 = zI ((((y : Nat) : Int) - ((x : Nat) : Int)) * ((q : Nat) : Int)) + nI (x * 18) := ⟨_, rfl⟩
      refine g_iadd (v := l0) hX dX6_moreOf_66 hl0.symm ?_
      refine g_istore (L' := [(0, .ref 307), (1, .int (nI t)), (2, .int (nI x)), (3, .int (nI y)), (4, .int (nI q)), (5, .int (nI 0)), (6, .int l0)]) hX dX6_moreOf_67 (by decide) rfl ?_
      refine g_iload hX dX6_moreOf_69 6 rfl ?_
      refine g_bipush (v := nI 17) hX dX6_moreOf_71 (by decide) ?_
      refine g_iadd (v := l0 + (nI 17)) hX dX6_moreOf_73 rfl ?_
      refine g_bipush (v := nI 18) hX dX6_moreOf_74 (by decide) ?_
      refine g_idiv (v := (l0 + (nI 17)) / (nI 18)) hX dX6_moreOf_76 (by decide) rfl ?_
      refine g_aload_n hX dX6_moreOf_77 rfl 0 rfl ?_
      refine g_iload hX dX6_moreOf_78 4 rfl ?_
      refine g_callVi hX (as := [.int (nI q)]) (fun l => c_X6_ground l (I := I) (q := q) (hq := (by first | assumption | omega))) mX6_ground vX6_ground lX6_199 (by decide) (by decide) xCl6 rfl rfl dX6_moreOf_80 rfl (by decide) (Nat.le_of_ble_eq_true rfl) (by decide) (by decide) ?_
      refine g_isub (v := ((l0 + (nI 17)) / (nI 18)) - (I 311 (6 + q))) hX dX6_moreOf_83 rfl ?_
      refine g_istore (L' := [(0, .ref 307), (1, .int (nI t)), (2, .int (nI x)), (3, .int (nI y)), (4, .int (nI q)), (5, .int (nI 0)), (6, .int l0), (7, .int (((l0 + (nI 17)) / (nI 18)) - (I 311 (6 + q))))]) hX dX6_moreOf_84 (by decide) rfl ?_
      refine g_iload hX dX6_moreOf_86 6 rfl ?_
      refine g_cz_ge (a := l0.toInt) (tgt := 95) hX dX6_moreOf_88 (by decide) rfl (fun h88 => ?_) (fun h88 => ?_)
      · refine g_iload hX dX6_moreOf_95 7 rfl ?_
        refine g_istore (L' := [(0, .ref 307), (1, .int (nI t)), (2, .int (nI x)), (3, .int (nI y)), (4, .int (nI q)), (5, .int (nI 0)), (6, .int l0), (7, .int (((l0 + (nI 17)) / (nI 18)) - (I 311 (6 + q))))]) hX dX6_moreOf_97 (by decide) rfl ?_
        refine g_iload hX dX6_moreOf_99 5 rfl ?_
        refine g_cz_eq (a := (0 : Int)) (tgt := 122) hX dX6_moreOf_101 (by decide) (by decide) (fun _ => ?_) (fun q => absurd q (by decide))
        refine g_ldc (v := -1000000) hX cX6_80 dX6_moreOf_122 ?_
        exact g_iret hX hR dX6_moreOf_124 (by decide) (by decide) ⟨congrArg (fun z => some (Value.int z)) rfl, rfl, rfl, rfl⟩
      · refine g_iconst (v := nI 0) hX dX6_moreOf_91 (by decide) ?_
        refine g_goto (tgt := 97) hX dX6_moreOf_92 (by decide) ?_
        refine g_istore (L' := [(0, .ref 307), (1, .int (nI t)), (2, .int (nI x)), (3, .int (nI y)), (4, .int (nI q)), (5, .int (nI 0)), (6, .int l0), (7, .int (nI 0))]) hX dX6_moreOf_97 (by decide) rfl ?_
        refine g_iload hX dX6_moreOf_99 5 rfl ?_
        refine g_cz_eq (a := (0 : Int)) (tgt := 122) hX dX6_moreOf_101 (by decide) (by decide) (fun _ => ?_) (fun q => absurd q (by decide))
        refine g_ldc (v := -1000000) hX cX6_80 dX6_moreOf_122 ?_
        exact g_iret hX hR dX6_moreOf_124 (by decide) (by decide) ⟨congrArg (fun z => some (Value.int z)) rfl, rfl, rfl, rfl⟩
    · refine g_aload_n hX dX6_moreOf_29 rfl 0 rfl ?_
      refine g_iload_n hX dX6_moreOf_30 rfl 1 rfl ?_
      refine g_iconst (v := nI 0) hX dX6_moreOf_31 (by decide) ?_
      refine g_callVi hX (as := [.int (nI t), .int (nI 0)]) (fun l => c_X6_of l (I := I) (t := t) (w := 0) (ht := (by first | assumption | omega))) mX6_of vX6_of lX6_193 (by decide) (by decide) xCl6 rfl rfl dX6_moreOf_32 rfl (by decide) (Nat.le_of_ble_eq_true rfl) (by decide) (by decide) ?_
      refine g_iconst (v := nI 1) hX dX6_moreOf_35 (by decide) ?_
      refine g_ci_ne (a := (I 311 (26 + 5 * t + 0)).toInt) (b := (1 : Int)) (tgt := 49) hX dX6_moreOf_36 (by decide) rfl (by decide) (fun h36 => ?_) (fun h36 => ?_)
      · exfalso; omega
      · refine g_aload_n hX dX6_moreOf_39 rfl 0 rfl ?_
        refine g_getR (j := 311) hX (by decide) (by decide) xCl6 5 (by decide) (by decide) kX6_19 dX6_moreOf_40 rfl ?_
        refine g_iconst (v := nI 3) hX dX6_moreOf_43 (by decide) ?_
        refine g_iald (v := I 311 3) hX (by decide) (by decide) 3 rfl (by rw [(show xN 311 = 74 by decide)]; decide) dX6_moreOf_44 rfl ?_
        refine g_iconst (v := nI 1) hX dX6_moreOf_45 (by decide) ?_
        refine g_ci_eq (a := (I 311 3).toInt) (b := (1 : Int)) (tgt := 53) hX dX6_moreOf_46 (by decide) rfl (by decide) (fun h46 => ?_) (fun h46 => ?_)
        · refine g_iconst (v := nI 0) hX dX6_moreOf_53 (by decide) ?_
          refine g_istore (L' := [(0, .ref 307), (1, .int (nI t)), (2, .int (nI x)), (3, .int (nI y)), (4, .int (nI q)), (5, .int (nI 0))]) hX dX6_moreOf_54 (by decide) rfl ?_
          refine g_iload_n hX dX6_moreOf_56 rfl 3 rfl ?_
          refine g_iload_n hX dX6_moreOf_57 rfl 2 rfl ?_
          refine g_isub (v := zI (((y : Nat) : Int) - ((x : Nat) : Int))) hX dX6_moreOf_58 (zI_sub (((y : Nat) : Int)) (((x : Nat) : Int))) ?_
          refine g_iload hX dX6_moreOf_59 4 rfl ?_
          refine g_imul (v := zI ((((y : Nat) : Int) - ((x : Nat) : Int)) * ((q : Nat) : Int))) hX dX6_moreOf_61 (zI_mul ((((y : Nat) : Int) - ((x : Nat) : Int))) (((q : Nat) : Int))) ?_
          refine g_iload_n hX dX6_moreOf_62 rfl 2 rfl ?_
          refine g_bipush (v := nI 18) hX dX6_moreOf_63 (by decide) ?_
          refine g_imul (v := nI (x * 18)) hX dX6_moreOf_65 (nI_mul x 18) ?_
          obtain ⟨l0, hl0⟩ : ∃ l0, l0 = zI ((((y : Nat) : Int) - ((x : Nat) : Int)) * ((q : Nat) : Int)) + nI (x * 18) := ⟨_, rfl⟩
          refine g_iadd (v := l0) hX dX6_moreOf_66 hl0.symm ?_
          refine g_istore (L' := [(0, .ref 307), (1, .int (nI t)), (2, .int (nI x)), (3, .int (nI y)), (4, .int (nI q)), (5, .int (nI 0)), (6, .int l0)]) hX dX6_moreOf_67 (by decide) rfl ?_
          refine g_iload hX dX6_moreOf_69 6 rfl ?_
          refine g_bipush (v := nI 17) hX dX6_moreOf_71 (by decide) ?_
          refine g_iadd (v := l0 + (nI 17)) hX dX6_moreOf_73 rfl ?_
          refine g_bipush (v := nI 18) hX dX6_moreOf_74 (by decide) ?_
          refine g_idiv (v := (l0 + (nI 17)) / (nI 18)) hX dX6_moreOf_76 (by decide) rfl ?_
          refine g_aload_n hX dX6_moreOf_77 rfl 0 rfl ?_
          refine g_iload hX dX6_moreOf_78 4 rfl ?_
          refine g_callVi hX (as := [.int (nI q)]) (fun l => c_X6_ground l (I := I) (q := q) (hq := (by first | assumption | omega))) mX6_ground vX6_ground lX6_199 (by decide) (by decide) xCl6 rfl rfl dX6_moreOf_80 rfl (by decide) (Nat.le_of_ble_eq_true rfl) (by decide) (by decide) ?_
          refine g_isub (v := ((l0 + (nI 17)) / (nI 18)) - (I 311 (6 + q))) hX dX6_moreOf_83 rfl ?_
          refine g_istore (L' := [(0, .ref 307), (1, .int (nI t)), (2, .int (nI x)), (3, .int (nI y)), (4, .int (nI q)), (5, .int (nI 0)), (6, .int l0), (7, .int (((l0 + (nI 17)) / (nI 18)) - (I 311 (6 + q))))]) hX dX6_moreOf_84 (by decide) rfl ?_
          refine g_iload hX dX6_moreOf_86 6 rfl ?_
          refine g_cz_ge (a := l0.toInt) (tgt := 95) hX dX6_moreOf_88 (by decide) rfl (fun h88 => ?_) (fun h88 => ?_)
          · refine g_iload hX dX6_moreOf_95 7 rfl ?_
            refine g_istore (L' := [(0, .ref 307), (1, .int (nI t)), (2, .int (nI x)), (3, .int (nI y)), (4, .int (nI q)), (5, .int (nI 0)), (6, .int l0), (7, .int (((l0 + (nI 17)) / (nI 18)) - (I 311 (6 + q))))]) hX dX6_moreOf_97 (by decide) rfl ?_
            refine g_iload hX dX6_moreOf_99 5 rfl ?_
            refine g_cz_eq (a := (0 : Int)) (tgt := 122) hX dX6_moreOf_101 (by decide) (by decide) (fun _ => ?_) (fun q => absurd q (by decide))
            refine g_ldc (v := -1000000) hX cX6_80 dX6_moreOf_122 ?_
            exact g_iret hX hR dX6_moreOf_124 (by decide) (by decide) ⟨congrArg (fun z => some (Value.int z)) rfl, rfl, rfl, rfl⟩
          · refine g_iconst (v := nI 0) hX dX6_moreOf_91 (by decide) ?_
            refine g_goto (tgt := 97) hX dX6_moreOf_92 (by decide) ?_
            refine g_istore (L' := [(0, .ref 307), (1, .int (nI t)), (2, .int (nI x)), (3, .int (nI y)), (4, .int (nI q)), (5, .int (nI 0)), (6, .int l0), (7, .int (nI 0))]) hX dX6_moreOf_97 (by decide) rfl ?_
            refine g_iload hX dX6_moreOf_99 5 rfl ?_
            refine g_cz_eq (a := (0 : Int)) (tgt := 122) hX dX6_moreOf_101 (by decide) (by decide) (fun _ => ?_) (fun q => absurd q (by decide))
            refine g_ldc (v := -1000000) hX cX6_80 dX6_moreOf_122 ?_
            exact g_iret hX hR dX6_moreOf_124 (by decide) (by decide) ⟨congrArg (fun z => some (Value.int z)) rfl, rfl, rfl, rfl⟩
        · exfalso; omega

theorem c_X6_moreOf_no2 (l : Launch) {nw sp : Nat} {I : xM} {t x y q g : Nat} (ht : t < 6) (eq_ : I 311 (26 + 5 * t + 1) = nI q) (hq : q < 20) (eg : I 311 (6 + q) = nI g) (hg : g ≤ 60) (hx : x ≤ 1000) (hy : y ≤ 1000) (hm : ((1 ≤ q ∧ q ≤ 17) ∧ (((I 311) (26 + 5 * t + 0)).toInt ≠ 3 ∧ ((I 311) (26 + 5 * t + 0)).toInt ≠ 5) ∧ ¬ (((I 311) (26 + 5 * t + 0)).toInt = 1 ∧ ((I 311) 3).toInt = 1))) (hw : 99 + g < (lnN x y 18 q + 17) / 18) : xC l 3 0 0 yX6_moreOf cX6_moreOf 8 (some .int) 319 [.ref 307, .int (nI t), .int (nI x), .int (nI y)] I (xRL nw sp) (xpI (-1000000) 319 I (xRL nw sp)) := by
  refine xC_of (by decide) (Nat.le_of_ble_eq_true rfl) (fun X hXl hX hR => ?_)
  have hX : xOK X RX6 cX6_moreOf 8 3 0 0 := hX
  show G X 319 0 0 I (xRL nw sp) 0 [(0, .ref 307), (1, .int (nI t)), (2, .int (nI x)), (3, .int (nI y))] []
  have hln := lnN_le hx hy (show 18 ≤ 20 by decide) (show q ≤ 18 by omega)
  refine g_aload_n hX dX6_moreOf_0 rfl 0 rfl ?_
  refine g_iload_n hX dX6_moreOf_1 rfl 1 rfl ?_
  refine g_iconst (v := nI 1) hX dX6_moreOf_2 (by decide) ?_
  refine g_callVi hX (as := [.int (nI t), .int (nI 1)]) (fun l => c_X6_of l (I := I) (t := t) (w := 1) (ht := (by first | assumption | omega))) mX6_of vX6_of lX6_193 (by decide) (by decide) xCl6 rfl rfl dX6_moreOf_3 rfl (by decide) (Nat.le_of_ble_eq_true rfl) (by decide) (by decide) ?_
  refine g_top (y := nI q) eq_ ?_
  refine g_istore (L' := [(0, .ref 307), (1, .int (nI t)), (2, .int (nI x)), (3, .int (nI y)), (4, .int (nI q))]) hX dX6_moreOf_6 (by decide) rfl ?_
  refine g_iload hX dX6_moreOf_8 4 rfl ?_
  refine g_i2l (v := (nI q).toInt64) hX dX6_moreOf_10 rfl ?_
  refine g_lconst (v := 1) hX dX6_moreOf_11 (by decide) ?_
  refine g_ldc2 (v := 17) hX cX6_269 dX6_moreOf_12 ?_
  refine g_callSi (as := [.long ((nI q).toInt64), .long 1, .long (17)]) hX (fun l => c_X6_in l) mX6_in sX6_in lX6_54 rfl dX6_moreOf_15 rfl (by decide) (Nat.le_of_ble_eq_true rfl) (by decide) (by decide) ?_
  refine g_top (y := xb ((1 : Int) ≤ ((q : Nat) : Int) ∧ ((q : Nat) : Int) ≤ (17 : Int))) (xb_iffI ((i64_of _).trans (nI_toInt (by omega))) (by decide) (by decide)) ?_
  refine g_cb_eq (tgt := 53) hX dX6_moreOf_18 (by decide) (fun h18 => ?_) (fun h18 => ?_)
  · exfalso; omega
  · refine g_aload_n hX dX6_moreOf_21 rfl 0 rfl ?_
    refine g_iload_n hX dX6_moreOf_22 rfl 1 rfl ?_
    refine g_callVi hX (as := [.int (nI t)]) (fun l => c_X6_mayBeCut l (I := I) (t := t) (ht := (by first | assumption | omega))) mX6_mayBeCut vX6_mayBeCut lX6_214 (by decide) (by decide) xCl6 rfl rfl dX6_moreOf_23 rfl (by decide) (Nat.le_of_ble_eq_true rfl) (by decide) (by decide) ?_
    refine g_cb_eq (tgt := 53) hX dX6_moreOf_26 (by decide) (fun h26 => ?_) (fun h26 => ?_)
    · exfalso; omega
    · refine g_aload_n hX dX6_moreOf_29 rfl 0 rfl ?_
      refine g_iload_n hX dX6_moreOf_30 rfl 1 rfl ?_
      refine g_iconst (v := nI 0) hX dX6_moreOf_31 (by decide) ?_
      refine g_callVi hX (as := [.int (nI t), .int (nI 0)]) (fun l => c_X6_of l (I := I) (t := t) (w := 0) (ht := (by first | assumption | omega))) mX6_of vX6_of lX6_193 (by decide) (by decide) xCl6 rfl rfl dX6_moreOf_32 rfl (by decide) (Nat.le_of_ble_eq_true rfl) (by decide) (by decide) ?_
      refine g_iconst (v := nI 1) hX dX6_moreOf_35 (by decide) ?_
      refine g_ci_ne (a := (I 311 (26 + 5 * t + 0)).toInt) (b := (1 : Int)) (tgt := 49) hX dX6_moreOf_36 (by decide) rfl (by decide) (fun h36 => ?_) (fun h36 => ?_)
      · refine g_iconst (v := nI 1) hX dX6_moreOf_49 (by decide) ?_
        refine g_goto (tgt := 54) hX dX6_moreOf_50 (by decide) ?_
        refine g_istore (L' := [(0, .ref 307), (1, .int (nI t)), (2, .int (nI x)), (3, .int (nI y)), (4, .int (nI q)), (5, .int (nI 1))]) hX dX6_moreOf_54 (by decide) rfl ?_
        refine g_iload_n hX dX6_moreOf_56 rfl 3 rfl ?_
        refine g_iload_n hX dX6_moreOf_57 rfl 2 rfl ?_
        refine g_isub (v := zI (((y : Nat) : Int) - ((x : Nat) : Int))) hX dX6_moreOf_58 (zI_sub (((y : Nat) : Int)) (((x : Nat) : Int))) ?_
        refine g_iload hX dX6_moreOf_59 4 rfl ?_
        refine g_imul (v := zI ((((y : Nat) : Int) - ((x : Nat) : Int)) * ((q : Nat) : Int))) hX dX6_moreOf_61 (zI_mul ((((y : Nat) : Int) - ((x : Nat) : Int))) (((q : Nat) : Int))) ?_
        refine g_iload_n hX dX6_moreOf_62 rfl 2 rfl ?_
        refine g_bipush (v := nI 18) hX dX6_moreOf_63 (by decide) ?_
        refine g_imul (v := nI (x * 18)) hX dX6_moreOf_65 (nI_mul x 18) ?_
        refine g_iadd (v := nI (lnN x y 18 q)) hX dX6_moreOf_66 (ln_z (by omega)) ?_
        refine g_istore (L' := [(0, .ref 307), (1, .int (nI t)), (2, .int (nI x)), (3, .int (nI y)), (4, .int (nI q)), (5, .int (nI 1)), (6, .int (nI (lnN x y 18 q)))]) hX dX6_moreOf_67 (by decide) rfl ?_
        refine g_iload hX dX6_moreOf_69 6 rfl ?_
        refine g_bipush (v := nI 17) hX dX6_moreOf_71 (by decide) ?_
        refine g_iadd (v := nI ((lnN x y 18 q) + 17)) hX dX6_moreOf_73 (nI_add (lnN x y 18 q) 17) ?_
        refine g_bipush (v := nI 18) hX dX6_moreOf_74 (by decide) ?_
        refine g_idiv (v := nI ((lnN x y 18 q + 17) / 18)) hX dX6_moreOf_76 (by decide) (nI_div (by omega) (by decide)) ?_
        refine g_aload_n hX dX6_moreOf_77 rfl 0 rfl ?_
        refine g_iload hX dX6_moreOf_78 4 rfl ?_
        refine g_callVi hX (as := [.int (nI q)]) (fun l => c_X6_ground l (I := I) (q := q) (hq := (by first | assumption | omega))) mX6_ground vX6_ground lX6_199 (by decide) (by decide) xCl6 rfl rfl dX6_moreOf_80 rfl (by decide) (Nat.le_of_ble_eq_true rfl) (by decide) (by decide) ?_
        refine g_top (y := nI g) eg ?_
        refine g_isub (v := zI ((((lnN x y 18 q + 17) / 18 : Nat) : Int) - ((g : Nat) : Int))) hX dX6_moreOf_83 (zI_sub ((((lnN x y 18 q + 17) / 18 : Nat) : Int)) (((g : Nat) : Int))) ?_
        refine g_istore (L' := [(0, .ref 307), (1, .int (nI t)), (2, .int (nI x)), (3, .int (nI y)), (4, .int (nI q)), (5, .int (nI 1)), (6, .int (nI (lnN x y 18 q))), (7, .int (zI ((((lnN x y 18 q + 17) / 18 : Nat) : Int) - ((g : Nat) : Int))))]) hX dX6_moreOf_84 (by decide) rfl ?_
        refine g_iload hX dX6_moreOf_86 6 rfl ?_
        refine g_cz_ge (a := ((lnN x y 18 q : Nat) : Int)) (tgt := 95) hX dX6_moreOf_88 (by decide) (nI_toInt (by omega)) (fun h88 => ?_) (fun h88 => ?_)
        · refine g_iload hX dX6_moreOf_95 7 rfl ?_
          refine g_istore (L' := [(0, .ref 307), (1, .int (nI t)), (2, .int (nI x)), (3, .int (nI y)), (4, .int (nI q)), (5, .int (nI 1)), (6, .int (nI (lnN x y 18 q))), (7, .int (zI ((((lnN x y 18 q + 17) / 18 : Nat) : Int) - ((g : Nat) : Int))))]) hX dX6_moreOf_97 (by decide) rfl ?_
          refine g_iload hX dX6_moreOf_99 5 rfl ?_
          refine g_cz_eq (a := (1 : Int)) (tgt := 122) hX dX6_moreOf_101 (by decide) (by decide) (fun q => absurd q (by decide)) (fun _ => ?_)
          refine g_iload hX dX6_moreOf_104 7 rfl ?_
          refine g_bipush (v := nI 99) hX dX6_moreOf_106 (by decide) ?_
          refine g_ci_gt (a := ((((lnN x y 18 q + 17) / 18 : Nat) : Int) - ((g : Nat) : Int) : Int)) (b := (99 : Int)) (tgt := 122) hX dX6_moreOf_108 (by decide) (zI_toInt (by omega) (by omega)) (by decide) (fun h108 => ?_) (fun h108 => ?_)
          · refine g_ldc (v := -1000000) hX cX6_80 dX6_moreOf_122 ?_
            exact g_iret hX hR dX6_moreOf_124 (by decide) (by decide) ⟨congrArg (fun z => some (Value.int z)) rfl, rfl, rfl, rfl⟩
          · exfalso; omega
        · exfalso; omega
      · refine g_aload_n hX dX6_moreOf_39 rfl 0 rfl ?_
        refine g_getR (j := 311) hX (by decide) (by decide) xCl6 5 (by decide) (by decide) kX6_19 dX6_moreOf_40 rfl ?_
        refine g_iconst (v := nI 3) hX dX6_moreOf_43 (by decide) ?_
        refine g_iald (v := I 311 3) hX (by decide) (by decide) 3 rfl (by rw [(show xN 311 = 74 by decide)]; decide) dX6_moreOf_44 rfl ?_
        refine g_iconst (v := nI 1) hX dX6_moreOf_45 (by decide) ?_
        refine g_ci_eq (a := (I 311 3).toInt) (b := (1 : Int)) (tgt := 53) hX dX6_moreOf_46 (by decide) rfl (by decide) (fun h46 => ?_) (fun h46 => ?_)
        · exfalso; omega
        · refine g_iconst (v := nI 1) hX dX6_moreOf_49 (by decide) ?_
          refine g_goto (tgt := 54) hX dX6_moreOf_50 (by decide) ?_
          refine g_istore (L' := [(0, .ref 307), (1, .int (nI t)), (2, .int (nI x)), (3, .int (nI y)), (4, .int (nI q)), (5, .int (nI 1))]) hX dX6_moreOf_54 (by decide) rfl ?_
          refine g_iload_n hX dX6_moreOf_56 rfl 3 rfl ?_
          refine g_iload_n hX dX6_moreOf_57 rfl 2 rfl ?_
          refine g_isub (v := zI (((y : Nat) : Int) - ((x : Nat) : Int))) hX dX6_moreOf_58 (zI_sub (((y : Nat) : Int)) (((x : Nat) : Int))) ?_
          refine g_iload hX dX6_moreOf_59 4 rfl ?_
          refine g_imul (v := zI ((((y : Nat) : Int) - ((x : Nat) : Int)) * ((q : Nat) : Int))) hX dX6_moreOf_61 (zI_mul ((((y : Nat) : Int) - ((x : Nat) : Int))) (((q : Nat) : Int))) ?_
          refine g_iload_n hX dX6_moreOf_62 rfl 2 rfl ?_
          refine g_bipush (v := nI 18) hX dX6_moreOf_63 (by decide) ?_
          refine g_imul (v := nI (x * 18)) hX dX6_moreOf_65 (nI_mul x 18) ?_
          refine g_iadd (v := nI (lnN x y 18 q)) hX dX6_moreOf_66 (ln_z (by omega)) ?_
          refine g_istore (L' := [(0, .ref 307), (1, .int (nI t)), (2, .int (nI x)), (3, .int (nI y)), (4, .int (nI q)), (5, .int (nI 1)), (6, .int (nI (lnN x y 18 q)))]) hX dX6_moreOf_67 (by decide) rfl ?_
          refine g_iload hX dX6_moreOf_69 6 rfl ?_
          refine g_bipush (v := nI 17) hX dX6_moreOf_71 (by decide) ?_
          refine g_iadd (v := nI ((lnN x y 18 q) + 17)) hX dX6_moreOf_73 (nI_add (lnN x y 18 q) 17) ?_
          refine g_bipush (v := nI 18) hX dX6_moreOf_74 (by decide) ?_
          refine g_idiv (v := nI ((lnN x y 18 q + 17) / 18)) hX dX6_moreOf_76 (by decide) (nI_div (by omega) (by decide)) ?_
          refine g_aload_n hX dX6_moreOf_77 rfl 0 rfl ?_
          refine g_iload hX dX6_moreOf_78 4 rfl ?_
          refine g_callVi hX (as := [.int (nI q)]) (fun l => c_X6_ground l (I := I) (q := q) (hq := (by first | assumption | omega))) mX6_ground vX6_ground lX6_199 (by decide) (by decide) xCl6 rfl rfl dX6_moreOf_80 rfl (by decide) (Nat.le_of_ble_eq_true rfl) (by decide) (by decide) ?_
          refine g_top (y := nI g) eg ?_
          refine g_isub (v := zI ((((lnN x y 18 q + 17) / 18 : Nat) : Int) - ((g : Nat) : Int))) hX dX6_moreOf_83 (zI_sub ((((lnN x y 18 q + 17) / 18 : Nat) : Int)) (((g : Nat) : Int))) ?_
          refine g_istore (L' := [(0, .ref 307), (1, .int (nI t)), (2, .int (nI x)), (3, .int (nI y)), (4, .int (nI q)), (5, .int (nI 1)), (6, .int (nI (lnN x y 18 q))), (7, .int (zI ((((lnN x y 18 q + 17) / 18 : Nat) : Int) - ((g : Nat) : Int))))]) hX dX6_moreOf_84 (by decide) rfl ?_
          refine g_iload hX dX6_moreOf_86 6 rfl ?_
          refine g_cz_ge (a := ((lnN x y 18 q : Nat) : Int)) (tgt := 95) hX dX6_moreOf_88 (by decide) (nI_toInt (by omega)) (fun h88 => ?_) (fun h88 => ?_)
          · refine g_iload hX dX6_moreOf_95 7 rfl ?_
            refine g_istore (L' := [(0, .ref 307), (1, .int (nI t)), (2, .int (nI x)), (3, .int (nI y)), (4, .int (nI q)), (5, .int (nI 1)), (6, .int (nI (lnN x y 18 q))), (7, .int (zI ((((lnN x y 18 q + 17) / 18 : Nat) : Int) - ((g : Nat) : Int))))]) hX dX6_moreOf_97 (by decide) rfl ?_
            refine g_iload hX dX6_moreOf_99 5 rfl ?_
            refine g_cz_eq (a := (1 : Int)) (tgt := 122) hX dX6_moreOf_101 (by decide) (by decide) (fun q => absurd q (by decide)) (fun _ => ?_)
            refine g_iload hX dX6_moreOf_104 7 rfl ?_
            refine g_bipush (v := nI 99) hX dX6_moreOf_106 (by decide) ?_
            refine g_ci_gt (a := ((((lnN x y 18 q + 17) / 18 : Nat) : Int) - ((g : Nat) : Int) : Int)) (b := (99 : Int)) (tgt := 122) hX dX6_moreOf_108 (by decide) (zI_toInt (by omega) (by omega)) (by decide) (fun h108 => ?_) (fun h108 => ?_)
            · refine g_ldc (v := -1000000) hX cX6_80 dX6_moreOf_122 ?_
              exact g_iret hX hR dX6_moreOf_124 (by decide) (by decide) ⟨congrArg (fun z => some (Value.int z)) rfl, rfl, rfl, rfl⟩
            · exfalso; omega
          · exfalso; omega

theorem c_X6_moreOf_ok (l : Launch) {nw sp : Nat} {I : xM} {t x y q g : Nat} {h : Int} (ht : t < 6) (eq_ : I 311 (26 + 5 * t + 1) = nI q) (hq : q < 20) (eg : I 311 (6 + q) = nI g) (hg : g ≤ 60) (hx : x ≤ 1000) (hy : y ≤ 1000) (hm : ((1 ≤ q ∧ q ≤ 17) ∧ (((I 311) (26 + 5 * t + 0)).toInt ≠ 3 ∧ ((I 311) (26 + 5 * t + 0)).toInt ≠ 5) ∧ ¬ (((I 311) (26 + 5 * t + 0)).toInt = 1 ∧ ((I 311) 3).toInt = 1))) (hw : (lnN x y 18 q + 17) / 18 ≤ 99 + g) (hh : hgF (I 311) (I 315) t = zI h) (hh1 : -1000 ≤ h) (hh2 : h ≤ 1000) : xC l 3 0 0 yX6_moreOf cX6_moreOf 8 (some .int) 319 [.ref 307, .int (nI t), .int (nI x), .int (nI y)] I (xRL nw sp) (xpI (zI (((((lnN x y 18 q + 17) / 18 : Nat) : Int) - ((g : Nat) : Int)) - (h))) 319 I (xRL nw sp)) := by
  refine xC_of (by decide) (Nat.le_of_ble_eq_true rfl) (fun X hXl hX hR => ?_)
  have hX : xOK X RX6 cX6_moreOf 8 3 0 0 := hX
  show G X 319 0 0 I (xRL nw sp) 0 [(0, .ref 307), (1, .int (nI t)), (2, .int (nI x)), (3, .int (nI y))] []
  have hln := lnN_le hx hy (show 18 ≤ 20 by decide) (show q ≤ 18 by omega)
  refine g_aload_n hX dX6_moreOf_0 rfl 0 rfl ?_
  refine g_iload_n hX dX6_moreOf_1 rfl 1 rfl ?_
  refine g_iconst (v := nI 1) hX dX6_moreOf_2 (by decide) ?_
  refine g_callVi hX (as := [.int (nI t), .int (nI 1)]) (fun l => c_X6_of l (I := I) (t := t) (w := 1) (ht := (by first | assumption | omega))) mX6_of vX6_of lX6_193 (by decide) (by decide) xCl6 rfl rfl dX6_moreOf_3 rfl (by decide) (Nat.le_of_ble_eq_true rfl) (by decide) (by decide) ?_
  refine g_top (y := nI q) eq_ ?_
  refine g_istore (L' := [(0, .ref 307), (1, .int (nI t)), (2, .int (nI x)), (3, .int (nI y)), (4, .int (nI q))]) hX dX6_moreOf_6 (by decide) rfl ?_
  refine g_iload hX dX6_moreOf_8 4 rfl ?_
  refine g_i2l (v := (nI q).toInt64) hX dX6_moreOf_10 rfl ?_
  refine g_lconst (v := 1) hX dX6_moreOf_11 (by decide) ?_
  refine g_ldc2 (v := 17) hX cX6_269 dX6_moreOf_12 ?_
  refine g_callSi (as := [.long ((nI q).toInt64), .long 1, .long (17)]) hX (fun l => c_X6_in l) mX6_in sX6_in lX6_54 rfl dX6_moreOf_15 rfl (by decide) (Nat.le_of_ble_eq_true rfl) (by decide) (by decide) ?_
  refine g_top (y := xb ((1 : Int) ≤ ((q : Nat) : Int) ∧ ((q : Nat) : Int) ≤ (17 : Int))) (xb_iffI ((i64_of _).trans (nI_toInt (by omega))) (by decide) (by decide)) ?_
  refine g_cb_eq (tgt := 53) hX dX6_moreOf_18 (by decide) (fun h18 => ?_) (fun h18 => ?_)
  · exfalso; omega
  · refine g_aload_n hX dX6_moreOf_21 rfl 0 rfl ?_
    refine g_iload_n hX dX6_moreOf_22 rfl 1 rfl ?_
    refine g_callVi hX (as := [.int (nI t)]) (fun l => c_X6_mayBeCut l (I := I) (t := t) (ht := (by first | assumption | omega))) mX6_mayBeCut vX6_mayBeCut lX6_214 (by decide) (by decide) xCl6 rfl rfl dX6_moreOf_23 rfl (by decide) (Nat.le_of_ble_eq_true rfl) (by decide) (by decide) ?_
    refine g_cb_eq (tgt := 53) hX dX6_moreOf_26 (by decide) (fun h26 => ?_) (fun h26 => ?_)
    · exfalso; omega
    · refine g_aload_n hX dX6_moreOf_29 rfl 0 rfl ?_
      refine g_iload_n hX dX6_moreOf_30 rfl 1 rfl ?_
      refine g_iconst (v := nI 0) hX dX6_moreOf_31 (by decide) ?_
      refine g_callVi hX (as := [.int (nI t), .int (nI 0)]) (fun l => c_X6_of l (I := I) (t := t) (w := 0) (ht := (by first | assumption | omega))) mX6_of vX6_of lX6_193 (by decide) (by decide) xCl6 rfl rfl dX6_moreOf_32 rfl (by decide) (Nat.le_of_ble_eq_true rfl) (by decide) (by decide) ?_
      refine g_iconst (v := nI 1) hX dX6_moreOf_35 (by decide) ?_
      refine g_ci_ne (a := (I 311 (26 + 5 * t + 0)).toInt) (b := (1 : Int)) (tgt := 49) hX dX6_moreOf_36 (by decide) rfl (by decide) (fun h36 => ?_) (fun h36 => ?_)
      · refine g_iconst (v := nI 1) hX dX6_moreOf_49 (by decide) ?_
        refine g_goto (tgt := 54) hX dX6_moreOf_50 (by decide) ?_
        refine g_istore (L' := [(0, .ref 307), (1, .int (nI t)), (2, .int (nI x)), (3, .int (nI y)), (4, .int (nI q)), (5, .int (nI 1))]) hX dX6_moreOf_54 (by decide) rfl ?_
        refine g_iload_n hX dX6_moreOf_56 rfl 3 rfl ?_
        refine g_iload_n hX dX6_moreOf_57 rfl 2 rfl ?_
        refine g_isub (v := zI (((y : Nat) : Int) - ((x : Nat) : Int))) hX dX6_moreOf_58 (zI_sub (((y : Nat) : Int)) (((x : Nat) : Int))) ?_
        refine g_iload hX dX6_moreOf_59 4 rfl ?_
        refine g_imul (v := zI ((((y : Nat) : Int) - ((x : Nat) : Int)) * ((q : Nat) : Int))) hX dX6_moreOf_61 (zI_mul ((((y : Nat) : Int) - ((x : Nat) : Int))) (((q : Nat) : Int))) ?_
        refine g_iload_n hX dX6_moreOf_62 rfl 2 rfl ?_
        refine g_bipush (v := nI 18) hX dX6_moreOf_63 (by decide) ?_
        refine g_imul (v := nI (x * 18)) hX dX6_moreOf_65 (nI_mul x 18) ?_
        refine g_iadd (v := nI (lnN x y 18 q)) hX dX6_moreOf_66 (ln_z (by omega)) ?_
        refine g_istore (L' := [(0, .ref 307), (1, .int (nI t)), (2, .int (nI x)), (3, .int (nI y)), (4, .int (nI q)), (5, .int (nI 1)), (6, .int (nI (lnN x y 18 q)))]) hX dX6_moreOf_67 (by decide) rfl ?_
        refine g_iload hX dX6_moreOf_69 6 rfl ?_
        refine g_bipush (v := nI 17) hX dX6_moreOf_71 (by decide) ?_
        refine g_iadd (v := nI ((lnN x y 18 q) + 17)) hX dX6_moreOf_73 (nI_add (lnN x y 18 q) 17) ?_
        refine g_bipush (v := nI 18) hX dX6_moreOf_74 (by decide) ?_
        refine g_idiv (v := nI ((lnN x y 18 q + 17) / 18)) hX dX6_moreOf_76 (by decide) (nI_div (by omega) (by decide)) ?_
        refine g_aload_n hX dX6_moreOf_77 rfl 0 rfl ?_
        refine g_iload hX dX6_moreOf_78 4 rfl ?_
        refine g_callVi hX (as := [.int (nI q)]) (fun l => c_X6_ground l (I := I) (q := q) (hq := (by first | assumption | omega))) mX6_ground vX6_ground lX6_199 (by decide) (by decide) xCl6 rfl rfl dX6_moreOf_80 rfl (by decide) (Nat.le_of_ble_eq_true rfl) (by decide) (by decide) ?_
        refine g_top (y := nI g) eg ?_
        refine g_isub (v := zI ((((lnN x y 18 q + 17) / 18 : Nat) : Int) - ((g : Nat) : Int))) hX dX6_moreOf_83 (zI_sub ((((lnN x y 18 q + 17) / 18 : Nat) : Int)) (((g : Nat) : Int))) ?_
        refine g_istore (L' := [(0, .ref 307), (1, .int (nI t)), (2, .int (nI x)), (3, .int (nI y)), (4, .int (nI q)), (5, .int (nI 1)), (6, .int (nI (lnN x y 18 q))), (7, .int (zI ((((lnN x y 18 q + 17) / 18 : Nat) : Int) - ((g : Nat) : Int))))]) hX dX6_moreOf_84 (by decide) rfl ?_
        refine g_iload hX dX6_moreOf_86 6 rfl ?_
        refine g_cz_ge (a := ((lnN x y 18 q : Nat) : Int)) (tgt := 95) hX dX6_moreOf_88 (by decide) (nI_toInt (by omega)) (fun h88 => ?_) (fun h88 => ?_)
        · refine g_iload hX dX6_moreOf_95 7 rfl ?_
          refine g_istore (L' := [(0, .ref 307), (1, .int (nI t)), (2, .int (nI x)), (3, .int (nI y)), (4, .int (nI q)), (5, .int (nI 1)), (6, .int (nI (lnN x y 18 q))), (7, .int (zI ((((lnN x y 18 q + 17) / 18 : Nat) : Int) - ((g : Nat) : Int))))]) hX dX6_moreOf_97 (by decide) rfl ?_
          refine g_iload hX dX6_moreOf_99 5 rfl ?_
          refine g_cz_eq (a := (1 : Int)) (tgt := 122) hX dX6_moreOf_101 (by decide) (by decide) (fun q => absurd q (by decide)) (fun _ => ?_)
          refine g_iload hX dX6_moreOf_104 7 rfl ?_
          refine g_bipush (v := nI 99) hX dX6_moreOf_106 (by decide) ?_
          refine g_ci_gt (a := ((((lnN x y 18 q + 17) / 18 : Nat) : Int) - ((g : Nat) : Int) : Int)) (b := (99 : Int)) (tgt := 122) hX dX6_moreOf_108 (by decide) (zI_toInt (by omega) (by omega)) (by decide) (fun h108 => ?_) (fun h108 => ?_)
          · exfalso; omega
          · refine g_iload hX dX6_moreOf_111 7 rfl ?_
            refine g_aload_n hX dX6_moreOf_113 rfl 0 rfl ?_
            refine g_iload_n hX dX6_moreOf_114 rfl 1 rfl ?_
            refine g_callVi hX (as := [.int (nI t)]) (fun l => c_X6_height l (I := I) (t := t) (ht := (by first | assumption | omega))) mX6_height vX6_height lX6_202 (by decide) (by decide) xCl6 rfl rfl dX6_moreOf_115 rfl (by decide) (Nat.le_of_ble_eq_true rfl) (by decide) (by decide) ?_
            refine g_top (y := zI h) hh ?_
            refine g_isub (v := zI (((((lnN x y 18 q + 17) / 18 : Nat) : Int) - ((g : Nat) : Int)) - (h))) hX dX6_moreOf_118 (zI_sub (((((lnN x y 18 q + 17) / 18 : Nat) : Int) - ((g : Nat) : Int))) ((h))) ?_
            refine g_goto (tgt := 124) hX dX6_moreOf_119 (by decide) ?_
            exact g_iret hX hR dX6_moreOf_124 (by decide) (by decide) ⟨congrArg (fun z => some (Value.int z)) rfl, rfl, rfl, rfl⟩
        · exfalso; omega
      · refine g_aload_n hX dX6_moreOf_39 rfl 0 rfl ?_
        refine g_getR (j := 311) hX (by decide) (by decide) xCl6 5 (by decide) (by decide) kX6_19 dX6_moreOf_40 rfl ?_
        refine g_iconst (v := nI 3) hX dX6_moreOf_43 (by decide) ?_
        refine g_iald (v := I 311 3) hX (by decide) (by decide) 3 rfl (by rw [(show xN 311 = 74 by decide)]; decide) dX6_moreOf_44 rfl ?_
        refine g_iconst (v := nI 1) hX dX6_moreOf_45 (by decide) ?_
        refine g_ci_eq (a := (I 311 3).toInt) (b := (1 : Int)) (tgt := 53) hX dX6_moreOf_46 (by decide) rfl (by decide) (fun h46 => ?_) (fun h46 => ?_)
        · exfalso; omega
        · refine g_iconst (v := nI 1) hX dX6_moreOf_49 (by decide) ?_
          refine g_goto (tgt := 54) hX dX6_moreOf_50 (by decide) ?_
          refine g_istore (L' := [(0, .ref 307), (1, .int (nI t)), (2, .int (nI x)), (3, .int (nI y)), (4, .int (nI q)), (5, .int (nI 1))]) hX dX6_moreOf_54 (by decide) rfl ?_
          refine g_iload_n hX dX6_moreOf_56 rfl 3 rfl ?_
          refine g_iload_n hX dX6_moreOf_57 rfl 2 rfl ?_
          refine g_isub (v := zI (((y : Nat) : Int) - ((x : Nat) : Int))) hX dX6_moreOf_58 (zI_sub (((y : Nat) : Int)) (((x : Nat) : Int))) ?_
          refine g_iload hX dX6_moreOf_59 4 rfl ?_
          refine g_imul (v := zI ((((y : Nat) : Int) - ((x : Nat) : Int)) * ((q : Nat) : Int))) hX dX6_moreOf_61 (zI_mul ((((y : Nat) : Int) - ((x : Nat) : Int))) (((q : Nat) : Int))) ?_
          refine g_iload_n hX dX6_moreOf_62 rfl 2 rfl ?_
          refine g_bipush (v := nI 18) hX dX6_moreOf_63 (by decide) ?_
          refine g_imul (v := nI (x * 18)) hX dX6_moreOf_65 (nI_mul x 18) ?_
          refine g_iadd (v := nI (lnN x y 18 q)) hX dX6_moreOf_66 (ln_z (by omega)) ?_
          refine g_istore (L' := [(0, .ref 307), (1, .int (nI t)), (2, .int (nI x)), (3, .int (nI y)), (4, .int (nI q)), (5, .int (nI 1)), (6, .int (nI (lnN x y 18 q)))]) hX dX6_moreOf_67 (by decide) rfl ?_
          refine g_iload hX dX6_moreOf_69 6 rfl ?_
          refine g_bipush (v := nI 17) hX dX6_moreOf_71 (by decide) ?_
          refine g_iadd (v := nI ((lnN x y 18 q) + 17)) hX dX6_moreOf_73 (nI_add (lnN x y 18 q) 17) ?_
          refine g_bipush (v := nI 18) hX dX6_moreOf_74 (by decide) ?_
          refine g_idiv (v := nI ((lnN x y 18 q + 17) / 18)) hX dX6_moreOf_76 (by decide) (nI_div (by omega) (by decide)) ?_
          refine g_aload_n hX dX6_moreOf_77 rfl 0 rfl ?_
          refine g_iload hX dX6_moreOf_78 4 rfl ?_
          refine g_callVi hX (as := [.int (nI q)]) (fun l => c_X6_ground l (I := I) (q := q) (hq := (by first | assumption | omega))) mX6_ground vX6_ground lX6_199 (by decide) (by decide) xCl6 rfl rfl dX6_moreOf_80 rfl (by decide) (Nat.le_of_ble_eq_true rfl) (by decide) (by decide) ?_
          refine g_top (y := nI g) eg ?_
          refine g_isub (v := zI ((((lnN x y 18 q + 17) / 18 : Nat) : Int) - ((g : Nat) : Int))) hX dX6_moreOf_83 (zI_sub ((((lnN x y 18 q + 17) / 18 : Nat) : Int)) (((g : Nat) : Int))) ?_
          refine g_istore (L' := [(0, .ref 307), (1, .int (nI t)), (2, .int (nI x)), (3, .int (nI y)), (4, .int (nI q)), (5, .int (nI 1)), (6, .int (nI (lnN x y 18 q))), (7, .int (zI ((((lnN x y 18 q + 17) / 18 : Nat) : Int) - ((g : Nat) : Int))))]) hX dX6_moreOf_84 (by decide) rfl ?_
          refine g_iload hX dX6_moreOf_86 6 rfl ?_
          refine g_cz_ge (a := ((lnN x y 18 q : Nat) : Int)) (tgt := 95) hX dX6_moreOf_88 (by decide) (nI_toInt (by omega)) (fun h88 => ?_) (fun h88 => ?_)
          · refine g_iload hX dX6_moreOf_95 7 rfl ?_
            refine g_istore (L' := [(0, .ref 307), (1, .int (nI t)), (2, .int (nI x)), (3, .int (nI y)), (4, .int (nI q)), (5, .int (nI 1)), (6, .int (nI (lnN x y 18 q))), (7, .int (zI ((((lnN x y 18 q + 17) / 18 : Nat) : Int) - ((g : Nat) : Int))))]) hX dX6_moreOf_97 (by decide) rfl ?_
            refine g_iload hX dX6_moreOf_99 5 rfl ?_
            refine g_cz_eq (a := (1 : Int)) (tgt := 122) hX dX6_moreOf_101 (by decide) (by decide) (fun q => absurd q (by decide)) (fun _ => ?_)
            refine g_iload hX dX6_moreOf_104 7 rfl ?_
            refine g_bipush (v := nI 99) hX dX6_moreOf_106 (by decide) ?_
            refine g_ci_gt (a := ((((lnN x y 18 q + 17) / 18 : Nat) : Int) - ((g : Nat) : Int) : Int)) (b := (99 : Int)) (tgt := 122) hX dX6_moreOf_108 (by decide) (zI_toInt (by omega) (by omega)) (by decide) (fun h108 => ?_) (fun h108 => ?_)
            · exfalso; omega
            · refine g_iload hX dX6_moreOf_111 7 rfl ?_
              refine g_aload_n hX dX6_moreOf_113 rfl 0 rfl ?_
              refine g_iload_n hX dX6_moreOf_114 rfl 1 rfl ?_
              refine g_callVi hX (as := [.int (nI t)]) (fun l => c_X6_height l (I := I) (t := t) (ht := (by first | assumption | omega))) mX6_height vX6_height lX6_202 (by decide) (by decide) xCl6 rfl rfl dX6_moreOf_115 rfl (by decide) (Nat.le_of_ble_eq_true rfl) (by decide) (by decide) ?_
              refine g_top (y := zI h) hh ?_
              refine g_isub (v := zI (((((lnN x y 18 q + 17) / 18 : Nat) : Int) - ((g : Nat) : Int)) - (h))) hX dX6_moreOf_118 (zI_sub (((((lnN x y 18 q + 17) / 18 : Nat) : Int) - ((g : Nat) : Int))) ((h))) ?_
              refine g_goto (tgt := 124) hX dX6_moreOf_119 (by decide) ?_
              exact g_iret hX hR dX6_moreOf_124 (by decide) (by decide) ⟨congrArg (fun z => some (Value.int z)) rfl, rfl, rfl, rfl⟩
          · exfalso; omega

theorem c_X6_moreOf (l : Launch) {nw sp : Nat} {I : xM} {t x y T S F W : Nat} (hW : WF (I 311) T S F W) (hB : BD (I 311) T S) (ht : t < T) (hh1 : -200 ≤ (hgF (I 311) (I 315) t).toInt) (hh2 : (hgF (I 311) (I 315) t).toInt ≤ 99) (hx : x ≤ 1000) (hy : y ≤ 1000) : xC l 3 0 0 yX6_moreOf cX6_moreOf 8 (some .int) 319 [.ref 307, .int (nI t), .int (nI x), .int (nI y)] I (xRL nw sp) (xpI (oZ (-1000000) (rvO (I 311) (I 315) x y t)) 319 I (xRL nw sp)) := by
  obtain ⟨e, h20⟩ := hW.stn ht
  have hT6 := hW.T6
  have hg := hB.gl h20
  rcases Classical.em (rvC (I 311) t) with hc | hc
  · rcases Nat.lt_or_ge (99 + gN (I 311) (stN (I 311) t)) (rvW (I 311) x y t) with hw | hw
    · rw [rvO_f (fun q => Nat.not_le.mpr hw q.2)]
      exact (c_X6_moreOf_no2 l (q := stN (I 311) t) (ht := by omega) (eq_ := e) (hq := h20) (eg := hB.gr h20) (hg := hg) (hx := hx) (hy := hy) (hm := hc) (hw := hw))
    · rw [rvO_t hc hw]
      exact (c_X6_moreOf_ok l (q := stN (I 311) t) (ht := by omega) (eq_ := e) (hq := h20) (eg := hB.gr h20) (hg := hg) (hx := hx) (hy := hy) (hm := hc) (hw := hw) (hh := (zI_of _).symm) (hh1 := by omega) (hh2 := by omega))
  · rw [rvO_f (fun q => hc q.1)]
    exact (c_X6_moreOf_no1 l (q := stN (I 311) t) (ht := by omega) (eq_ := e) (hq := h20) (eg := hB.gr h20) (hg := hg) (hx := hx) (hy := hy) (hm := hc))

theorem c_X5_hidingBy_no1 (l : Launch) {nw sp : Nat} {I : xM} {T S F W : Nat} {f : Nat → Int32} {t x y q : Nat} (hnw : xG nw) (hG : GX I nw f T S F W) (hW : WF f T S F W) (hB : BD f T S) (ht : t < T) (eq_ : f (26 + 5 * t + 1) = nI q) (hq : q < 20) (hx : x ≤ 1000) (hy : y ≤ 1000) (hm : ¬ ((1 ≤ q ∧ q ≤ 17) ∧ ((f (26 + 5 * t + 0)).toInt ≠ 3 ∧ (f (26 + 5 * t + 0)).toInt ≠ 5) ∧ ¬ ((f (26 + 5 * t + 0)).toInt = 1 ∧ (f 3).toInt = 1))) : xC l 3 0 0 yX5_hidingBy cX5_hidingBy 7 (some .int) 319 [.ref 0, .int (nI t), .int (nI x), .int (nI y)] I (xRL nw sp) (xpI (nI 1000) 319 I (xRL nw sp)) := by
  refine xC_of (by decide) (Nat.le_of_ble_eq_true rfl) (fun X hXl hX hR => ?_)
  have hX : xOK X RX5 cX5_hidingBy 7 3 0 0 := hX
  show G X 319 0 0 I (xRL nw sp) 0 [(0, .ref 0), (1, .int (nI t)), (2, .int (nI x)), (3, .int (nI y))] []
  have hg8 := xG_8 hnw
  have hT6 := hW.T6
  have hS6 := hW.S6
  have hwi := hW.wi
  refine g_aload_n hX dX5_hidingBy_0 rfl 0 rfl ?_
  refine g_getR (j := nw) hX (by decide) (by decide) xCl5 4 (by decide) (by decide) kX5_39 dX5_hidingBy_1 rfl ?_
  refine g_getR (j := nw + 3) hX (xG_n (j := 0) hnw (by decide)) (xG_K0 hnw) xCl0 5 (by decide) (by decide) kX5_168 dX5_hidingBy_4 (xRL_g5 hnw) ?_
  refine g_iload_n hX dX5_hidingBy_7 rfl 1 rfl ?_
  refine g_iald (v := nI q) hX (xG_n (j := 3) hnw (by decide)) (xG_K3 hnw) t rfl (by rw [(xG_N3 hnw)]; omega) dX5_hidingBy_8 ((hG.k1 ht).trans eq_) ?_
  refine g_istore (L' := [(0, .ref 0), (1, .int (nI t)), (2, .int (nI x)), (3, .int (nI y)), (4, .int (nI q))]) hX dX5_hidingBy_9 (by decide) rfl ?_
  refine g_aload_n hX dX5_hidingBy_11 rfl 0 rfl ?_
  refine g_getR (j := nw) hX (by decide) (by decide) xCl5 4 (by decide) (by decide) kX5_39 dX5_hidingBy_12 rfl ?_
  refine g_getI (v := f 3) hX (xG_n (j := 0) hnw (by decide)) (xG_K0 hnw) xCl0 14 (by decide) (by decide) kX5_146 dX5_hidingBy_15 hG.wi ?_
  refine g_cz_eq (a := (f 3).toInt) (tgt := 38) hX dX5_hidingBy_18 (by decide) rfl (fun h18 => ?_) (fun h18 => ?_)
  · refine g_iconst (v := nI 0) hX dX5_hidingBy_38 (by decide) ?_
    refine g_istore (L' := [(0, .ref 0), (1, .int (nI t)), (2, .int (nI x)), (3, .int (nI y)), (4, .int (nI q)), (5, .int (nI 0))]) hX dX5_hidingBy_39 (by decide) rfl ?_
    refine g_iload hX dX5_hidingBy_41 4 rfl ?_
    refine g_iconst (v := nI 1) hX dX5_hidingBy_43 (by decide) ?_
    refine g_ci_lt (a := ((q : Nat) : Int)) (b := (1 : Int)) (tgt := 70) hX dX5_hidingBy_44 (by decide) (nI_toInt (by omega)) (by decide) (fun h44 => ?_) (fun h44 => ?_)
    · refine g_sipush (v := nI 1000) hX dX5_hidingBy_70 (by decide) ?_
      exact g_iret hX hR dX5_hidingBy_73 (by decide) (by decide) ⟨congrArg (fun z => some (Value.int z)) rfl, rfl, rfl, rfl⟩
    · refine g_iload hX dX5_hidingBy_47 4 rfl ?_
      refine g_bipush (v := nI 18) hX dX5_hidingBy_49 (by decide) ?_
      refine g_ci_ge (a := ((q : Nat) : Int)) (b := (18 : Int)) (tgt := 70) hX dX5_hidingBy_51 (by decide) (nI_toInt (by omega)) (by decide) (fun h51 => ?_) (fun h51 => ?_)
      · refine g_sipush (v := nI 1000) hX dX5_hidingBy_70 (by decide) ?_
        exact g_iret hX hR dX5_hidingBy_73 (by decide) (by decide) ⟨congrArg (fun z => some (Value.int z)) rfl, rfl, rfl, rfl⟩
      · refine g_iload hX dX5_hidingBy_54 5 rfl ?_
        refine g_cz_ne (a := (0 : Int)) (tgt := 70) hX dX5_hidingBy_56 (by decide) (by decide) (fun q => absurd q (by decide)) (fun _ => ?_)
        refine g_aload_n hX dX5_hidingBy_59 rfl 0 rfl ?_
        refine g_getR (j := nw) hX (by decide) (by decide) xCl5 4 (by decide) (by decide) kX5_39 dX5_hidingBy_60 rfl ?_
        refine g_iload_n hX dX5_hidingBy_63 rfl 1 rfl ?_
        refine g_callVi hX (as := [.int (nI t)]) (fun l => c_X0_mayBeCut_t l (I := I) (g := nw) (T := T) (S := S) (F := F) (W := W) (f := f) (t := t) (hg := hnw) (hG := (by first | assumption | omega)) (hW := (by first | assumption | omega)) (ht := (by first | assumption | omega))) mX0_mayBeCut vX0_mayBeCut lX5_152 (xG_n (j := 0) hnw (by decide)) (xG_K0 hnw) xCl0 rfl rfl dX5_hidingBy_64 rfl (by decide) (Nat.le_of_ble_eq_true rfl) (by decide) (by decide) ?_
        refine g_cb_ne (tgt := 74) hX dX5_hidingBy_67 (by decide) (fun h67 => ?_) (fun h67 => ?_)
        · exfalso; omega
        · refine g_sipush (v := nI 1000) hX dX5_hidingBy_70 (by decide) ?_
          exact g_iret hX hR dX5_hidingBy_73 (by decide) (by decide) ⟨congrArg (fun z => some (Value.int z)) rfl, rfl, rfl, rfl⟩
  · refine g_aload_n hX dX5_hidingBy_21 rfl 0 rfl ?_
    refine g_getR (j := nw) hX (by decide) (by decide) xCl5 4 (by decide) (by decide) kX5_39 dX5_hidingBy_22 rfl ?_
    refine g_getR (j := nw + 2) hX (xG_n (j := 0) hnw (by decide)) (xG_K0 hnw) xCl0 4 (by decide) (by decide) kX5_244 dX5_hidingBy_25 (xRL_g4 hnw) ?_
    refine g_iload_n hX dX5_hidingBy_28 rfl 1 rfl ?_
    refine g_iald (v := f (26 + 5 * t + 0)) hX (xG_n (j := 2) hnw (by decide)) (xG_K2 hnw) t rfl (by rw [(xG_N2 hnw)]; omega) dX5_hidingBy_29 (hG.k0 (by omega)) ?_
    refine g_iconst (v := nI 1) hX dX5_hidingBy_30 (by decide) ?_
    refine g_ci_ne (a := (f (26 + 5 * t + 0)).toInt) (b := (1 : Int)) (tgt := 38) hX dX5_hidingBy_31 (by decide) rfl (by decide) (fun h31 => ?_) (fun h31 => ?_)
    · refine g_iconst (v := nI 0) hX dX5_hidingBy_38 (by decide) ?_
      refine g_istore (L' := [(0, .ref 0), (1, .int (nI t)), (2, .int (nI x)), (3, .int (nI y)), (4, .int (nI q)), (5, .int (nI 0))]) hX dX5_hidingBy_39 (by decide) rfl ?_
      refine g_iload hX dX5_hidingBy_41 4 rfl ?_
      refine g_iconst (v := nI 1) hX dX5_hidingBy_43 (by decide) ?_
      refine g_ci_lt (a := ((q : Nat) : Int)) (b := (1 : Int)) (tgt := 70) hX dX5_hidingBy_44 (by decide) (nI_toInt (by omega)) (by decide) (fun h44 => ?_) (fun h44 => ?_)
      · refine g_sipush (v := nI 1000) hX dX5_hidingBy_70 (by decide) ?_
        exact g_iret hX hR dX5_hidingBy_73 (by decide) (by decide) ⟨congrArg (fun z => some (Value.int z)) rfl, rfl, rfl, rfl⟩
      · refine g_iload hX dX5_hidingBy_47 4 rfl ?_
        refine g_bipush (v := nI 18) hX dX5_hidingBy_49 (by decide) ?_
        refine g_ci_ge (a := ((q : Nat) : Int)) (b := (18 : Int)) (tgt := 70) hX dX5_hidingBy_51 (by decide) (nI_toInt (by omega)) (by decide) (fun h51 => ?_) (fun h51 => ?_)
        · refine g_sipush (v := nI 1000) hX dX5_hidingBy_70 (by decide) ?_
          exact g_iret hX hR dX5_hidingBy_73 (by decide) (by decide) ⟨congrArg (fun z => some (Value.int z)) rfl, rfl, rfl, rfl⟩
        · refine g_iload hX dX5_hidingBy_54 5 rfl ?_
          refine g_cz_ne (a := (0 : Int)) (tgt := 70) hX dX5_hidingBy_56 (by decide) (by decide) (fun q => absurd q (by decide)) (fun _ => ?_)
          refine g_aload_n hX dX5_hidingBy_59 rfl 0 rfl ?_
          refine g_getR (j := nw) hX (by decide) (by decide) xCl5 4 (by decide) (by decide) kX5_39 dX5_hidingBy_60 rfl ?_
          refine g_iload_n hX dX5_hidingBy_63 rfl 1 rfl ?_
          refine g_callVi hX (as := [.int (nI t)]) (fun l => c_X0_mayBeCut_t l (I := I) (g := nw) (T := T) (S := S) (F := F) (W := W) (f := f) (t := t) (hg := hnw) (hG := (by first | assumption | omega)) (hW := (by first | assumption | omega)) (ht := (by first | assumption | omega))) mX0_mayBeCut vX0_mayBeCut lX5_152 (xG_n (j := 0) hnw (by decide)) (xG_K0 hnw) xCl0 rfl rfl dX5_hidingBy_64 rfl (by decide) (Nat.le_of_ble_eq_true rfl) (by decide) (by decide) ?_
          refine g_cb_ne (tgt := 74) hX dX5_hidingBy_67 (by decide) (fun h67 => ?_) (fun h67 => ?_)
          · exfalso; omega
          · refine g_sipush (v := nI 1000) hX dX5_hidingBy_70 (by decide) ?_
            exact g_iret hX hR dX5_hidingBy_73 (by decide) (by decide) ⟨congrArg (fun z => some (Value.int z)) rfl, rfl, rfl, rfl⟩
    · refine g_iconst (v := nI 1) hX dX5_hidingBy_34 (by decide) ?_
      refine g_goto (tgt := 39) hX dX5_hidingBy_35 (by decide) ?_
      refine g_istore (L' := [(0, .ref 0), (1, .int (nI t)), (2, .int (nI x)), (3, .int (nI y)), (4, .int (nI q)), (5, .int (nI 1))]) hX dX5_hidingBy_39 (by decide) rfl ?_
      refine g_iload hX dX5_hidingBy_41 4 rfl ?_
      refine g_iconst (v := nI 1) hX dX5_hidingBy_43 (by decide) ?_
      refine g_ci_lt (a := ((q : Nat) : Int)) (b := (1 : Int)) (tgt := 70) hX dX5_hidingBy_44 (by decide) (nI_toInt (by omega)) (by decide) (fun h44 => ?_) (fun h44 => ?_)
      · refine g_sipush (v := nI 1000) hX dX5_hidingBy_70 (by decide) ?_
        exact g_iret hX hR dX5_hidingBy_73 (by decide) (by decide) ⟨congrArg (fun z => some (Value.int z)) rfl, rfl, rfl, rfl⟩
      · refine g_iload hX dX5_hidingBy_47 4 rfl ?_
        refine g_bipush (v := nI 18) hX dX5_hidingBy_49 (by decide) ?_
        refine g_ci_ge (a := ((q : Nat) : Int)) (b := (18 : Int)) (tgt := 70) hX dX5_hidingBy_51 (by decide) (nI_toInt (by omega)) (by decide) (fun h51 => ?_) (fun h51 => ?_)
        · refine g_sipush (v := nI 1000) hX dX5_hidingBy_70 (by decide) ?_
          exact g_iret hX hR dX5_hidingBy_73 (by decide) (by decide) ⟨congrArg (fun z => some (Value.int z)) rfl, rfl, rfl, rfl⟩
        · refine g_iload hX dX5_hidingBy_54 5 rfl ?_
          refine g_cz_ne (a := (1 : Int)) (tgt := 70) hX dX5_hidingBy_56 (by decide) (by decide) (fun _ => ?_) (fun q => absurd q (by decide))
          refine g_sipush (v := nI 1000) hX dX5_hidingBy_70 (by decide) ?_
          exact g_iret hX hR dX5_hidingBy_73 (by decide) (by decide) ⟨congrArg (fun z => some (Value.int z)) rfl, rfl, rfl, rfl⟩

theorem c_X5_hidingBy_no2 (l : Launch) {nw sp : Nat} {I : xM} {T S F W : Nat} {f : Nat → Int32} {t x y q : Nat} (hnw : xG nw) (hG : GX I nw f T S F W) (hW : WF f T S F W) (hB : BD f T S) (ht : t < T) (eq_ : f (26 + 5 * t + 1) = nI q) (hq : q < 20) (hx : x ≤ 1000) (hy : y ≤ 1000) (hm : ((1 ≤ q ∧ q ≤ 17) ∧ ((f (26 + 5 * t + 0)).toInt ≠ 3 ∧ (f (26 + 5 * t + 0)).toInt ≠ 5) ∧ ¬ ((f (26 + 5 * t + 0)).toInt = 1 ∧ (f 3).toInt = 1))) (hw : 99 + gN f q < (lnN x y 18 q + 17) / 18) : xC l 3 0 0 yX5_hidingBy cX5_hidingBy 7 (some .int) 319 [.ref 0, .int (nI t), .int (nI x), .int (nI y)] I (xRL nw sp) (xpI (nI 1000) 319 I (xRL nw sp)) := by
  refine xC_of (by decide) (Nat.le_of_ble_eq_true rfl) (fun X hXl hX hR => ?_)
  have hX : xOK X RX5 cX5_hidingBy 7 3 0 0 := hX
  show G X 319 0 0 I (xRL nw sp) 0 [(0, .ref 0), (1, .int (nI t)), (2, .int (nI x)), (3, .int (nI y))] []
  have hg8 := xG_8 hnw
  have hT6 := hW.T6
  have hS6 := hW.S6
  have hwi := hW.wi
  have hln := lnN_le hx hy (show 18 ≤ 20 by decide) (show q ≤ 18 by omega)
  have hgl := hB.gl hq
  refine g_aload_n hX dX5_hidingBy_0 rfl 0 rfl ?_
  refine g_getR (j := nw) hX (by decide) (by decide) xCl5 4 (by decide) (by decide) kX5_39 dX5_hidingBy_1 rfl ?_
  refine g_getR (j := nw + 3) hX (xG_n (j := 0) hnw (by decide)) (xG_K0 hnw) xCl0 5 (by decide) (by decide) kX5_168 dX5_hidingBy_4 (xRL_g5 hnw) ?_
  refine g_iload_n hX dX5_hidingBy_7 rfl 1 rfl ?_
  refine g_iald (v := nI q) hX (xG_n (j := 3) hnw (by decide)) (xG_K3 hnw) t rfl (by rw [(xG_N3 hnw)]; omega) dX5_hidingBy_8 ((hG.k1 ht).trans eq_) ?_
  refine g_istore (L' := [(0, .ref 0), (1, .int (nI t)), (2, .int (nI x)), (3, .int (nI y)), (4, .int (nI q))]) hX dX5_hidingBy_9 (by decide) rfl ?_
  refine g_aload_n hX dX5_hidingBy_11 rfl 0 rfl ?_
  refine g_getR (j := nw) hX (by decide) (by decide) xCl5 4 (by decide) (by decide) kX5_39 dX5_hidingBy_12 rfl ?_
  refine g_getI (v := f 3) hX (xG_n (j := 0) hnw (by decide)) (xG_K0 hnw) xCl0 14 (by decide) (by decide) kX5_146 dX5_hidingBy_15 hG.wi ?_
  refine g_cz_eq (a := (f 3).toInt) (tgt := 38) hX dX5_hidingBy_18 (by decide) rfl (fun h18 => ?_) (fun h18 => ?_)
  · refine g_iconst (v := nI 0) hX dX5_hidingBy_38 (by decide) ?_
    refine g_istore (L' := [(0, .ref 0), (1, .int (nI t)), (2, .int (nI x)), (3, .int (nI y)), (4, .int (nI q)), (5, .int (nI 0))]) hX dX5_hidingBy_39 (by decide) rfl ?_
    refine g_iload hX dX5_hidingBy_41 4 rfl ?_
    refine g_iconst (v := nI 1) hX dX5_hidingBy_43 (by decide) ?_
    refine g_ci_lt (a := ((q : Nat) : Int)) (b := (1 : Int)) (tgt := 70) hX dX5_hidingBy_44 (by decide) (nI_toInt (by omega)) (by decide) (fun h44 => ?_) (fun h44 => ?_)
    · exfalso; omega
    · refine g_iload hX dX5_hidingBy_47 4 rfl ?_
      refine g_bipush (v := nI 18) hX dX5_hidingBy_49 (by decide) ?_
      refine g_ci_ge (a := ((q : Nat) : Int)) (b := (18 : Int)) (tgt := 70) hX dX5_hidingBy_51 (by decide) (nI_toInt (by omega)) (by decide) (fun h51 => ?_) (fun h51 => ?_)
      · exfalso; omega
      · refine g_iload hX dX5_hidingBy_54 5 rfl ?_
        refine g_cz_ne (a := (0 : Int)) (tgt := 70) hX dX5_hidingBy_56 (by decide) (by decide) (fun q => absurd q (by decide)) (fun _ => ?_)
        refine g_aload_n hX dX5_hidingBy_59 rfl 0 rfl ?_
        refine g_getR (j := nw) hX (by decide) (by decide) xCl5 4 (by decide) (by decide) kX5_39 dX5_hidingBy_60 rfl ?_
        refine g_iload_n hX dX5_hidingBy_63 rfl 1 rfl ?_
        refine g_callVi hX (as := [.int (nI t)]) (fun l => c_X0_mayBeCut_t l (I := I) (g := nw) (T := T) (S := S) (F := F) (W := W) (f := f) (t := t) (hg := hnw) (hG := (by first | assumption | omega)) (hW := (by first | assumption | omega)) (ht := (by first | assumption | omega))) mX0_mayBeCut vX0_mayBeCut lX5_152 (xG_n (j := 0) hnw (by decide)) (xG_K0 hnw) xCl0 rfl rfl dX5_hidingBy_64 rfl (by decide) (Nat.le_of_ble_eq_true rfl) (by decide) (by decide) ?_
        refine g_cb_ne (tgt := 74) hX dX5_hidingBy_67 (by decide) (fun h67 => ?_) (fun h67 => ?_)
        · refine g_iload_n hX dX5_hidingBy_74 rfl 2 rfl ?_
          refine g_iload_n hX dX5_hidingBy_75 rfl 3 rfl ?_
          refine g_bipush (v := nI 18) hX dX5_hidingBy_76 (by decide) ?_
          refine g_iload hX dX5_hidingBy_78 4 rfl ?_
          refine g_callSi hX (as := [.int (nI x), .int (nI y), .int (nI 18), .int (nI q)]) (fun l => c_X3_leastStop l (I := I) (x := x) (y := y) (c := 18) (q := q) (hc := (by first | assumption | omega)) (hc2 := (by first | assumption | omega)) (hq := (by first | assumption | omega)) (hx := (by first | assumption | omega)) (hy := (by first | assumption | omega))) mX3_leastStop sX3_leastStop lX5_280 rfl dX5_hidingBy_80 rfl (by decide) (Nat.le_of_ble_eq_true rfl) (by decide) (by decide) ?_
          refine g_istore (L' := [(0, .ref 0), (1, .int (nI t)), (2, .int (nI x)), (3, .int (nI y)), (4, .int (nI q)), (5, .int (nI 0)), (6, .int (nI ((lnN x y 18 q + 18 - 1) / 18)))]) hX dX5_hidingBy_83 (by decide) rfl ?_
          refine g_iload hX dX5_hidingBy_85 6 rfl ?_
          refine g_aload_n hX dX5_hidingBy_87 rfl 0 rfl ?_
          refine g_getR (j := nw) hX (by decide) (by decide) xCl5 4 (by decide) (by decide) kX5_39 dX5_hidingBy_88 rfl ?_
          refine g_getR (j := nw + 1) hX (xG_n (j := 0) hnw (by decide)) (xG_K0 hnw) xCl0 0 (by decide) (by decide) kX5_171 dX5_hidingBy_91 (xRL_g0 hnw) ?_
          refine g_iload hX dX5_hidingBy_94 4 rfl ?_
          refine g_iald (v := nI (gN f q)) hX (xG_n (j := 1) hnw (by decide)) (xG_K1 hnw) q rfl (by rw [(xG_N1 hnw)]; omega) dX5_hidingBy_96 ((hG.gr hq).trans (hB.gr hq)) ?_
          refine g_isub (v := zI ((((lnN x y 18 q + 18 - 1) / 18 : Nat) : Int) - ((gN f q : Nat) : Int))) hX dX5_hidingBy_97 (zI_sub ((((lnN x y 18 q + 18 - 1) / 18 : Nat) : Int)) (((gN f q : Nat) : Int))) ?_
          refine g_bipush (v := nI 99) hX dX5_hidingBy_98 (by decide) ?_
          refine g_ci_le (a := ((((lnN x y 18 q + 18 - 1) / 18 : Nat) : Int) - ((gN f q : Nat) : Int) : Int)) (b := (99 : Int)) (tgt := 109) hX dX5_hidingBy_100 (by decide) (zI_toInt (by omega) (by omega)) (by decide) (fun h100 => ?_) (fun h100 => ?_)
          · exfalso; omega
          · refine g_sipush (v := nI 1000) hX dX5_hidingBy_103 (by decide) ?_
            refine g_goto (tgt := 122) hX dX5_hidingBy_106 (by decide) ?_
            exact g_iret hX hR dX5_hidingBy_122 (by decide) (by decide) ⟨congrArg (fun z => some (Value.int z)) rfl, rfl, rfl, rfl⟩
        · exfalso; omega
  · refine g_aload_n hX dX5_hidingBy_21 rfl 0 rfl ?_
    refine g_getR (j := nw) hX (by decide) (by decide) xCl5 4 (by decide) (by decide) kX5_39 dX5_hidingBy_22 rfl ?_
    refine g_getR (j := nw + 2) hX (xG_n (j := 0) hnw (by decide)) (xG_K0 hnw) xCl0 4 (by decide) (by decide) kX5_244 dX5_hidingBy_25 (xRL_g4 hnw) ?_
    refine g_iload_n hX dX5_hidingBy_28 rfl 1 rfl ?_
    refine g_iald (v := f (26 + 5 * t + 0)) hX (xG_n (j := 2) hnw (by decide)) (xG_K2 hnw) t rfl (by rw [(xG_N2 hnw)]; omega) dX5_hidingBy_29 (hG.k0 (by omega)) ?_
    refine g_iconst (v := nI 1) hX dX5_hidingBy_30 (by decide) ?_
    refine g_ci_ne (a := (f (26 + 5 * t + 0)).toInt) (b := (1 : Int)) (tgt := 38) hX dX5_hidingBy_31 (by decide) rfl (by decide) (fun h31 => ?_) (fun h31 => ?_)
    · refine g_iconst (v := nI 0) hX dX5_hidingBy_38 (by decide) ?_
      refine g_istore (L' := [(0, .ref 0), (1, .int (nI t)), (2, .int (nI x)), (3, .int (nI y)), (4, .int (nI q)), (5, .int (nI 0))]) hX dX5_hidingBy_39 (by decide) rfl ?_
      refine g_iload hX dX5_hidingBy_41 4 rfl ?_
      refine g_iconst (v := nI 1) hX dX5_hidingBy_43 (by decide) ?_
      refine g_ci_lt (a := ((q : Nat) : Int)) (b := (1 : Int)) (tgt := 70) hX dX5_hidingBy_44 (by decide) (nI_toInt (by omega)) (by decide) (fun h44 => ?_) (fun h44 => ?_)
      · exfalso; omega
      · refine g_iload hX dX5_hidingBy_47 4 rfl ?_
        refine g_bipush (v := nI 18) hX dX5_hidingBy_49 (by decide) ?_
        refine g_ci_ge (a := ((q : Nat) : Int)) (b := (18 : Int)) (tgt := 70) hX dX5_hidingBy_51 (by decide) (nI_toInt (by omega)) (by decide) (fun h51 => ?_) (fun h51 => ?_)
        · exfalso; omega
        · refine g_iload hX dX5_hidingBy_54 5 rfl ?_
          refine g_cz_ne (a := (0 : Int)) (tgt := 70) hX dX5_hidingBy_56 (by decide) (by decide) (fun q => absurd q (by decide)) (fun _ => ?_)
          refine g_aload_n hX dX5_hidingBy_59 rfl 0 rfl ?_
          refine g_getR (j := nw) hX (by decide) (by decide) xCl5 4 (by decide) (by decide) kX5_39 dX5_hidingBy_60 rfl ?_
          refine g_iload_n hX dX5_hidingBy_63 rfl 1 rfl ?_
          refine g_callVi hX (as := [.int (nI t)]) (fun l => c_X0_mayBeCut_t l (I := I) (g := nw) (T := T) (S := S) (F := F) (W := W) (f := f) (t := t) (hg := hnw) (hG := (by first | assumption | omega)) (hW := (by first | assumption | omega)) (ht := (by first | assumption | omega))) mX0_mayBeCut vX0_mayBeCut lX5_152 (xG_n (j := 0) hnw (by decide)) (xG_K0 hnw) xCl0 rfl rfl dX5_hidingBy_64 rfl (by decide) (Nat.le_of_ble_eq_true rfl) (by decide) (by decide) ?_
          refine g_cb_ne (tgt := 74) hX dX5_hidingBy_67 (by decide) (fun h67 => ?_) (fun h67 => ?_)
          · refine g_iload_n hX dX5_hidingBy_74 rfl 2 rfl ?_
            refine g_iload_n hX dX5_hidingBy_75 rfl 3 rfl ?_
            refine g_bipush (v := nI 18) hX dX5_hidingBy_76 (by decide) ?_
            refine g_iload hX dX5_hidingBy_78 4 rfl ?_
            refine g_callSi hX (as := [.int (nI x), .int (nI y), .int (nI 18), .int (nI q)]) (fun l => c_X3_leastStop l (I := I) (x := x) (y := y) (c := 18) (q := q) (hc := (by first | assumption | omega)) (hc2 := (by first | assumption | omega)) (hq := (by first | assumption | omega)) (hx := (by first | assumption | omega)) (hy := (by first | assumption | omega))) mX3_leastStop sX3_leastStop lX5_280 rfl dX5_hidingBy_80 rfl (by decide) (Nat.le_of_ble_eq_true rfl) (by decide) (by decide) ?_
            refine g_istore (L' := [(0, .ref 0), (1, .int (nI t)), (2, .int (nI x)), (3, .int (nI y)), (4, .int (nI q)), (5, .int (nI 0)), (6, .int (nI ((lnN x y 18 q + 18 - 1) / 18)))]) hX dX5_hidingBy_83 (by decide) rfl ?_
            refine g_iload hX dX5_hidingBy_85 6 rfl ?_
            refine g_aload_n hX dX5_hidingBy_87 rfl 0 rfl ?_
            refine g_getR (j := nw) hX (by decide) (by decide) xCl5 4 (by decide) (by decide) kX5_39 dX5_hidingBy_88 rfl ?_
            refine g_getR (j := nw + 1) hX (xG_n (j := 0) hnw (by decide)) (xG_K0 hnw) xCl0 0 (by decide) (by decide) kX5_171 dX5_hidingBy_91 (xRL_g0 hnw) ?_
            refine g_iload hX dX5_hidingBy_94 4 rfl ?_
            refine g_iald (v := nI (gN f q)) hX (xG_n (j := 1) hnw (by decide)) (xG_K1 hnw) q rfl (by rw [(xG_N1 hnw)]; omega) dX5_hidingBy_96 ((hG.gr hq).trans (hB.gr hq)) ?_
            refine g_isub (v := zI ((((lnN x y 18 q + 18 - 1) / 18 : Nat) : Int) - ((gN f q : Nat) : Int))) hX dX5_hidingBy_97 (zI_sub ((((lnN x y 18 q + 18 - 1) / 18 : Nat) : Int)) (((gN f q : Nat) : Int))) ?_
            refine g_bipush (v := nI 99) hX dX5_hidingBy_98 (by decide) ?_
            refine g_ci_le (a := ((((lnN x y 18 q + 18 - 1) / 18 : Nat) : Int) - ((gN f q : Nat) : Int) : Int)) (b := (99 : Int)) (tgt := 109) hX dX5_hidingBy_100 (by decide) (zI_toInt (by omega) (by omega)) (by decide) (fun h100 => ?_) (fun h100 => ?_)
            · exfalso; omega
            · refine g_sipush (v := nI 1000) hX dX5_hidingBy_103 (by decide) ?_
              refine g_goto (tgt := 122) hX dX5_hidingBy_106 (by decide) ?_
              exact g_iret hX hR dX5_hidingBy_122 (by decide) (by decide) ⟨congrArg (fun z => some (Value.int z)) rfl, rfl, rfl, rfl⟩
          · exfalso; omega
    · refine g_iconst (v := nI 1) hX dX5_hidingBy_34 (by decide) ?_
      refine g_goto (tgt := 39) hX dX5_hidingBy_35 (by decide) ?_
      refine g_istore (L' := [(0, .ref 0), (1, .int (nI t)), (2, .int (nI x)), (3, .int (nI y)), (4, .int (nI q)), (5, .int (nI 1))]) hX dX5_hidingBy_39 (by decide) rfl ?_
      refine g_iload hX dX5_hidingBy_41 4 rfl ?_
      refine g_iconst (v := nI 1) hX dX5_hidingBy_43 (by decide) ?_
      refine g_ci_lt (a := ((q : Nat) : Int)) (b := (1 : Int)) (tgt := 70) hX dX5_hidingBy_44 (by decide) (nI_toInt (by omega)) (by decide) (fun h44 => ?_) (fun h44 => ?_)
      · exfalso; omega
      · refine g_iload hX dX5_hidingBy_47 4 rfl ?_
        refine g_bipush (v := nI 18) hX dX5_hidingBy_49 (by decide) ?_
        refine g_ci_ge (a := ((q : Nat) : Int)) (b := (18 : Int)) (tgt := 70) hX dX5_hidingBy_51 (by decide) (nI_toInt (by omega)) (by decide) (fun h51 => ?_) (fun h51 => ?_)
        · exfalso; omega
        · refine g_iload hX dX5_hidingBy_54 5 rfl ?_
          refine g_cz_ne (a := (1 : Int)) (tgt := 70) hX dX5_hidingBy_56 (by decide) (by decide) (fun _ => ?_) (fun q => absurd q (by decide))
          exfalso; omega

theorem c_X5_hidingBy_ok (l : Launch) {nw sp : Nat} {I : xM} {T S F W : Nat} {f : Nat → Int32} {t x y q : Nat} {z : Int} (hnw : xG nw) (hG : GX I nw f T S F W) (hW : WF f T S F W) (hB : BD f T S) (ht : t < T) (eq_ : f (26 + 5 * t + 1) = nI q) (hq : q < 20) (hx : x ≤ 1000) (hy : y ≤ 1000) (hm : ((1 ≤ q ∧ q ≤ 17) ∧ ((f (26 + 5 * t + 0)).toInt ≠ 3 ∧ (f (26 + 5 * t + 0)).toInt ≠ 5) ∧ ¬ ((f (26 + 5 * t + 0)).toInt = 1 ∧ (f 3).toInt = 1))) (hw : (lnN x y 18 q + 17) / 18 ≤ 99 + gN f q) (hz : I 5 q = zI z) : xC l 3 0 0 yX5_hidingBy cX5_hidingBy 7 (some .int) 319 [.ref 0, .int (nI t), .int (nI x), .int (nI y)] I (xRL nw sp) (xpI (zI ((((lnN x y 18 q + 18 - 1) / 18 : Nat) : Int) - (z))) 319 I (xRL nw sp)) := by
  refine xC_of (by decide) (Nat.le_of_ble_eq_true rfl) (fun X hXl hX hR => ?_)
  have hX : xOK X RX5 cX5_hidingBy 7 3 0 0 := hX
  show G X 319 0 0 I (xRL nw sp) 0 [(0, .ref 0), (1, .int (nI t)), (2, .int (nI x)), (3, .int (nI y))] []
  have hg8 := xG_8 hnw
  have hT6 := hW.T6
  have hS6 := hW.S6
  have hwi := hW.wi
  have hln := lnN_le hx hy (show 18 ≤ 20 by decide) (show q ≤ 18 by omega)
  have hgl := hB.gl hq
  refine g_aload_n hX dX5_hidingBy_0 rfl 0 rfl ?_
  refine g_getR (j := nw) hX (by decide) (by decide) xCl5 4 (by decide) (by decide) kX5_39 dX5_hidingBy_1 rfl ?_
  refine g_getR (j := nw + 3) hX (xG_n (j := 0) hnw (by decide)) (xG_K0 hnw) xCl0 5 (by decide) (by decide) kX5_168 dX5_hidingBy_4 (xRL_g5 hnw) ?_
  refine g_iload_n hX dX5_hidingBy_7 rfl 1 rfl ?_
  refine g_iald (v := nI q) hX (xG_n (j := 3) hnw (by decide)) (xG_K3 hnw) t rfl (by rw [(xG_N3 hnw)]; omega) dX5_hidingBy_8 ((hG.k1 ht).trans eq_) ?_
  refine g_istore (L' := [(0, .ref 0), (1, .int (nI t)), (2, .int (nI x)), (3, .int (nI y)), (4, .int (nI q))]) hX dX5_hidingBy_9 (by decide) rfl ?_
  refine g_aload_n hX dX5_hidingBy_11 rfl 0 rfl ?_
  refine g_getR (j := nw) hX (by decide) (by decide) xCl5 4 (by decide) (by decide) kX5_39 dX5_hidingBy_12 rfl ?_
  refine g_getI (v := f 3) hX (xG_n (j := 0) hnw (by decide)) (xG_K0 hnw) xCl0 14 (by decide) (by decide) kX5_146 dX5_hidingBy_15 hG.wi ?_
  refine g_cz_eq (a := (f 3).toInt) (tgt := 38) hX dX5_hidingBy_18 (by decide) rfl (fun h18 => ?_) (fun h18 => ?_)
  · refine g_iconst (v := nI 0) hX dX5_hidingBy_38 (by decide) ?_
    refine g_istore (L' := [(0, .ref 0), (1, .int (nI t)), (2, .int (nI x)), (3, .int (nI y)), (4, .int (nI q)), (5, .int (nI 0))]) hX dX5_hidingBy_39 (by decide) rfl ?_
    refine g_iload hX dX5_hidingBy_41 4 rfl ?_
    refine g_iconst (v := nI 1) hX dX5_hidingBy_43 (by decide) ?_
    refine g_ci_lt (a := ((q : Nat) : Int)) (b := (1 : Int)) (tgt := 70) hX dX5_hidingBy_44 (by decide) (nI_toInt (by omega)) (by decide) (fun h44 => ?_) (fun h44 => ?_)
    · exfalso; omega
    · refine g_iload hX dX5_hidingBy_47 4 rfl ?_
      refine g_bipush (v := nI 18) hX dX5_hidingBy_49 (by decide) ?_
      refine g_ci_ge (a := ((q : Nat) : Int)) (b := (18 : Int)) (tgt := 70) hX dX5_hidingBy_51 (by decide) (nI_toInt (by omega)) (by decide) (fun h51 => ?_) (fun h51 => ?_)
      · exfalso; omega
      · refine g_iload hX dX5_hidingBy_54 5 rfl ?_
        refine g_cz_ne (a := (0 : Int)) (tgt := 70) hX dX5_hidingBy_56 (by decide) (by decide) (fun q => absurd q (by decide)) (fun _ => ?_)
        refine g_aload_n hX dX5_hidingBy_59 rfl 0 rfl ?_
        refine g_getR (j := nw) hX (by decide) (by decide) xCl5 4 (by decide) (by decide) kX5_39 dX5_hidingBy_60 rfl ?_
        refine g_iload_n hX dX5_hidingBy_63 rfl 1 rfl ?_
        refine g_callVi hX (as := [.int (nI t)]) (fun l => c_X0_mayBeCut_t l (I := I) (g := nw) (T := T) (S := S) (F := F) (W := W) (f := f) (t := t) (hg := hnw) (hG := (by first | assumption | omega)) (hW := (by first | assumption | omega)) (ht := (by first | assumption | omega))) mX0_mayBeCut vX0_mayBeCut lX5_152 (xG_n (j := 0) hnw (by decide)) (xG_K0 hnw) xCl0 rfl rfl dX5_hidingBy_64 rfl (by decide) (Nat.le_of_ble_eq_true rfl) (by decide) (by decide) ?_
        refine g_cb_ne (tgt := 74) hX dX5_hidingBy_67 (by decide) (fun h67 => ?_) (fun h67 => ?_)
        · refine g_iload_n hX dX5_hidingBy_74 rfl 2 rfl ?_
          refine g_iload_n hX dX5_hidingBy_75 rfl 3 rfl ?_
          refine g_bipush (v := nI 18) hX dX5_hidingBy_76 (by decide) ?_
          refine g_iload hX dX5_hidingBy_78 4 rfl ?_
          refine g_callSi hX (as := [.int (nI x), .int (nI y), .int (nI 18), .int (nI q)]) (fun l => c_X3_leastStop l (I := I) (x := x) (y := y) (c := 18) (q := q) (hc := (by first | assumption | omega)) (hc2 := (by first | assumption | omega)) (hq := (by first | assumption | omega)) (hx := (by first | assumption | omega)) (hy := (by first | assumption | omega))) mX3_leastStop sX3_leastStop lX5_280 rfl dX5_hidingBy_80 rfl (by decide) (Nat.le_of_ble_eq_true rfl) (by decide) (by decide) ?_
          refine g_istore (L' := [(0, .ref 0), (1, .int (nI t)), (2, .int (nI x)), (3, .int (nI y)), (4, .int (nI q)), (5, .int (nI 0)), (6, .int (nI ((lnN x y 18 q + 18 - 1) / 18)))]) hX dX5_hidingBy_83 (by decide) rfl ?_
          refine g_iload hX dX5_hidingBy_85 6 rfl ?_
          refine g_aload_n hX dX5_hidingBy_87 rfl 0 rfl ?_
          refine g_getR (j := nw) hX (by decide) (by decide) xCl5 4 (by decide) (by decide) kX5_39 dX5_hidingBy_88 rfl ?_
          refine g_getR (j := nw + 1) hX (xG_n (j := 0) hnw (by decide)) (xG_K0 hnw) xCl0 0 (by decide) (by decide) kX5_171 dX5_hidingBy_91 (xRL_g0 hnw) ?_
          refine g_iload hX dX5_hidingBy_94 4 rfl ?_
          refine g_iald (v := nI (gN f q)) hX (xG_n (j := 1) hnw (by decide)) (xG_K1 hnw) q rfl (by rw [(xG_N1 hnw)]; omega) dX5_hidingBy_96 ((hG.gr hq).trans (hB.gr hq)) ?_
          refine g_isub (v := zI ((((lnN x y 18 q + 18 - 1) / 18 : Nat) : Int) - ((gN f q : Nat) : Int))) hX dX5_hidingBy_97 (zI_sub ((((lnN x y 18 q + 18 - 1) / 18 : Nat) : Int)) (((gN f q : Nat) : Int))) ?_
          refine g_bipush (v := nI 99) hX dX5_hidingBy_98 (by decide) ?_
          refine g_ci_le (a := ((((lnN x y 18 q + 18 - 1) / 18 : Nat) : Int) - ((gN f q : Nat) : Int) : Int)) (b := (99 : Int)) (tgt := 109) hX dX5_hidingBy_100 (by decide) (zI_toInt (by omega) (by omega)) (by decide) (fun h100 => ?_) (fun h100 => ?_)
          · refine g_iload hX dX5_hidingBy_109 6 rfl ?_
            refine g_aload_n hX dX5_hidingBy_111 rfl 0 rfl ?_
            refine g_getR (j := 4) hX (by decide) (by decide) xCl5 2 (by decide) (by decide) kX5_25 dX5_hidingBy_112 rfl ?_
            refine g_getR (j := 5) hX (by decide) (by decide) xCl3 0 (by decide) (by decide) kX5_184 dX5_hidingBy_115 rfl ?_
            refine g_iload hX dX5_hidingBy_118 4 rfl ?_
            refine g_iald (v := zI z) hX (by decide) (by decide) q rfl (by rw [(show xN 5 = 20 by decide)]; omega) dX5_hidingBy_120 hz ?_
            refine g_isub (v := zI ((((lnN x y 18 q + 18 - 1) / 18 : Nat) : Int) - (z))) hX dX5_hidingBy_121 (zI_sub ((((lnN x y 18 q + 18 - 1) / 18 : Nat) : Int)) ((z))) ?_
            exact g_iret hX hR dX5_hidingBy_122 (by decide) (by decide) ⟨congrArg (fun z => some (Value.int z)) rfl, rfl, rfl, rfl⟩
          · exfalso; omega
        · exfalso; omega
  · refine g_aload_n hX dX5_hidingBy_21 rfl 0 rfl ?_
    refine g_getR (j := nw) hX (by decide) (by decide) xCl5 4 (by decide) (by decide) kX5_39 dX5_hidingBy_22 rfl ?_
    refine g_getR (j := nw + 2) hX (xG_n (j := 0) hnw (by decide)) (xG_K0 hnw) xCl0 4 (by decide) (by decide) kX5_244 dX5_hidingBy_25 (xRL_g4 hnw) ?_
    refine g_iload_n hX dX5_hidingBy_28 rfl 1 rfl ?_
    refine g_iald (v := f (26 + 5 * t + 0)) hX (xG_n (j := 2) hnw (by decide)) (xG_K2 hnw) t rfl (by rw [(xG_N2 hnw)]; omega) dX5_hidingBy_29 (hG.k0 (by omega)) ?_
    refine g_iconst (v := nI 1) hX dX5_hidingBy_30 (by decide) ?_
    refine g_ci_ne (a := (f (26 + 5 * t + 0)).toInt) (b := (1 : Int)) (tgt := 38) hX dX5_hidingBy_31 (by decide) rfl (by decide) (fun h31 => ?_) (fun h31 => ?_)
    · refine g_iconst (v := nI 0) hX dX5_hidingBy_38 (by decide) ?_
      refine g_istore (L' := [(0, .ref 0), (1, .int (nI t)), (2, .int (nI x)), (3, .int (nI y)), (4, .int (nI q)), (5, .int (nI 0))]) hX dX5_hidingBy_39 (by decide) rfl ?_
      refine g_iload hX dX5_hidingBy_41 4 rfl ?_
      refine g_iconst (v := nI 1) hX dX5_hidingBy_43 (by decide) ?_
      refine g_ci_lt (a := ((q : Nat) : Int)) (b := (1 : Int)) (tgt := 70) hX dX5_hidingBy_44 (by decide) (nI_toInt (by omega)) (by decide) (fun h44 => ?_) (fun h44 => ?_)
      · exfalso; omega
      · refine g_iload hX dX5_hidingBy_47 4 rfl ?_
        refine g_bipush (v := nI 18) hX dX5_hidingBy_49 (by decide) ?_
        refine g_ci_ge (a := ((q : Nat) : Int)) (b := (18 : Int)) (tgt := 70) hX dX5_hidingBy_51 (by decide) (nI_toInt (by omega)) (by decide) (fun h51 => ?_) (fun h51 => ?_)
        · exfalso; omega
        · refine g_iload hX dX5_hidingBy_54 5 rfl ?_
          refine g_cz_ne (a := (0 : Int)) (tgt := 70) hX dX5_hidingBy_56 (by decide) (by decide) (fun q => absurd q (by decide)) (fun _ => ?_)
          refine g_aload_n hX dX5_hidingBy_59 rfl 0 rfl ?_
          refine g_getR (j := nw) hX (by decide) (by decide) xCl5 4 (by decide) (by decide) kX5_39 dX5_hidingBy_60 rfl ?_
          refine g_iload_n hX dX5_hidingBy_63 rfl 1 rfl ?_
          refine g_callVi hX (as := [.int (nI t)]) (fun l => c_X0_mayBeCut_t l (I := I) (g := nw) (T := T) (S := S) (F := F) (W := W) (f := f) (t := t) (hg := hnw) (hG := (by first | assumption | omega)) (hW := (by first | assumption | omega)) (ht := (by first | assumption | omega))) mX0_mayBeCut vX0_mayBeCut lX5_152 (xG_n (j := 0) hnw (by decide)) (xG_K0 hnw) xCl0 rfl rfl dX5_hidingBy_64 rfl (by decide) (Nat.le_of_ble_eq_true rfl) (by decide) (by decide) ?_
          refine g_cb_ne (tgt := 74) hX dX5_hidingBy_67 (by decide) (fun h67 => ?_) (fun h67 => ?_)
          · refine g_iload_n hX dX5_hidingBy_74 rfl 2 rfl ?_
            refine g_iload_n hX dX5_hidingBy_75 rfl 3 rfl ?_
            refine g_bipush (v := nI 18) hX dX5_hidingBy_76 (by decide) ?_
            refine g_iload hX dX5_hidingBy_78 4 rfl ?_
            refine g_callSi hX (as := [.int (nI x), .int (nI y), .int (nI 18), .int (nI q)]) (fun l => c_X3_leastStop l (I := I) (x := x) (y := y) (c := 18) (q := q) (hc := (by first | assumption | omega)) (hc2 := (by first | assumption | omega)) (hq := (by first | assumption | omega)) (hx := (by first | assumption | omega)) (hy := (by first | assumption | omega))) mX3_leastStop sX3_leastStop lX5_280 rfl dX5_hidingBy_80 rfl (by decide) (Nat.le_of_ble_eq_true rfl) (by decide) (by decide) ?_
            refine g_istore (L' := [(0, .ref 0), (1, .int (nI t)), (2, .int (nI x)), (3, .int (nI y)), (4, .int (nI q)), (5, .int (nI 0)), (6, .int (nI ((lnN x y 18 q + 18 - 1) / 18)))]) hX dX5_hidingBy_83 (by decide) rfl ?_
            refine g_iload hX dX5_hidingBy_85 6 rfl ?_
            refine g_aload_n hX dX5_hidingBy_87 rfl 0 rfl ?_
            refine g_getR (j := nw) hX (by decide) (by decide) xCl5 4 (by decide) (by decide) kX5_39 dX5_hidingBy_88 rfl ?_
            refine g_getR (j := nw + 1) hX (xG_n (j := 0) hnw (by decide)) (xG_K0 hnw) xCl0 0 (by decide) (by decide) kX5_171 dX5_hidingBy_91 (xRL_g0 hnw) ?_
            refine g_iload hX dX5_hidingBy_94 4 rfl ?_
            refine g_iald (v := nI (gN f q)) hX (xG_n (j := 1) hnw (by decide)) (xG_K1 hnw) q rfl (by rw [(xG_N1 hnw)]; omega) dX5_hidingBy_96 ((hG.gr hq).trans (hB.gr hq)) ?_
            refine g_isub (v := zI ((((lnN x y 18 q + 18 - 1) / 18 : Nat) : Int) - ((gN f q : Nat) : Int))) hX dX5_hidingBy_97 (zI_sub ((((lnN x y 18 q + 18 - 1) / 18 : Nat) : Int)) (((gN f q : Nat) : Int))) ?_
            refine g_bipush (v := nI 99) hX dX5_hidingBy_98 (by decide) ?_
            refine g_ci_le (a := ((((lnN x y 18 q + 18 - 1) / 18 : Nat) : Int) - ((gN f q : Nat) : Int) : Int)) (b := (99 : Int)) (tgt := 109) hX dX5_hidingBy_100 (by decide) (zI_toInt (by omega) (by omega)) (by decide) (fun h100 => ?_) (fun h100 => ?_)
            · refine g_iload hX dX5_hidingBy_109 6 rfl ?_
              refine g_aload_n hX dX5_hidingBy_111 rfl 0 rfl ?_
              refine g_getR (j := 4) hX (by decide) (by decide) xCl5 2 (by decide) (by decide) kX5_25 dX5_hidingBy_112 rfl ?_
              refine g_getR (j := 5) hX (by decide) (by decide) xCl3 0 (by decide) (by decide) kX5_184 dX5_hidingBy_115 rfl ?_
              refine g_iload hX dX5_hidingBy_118 4 rfl ?_
              refine g_iald (v := zI z) hX (by decide) (by decide) q rfl (by rw [(show xN 5 = 20 by decide)]; omega) dX5_hidingBy_120 hz ?_
              refine g_isub (v := zI ((((lnN x y 18 q + 18 - 1) / 18 : Nat) : Int) - (z))) hX dX5_hidingBy_121 (zI_sub ((((lnN x y 18 q + 18 - 1) / 18 : Nat) : Int)) ((z))) ?_
              exact g_iret hX hR dX5_hidingBy_122 (by decide) (by decide) ⟨congrArg (fun z => some (Value.int z)) rfl, rfl, rfl, rfl⟩
            · exfalso; omega
          · exfalso; omega
    · refine g_iconst (v := nI 1) hX dX5_hidingBy_34 (by decide) ?_
      refine g_goto (tgt := 39) hX dX5_hidingBy_35 (by decide) ?_
      refine g_istore (L' := [(0, .ref 0), (1, .int (nI t)), (2, .int (nI x)), (3, .int (nI y)), (4, .int (nI q)), (5, .int (nI 1))]) hX dX5_hidingBy_39 (by decide) rfl ?_
      refine g_iload hX dX5_hidingBy_41 4 rfl ?_
      refine g_iconst (v := nI 1) hX dX5_hidingBy_43 (by decide) ?_
      refine g_ci_lt (a := ((q : Nat) : Int)) (b := (1 : Int)) (tgt := 70) hX dX5_hidingBy_44 (by decide) (nI_toInt (by omega)) (by decide) (fun h44 => ?_) (fun h44 => ?_)
      · exfalso; omega
      · refine g_iload hX dX5_hidingBy_47 4 rfl ?_
        refine g_bipush (v := nI 18) hX dX5_hidingBy_49 (by decide) ?_
        refine g_ci_ge (a := ((q : Nat) : Int)) (b := (18 : Int)) (tgt := 70) hX dX5_hidingBy_51 (by decide) (nI_toInt (by omega)) (by decide) (fun h51 => ?_) (fun h51 => ?_)
        · exfalso; omega
        · refine g_iload hX dX5_hidingBy_54 5 rfl ?_
          refine g_cz_ne (a := (1 : Int)) (tgt := 70) hX dX5_hidingBy_56 (by decide) (by decide) (fun _ => ?_) (fun q => absurd q (by decide))
          exfalso; omega

theorem c_X5_hidingBy (l : Launch) {nw sp : Nat} {I : xM} {T S F W : Nat} {f : Nat → Int32} {ad : Nat → Int32} {t x y : Nat} (hnw : xG nw) (hG : GX I nw f T S F W) (hW : WF f T S F W) (hB : BD f T S) (ht : t < T) (hh1 : -200 ≤ (hgF f ad t).toInt) (hh2 : (hgF f ad t).toInt ≤ 99) (hb : ∀ q, q < 20 → I 5 q = brF f ad T q) (hx : x ≤ 1000) (hy : y ≤ 1000) : xC l 3 0 0 yX5_hidingBy cX5_hidingBy 7 (some .int) 319 [.ref 0, .int (nI t), .int (nI x), .int (nI y)] I (xRL nw sp) (xpI (oZ (nI 1000) (rvO f ad x y t)) 319 I (xRL nw sp)) := by
  obtain ⟨e, h20⟩ := hW.stn ht
  have hz := (hb _ h20).trans (brF_st hW hB ht ⟨hh1, hh2⟩)
  rcases Classical.em (rvC f t) with hc | hc
  · rcases Nat.lt_or_ge (99 + gN f (stN f t)) (rvW f x y t) with hw | hw
    · rw [rvO_f (fun q => Nat.not_le.mpr hw q.2)]
      exact c_X5_hidingBy_no2 l (q := stN f t) (hnw := hnw) (hG := hG) (hW := hW) (hB := hB) (ht := ht) (eq_ := e) (hq := h20) (hx := hx) (hy := hy) (hm := hc) (hw := hw)
    · rw [rvO_t hc hw, show ((rvW f x y t : Nat) : Int) - ((gN f (stN f t) : Nat) : Int) - (hgF f ad t).toInt = ((((lnN x y 18 (stN f t) + 18 - 1) / 18 : Nat) : Int) - (((gN f (stN f t) : Nat) : Int) + (hgF f ad t).toInt)) by unfold rvW; omega]
      exact c_X5_hidingBy_ok l (q := stN f t) (hnw := hnw) (hG := hG) (hW := hW) (hB := hB) (ht := ht) (eq_ := e) (hq := h20) (hx := hx) (hy := hy) (hm := hc) (hw := hw) (hz := hz)
  · rw [rvO_f (fun q => hc q.1)]
    exact c_X5_hidingBy_no1 l (q := stN f t) (hnw := hnw) (hG := hG) (hW := hW) (hB := hB) (ht := ht) (eq_ := e) (hq := h20) (hx := hx) (hy := hy) (hm := hc)

theorem c_X5_leastHider (l : Launch) {nw sp : Nat} {I : xM} {T S F W : Nat} {f : Nat → Int32} {ad : Nat → Int32} {x y k : Nat} {s : Int} (hnw : xG nw) (hG : GX I nw f T S F W) (hW : WF f T S F W) (hB : BD f T S) (hb : ∀ q, q < 20 → I 5 q = brF f ad T q) (hk : rvK f ad T k s) (hx : x ≤ 1000) (hy : y ≤ 1000) : xC l 4 0 0 yX5_leastHider cX5_leastHider 7 (some .int) 319 [.ref 0, .int (nI x), .int (nI y)] I (xRL nw sp) (xpI (oI (lhF (rvO f ad x y) T)) 319 I (xRL nw sp)) := by
  refine xC_of (by decide) (Nat.le_of_ble_eq_true rfl) (fun X hXl hX hR => ?_)
  have hX : xOK X RX5 cX5_leastHider 7 4 0 0 := hX
  show G X 319 0 0 I (xRL nw sp) 0 [(0, .ref 0), (1, .int (nI x)), (2, .int (nI y))] []
  have hg8 := xG_8 hnw
  have hT6 := hW.T6
  have hS6 := hW.S6
  refine g_ldc (v := -1000000) hX cX5_167 dX5_leastHider_0 ?_
  refine g_istore_n (L' := [(0, .ref 0), (1, .int (nI x)), (2, .int (nI y)), (3, .int (-1000000))]) hX dX5_leastHider_2 rfl (by decide) rfl ?_
  refine g_sipush (v := nI 1000) hX dX5_leastHider_3 (by decide) ?_
  refine g_istore (L' := [(0, .ref 0), (1, .int (nI x)), (2, .int (nI y)), (3, .int (-1000000)), (4, .int (nI 1000))]) hX dX5_leastHider_6 (by decide) rfl ?_
  refine g_iconst (v := nI 0) hX dX5_leastHider_8 (by decide) ?_
  refine g_istore (L' := [(0, .ref 0), (1, .int (nI x)), (2, .int (nI y)), (3, .int (-1000000)), (4, .int (nI 1000)), (5, .int (nI 0))]) hX dX5_leastHider_9 (by decide) rfl ?_
  have cut11 : ∀ (fuel : Nat) (v3 : Int32) (lz : Int) (t : Nat) (ht : t ≤ T) (hl1 : -1000 ≤ lz) (hl2 : lz ≤ 1000) (hI : lhI (rvO f ad x y) t v3 lz), T - t < fuel → G X 319 0 0 I (xRL nw sp) 11 [(0, .ref 0), (1, .int (nI x)), (2, .int (nI y)), (3, .int v3), (4, .int (zI lz)), (5, .int (nI t))] [] := by
    intro fuel
    induction fuel with
    | zero => intro v3 lz t ht hl1 hl2 hI hfuel; omega
    | succ fuel ih =>
      intro v3 lz t ht hl1 hl2 hI hfuel
      refine g_iload hX dX5_leastHider_11 5 rfl ?_
      refine g_aload_n hX dX5_leastHider_13 rfl 0 rfl ?_
      refine g_getR (j := nw) hX (by decide) (by decide) xCl5 4 (by decide) (by decide) kX5_39 dX5_leastHider_14 rfl ?_
      refine g_getI (v := nI T) hX (xG_n (j := 0) hnw (by decide)) (xG_K0 hnw) xCl0 3 (by decide) (by decide) kX5_136 dX5_leastHider_17 hG.tr ?_
      refine g_ci_ge (a := ((t : Nat) : Int)) (b := ((T : Nat) : Int)) (tgt := 53) hX dX5_leastHider_20 (by decide) (nI_toInt (by omega)) (nI_toInt (by omega)) (fun h20 => ?_) (fun h20 => ?_)
      · refine g_iload_n hX dX5_leastHider_53 rfl 3 rfl ?_
        exact g_iret hX hR dX5_leastHider_54 (by decide) (by decide) ⟨congrArg (fun z => some (Value.int z)) (by rw [hI.1, show t = T by omega]), rfl, rfl, rfl⟩
      · have hk2 := hk.2 t (by omega)
        refine g_aload_n hX dX5_leastHider_23 rfl 0 rfl ?_
        refine g_iload hX dX5_leastHider_24 5 rfl ?_
        refine g_iload_n hX dX5_leastHider_26 rfl 1 rfl ?_
        refine g_iload_n hX dX5_leastHider_27 rfl 2 rfl ?_
        refine g_callVi hX (as := [.int (nI t), .int (nI x), .int (nI y)]) (fun l => c_X5_hidingBy l (I := I) (T := T) (S := S) (F := F) (W := W) (f := f) (ad := ad) (t := t) (x := x) (y := y) (hnw := (by first | assumption | omega)) (hG := (by first | assumption | omega)) (hW := (by first | assumption | omega)) (hB := (by first | assumption | omega)) (ht := (by omega)) (hh1 := hk2.1) (hh2 := hk2.2) (hb := (by first | assumption | omega)) (hx := (by first | assumption | omega)) (hy := (by first | assumption | omega))) mX5_hidingBy vX5_hidingBy lX5_241 (by decide) (by decide) xCl5 rfl rfl dX5_leastHider_28 rfl (by decide) (Nat.le_of_ble_eq_true rfl) (by decide) (by decide) ?_
        rcases Option.eq_none_or_eq_some (rvO f ad x y t) with ho28 | ⟨m1, ho28⟩
        · refine g_top (y := nI 1000) (by rw [ho28]; rfl) ?_
          refine g_istore (L' := [(0, .ref 0), (1, .int (nI x)), (2, .int (nI y)), (3, .int v3), (4, .int (zI lz)), (5, .int (nI t)), (6, .int (nI 1000))]) hX dX5_leastHider_31 (by decide) rfl ?_
          refine g_iload hX dX5_leastHider_33 6 rfl ?_
          refine g_iload hX dX5_leastHider_35 4 rfl ?_
          refine g_ci_ge (a := (1000 : Int)) (b := (lz : Int)) (tgt := 47) hX dX5_leastHider_37 (by decide) (by decide) (zI_toInt (by omega) (by omega)) (fun h37 => ?_) (fun h37 => ?_)
          · refine g_iinc (v := nI (t + 1)) (L' := [(0, .ref 0), (1, .int (nI x)), (2, .int (nI y)), (3, .int v3), (4, .int (zI lz)), (5, .int (nI (t + 1))), (6, .int (nI 1000))]) hX dX5_leastHider_47 (by decide) 5 rfl (nI_add t 1) rfl ?_
            refine g_goto (tgt := 11) hX dX5_leastHider_50 (by decide) ?_
            refine g_loc [0, 1, 2, 3, 4, 5] rfl ?_
            exact ih v3 lz (t + 1) (by first | assumption | omega) (by first | assumption | omega) (by first | assumption | omega) (by first | exact lhI_none hI ho28 | exact lhI_keep hI ho28 (by omega) h37 | exact lhI_less hI ho28 h37 | (exfalso; omega)) (by omega)
          · refine g_iload hX dX5_leastHider_40 6 rfl ?_
            refine g_istore (L' := [(0, .ref 0), (1, .int (nI x)), (2, .int (nI y)), (3, .int v3), (4, .int (nI 1000)), (5, .int (nI t)), (6, .int (nI 1000))]) hX dX5_leastHider_42 (by decide) rfl ?_
            refine g_iload hX dX5_leastHider_44 5 rfl ?_
            refine g_istore_n (L' := [(0, .ref 0), (1, .int (nI x)), (2, .int (nI y)), (3, .int (nI t)), (4, .int (nI 1000)), (5, .int (nI t)), (6, .int (nI 1000))]) hX dX5_leastHider_46 rfl (by decide) rfl ?_
            refine g_iinc (v := nI (t + 1)) (L' := [(0, .ref 0), (1, .int (nI x)), (2, .int (nI y)), (3, .int (nI t)), (4, .int (nI 1000)), (5, .int (nI (t + 1))), (6, .int (nI 1000))]) hX dX5_leastHider_47 (by decide) 5 rfl (nI_add t 1) rfl ?_
            refine g_goto (tgt := 11) hX dX5_leastHider_50 (by decide) ?_
            refine g_loc [0, 1, 2, 3, 4, 5] rfl ?_
            exact ih (nI t) ((1000 : Nat) : Int) (t + 1) (by first | assumption | omega) (by first | assumption | omega) (by first | assumption | omega) (by first | exact lhI_none hI ho28 | exact lhI_keep hI ho28 (by omega) h37 | exact lhI_less hI ho28 h37 | (exfalso; omega)) (by omega)
        · refine g_top (y := zI m1) (by rw [ho28]; rfl) ?_
          have hb1 := rvO_b hB ho28 hk (by omega)
          refine g_istore (L' := [(0, .ref 0), (1, .int (nI x)), (2, .int (nI y)), (3, .int v3), (4, .int (zI lz)), (5, .int (nI t)), (6, .int (zI m1))]) hX dX5_leastHider_31 (by decide) rfl ?_
          refine g_iload hX dX5_leastHider_33 6 rfl ?_
          refine g_iload hX dX5_leastHider_35 4 rfl ?_
          refine g_ci_ge (a := (m1 : Int)) (b := (lz : Int)) (tgt := 47) hX dX5_leastHider_37 (by decide) (zI_toInt (by omega) (by omega)) (zI_toInt (by omega) (by omega)) (fun h37 => ?_) (fun h37 => ?_)
          · refine g_iinc (v := nI (t + 1)) (L' := [(0, .ref 0), (1, .int (nI x)), (2, .int (nI y)), (3, .int v3), (4, .int (zI lz)), (5, .int (nI (t + 1))), (6, .int (zI m1))]) hX dX5_leastHider_47 (by decide) 5 rfl (nI_add t 1) rfl ?_
            refine g_goto (tgt := 11) hX dX5_leastHider_50 (by decide) ?_
            refine g_loc [0, 1, 2, 3, 4, 5] rfl ?_
            exact ih v3 lz (t + 1) (by first | assumption | omega) (by first | assumption | omega) (by first | assumption | omega) (by first | exact lhI_none hI ho28 | exact lhI_keep hI ho28 (by omega) h37 | exact lhI_less hI ho28 h37 | (exfalso; omega)) (by omega)
          · refine g_iload hX dX5_leastHider_40 6 rfl ?_
            refine g_istore (L' := [(0, .ref 0), (1, .int (nI x)), (2, .int (nI y)), (3, .int v3), (4, .int (zI m1)), (5, .int (nI t)), (6, .int (zI m1))]) hX dX5_leastHider_42 (by decide) rfl ?_
            refine g_iload hX dX5_leastHider_44 5 rfl ?_
            refine g_istore_n (L' := [(0, .ref 0), (1, .int (nI x)), (2, .int (nI y)), (3, .int (nI t)), (4, .int (zI m1)), (5, .int (nI t)), (6, .int (zI m1))]) hX dX5_leastHider_46 rfl (by decide) rfl ?_
            refine g_iinc (v := nI (t + 1)) (L' := [(0, .ref 0), (1, .int (nI x)), (2, .int (nI y)), (3, .int (nI t)), (4, .int (zI m1)), (5, .int (nI (t + 1))), (6, .int (zI m1))]) hX dX5_leastHider_47 (by decide) 5 rfl (nI_add t 1) rfl ?_
            refine g_goto (tgt := 11) hX dX5_leastHider_50 (by decide) ?_
            refine g_loc [0, 1, 2, 3, 4, 5] rfl ?_
            exact ih (nI t) m1 (t + 1) (by first | assumption | omega) (by first | assumption | omega) (by first | assumption | omega) (by first | exact lhI_none hI ho28 | exact lhI_keep hI ho28 (by omega) h37 | exact lhI_less hI ho28 h37 | (exfalso; omega)) (by omega)
  exact cut11 _ (-1000000) ((1000 : Nat) : Int) 0 (by first | assumption | omega) (by first | assumption | omega) (by first | assumption | omega) lhI_0 (Nat.lt_succ_self _)

theorem c_X6_rival_none (l : Launch) {nw sp : Nat} {I : xM} {x y : Int32} (hst : I 307 7 = nI 0) : xC l 1 0 0 yX6_rival cX6_rival 10 (some .int) 319 [.ref 307, .int x, .int y] I (xRL nw sp) (xpI (-1000002) 319 (xput I 307 0 (nI 0)) (xRL nw sp)) := by
  refine xC_of (by decide) (Nat.le_of_ble_eq_true rfl) (fun X hXl hX hR => ?_)
  have hX : xOK X RX6 cX6_rival 10 1 0 0 := hX
  show G X 319 0 0 I (xRL nw sp) 0 [(0, .ref 307), (1, .int x), (2, .int y)] []
  refine g_aload_n hX dX6_rival_0 rfl 0 rfl ?_
  refine g_iconst (v := nI 0) hX dX6_rival_1 (by decide) ?_
  refine g_putI hX (by decide) (by decide) xCl6 0 (by decide) (by decide) (by decide) kX6_44 dX6_rival_2 rfl rfl ?_
  refine g_aload_n hX dX6_rival_5 rfl 0 rfl ?_
  refine g_getI (v := nI 0) hX (by decide) (by decide) xCl6 7 (by decide) (by decide) kX6_186 dX6_rival_6 (xput_i (by decide) hst) ?_
  refine g_cz_ne (a := (0 : Int)) (tgt := 15) hX dX6_rival_9 (by decide) (by decide) (fun q => absurd q (by decide)) (fun _ => ?_)
  refine g_ldc (v := -1000002) hX cX6_205 dX6_rival_12 ?_
  exact g_iret hX hR dX6_rival_14 (by decide) (by decide) ⟨congrArg (fun z => some (Value.int z)) rfl, rfl, rfl, rfl⟩

theorem c_X6_rival_bad (l : Launch) {nw sp : Nat} {I : xM} {x y : Int32} (hst : I 307 7 = nI 1) (hb : ¬ ((0 ≤ x.toInt ∧ x.toInt ≤ 30) ∧ (1 ≤ y.toInt ∧ y.toInt ≤ 9))) : xC l 3 0 0 yX6_rival cX6_rival 10 (some .int) 319 [.ref 307, .int x, .int y] I (xRL nw sp) (xpI (-1000001) 319 (xput I 307 0 (nI 0)) (xRL nw sp)) := by
  refine xC_of (by decide) (Nat.le_of_ble_eq_true rfl) (fun X hXl hX hR => ?_)
  have hX : xOK X RX6 cX6_rival 10 3 0 0 := hX
  show G X 319 0 0 I (xRL nw sp) 0 [(0, .ref 307), (1, .int x), (2, .int y)] []
  refine g_aload_n hX dX6_rival_0 rfl 0 rfl ?_
  refine g_iconst (v := nI 0) hX dX6_rival_1 (by decide) ?_
  refine g_putI hX (by decide) (by decide) xCl6 0 (by decide) (by decide) (by decide) kX6_44 dX6_rival_2 rfl rfl ?_
  refine g_aload_n hX dX6_rival_5 rfl 0 rfl ?_
  refine g_getI (v := nI 1) hX (by decide) (by decide) xCl6 7 (by decide) (by decide) kX6_186 dX6_rival_6 (xput_i (by decide) hst) ?_
  refine g_cz_ne (a := (1 : Int)) (tgt := 15) hX dX6_rival_9 (by decide) (by decide) (fun _ => ?_) (fun q => absurd q (by decide))
  refine g_iload_n hX dX6_rival_15 rfl 1 rfl ?_
  refine g_callSi hX (as := [.int x]) (fun l => c_X6_isEye l (I := (xput I 307 0 (nI 0))) (x := x) ) mX6_isEye sX6_isEye lX6_243 rfl dX6_rival_16 rfl (by decide) (Nat.le_of_ble_eq_true rfl) (by decide) (by decide) ?_
  refine g_cb_eq (tgt := 34) hX dX6_rival_19 (by decide) (fun h19 => ?_) (fun h19 => ?_)
  · refine g_ldc (v := -1000001) hX cX6_64 dX6_rival_34 ?_
    exact g_iret hX hR dX6_rival_36 (by decide) (by decide) ⟨congrArg (fun z => some (Value.int z)) rfl, rfl, rfl, rfl⟩
  · refine g_iload_n hX dX6_rival_22 rfl 2 rfl ?_
    refine g_i2l (v := y.toInt64) hX dX6_rival_23 rfl ?_
    refine g_lconst (v := 1) hX dX6_rival_24 (by decide) ?_
    refine g_ldc2 (v := 9) hX cX6_261 dX6_rival_25 ?_
    refine g_callSi (as := [.long y.toInt64, .long 1, .long (9)]) hX (fun l => c_X6_in l) mX6_in sX6_in lX6_54 rfl dX6_rival_28 rfl (by decide) (Nat.le_of_ble_eq_true rfl) (by decide) (by decide) ?_
    refine g_top (y := xb ((1 : Int) ≤ y.toInt ∧ y.toInt ≤ (9 : Int))) (xb_iffI ((i64_of _).trans rfl) (by decide) (by decide)) ?_
    refine g_cb_ne (tgt := 37) hX dX6_rival_31 (by decide) (fun h31 => ?_) (fun h31 => ?_)
    · exfalso; omega
    · refine g_ldc (v := -1000001) hX cX6_64 dX6_rival_34 ?_
      exact g_iret hX hR dX6_rival_36 (by decide) (by decide) ⟨congrArg (fun z => some (Value.int z)) rfl, rfl, rfl, rfl⟩

theorem c_X6_rival_ok (l : Launch) {nw sp : Nat} {I : xM} {e m T S F W : Nat} (hst : I 307 7 = nI 1) (he : e ≤ 30) (hm1 : 1 ≤ m) (hm9 : m ≤ 9) (hW : WF (I 311) T S F W) (hB : BD (I 311) T S) (had : ∀ t, t < 6 → I 315 t = 0) : xC l 5 0 0 yX6_rival cX6_rival 10 (some .int) 319 [.ref 307, .int (nI e), .int (nI m)] I (xRL nw sp) (xpR 319 (xRL nw sp) (fun r K => r = oS (rvS (I 311) (I 315) T (gN (I 311) 0 + e) (gN (I 311) 18) m) ∧ ∃ ad, K = xrow (xput I 307 0 (nI 0)) 315 ad ∧ ∀ t, t < 6 → ad t = 0)) := by
  refine xC_of (by decide) (Nat.le_of_ble_eq_true rfl) (fun X hXl hX hR => ?_)
  have hX : xOK X RX6 cX6_rival 10 5 0 0 := hX
  show G X 319 0 0 I (xRL nw sp) 0 [(0, .ref 307), (1, .int (nI e)), (2, .int (nI m))] []
  have hT6 := hW.T6
  have g0 := hB.gl (q := 0) (by decide)
  have g18 := hB.gl (q := 18) (by decide)
  refine g_aload_n hX dX6_rival_0 rfl 0 rfl ?_
  refine g_iconst (v := nI 0) hX dX6_rival_1 (by decide) ?_
  refine g_putI hX (by decide) (by decide) xCl6 0 (by decide) (by decide) (by decide) kX6_44 dX6_rival_2 rfl rfl ?_
  refine g_aload_n hX dX6_rival_5 rfl 0 rfl ?_
  refine g_getI (v := nI 1) hX (by decide) (by decide) xCl6 7 (by decide) (by decide) kX6_186 dX6_rival_6 (xput_i (by decide) hst) ?_
  refine g_cz_ne (a := (1 : Int)) (tgt := 15) hX dX6_rival_9 (by decide) (by decide) (fun _ => ?_) (fun q => absurd q (by decide))
  refine g_iload_n hX dX6_rival_15 rfl 1 rfl ?_
  refine g_callSi hX (as := [.int (nI e)]) (fun l => c_X6_isEye l (I := (xput I 307 0 (nI 0))) (x := (nI e)) ) mX6_isEye sX6_isEye lX6_243 rfl dX6_rival_16 rfl (by decide) (Nat.le_of_ble_eq_true rfl) (by decide) (by decide) ?_
  refine g_top (y := xb ((0 : Int) ≤ ((e : Nat) : Int) ∧ ((e : Nat) : Int) ≤ (30 : Int))) (by rw [nI_toInt (n := e) (by omega)]) ?_
  refine g_cb_eq (tgt := 34) hX dX6_rival_19 (by decide) (fun h19 => ?_) (fun h19 => ?_)
  · exfalso; omega
  · refine g_iload_n hX dX6_rival_22 rfl 2 rfl ?_
    refine g_i2l (v := (nI m).toInt64) hX dX6_rival_23 rfl ?_
    refine g_lconst (v := 1) hX dX6_rival_24 (by decide) ?_
    refine g_ldc2 (v := 9) hX cX6_261 dX6_rival_25 ?_
    refine g_callSi (as := [.long ((nI m).toInt64), .long 1, .long (9)]) hX (fun l => c_X6_in l) mX6_in sX6_in lX6_54 rfl dX6_rival_28 rfl (by decide) (Nat.le_of_ble_eq_true rfl) (by decide) (by decide) ?_
    refine g_top (y := xb ((1 : Int) ≤ ((m : Nat) : Int) ∧ ((m : Nat) : Int) ≤ (9 : Int))) (xb_iffI ((i64_of _).trans (nI_toInt (by omega))) (by decide) (by decide)) ?_
    refine g_cb_ne (tgt := 37) hX dX6_rival_31 (by decide) (fun h31 => ?_) (fun h31 => ?_)
    · refine g_aload_n hX dX6_rival_37 rfl 0 rfl ?_
      refine g_iconst (v := nI 0) hX dX6_rival_38 (by decide) ?_
      refine g_callVi hX (as := [.int (nI 0)]) (fun l => c_X6_ground l (I := (xput I 307 0 (nI 0))) (q := 0) (hq := (by first | assumption | omega))) mX6_ground vX6_ground lX6_199 (by decide) (by decide) xCl6 rfl rfl dX6_rival_39 rfl (by decide) (Nat.le_of_ble_eq_true rfl) (by decide) (by decide) ?_
      refine g_top (y := nI (gN (I 311) 0)) (hB.gr (by decide)) ?_
      refine g_iload_n hX dX6_rival_42 rfl 1 rfl ?_
      refine g_iadd (v := nI ((gN (I 311) 0) + e)) hX dX6_rival_43 (nI_add (gN (I 311) 0) e) ?_
      refine g_istore_n (L' := [(0, .ref 307), (1, .int (nI e)), (2, .int (nI m)), (3, .int (nI ((gN (I 311) 0) + e)))]) hX dX6_rival_44 rfl (by decide) rfl ?_
      refine g_iconst (v := nI 0) hX dX6_rival_45 (by decide) ?_
      refine g_istore (L' := [(0, .ref 307), (1, .int (nI e)), (2, .int (nI m)), (3, .int (nI ((gN (I 311) 0) + e))), (4, .int (nI 0))]) hX dX6_rival_46 (by decide) rfl ?_
      refine g_iconst (v := nI 1) hX dX6_rival_48 (by decide) ?_
      refine g_istore (L' := [(0, .ref 307), (1, .int (nI e)), (2, .int (nI m)), (3, .int (nI ((gN (I 311) 0) + e))), (4, .int (nI 0)), (5, .int (nI 1))]) hX dX6_rival_49 (by decide) rfl ?_
      have cut51 : ∀ (fuel : Nat) (v4 : Int32) (k : Nat) (J : xM) (hk9 : k ≤ m) (hR0 : rvR (xput I 307 0 (nI 0)) (I 311) (I 315) T (gN (I 311) 0 + e) (gN (I 311) 18) k v4 J), 20 - k < fuel → G X 319 0 0 J (xRL nw sp) 51 [(0, .ref 307), (1, .int (nI e)), (2, .int (nI m)), (3, .int (nI (gN (I 311) 0 + e))), (4, .int v4), (5, .int (nI (k + 1)))] [] := by
        intro fuel
        induction fuel with
        | zero => intro v4 k J hk9 hR0 hfuel; omega
        | succ fuel ih =>
          intro v4 k J hk9 hR0 hfuel
          have e1 : J 311 = I 311 := by obtain ⟨a0, ea⟩ := rvR_ad hR0; rw [ea]; exact xrow_o (by decide)
          refine g_iload hX dX6_rival_51 5 rfl ?_
          refine g_iload_n hX dX6_rival_53 rfl 2 rfl ?_
          refine g_ci_gt (a := ((k + 1 : Nat) : Int)) (b := ((m : Nat) : Int)) (tgt := 213) hX dX6_rival_54 (by decide) (nI_toInt (by omega)) (nI_toInt (by omega)) (fun h54 => ?_) (fun h54 => ?_)
          · have hres : v4 = oS (rvS (I 311) (I 315) T (gN (I 311) 0 + e) (gN (I 311) 18) m) := rvR_end hR0 hk9 hm9 (Or.inl (by omega))
            refine g_iconst (v := nI 0) hX dX6_rival_213 (by decide) ?_
            refine g_istore (L' := [(0, .ref 307), (1, .int (nI e)), (2, .int (nI m)), (3, .int (nI (gN (I 311) 0 + e))), (4, .int v4), (5, .int (nI 0))]) hX dX6_rival_214 (by decide) rfl ?_
            have cut216 : ∀ (fuel216 : Nat) (z : Nat) (K : xM) (hz : z ≤ 6) (hK : ∃ ad, K = xrow (xput I 307 0 (nI 0)) 315 ad ∧ ∀ t, t < z → ad t = 0), 6 - z < fuel216 → G X 319 0 0 K (xRL nw sp) 216 [(0, .ref 307), (4, .int v4), (5, .int (nI z))] [] := by
              intro fuel216
              induction fuel216 with
              | zero => intro z K hz hK hfuel216; omega
              | succ fuel216 ih216 =>
                intro z K hz hK hfuel216
                refine g_iload hX dX6_rival_216 2 rfl ?_
                refine g_bipush (v := nI 6) hX dX6_rival_218 (by decide) ?_
                refine g_ci_ge (a := ((z : Nat) : Int)) (b := (6 : Int)) (tgt := 237) hX dX6_rival_220 (by decide) (nI_toInt (by omega)) (by decide) (fun h220 => ?_) (fun h220 => ?_)
                · refine g_iload hX dX6_rival_237 1 rfl ?_
                  exact g_iret hX hR dX6_rival_239 (by decide) (by decide) ⟨_, rfl, rfl, ⟨hres, by obtain ⟨a0, ea, hz0⟩ := hK; exact ⟨a0, ea, fun t ht => hz0 t (by omega)⟩⟩, rfl⟩
                · refine g_aload_n hX dX6_rival_223 rfl 0 rfl ?_
                  refine g_getR (j := 315) hX (by decide) (by decide) xCl6 20 (by decide) (by decide) kX6_31 dX6_rival_224 rfl ?_
                  refine g_iload hX dX6_rival_227 2 rfl ?_
                  refine g_iconst (v := nI 0) hX dX6_rival_229 (by decide) ?_
                  refine g_iast hX (by decide) (by decide) z rfl (by rw [(show xN 315 = 7 by decide)]; omega) dX6_rival_230 ?_
                  refine g_iinc (v := nI (z + 1)) (L' := [(0, .ref 307), (4, .int v4), (5, .int (nI (z + 1)))]) hX dX6_rival_231 (by decide) 2 rfl (nI_add z 1) rfl ?_
                  refine g_goto (tgt := 216) hX dX6_rival_234 (by decide) ?_
                  exact ih216 (z + 1) (xput K 315 z (nI 0)) (by first | assumption | omega) (rv_zero hK) (by omega)
            refine g_loc [0, 4, 5] rfl ?_
            exact cut216 _ 0 J (by first | assumption | omega) (by obtain ⟨a0, ea⟩ := rvR_ad hR0; exact ⟨a0, ea, fun t ht => absurd ht (Nat.not_lt_zero t)⟩) (Nat.lt_succ_self _)
          · refine g_iload hX dX6_rival_57 4 rfl ?_
            refine g_ldc (v := -1000000) hX cX6_80 dX6_rival_59 ?_
            refine g_ci_eq (a := v4.toInt) (b := (-1000000 : Int)) (tgt := 213) hX dX6_rival_61 (by decide) rfl (by decide) (fun h61 => ?_) (fun h61 => ?_)
            · have hres : v4 = oS (rvS (I 311) (I 315) T (gN (I 311) 0 + e) (gN (I 311) 18) m) := rvR_end hR0 hk9 hm9 (Or.inr h61)
              refine g_iconst (v := nI 0) hX dX6_rival_213 (by decide) ?_
              refine g_istore (L' := [(0, .ref 307), (1, .int (nI e)), (2, .int (nI m)), (3, .int (nI (gN (I 311) 0 + e))), (4, .int v4), (5, .int (nI 0))]) hX dX6_rival_214 (by decide) rfl ?_
              have cut216 : ∀ (fuel216 : Nat) (z : Nat) (K : xM) (hz : z ≤ 6) (hK : ∃ ad, K = xrow (xput I 307 0 (nI 0)) 315 ad ∧ ∀ t, t < z → ad t = 0), 6 - z < fuel216 → G X 319 0 0 K (xRL nw sp) 216 [(0, .ref 307), (4, .int v4), (5, .int (nI z))] [] := by
                intro fuel216
                induction fuel216 with
                | zero => intro z K hz hK hfuel216; omega
                | succ fuel216 ih216 =>
                  intro z K hz hK hfuel216
                  refine g_iload hX dX6_rival_216 2 rfl ?_
                  refine g_bipush (v := nI 6) hX dX6_rival_218 (by decide) ?_
                  refine g_ci_ge (a := ((z : Nat) : Int)) (b := (6 : Int)) (tgt := 237) hX dX6_rival_220 (by decide) (nI_toInt (by omega)) (by decide) (fun h220 => ?_) (fun h220 => ?_)
                  · refine g_iload hX dX6_rival_237 1 rfl ?_
                    exact g_iret hX hR dX6_rival_239 (by decide) (by decide) ⟨_, rfl, rfl, ⟨hres, by obtain ⟨a0, ea, hz0⟩ := hK; exact ⟨a0, ea, fun t ht => hz0 t (by omega)⟩⟩, rfl⟩
                  · refine g_aload_n hX dX6_rival_223 rfl 0 rfl ?_
                    refine g_getR (j := 315) hX (by decide) (by decide) xCl6 20 (by decide) (by decide) kX6_31 dX6_rival_224 rfl ?_
                    refine g_iload hX dX6_rival_227 2 rfl ?_
                    refine g_iconst (v := nI 0) hX dX6_rival_229 (by decide) ?_
                    refine g_iast hX (by decide) (by decide) z rfl (by rw [(show xN 315 = 7 by decide)]; omega) dX6_rival_230 ?_
                    refine g_iinc (v := nI (z + 1)) (L' := [(0, .ref 307), (4, .int v4), (5, .int (nI (z + 1)))]) hX dX6_rival_231 (by decide) 2 rfl (nI_add z 1) rfl ?_
                    refine g_goto (tgt := 216) hX dX6_rival_234 (by decide) ?_
                    exact ih216 (z + 1) (xput K 315 z (nI 0)) (by first | assumption | omega) (rv_zero hK) (by omega)
              refine g_loc [0, 4, 5] rfl ?_
              exact cut216 _ 0 J (by first | assumption | omega) (by obtain ⟨a0, ea⟩ := rvR_ad hR0; exact ⟨a0, ea, fun t ht => absurd ht (Nat.not_lt_zero t)⟩) (Nat.lt_succ_self _)
            · obtain ⟨s, ad, hrs, rfl, hJ, hk⟩ := rvR_s hR0 h61
              have e2 : J 315 = ad := by rw [hJ, xrow_e]
              have hk1 := hk.1
              refine g_aload_n hX dX6_rival_64 rfl 0 rfl ?_
              refine g_bipush (v := nI 18) hX dX6_rival_65 (by decide) ?_
              refine g_callVi hX (as := [.int (nI 18)]) (fun l => c_X6_ground l (I := J) (q := 18) (hq := (by first | assumption | omega))) mX6_ground vX6_ground lX6_199 (by decide) (by decide) xCl6 rfl rfl dX6_rival_67 rfl (by decide) (Nat.le_of_ble_eq_true rfl) (by decide) (by decide) ?_
              refine g_top (y := nI (gN (I 311) 18)) (by rw [e1]; exact hB.gr (by decide)) ?_
              refine g_bipush (v := nI 10) hX dX6_rival_70 (by decide) ?_
              refine g_iload hX dX6_rival_72 5 rfl ?_
              refine g_imul (v := nI (10 * (k + 1))) hX dX6_rival_74 (nI_mul 10 (k + 1)) ?_
              refine g_iadd (v := nI ((gN (I 311) 18) + (10 * (k + 1)))) hX dX6_rival_75 (nI_add (gN (I 311) 18) (10 * (k + 1))) ?_
              refine g_istore (L' := [(0, .ref 307), (1, .int (nI e)), (2, .int (nI m)), (3, .int (nI (gN (I 311) 0 + e))), (4, .int (zI s)), (5, .int (nI (k + 1))), (6, .int (nI ((gN (I 311) 18) + (10 * (k + 1)))))]) hX dX6_rival_76 (by decide) rfl ?_
              refine g_aload_n hX dX6_rival_78 rfl 0 rfl ?_
              refine g_iconst (v := nI 0) hX dX6_rival_79 (by decide) ?_
              refine g_iload_n hX dX6_rival_80 rfl 3 rfl ?_
              refine g_bipush (v := nI 18) hX dX6_rival_81 (by decide) ?_
              refine g_iload hX dX6_rival_83 6 rfl ?_
              refine g_callVi hX (as := [.int (nI 0), .int (nI (gN (I 311) 0 + e)), .int (nI 18), .int (nI ((gN (I 311) 18) + (10 * (k + 1))))]) (fun l => c_X6_isFree l (I := J) (a := 0) (c := 18) (T := T) (x := (nI (gN (I 311) 0 + e))) (y := (nI ((gN (I 311) 18) + (10 * (k + 1))))) (hT := (by rw [e1]; exact hW.T0)) (hT6 := (by first | assumption | omega)) (ha := (by first | assumption | omega)) (hc := (by first | assumption | omega))) mX6_isFree vX6_isFree lX6_233 (by decide) (by decide) xCl6 rfl rfl dX6_rival_85 rfl (by decide) (Nat.le_of_ble_eq_true rfl) (by decide) (by decide) ?_
              refine g_top (y := xb (frP (brF (I 311) ad T) 0 (nI (gN (I 311) 0 + e)) 18 (nI (gN (I 311) 18 + 10 * (k + 1))))) (xb_iff (by rw [e1, e2])) ?_
              refine g_cb_eq (tgt := 207) hX dX6_rival_88 (by decide) (fun h88 => ?_) (fun h88 => ?_)
              · refine g_iinc (v := nI (k + 1 + 1)) (L' := [(0, .ref 307), (1, .int (nI e)), (2, .int (nI m)), (3, .int (nI (gN (I 311) 0 + e))), (4, .int (zI s)), (5, .int (nI (k + 1 + 1))), (6, .int (nI ((gN (I 311) 18) + (10 * (k + 1)))))]) hX dX6_rival_207 (by decide) 5 rfl (nI_add (k + 1) 1) rfl ?_
                refine g_goto (tgt := 51) hX dX6_rival_210 (by decide) ?_
                refine g_loc [0, 1, 2, 3, 4, 5] rfl ?_
                exact ih (zI s) (k + 1) J (by first | assumption | omega) (by first | exact rvR_no hrs hk h88 hJ | exact rvR_nn hrs h88 (oI_n h7 (fun u hu => by have := lh_lt hu; omega) h167) hJ | exact rvR_up hB hrs hk h88 hu3 ho183 hJ) (by omega)
              · refine g_ldc (v := -1000000) hX cX6_80 dX6_rival_91 ?_
                refine g_istore (L' := [(0, .ref 307), (1, .int (nI e)), (2, .int (nI m)), (3, .int (nI (gN (I 311) 0 + e))), (4, .int (zI s)), (5, .int (nI (k + 1))), (6, .int (nI ((gN (I 311) 18) + (10 * (k + 1))))), (7, .int (-1000000))]) hX dX6_rival_93 (by decide) rfl ?_
                refine g_iconst (v := nI 0) hX dX6_rival_95 (by decide) ?_
                refine g_istore (L' := [(0, .ref 307), (1, .int (nI e)), (2, .int (nI m)), (3, .int (nI (gN (I 311) 0 + e))), (4, .int (zI s)), (5, .int (nI (k + 1))), (6, .int (nI ((gN (I 311) 18) + (10 * (k + 1))))), (7, .int (-1000000)), (8, .int (nI 0))]) hX dX6_rival_96 (by decide) rfl ?_
                have cut98 : ∀ (fuel98 : Nat) (v7 : Int32) (t : Nat) (ht : t ≤ T) (h7 : v7 = oI (lhF (rvO (I 311) ad (gN (I 311) 0 + e) (gN (I 311) 18 + 10 * (k + 1))) t)), T - t < fuel98 → G X 319 0 0 J (xRL nw sp) 98 [(0, .ref 307), (1, .int (nI e)), (2, .int (nI m)), (3, .int (nI (gN (I 311) 0 + e))), (4, .int (zI s)), (5, .int (nI (k + 1))), (6, .int (nI (gN (I 311) 18 + 10 * (k + 1)))), (7, .int v7), (8, .int (nI t))] [] := by
                  intro fuel98
                  induction fuel98 with
                  | zero => intro v7 t ht h7 hfuel98; omega
                  | succ fuel98 ih98 =>
                    intro v7 t ht h7 hfuel98
                    refine g_iload hX dX6_rival_98 8 rfl ?_
                    refine g_aload_n hX dX6_rival_100 rfl 0 rfl ?_
                    refine g_getR (j := 311) hX (by decide) (by decide) xCl6 5 (by decide) (by decide) kX6_19 dX6_rival_101 rfl ?_
                    refine g_iconst (v := nI 0) hX dX6_rival_104 (by decide) ?_
                    refine g_iald (v := nI T) hX (by decide) (by decide) 0 rfl (by rw [(show xN 311 = 74 by decide)]; decide) dX6_rival_105 (by rw [e1]; exact hW.T0) ?_
                    refine g_ci_ge (a := ((t : Nat) : Int)) (b := ((T : Nat) : Int)) (tgt := 163) hX dX6_rival_106 (by decide) (nI_toInt (by omega)) (nI_toInt (by omega)) (fun h106 => ?_) (fun h106 => ?_)
                    · rw [show t = T by omega] at h7
                      refine g_iload hX dX6_rival_163 7 rfl ?_
                      refine g_ldc (v := -1000000) hX cX6_80 dX6_rival_165 ?_
                      refine g_ci_ne (a := v7.toInt) (b := (-1000000 : Int)) (tgt := 177) hX dX6_rival_167 (by decide) rfl (by decide) (fun h167 => ?_) (fun h167 => ?_)
                      · obtain ⟨u, hu3, rfl⟩ := oI_s h7 h167
                        have hut := lh_lt hu3
                        refine g_aload_n hX dX6_rival_177 rfl 0 rfl ?_
                        refine g_iload hX dX6_rival_178 7 rfl ?_
                        refine g_iload_n hX dX6_rival_180 rfl 3 rfl ?_
                        refine g_iload hX dX6_rival_181 6 rfl ?_
                        refine g_callVi hX (as := [.int (nI u), .int (nI (gN (I 311) 0 + e)), .int (nI (gN (I 311) 18 + 10 * (k + 1)))]) (fun l => c_X6_moreOf l (I := J) (t := u) (x := (gN (I 311) 0 + e)) (y := (gN (I 311) 18 + 10 * (k + 1))) (T := T) (S := S) (F := F) (W := W) (hW := (by rw [e1]; exact hW)) (hB := (by rw [e1]; exact hB)) (ht := (by omega)) (hh1 := (by rw [e1, e2]; exact (hk.2 u (by omega)).1)) (hh2 := (by rw [e1, e2]; exact (hk.2 u (by omega)).2)) (hx := (by first | assumption | omega)) (hy := (by first | assumption | omega))) mX6_moreOf vX6_moreOf lX6_271 (by decide) (by decide) xCl6 rfl rfl dX6_rival_183 rfl (by decide) (Nat.le_of_ble_eq_true rfl) (by decide) (by decide) ?_
                        refine g_top (y := oZ (-1000000) (rvO (I 311) ad (gN (I 311) 0 + e) (gN (I 311) 18 + 10 * (k + 1)) u)) (by rw [e1, e2]) ?_
                        rcases Option.eq_none_or_eq_some (rvO (I 311) ad (gN (I 311) 0 + e) (gN (I 311) 18 + 10 * (k + 1)) u) with ho183 | ⟨m3, ho183⟩
                        · exact absurd ho183 (lh_ne hu3)
                        · refine g_top (y := zI m3) (by rw [ho183]; rfl) ?_
                          refine g_istore (L' := [(0, .ref 307), (1, .int (nI e)), (2, .int (nI m)), (3, .int (nI (gN (I 311) 0 + e))), (4, .int (zI s)), (5, .int (nI (k + 1))), (6, .int (nI (gN (I 311) 18 + 10 * (k + 1)))), (7, .int (nI u)), (8, .int (zI m3))]) hX dX6_rival_186 (by decide) rfl ?_
                          refine g_aload_n hX dX6_rival_188 rfl 0 rfl ?_
                          refine g_getR (j := 315) hX (by decide) (by decide) xCl6 20 (by decide) (by decide) kX6_31 dX6_rival_189 rfl ?_
                          refine g_iload hX dX6_rival_192 7 rfl ?_
                          refine g_dup2 hX rfl rfl dX6_rival_194 ?_
                          refine g_iald (v := J 315 u) hX (by decide) (by decide) u rfl (by rw [(show xN 315 = 7 by decide)]; omega) dX6_rival_195 rfl ?_
                          refine g_iload hX dX6_rival_196 8 rfl ?_
                          refine g_iadd (v := (J 315 u) + (zI m3)) hX dX6_rival_198 rfl ?_
                          refine g_iast hX (by decide) (by decide) u rfl (by rw [(show xN 315 = 7 by decide)]; omega) dX6_rival_199 ?_
                          refine g_iload hX dX6_rival_200 4 rfl ?_
                          refine g_iload hX dX6_rival_202 8 rfl ?_
                          refine g_iadd (v := zI ((s) + (m3))) hX dX6_rival_204 (zI_add ((s)) ((m3))) ?_
                          refine g_istore (L' := [(0, .ref 307), (1, .int (nI e)), (2, .int (nI m)), (3, .int (nI (gN (I 311) 0 + e))), (4, .int (zI ((s) + (m3)))), (5, .int (nI (k + 1))), (6, .int (nI (gN (I 311) 18 + 10 * (k + 1)))), (7, .int (nI u)), (8, .int (zI m3))]) hX dX6_rival_205 (by decide) rfl ?_
                          refine g_iinc (v := nI (k + 1 + 1)) (L' := [(0, .ref 307), (1, .int (nI e)), (2, .int (nI m)), (3, .int (nI (gN (I 311) 0 + e))), (4, .int (zI ((s) + (m3)))), (5, .int (nI (k + 1 + 1))), (6, .int (nI (gN (I 311) 18 + 10 * (k + 1)))), (7, .int (nI u)), (8, .int (zI m3))]) hX dX6_rival_207 (by decide) 5 rfl (nI_add (k + 1) 1) rfl ?_
                          refine g_goto (tgt := 51) hX dX6_rival_210 (by decide) ?_
                          refine g_loc [0, 1, 2, 3, 4, 5] rfl ?_
                          exact ih (zI ((s) + (m3))) (k + 1) (xput J 315 u ((J 315 u) + (zI m3))) (by first | assumption | omega) (by first | exact rvR_no hrs hk h88 hJ | exact rvR_nn hrs h88 (oI_n h7 (fun u hu => by have := lh_lt hu; omega) h167) hJ | exact rvR_up hB hrs hk h88 hu3 ho183 hJ) (by omega)
                      · refine g_ldc (v := -1000000) hX cX6_80 dX6_rival_170 ?_
                        refine g_istore (L' := [(0, .ref 307), (1, .int (nI e)), (2, .int (nI m)), (3, .int (nI (gN (I 311) 0 + e))), (4, .int (-1000000)), (5, .int (nI (k + 1))), (6, .int (nI (gN (I 311) 18 + 10 * (k + 1)))), (7, .int v7), (8, .int (nI t))]) hX dX6_rival_172 (by decide) rfl ?_
                        refine g_goto (tgt := 207) hX dX6_rival_174 (by decide) ?_
                        refine g_iinc (v := nI (k + 1 + 1)) (L' := [(0, .ref 307), (1, .int (nI e)), (2, .int (nI m)), (3, .int (nI (gN (I 311) 0 + e))), (4, .int (-1000000)), (5, .int (nI (k + 1 + 1))), (6, .int (nI (gN (I 311) 18 + 10 * (k + 1)))), (7, .int v7), (8, .int (nI t))]) hX dX6_rival_207 (by decide) 5 rfl (nI_add (k + 1) 1) rfl ?_
                        refine g_goto (tgt := 51) hX dX6_rival_210 (by decide) ?_
                        refine g_loc [0, 1, 2, 3, 4, 5] rfl ?_
                        exact ih (-1000000) (k + 1) J (by first | assumption | omega) (by first | exact rvR_no hrs hk h88 hJ | exact rvR_nn hrs h88 (oI_n h7 (fun u hu => by have := lh_lt hu; omega) h167) hJ | exact rvR_up hB hrs hk h88 hu3 ho183 hJ) (by omega)
                    · refine g_aload_n hX dX6_rival_109 rfl 0 rfl ?_
                      refine g_iload hX dX6_rival_110 8 rfl ?_
                      refine g_iload_n hX dX6_rival_112 rfl 3 rfl ?_
                      refine g_iload hX dX6_rival_113 6 rfl ?_
                      refine g_callVi hX (as := [.int (nI t), .int (nI (gN (I 311) 0 + e)), .int (nI (gN (I 311) 18 + 10 * (k + 1)))]) (fun l => c_X6_moreOf l (I := J) (t := t) (x := (gN (I 311) 0 + e)) (y := (gN (I 311) 18 + 10 * (k + 1))) (T := T) (S := S) (F := F) (W := W) (hW := (by rw [e1]; exact hW)) (hB := (by rw [e1]; exact hB)) (ht := (by omega)) (hh1 := (by rw [e1, e2]; exact (hk.2 t (by omega)).1)) (hh2 := (by rw [e1, e2]; exact (hk.2 t (by omega)).2)) (hx := (by first | assumption | omega)) (hy := (by first | assumption | omega))) mX6_moreOf vX6_moreOf lX6_271 (by decide) (by decide) xCl6 rfl rfl dX6_rival_115 rfl (by decide) (Nat.le_of_ble_eq_true rfl) (by decide) (by decide) ?_
                      refine g_top (y := oZ (-1000000) (rvO (I 311) ad (gN (I 311) 0 + e) (gN (I 311) 18 + 10 * (k + 1)) t)) (by rw [e1, e2]) ?_
                      rcases Option.eq_none_or_eq_some (rvO (I 311) ad (gN (I 311) 0 + e) (gN (I 311) 18 + 10 * (k + 1)) t) with ho115 | ⟨m1, ho115⟩
                      · refine g_top (y := (-1000000)) (by rw [ho115]; rfl) ?_
                        refine g_istore (L' := [(0, .ref 307), (1, .int (nI e)), (2, .int (nI m)), (3, .int (nI (gN (I 311) 0 + e))), (4, .int (zI s)), (5, .int (nI (k + 1))), (6, .int (nI (gN (I 311) 18 + 10 * (k + 1)))), (7, .int v7), (8, .int (nI t)), (9, .int (-1000000))]) hX dX6_rival_118 (by decide) rfl ?_
                        refine g_iload hX dX6_rival_120 9 rfl ?_
                        refine g_ldc (v := -1000000) hX cX6_80 dX6_rival_122 ?_
                        refine g_ci_eq (a := (-1000000 : Int)) (b := (-1000000 : Int)) (tgt := 153) hX dX6_rival_124 (by decide) (by decide) (by decide) (fun _ => ?_) (fun q => absurd q (by decide))
                        refine g_iload hX dX6_rival_153 7 rfl ?_
                        refine g_istore (L' := [(0, .ref 307), (1, .int (nI e)), (2, .int (nI m)), (3, .int (nI (gN (I 311) 0 + e))), (4, .int (zI s)), (5, .int (nI (k + 1))), (6, .int (nI (gN (I 311) 18 + 10 * (k + 1)))), (7, .int v7), (8, .int (nI t)), (9, .int (-1000000))]) hX dX6_rival_155 (by decide) rfl ?_
                        refine g_iinc (v := nI (t + 1)) (L' := [(0, .ref 307), (1, .int (nI e)), (2, .int (nI m)), (3, .int (nI (gN (I 311) 0 + e))), (4, .int (zI s)), (5, .int (nI (k + 1))), (6, .int (nI (gN (I 311) 18 + 10 * (k + 1)))), (7, .int v7), (8, .int (nI (t + 1))), (9, .int (-1000000))]) hX dX6_rival_157 (by decide) 8 rfl (nI_add t 1) rfl ?_
                        refine g_goto (tgt := 98) hX dX6_rival_160 (by decide) ?_
                        refine g_loc [0, 1, 2, 3, 4, 5, 6, 7, 8] rfl ?_
                        exact ih98 v7 (t + 1) (by first | assumption | omega) (by first | (rw [lh_none ho115]; exact h7) | (rw [lh_first ho115 (oI_n h7 (fun u hu => by have := lh_lt hu; omega) h131)]; rfl) | (rw [lh_less ho115 hu ho142 h145]; rfl) | (rw [lh_keep ho115 hu ho142 h145]; rfl)) (by omega)
                      · refine g_top (y := zI m1) (by rw [ho115]; rfl) ?_
                        have hb1 := rvO_b hB ho115 hk (by omega)
                        refine g_istore (L' := [(0, .ref 307), (1, .int (nI e)), (2, .int (nI m)), (3, .int (nI (gN (I 311) 0 + e))), (4, .int (zI s)), (5, .int (nI (k + 1))), (6, .int (nI (gN (I 311) 18 + 10 * (k + 1)))), (7, .int v7), (8, .int (nI t)), (9, .int (zI m1))]) hX dX6_rival_118 (by decide) rfl ?_
                        refine g_iload hX dX6_rival_120 9 rfl ?_
                        refine g_ldc (v := -1000000) hX cX6_80 dX6_rival_122 ?_
                        refine g_ci_eq (a := (m1 : Int)) (b := (-1000000 : Int)) (tgt := 153) hX dX6_rival_124 (by decide) (zI_toInt (by omega) (by omega)) (by decide) (fun h124 => ?_) (fun h124 => ?_)
                        · exfalso; omega
                        · refine g_iload hX dX6_rival_127 7 rfl ?_
                          refine g_ldc (v := -1000000) hX cX6_80 dX6_rival_129 ?_
                          refine g_ci_eq (a := v7.toInt) (b := (-1000000 : Int)) (tgt := 148) hX dX6_rival_131 (by decide) rfl (by decide) (fun h131 => ?_) (fun h131 => ?_)
                          · refine g_iload hX dX6_rival_148 8 rfl ?_
                            refine g_goto (tgt := 155) hX dX6_rival_150 (by decide) ?_
                            refine g_istore (L' := [(0, .ref 307), (1, .int (nI e)), (2, .int (nI m)), (3, .int (nI (gN (I 311) 0 + e))), (4, .int (zI s)), (5, .int (nI (k + 1))), (6, .int (nI (gN (I 311) 18 + 10 * (k + 1)))), (7, .int (nI t)), (8, .int (nI t)), (9, .int (zI m1))]) hX dX6_rival_155 (by decide) rfl ?_
                            refine g_iinc (v := nI (t + 1)) (L' := [(0, .ref 307), (1, .int (nI e)), (2, .int (nI m)), (3, .int (nI (gN (I 311) 0 + e))), (4, .int (zI s)), (5, .int (nI (k + 1))), (6, .int (nI (gN (I 311) 18 + 10 * (k + 1)))), (7, .int (nI t)), (8, .int (nI (t + 1))), (9, .int (zI m1))]) hX dX6_rival_157 (by decide) 8 rfl (nI_add t 1) rfl ?_
                            refine g_goto (tgt := 98) hX dX6_rival_160 (by decide) ?_
                            refine g_loc [0, 1, 2, 3, 4, 5, 6, 7, 8] rfl ?_
                            exact ih98 (nI t) (t + 1) (by first | assumption | omega) (by first | (rw [lh_none ho115]; exact h7) | (rw [lh_first ho115 (oI_n h7 (fun u hu => by have := lh_lt hu; omega) h131)]; rfl) | (rw [lh_less ho115 hu ho142 h145]; rfl) | (rw [lh_keep ho115 hu ho142 h145]; rfl)) (by omega)
                          · obtain ⟨u, hu, rfl⟩ := oI_s h7 h131
                            have hut := lh_lt hu
                            refine g_iload hX dX6_rival_134 9 rfl ?_
                            refine g_aload_n hX dX6_rival_136 rfl 0 rfl ?_
                            refine g_iload hX dX6_rival_137 7 rfl ?_
                            refine g_iload_n hX dX6_rival_139 rfl 3 rfl ?_
                            refine g_iload hX dX6_rival_140 6 rfl ?_
                            refine g_callVi hX (as := [.int (nI u), .int (nI (gN (I 311) 0 + e)), .int (nI (gN (I 311) 18 + 10 * (k + 1)))]) (fun l => c_X6_moreOf l (I := J) (t := u) (x := (gN (I 311) 0 + e)) (y := (gN (I 311) 18 + 10 * (k + 1))) (T := T) (S := S) (F := F) (W := W) (hW := (by rw [e1]; exact hW)) (hB := (by rw [e1]; exact hB)) (ht := (by omega)) (hh1 := (by rw [e1, e2]; exact (hk.2 u (by omega)).1)) (hh2 := (by rw [e1, e2]; exact (hk.2 u (by omega)).2)) (hx := (by first | assumption | omega)) (hy := (by first | assumption | omega))) mX6_moreOf vX6_moreOf lX6_271 (by decide) (by decide) xCl6 rfl rfl dX6_rival_142 rfl (by decide) (Nat.le_of_ble_eq_true rfl) (by decide) (by decide) ?_
                            refine g_top (y := oZ (-1000000) (rvO (I 311) ad (gN (I 311) 0 + e) (gN (I 311) 18 + 10 * (k + 1)) u)) (by rw [e1, e2]) ?_
                            rcases Option.eq_none_or_eq_some (rvO (I 311) ad (gN (I 311) 0 + e) (gN (I 311) 18 + 10 * (k + 1)) u) with ho142 | ⟨m2, ho142⟩
                            · exact absurd ho142 (lh_ne hu)
                            · refine g_top (y := zI m2) (by rw [ho142]; rfl) ?_
                              have hb2 := rvO_b hB ho142 hk (by omega)
                              refine g_ci_ge (a := (m1 : Int)) (b := (m2 : Int)) (tgt := 153) hX dX6_rival_145 (by decide) (zI_toInt (by omega) (by omega)) (zI_toInt (by omega) (by omega)) (fun h145 => ?_) (fun h145 => ?_)
                              · refine g_iload hX dX6_rival_153 7 rfl ?_
                                refine g_istore (L' := [(0, .ref 307), (1, .int (nI e)), (2, .int (nI m)), (3, .int (nI (gN (I 311) 0 + e))), (4, .int (zI s)), (5, .int (nI (k + 1))), (6, .int (nI (gN (I 311) 18 + 10 * (k + 1)))), (7, .int (nI u)), (8, .int (nI t)), (9, .int (zI m1))]) hX dX6_rival_155 (by decide) rfl ?_
                                refine g_iinc (v := nI (t + 1)) (L' := [(0, .ref 307), (1, .int (nI e)), (2, .int (nI m)), (3, .int (nI (gN (I 311) 0 + e))), (4, .int (zI s)), (5, .int (nI (k + 1))), (6, .int (nI (gN (I 311) 18 + 10 * (k + 1)))), (7, .int (nI u)), (8, .int (nI (t + 1))), (9, .int (zI m1))]) hX dX6_rival_157 (by decide) 8 rfl (nI_add t 1) rfl ?_
                                refine g_goto (tgt := 98) hX dX6_rival_160 (by decide) ?_
                                refine g_loc [0, 1, 2, 3, 4, 5, 6, 7, 8] rfl ?_
                                exact ih98 (nI u) (t + 1) (by first | assumption | omega) (by first | (rw [lh_none ho115]; exact h7) | (rw [lh_first ho115 (oI_n h7 (fun u hu => by have := lh_lt hu; omega) h131)]; rfl) | (rw [lh_less ho115 hu ho142 h145]; rfl) | (rw [lh_keep ho115 hu ho142 h145]; rfl)) (by omega)
                              · refine g_iload hX dX6_rival_148 8 rfl ?_
                                refine g_goto (tgt := 155) hX dX6_rival_150 (by decide) ?_
                                refine g_istore (L' := [(0, .ref 307), (1, .int (nI e)), (2, .int (nI m)), (3, .int (nI (gN (I 311) 0 + e))), (4, .int (zI s)), (5, .int (nI (k + 1))), (6, .int (nI (gN (I 311) 18 + 10 * (k + 1)))), (7, .int (nI t)), (8, .int (nI t)), (9, .int (zI m1))]) hX dX6_rival_155 (by decide) rfl ?_
                                refine g_iinc (v := nI (t + 1)) (L' := [(0, .ref 307), (1, .int (nI e)), (2, .int (nI m)), (3, .int (nI (gN (I 311) 0 + e))), (4, .int (zI s)), (5, .int (nI (k + 1))), (6, .int (nI (gN (I 311) 18 + 10 * (k + 1)))), (7, .int (nI t)), (8, .int (nI (t + 1))), (9, .int (zI m1))]) hX dX6_rival_157 (by decide) 8 rfl (nI_add t 1) rfl ?_
                                refine g_goto (tgt := 98) hX dX6_rival_160 (by decide) ?_
                                refine g_loc [0, 1, 2, 3, 4, 5, 6, 7, 8] rfl ?_
                                exact ih98 (nI t) (t + 1) (by first | assumption | omega) (by first | (rw [lh_none ho115]; exact h7) | (rw [lh_first ho115 (oI_n h7 (fun u hu => by have := lh_lt hu; omega) h131)]; rfl) | (rw [lh_less ho115 hu ho142 h145]; rfl) | (rw [lh_keep ho115 hu ho142 h145]; rfl)) (by omega)
                exact cut98 _ (-1000000) 0 (by first | assumption | omega) rfl (Nat.lt_succ_self _)
      exact cut51 _ (nI 0) 0 (xput I 307 0 (nI 0)) (by first | assumption | omega) (Or.inl ⟨0, I 315, rfl, rfl, (xrow_self _ _).symm, rvK_0 hB (fun t ht => had t (by omega))⟩) (Nat.lt_succ_self _)
    · exfalso; omega


theorem c_X5_rival_none (l : Launch) {nw sp : Nat} {I : xM} {x y : Int32} (hst : I 0 6 = nI 0) : xC l 1 0 0 yX5_rival cX5_rival 9 (some .int) 319 [.ref 0, .int x, .int y] I (xRL nw sp) (xpI (-1000002) 319 I (xRL nw sp)) := by
  refine xC_of (by decide) (Nat.le_of_ble_eq_true rfl) (fun X hXl hX hR => ?_)
  have hX : xOK X RX5 cX5_rival 9 1 0 0 := hX
  show G X 319 0 0 I (xRL nw sp) 0 [(0, .ref 0), (1, .int x), (2, .int y)] []
  refine g_aload_n hX dX5_rival_0 rfl 0 rfl ?_
  refine g_getI (v := nI 0) hX (by decide) (by decide) xCl5 6 (by decide) (by decide) kX5_46 dX5_rival_1 hst ?_
  refine g_cz_ne (a := (0 : Int)) (tgt := 10) hX dX5_rival_4 (by decide) (by decide) (fun q => absurd q (by decide)) (fun _ => ?_)
  refine g_ldc (v := -1000002) hX cX5_139 dX5_rival_7 ?_
  exact g_iret hX hR dX5_rival_9 (by decide) (by decide) ⟨congrArg (fun z => some (Value.int z)) rfl, rfl, rfl, rfl⟩

theorem c_X5_rival_bad (l : Launch) {nw sp : Nat} {I : xM} {x y : Int32} (hst : I 0 6 = nI 1) (hb : ¬ ((0 ≤ x.toInt ∧ x.toInt ≤ 30) ∧ (1 ≤ y.toInt ∧ y.toInt ≤ 9))) : xC l 2 0 0 yX5_rival cX5_rival 9 (some .int) 319 [.ref 0, .int x, .int y] I (xRL nw sp) (xpI (-1000001) 319 I (xRL nw sp)) := by
  refine xC_of (by decide) (Nat.le_of_ble_eq_true rfl) (fun X hXl hX hR => ?_)
  have hX : xOK X RX5 cX5_rival 9 2 0 0 := hX
  show G X 319 0 0 I (xRL nw sp) 0 [(0, .ref 0), (1, .int x), (2, .int y)] []
  refine g_aload_n hX dX5_rival_0 rfl 0 rfl ?_
  refine g_getI (v := nI 1) hX (by decide) (by decide) xCl5 6 (by decide) (by decide) kX5_46 dX5_rival_1 hst ?_
  refine g_cz_ne (a := (1 : Int)) (tgt := 10) hX dX5_rival_4 (by decide) (by decide) (fun _ => ?_) (fun q => absurd q (by decide))
  refine g_iload_n hX dX5_rival_10 rfl 1 rfl ?_
  refine g_callSi hX (as := [.int x]) (fun l => c_X5_isEye l (I := I) (x := x) ) mX5_isEye sX5_isEye lX5_187 rfl dX5_rival_11 rfl (by decide) (Nat.le_of_ble_eq_true rfl) (by decide) (by decide) ?_
  refine g_cb_eq (tgt := 28) hX dX5_rival_14 (by decide) (fun h14 => ?_) (fun h14 => ?_)
  · refine g_ldc (v := -1000001) hX cX5_79 dX5_rival_28 ?_
    exact g_iret hX hR dX5_rival_30 (by decide) (by decide) ⟨congrArg (fun z => some (Value.int z)) rfl, rfl, rfl, rfl⟩
  · refine g_iload_n hX dX5_rival_17 rfl 2 rfl ?_
    refine g_iconst (v := nI 1) hX dX5_rival_18 (by decide) ?_
    refine g_ci_lt (a := y.toInt) (b := (1 : Int)) (tgt := 28) hX dX5_rival_19 (by decide) rfl (by decide) (fun h19 => ?_) (fun h19 => ?_)
    · refine g_ldc (v := -1000001) hX cX5_79 dX5_rival_28 ?_
      exact g_iret hX hR dX5_rival_30 (by decide) (by decide) ⟨congrArg (fun z => some (Value.int z)) rfl, rfl, rfl, rfl⟩
    · refine g_iload_n hX dX5_rival_22 rfl 2 rfl ?_
      refine g_bipush (v := nI 9) hX dX5_rival_23 (by decide) ?_
      refine g_ci_le (a := y.toInt) (b := (9 : Int)) (tgt := 31) hX dX5_rival_25 (by decide) rfl (by decide) (fun h25 => ?_) (fun h25 => ?_)
      · exfalso; omega
      · refine g_ldc (v := -1000001) hX cX5_79 dX5_rival_28 ?_
        exact g_iret hX hR dX5_rival_30 (by decide) (by decide) ⟨congrArg (fun z => some (Value.int z)) rfl, rfl, rfl, rfl⟩

theorem c_X5_rival_ok (l : Launch) {nw sp : Nat} {I : xM} {T S F W : Nat} {f : Nat → Int32} {e m : Nat} {ad0 : Nat → Int32} (hst : I 0 6 = nI 1) (he : e ≤ 30) (hm1 : 1 ≤ m) (hm9 : m ≤ 9) (hnw : xG nw) (hG : GX I nw f T S F W) (hW : WF f T S F W) (hB : BD f T S) (had : ∀ t, t < T → ad0 t = 0) : xC l 5 0 0 yX5_rival cX5_rival 9 (some .int) 319 [.ref 0, .int (nI e), .int (nI m)] I (xRL nw sp) (xpR 319 (xRL nw sp) (fun r K => r = oS (rvS f ad0 T (gN f 0 + e) (gN f 18) m) ∧ ∃ b, K = xrow I 5 b)) := by
  refine xC_of (by decide) (Nat.le_of_ble_eq_true rfl) (fun X hXl hX hR => ?_)
  have hX : xOK X RX5 cX5_rival 9 5 0 0 := hX
  show G X 319 0 0 I (xRL nw sp) 0 [(0, .ref 0), (1, .int (nI e)), (2, .int (nI m))] []
  have hg8 := xG_8 hnw
  have hT6 := hW.T6
  have hS6 := hW.S6
  have g0 := hB.gl (q := 0) (by decide)
  have g18 := hB.gl (q := 18) (by decide)
  refine g_aload_n hX dX5_rival_0 rfl 0 rfl ?_
  refine g_getI (v := nI 1) hX (by decide) (by decide) xCl5 6 (by decide) (by decide) kX5_46 dX5_rival_1 hst ?_
  refine g_cz_ne (a := (1 : Int)) (tgt := 10) hX dX5_rival_4 (by decide) (by decide) (fun _ => ?_) (fun q => absurd q (by decide))
  refine g_iload_n hX dX5_rival_10 rfl 1 rfl ?_
  refine g_callSi hX (as := [.int (nI e)]) (fun l => c_X5_isEye l (I := I) (x := (nI e)) ) mX5_isEye sX5_isEye lX5_187 rfl dX5_rival_11 rfl (by decide) (Nat.le_of_ble_eq_true rfl) (by decide) (by decide) ?_
  refine g_top (y := xb (0 ≤ ((e : Nat) : Int) ∧ ((e : Nat) : Int) ≤ 30)) (by rw [nI_toInt (n := e) (by omega)]) ?_
  refine g_cb_eq (tgt := 28) hX dX5_rival_14 (by decide) (fun h14 => ?_) (fun h14 => ?_)
  · exfalso; omega
  · refine g_iload_n hX dX5_rival_17 rfl 2 rfl ?_
    refine g_iconst (v := nI 1) hX dX5_rival_18 (by decide) ?_
    refine g_ci_lt (a := ((m : Nat) : Int)) (b := (1 : Int)) (tgt := 28) hX dX5_rival_19 (by decide) (nI_toInt (by omega)) (by decide) (fun h19 => ?_) (fun h19 => ?_)
    · exfalso; omega
    · refine g_iload_n hX dX5_rival_22 rfl 2 rfl ?_
      refine g_bipush (v := nI 9) hX dX5_rival_23 (by decide) ?_
      refine g_ci_le (a := ((m : Nat) : Int)) (b := (9 : Int)) (tgt := 31) hX dX5_rival_25 (by decide) (nI_toInt (by omega)) (by decide) (fun h25 => ?_) (fun h25 => ?_)
      · refine g_aload_n hX dX5_rival_31 rfl 0 rfl ?_
        refine g_getR (j := 4) hX (by decide) (by decide) xCl5 2 (by decide) (by decide) kX5_25 dX5_rival_32 rfl ?_
        refine g_aload_n hX dX5_rival_35 rfl 0 rfl ?_
        refine g_getR (j := nw) hX (by decide) (by decide) xCl5 4 (by decide) (by decide) kX5_39 dX5_rival_36 rfl ?_
        refine g_callVrv hX (as := [.ref nw]) (fun l => c_X3_lookNow l (I := I) (g := nw) (T := T) (S := S) (F := F) (W := W) (f := f) (hg := hnw) (hG := (by first | assumption | omega)) (hW := (by first | assumption | omega))) mX3_lookNow vX3_lookNow lX5_181 (by decide) (by decide) xCl3 rfl rfl dX5_rival_39 rfl (by decide) (Nat.le_of_ble_eq_true rfl) (by decide) (by decide) (fun J0 hJ00 => ?_)
        obtain ⟨b0, hJ0, hb0⟩ := hJ00
        have hGJ0 : GX J0 nw f T S F W := by rw [hJ0]; exact hG.ext (fun i h1 h2 => xrow_o (by omega))
        have hb5 : ∀ q, q < 20 → J0 5 q = brY f T (f 2) (f 3) q := fun q hq => by rw [hJ0, xrow_e]; exact hb0 q hq
        refine g_aload_n hX dX5_rival_42 rfl 0 rfl ?_
        refine g_getR (j := nw) hX (by decide) (by decide) xCl5 4 (by decide) (by decide) kX5_39 dX5_rival_43 rfl ?_
        refine g_getR (j := nw + 1) hX (xG_n (j := 0) hnw (by decide)) (xG_K0 hnw) xCl0 0 (by decide) (by decide) kX5_171 dX5_rival_46 (xRL_g0 hnw) ?_
        refine g_iconst (v := nI 0) hX dX5_rival_49 (by decide) ?_
        refine g_iald (v := nI (gN f 0)) hX (xG_n (j := 1) hnw (by decide)) (xG_K1 hnw) 0 rfl (by rw [(xG_N1 hnw)]; decide) dX5_rival_50 ((hGJ0.gr (by decide)).trans (hB.gr (by decide))) ?_
        refine g_iload_n hX dX5_rival_51 rfl 1 rfl ?_
        refine g_iadd (v := nI ((gN f 0) + e)) hX dX5_rival_52 (nI_add (gN f 0) e) ?_
        refine g_istore_n (L' := [(0, .ref 0), (1, .int (nI e)), (2, .int (nI m)), (3, .int (nI ((gN f 0) + e)))]) hX dX5_rival_53 rfl (by decide) rfl ?_
        refine g_iconst (v := nI 0) hX dX5_rival_54 (by decide) ?_
        refine g_istore (L' := [(0, .ref 0), (1, .int (nI e)), (2, .int (nI m)), (3, .int (nI ((gN f 0) + e))), (4, .int (nI 0))]) hX dX5_rival_55 (by decide) rfl ?_
        refine g_iconst (v := nI 1) hX dX5_rival_57 (by decide) ?_
        refine g_istore (L' := [(0, .ref 0), (1, .int (nI e)), (2, .int (nI m)), (3, .int (nI ((gN f 0) + e))), (4, .int (nI 0)), (5, .int (nI 1))]) hX dX5_rival_58 (by decide) rfl ?_
        have cut60 : ∀ (fuel : Nat) (s : Int) (k : Nat) (J : xM) (hk9 : k ≤ m) (hJ : ∃ b, J = xrow I 5 b) (hQ : rvQ f ad0 T (gN f 0 + e) (gN f 18) k s J), 20 - k < fuel → G X 319 0 0 J (xRL nw sp) 60 [(0, .ref 0), (1, .int (nI e)), (2, .int (nI m)), (3, .int (nI (gN f 0 + e))), (4, .int (zI s)), (5, .int (nI (k + 1)))] [] := by
          intro fuel
          induction fuel with
          | zero => intro s k J hk9 hJ hQ hfuel; omega
          | succ fuel ih =>
            intro s k J hk9 hJ hQ hfuel
            have hGJ : GX J nw f T S F W := by obtain ⟨b, e⟩ := hJ; rw [e]; exact hG.ext (fun i h1 h2 => xrow_o (by omega))
            obtain ⟨ad, hrs, hb, hk⟩ := hQ
            have hk1 := hk.1
            refine g_iload hX dX5_rival_60 5 rfl ?_
            refine g_iload_n hX dX5_rival_62 rfl 2 rfl ?_
            refine g_ci_gt (a := ((k + 1 : Nat) : Int)) (b := ((m : Nat) : Int)) (tgt := 162) hX dX5_rival_63 (by decide) (nI_toInt (by omega)) (nI_toInt (by omega)) (fun h63 => ?_) (fun h63 => ?_)
            · refine g_iload hX dX5_rival_162 4 rfl ?_
              exact g_iret hX hR dX5_rival_164 (by decide) (by decide) ⟨_, rfl, rfl, ⟨by rw [show m = k by omega, hrs]; rfl, hJ⟩, rfl⟩
            · refine g_aload_n hX dX5_rival_66 rfl 0 rfl ?_
              refine g_getR (j := nw) hX (by decide) (by decide) xCl5 4 (by decide) (by decide) kX5_39 dX5_rival_67 rfl ?_
              refine g_getR (j := nw + 1) hX (xG_n (j := 0) hnw (by decide)) (xG_K0 hnw) xCl0 0 (by decide) (by decide) kX5_171 dX5_rival_70 (xRL_g0 hnw) ?_
              refine g_bipush (v := nI 18) hX dX5_rival_73 (by decide) ?_
              refine g_iald (v := nI (gN f 18)) hX (xG_n (j := 1) hnw (by decide)) (xG_K1 hnw) 18 rfl (by rw [(xG_N1 hnw)]; decide) dX5_rival_75 ((hGJ.gr (by decide)).trans (hB.gr (by decide))) ?_
              refine g_bipush (v := nI 10) hX dX5_rival_76 (by decide) ?_
              refine g_iload hX dX5_rival_78 5 rfl ?_
              refine g_imul (v := nI (10 * (k + 1))) hX dX5_rival_80 (nI_mul 10 (k + 1)) ?_
              refine g_iadd (v := nI ((gN f 18) + (10 * (k + 1)))) hX dX5_rival_81 (nI_add (gN f 18) (10 * (k + 1))) ?_
              refine g_istore (L' := [(0, .ref 0), (1, .int (nI e)), (2, .int (nI m)), (3, .int (nI (gN f 0 + e))), (4, .int (zI s)), (5, .int (nI (k + 1))), (6, .int (nI ((gN f 18) + (10 * (k + 1)))))]) hX dX5_rival_82 (by decide) rfl ?_
              refine g_aload_n hX dX5_rival_84 rfl 0 rfl ?_
              refine g_getR (j := 4) hX (by decide) (by decide) xCl5 2 (by decide) (by decide) kX5_25 dX5_rival_85 rfl ?_
              refine g_iload_n hX dX5_rival_88 rfl 3 rfl ?_
              refine g_iconst (v := nI 0) hX dX5_rival_89 (by decide) ?_
              refine g_iload hX dX5_rival_90 6 rfl ?_
              refine g_bipush (v := nI 18) hX dX5_rival_92 (by decide) ?_
              refine g_callVi hX (as := [.int (nI (gN f 0 + e)), .int (nI 0), .int (nI ((gN f 18) + (10 * (k + 1)))), .int (nI 18)]) (fun l => c_X3_isFree l (I := J) (a := 0) (c := 18) (x := (nI (gN f 0 + e))) (y := (nI ((gN f 18) + (10 * (k + 1))))) (ha := (by first | assumption | omega)) (hc := (by first | assumption | omega))) mX3_isFree vX3_isFree lX5_227 (by decide) (by decide) xCl3 rfl rfl dX5_rival_94 rfl (by decide) (Nat.le_of_ble_eq_true rfl) (by decide) (by decide) ?_
              refine g_top (y := xb (frP (brF f ad T) 0 (nI (gN f 0 + e)) 18 (nI (gN f 18 + 10 * (k + 1))))) (xb_iff (frP_congr (fun q h1 _ => hb q (by omega)))) ?_
              refine g_cb_eq (tgt := 156) hX dX5_rival_97 (by decide) (fun h97 => ?_) (fun h97 => ?_)
              · refine g_iinc (v := nI (k + 1 + 1)) (L' := [(0, .ref 0), (1, .int (nI e)), (2, .int (nI m)), (3, .int (nI (gN f 0 + e))), (4, .int (zI s)), (5, .int (nI (k + 1 + 1))), (6, .int (nI ((gN f 18) + (10 * (k + 1)))))]) hX dX5_rival_156 (by decide) 5 rfl (nI_add (k + 1) 1) rfl ?_
                refine g_goto (tgt := 60) hX dX5_rival_159 (by decide) ?_
                refine g_loc [0, 1, 2, 3, 4, 5] rfl ?_
                exact ih s (k + 1) J (by first | assumption | omega) (by first | exact hJ | (obtain ⟨b, e⟩ := hJ; exact ⟨_, by rw [e, xput_row]⟩)) (by first | exact rvQ_no hrs hb hk h97 | exact rvQ_up hW hB hrs hb hk h97 ho104 ho125) (by omega)
              · refine g_aload_n hX dX5_rival_100 rfl 0 rfl ?_
                refine g_iload_n hX dX5_rival_101 rfl 3 rfl ?_
                refine g_iload hX dX5_rival_102 6 rfl ?_
                refine g_callVi hX (as := [.int (nI (gN f 0 + e)), .int (nI ((gN f 18) + (10 * (k + 1))))]) (fun l => c_X5_leastHider l (I := J) (T := T) (S := S) (F := F) (W := W) (f := f) (ad := ad) (x := (gN f 0 + e)) (y := ((gN f 18) + (10 * (k + 1)))) (k := k) (s := s) (hnw := (by first | assumption | omega)) (hG := hGJ) (hW := (by first | assumption | omega)) (hB := (by first | assumption | omega)) (hb := hb) (hk := hk) (hx := (by first | assumption | omega)) (hy := (by first | assumption | omega))) mX5_leastHider vX5_leastHider lX5_238 (by decide) (by decide) xCl5 rfl rfl dX5_rival_104 rfl (by decide) (Nat.le_of_ble_eq_true rfl) (by decide) (by decide) ?_
                rcases Option.eq_none_or_eq_some (lhF (rvO f ad (gN f 0 + e) (gN f 18 + 10 * (k + 1))) T) with ho104 | ⟨u, ho104⟩
                · refine g_top (y := (-1000000)) (by rw [ho104]; rfl) ?_
                  refine g_istore (L' := [(0, .ref 0), (1, .int (nI e)), (2, .int (nI m)), (3, .int (nI (gN f 0 + e))), (4, .int (zI s)), (5, .int (nI (k + 1))), (6, .int (nI ((gN f 18) + (10 * (k + 1))))), (7, .int (-1000000))]) hX dX5_rival_107 (by decide) rfl ?_
                  refine g_iload hX dX5_rival_109 7 rfl ?_
                  refine g_ldc (v := -1000000) hX cX5_167 dX5_rival_111 ?_
                  refine g_ci_ne (a := (-1000000 : Int)) (b := (-1000000 : Int)) (tgt := 119) hX dX5_rival_113 (by decide) (by decide) (by decide) (fun q => absurd q (by decide)) (fun _ => ?_)
                  refine g_ldc (v := -1000000) hX cX5_167 dX5_rival_116 ?_
                  exact g_iret hX hR dX5_rival_118 (by decide) (by decide) ⟨_, rfl, rfl, ⟨rvQ_n hrs h97 ho104 (by omega), hJ⟩, rfl⟩
                · refine g_top (y := nI u) (by rw [ho104]; rfl) ?_
                  have hut := lh_lt ho104
                  have hst := (hW.stn (t := u) (by omega)).2
                  refine g_istore (L' := [(0, .ref 0), (1, .int (nI e)), (2, .int (nI m)), (3, .int (nI (gN f 0 + e))), (4, .int (zI s)), (5, .int (nI (k + 1))), (6, .int (nI ((gN f 18) + (10 * (k + 1))))), (7, .int (nI u))]) hX dX5_rival_107 (by decide) rfl ?_
                  refine g_iload hX dX5_rival_109 7 rfl ?_
                  refine g_ldc (v := -1000000) hX cX5_167 dX5_rival_111 ?_
                  refine g_ci_ne (a := ((u : Nat) : Int)) (b := (-1000000 : Int)) (tgt := 119) hX dX5_rival_113 (by decide) (nI_toInt (by omega)) (by decide) (fun _ => ?_) (fun q => absurd q (by omega))
                  refine g_aload_n hX dX5_rival_119 rfl 0 rfl ?_
                  refine g_iload hX dX5_rival_120 7 rfl ?_
                  refine g_iload_n hX dX5_rival_122 rfl 3 rfl ?_
                  refine g_iload hX dX5_rival_123 6 rfl ?_
                  refine g_callVi hX (as := [.int (nI u), .int (nI (gN f 0 + e)), .int (nI ((gN f 18) + (10 * (k + 1))))]) (fun l => c_X5_hidingBy l (I := J) (T := T) (S := S) (F := F) (W := W) (f := f) (ad := ad) (t := u) (x := (gN f 0 + e)) (y := ((gN f 18) + (10 * (k + 1)))) (hnw := (by first | assumption | omega)) (hG := hGJ) (hW := (by first | assumption | omega)) (hB := (by first | assumption | omega)) (ht := (by omega)) (hh1 := (hk.2 u (by omega)).1) (hh2 := (hk.2 u (by omega)).2) (hb := hb) (hx := (by first | assumption | omega)) (hy := (by first | assumption | omega))) mX5_hidingBy vX5_hidingBy lX5_241 (by decide) (by decide) xCl5 rfl rfl dX5_rival_125 rfl (by decide) (Nat.le_of_ble_eq_true rfl) (by decide) (by decide) ?_
                  rcases Option.eq_none_or_eq_some (rvO f ad (gN f 0 + e) (gN f 18 + 10 * (k + 1)) u) with ho125 | ⟨m3, ho125⟩
                  · exact absurd ho125 (lh_ne ho104)
                  · refine g_top (y := zI m3) (by rw [ho125]; rfl) ?_
                    refine g_istore (L' := [(0, .ref 0), (1, .int (nI e)), (2, .int (nI m)), (3, .int (nI (gN f 0 + e))), (4, .int (zI s)), (5, .int (nI (k + 1))), (6, .int (nI ((gN f 18) + (10 * (k + 1))))), (7, .int (nI u)), (8, .int (zI m3))]) hX dX5_rival_128 (by decide) rfl ?_
                    refine g_aload_n hX dX5_rival_130 rfl 0 rfl ?_
                    refine g_getR (j := 4) hX (by decide) (by decide) xCl5 2 (by decide) (by decide) kX5_25 dX5_rival_131 rfl ?_
                    refine g_aload_n hX dX5_rival_134 rfl 0 rfl ?_
                    refine g_getR (j := nw) hX (by decide) (by decide) xCl5 4 (by decide) (by decide) kX5_39 dX5_rival_135 rfl ?_
                    refine g_getR (j := nw + 3) hX (xG_n (j := 0) hnw (by decide)) (xG_K0 hnw) xCl0 5 (by decide) (by decide) kX5_168 dX5_rival_138 (xRL_g5 hnw) ?_
                    refine g_iload hX dX5_rival_141 7 rfl ?_
                    refine g_iald (v := nI (stN f u)) hX (xG_n (j := 3) hnw (by decide)) (xG_K3 hnw) u rfl (by rw [(xG_N3 hnw)]; omega) dX5_rival_143 ((hGJ.k1 (by omega)).trans (hW.stn (by omega)).1) ?_
                    refine g_iload hX dX5_rival_144 8 rfl ?_
                    refine g_callVv hX (as := [.int (nI (stN f u)), .int (zI m3)]) (fun l => c_X3_raise l (I := J) (q := (stN f u)) (b := (zI m3)) (hq := (by first | assumption | omega))) mX3_raise vX3_raise lX5_212 (by decide) (by decide) xCl3 rfl rfl dX5_rival_146 rfl (by decide) (Nat.le_of_ble_eq_true rfl) (by decide) (by decide) ?_
                    refine g_iload hX dX5_rival_149 4 rfl ?_
                    refine g_iload hX dX5_rival_151 8 rfl ?_
                    refine g_iadd (v := zI ((s) + (m3))) hX dX5_rival_153 (zI_add ((s)) ((m3))) ?_
                    refine g_istore (L' := [(0, .ref 0), (1, .int (nI e)), (2, .int (nI m)), (3, .int (nI (gN f 0 + e))), (4, .int (zI ((s) + (m3)))), (5, .int (nI (k + 1))), (6, .int (nI ((gN f 18) + (10 * (k + 1))))), (7, .int (nI u)), (8, .int (zI m3))]) hX dX5_rival_154 (by decide) rfl ?_
                    refine g_iinc (v := nI (k + 1 + 1)) (L' := [(0, .ref 0), (1, .int (nI e)), (2, .int (nI m)), (3, .int (nI (gN f 0 + e))), (4, .int (zI ((s) + (m3)))), (5, .int (nI (k + 1 + 1))), (6, .int (nI ((gN f 18) + (10 * (k + 1))))), (7, .int (nI u)), (8, .int (zI m3))]) hX dX5_rival_156 (by decide) 5 rfl (nI_add (k + 1) 1) rfl ?_
                    refine g_goto (tgt := 60) hX dX5_rival_159 (by decide) ?_
                    refine g_loc [0, 1, 2, 3, 4, 5] rfl ?_
                    exact ih ((s) + (m3)) (k + 1) (xput J 5 (stN f u) (J 5 (stN f u) + (zI m3))) (by first | assumption | omega) (by first | exact hJ | (obtain ⟨b, e⟩ := hJ; exact ⟨_, by rw [e, xput_row]⟩)) (by first | exact rvQ_no hrs hb hk h97 | exact rvQ_up hW hB hrs hb hk h97 ho104 ho125) (by omega)
        exact cut60 _ ((0 : Nat) : Int) 0 J0 (by first | assumption | omega) ⟨b0, hJ0⟩ ⟨ad0, rfl, fun q hq => (hb5 q hq).trans (brF_Y f ad0 had q).symm, rvK_0 hB had⟩ (Nat.lt_succ_self _)
      · exfalso; omega
