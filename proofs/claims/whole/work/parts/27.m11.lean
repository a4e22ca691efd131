theorem xG_day {n : Nat} (h : n < 24) : xG (47 + 10 * n) := Or.inr (Or.inr ⟨n, by omega, rfl⟩)
theorem xG_im {k : Nat} (h : k < 2) : xG (287 + 10 * k) := Or.inr (Or.inr ⟨24 + k, by omega, by omega⟩)
theorem c_X5_fault (l : Launch) {nw sp : Nat} {I : xM}   : xC l 1 0 0 yX5_fault cX5_fault 1 (some .int) 319 [.ref 0] I (xRL nw sp) (xpI (I 0 12) 319 I (xRL nw sp)) := by
  refine xC_of (by decide) (Nat.le_of_ble_eq_true rfl) (fun X hXl hX hR => ?_)
  have hX : xOK X RX5 cX5_fault 1 1 0 0 := hX
  show G X 319 0 0 I (xRL nw sp) 0 [(0, .ref 0)] []
  refine g_aload_n hX dX5_fault_0 rfl 0 rfl ?_
  refine g_getI (v := I 0 12) hX (by decide) (by decide) xCl5 12 (by decide) (by decide) kX5_68 dX5_fault_1 rfl ?_
  exact g_iret hX hR dX5_fault_4 (by decide) (by decide) ⟨congrArg (fun z => some (Value.int z)) rfl, rfl, rfl, rfl⟩

theorem c_X5_status (l : Launch) {nw sp : Nat} {I : xM}   : xC l 1 0 0 yX5_status cX5_status 1 (some .int) 319 [.ref 0] I (xRL nw sp) (xpI (I 0 13) 319 I (xRL nw sp)) := by
  refine xC_of (by decide) (Nat.le_of_ble_eq_true rfl) (fun X hXl hX hR => ?_)
  have hX : xOK X RX5 cX5_status 1 1 0 0 := hX
  show G X 319 0 0 I (xRL nw sp) 0 [(0, .ref 0)] []
  refine g_aload_n hX dX5_status_0 rfl 0 rfl ?_
  refine g_getI (v := I 0 13) hX (by decide) (by decide) xCl5 13 (by decide) (by decide) kX5_71 dX5_status_1 rfl ?_
  exact g_iret hX hR dX5_status_4 (by decide) (by decide) ⟨congrArg (fun z => some (Value.int z)) rfl, rfl, rfl, rfl⟩

theorem c_X5_isEye (l : Launch) {nw sp : Nat} {I : xM} {x : Int32}  : xC l 1 0 0 yX5_isEye cX5_isEye 1 (some .boolean) 319 [.int x] I (xRL nw sp) (xpI (xb (0 ≤ x.toInt ∧ x.toInt ≤ 30)) 319 I (xRL nw sp)) := by
  refine xC_of (by decide) (Nat.le_of_ble_eq_true rfl) (fun X hXl hX hR => ?_)
  have hX : xOK X RX5 cX5_isEye 1 1 0 0 := hX
  show G X 319 0 0 I (xRL nw sp) 0 [(0, .int x)] []
  refine g_iload_n hX dX5_isEye_0 rfl 0 rfl ?_
  refine g_cz_lt (a := x.toInt) (tgt := 14) hX dX5_isEye_1 (by decide) rfl (fun h1 => ?_) (fun h1 => ?_)
  · refine g_iconst (v := nI 0) hX dX5_isEye_14 (by decide) ?_
    exact g_zret hX hR dX5_isEye_15 (by decide) (by decide) (by decide) ⟨congrArg (fun z => some (Value.int z)) (xb_n0 (by omega)), rfl, rfl, rfl⟩
  · refine g_iload_n hX dX5_isEye_4 rfl 0 rfl ?_
    refine g_bipush (v := nI 30) hX dX5_isEye_5 (by decide) ?_
    refine g_ci_gt (a := x.toInt) (b := (30 : Int)) (tgt := 14) hX dX5_isEye_7 (by decide) rfl (by decide) (fun h7 => ?_) (fun h7 => ?_)
    · refine g_iconst (v := nI 0) hX dX5_isEye_14 (by decide) ?_
      exact g_zret hX hR dX5_isEye_15 (by decide) (by decide) (by decide) ⟨congrArg (fun z => some (Value.int z)) (xb_n0 (by omega)), rfl, rfl, rfl⟩
    · refine g_iconst (v := nI 1) hX dX5_isEye_10 (by decide) ?_
      refine g_goto (tgt := 15) hX dX5_isEye_11 (by decide) ?_
      exact g_zret hX hR dX5_isEye_15 (by decide) (by decide) (by decide) ⟨congrArg (fun z => some (Value.int z)) (xb_n1 (by omega)), rfl, rfl, rfl⟩

theorem c_X5_isInnerSite (l : Launch) {nw sp : Nat} {I : xM} {x : Int32}  : xC l 1 0 0 yX5_isInnerSite cX5_isInnerSite 1 (some .boolean) 319 [.int x] I (xRL nw sp) (xpI (xb (0 < x.toInt ∧ x.toInt < 19)) 319 I (xRL nw sp)) := by
  refine xC_of (by decide) (Nat.le_of_ble_eq_true rfl) (fun X hXl hX hR => ?_)
  have hX : xOK X RX5 cX5_isInnerSite 1 1 0 0 := hX
  show G X 319 0 0 I (xRL nw sp) 0 [(0, .int x)] []
  refine g_iload_n hX dX5_isInnerSite_0 rfl 0 rfl ?_
  refine g_cz_le (a := x.toInt) (tgt := 14) hX dX5_isInnerSite_1 (by decide) rfl (fun h1 => ?_) (fun h1 => ?_)
  · refine g_iconst (v := nI 0) hX dX5_isInnerSite_14 (by decide) ?_
    exact g_zret hX hR dX5_isInnerSite_15 (by decide) (by decide) (by decide) ⟨congrArg (fun z => some (Value.int z)) (xb_n0 (by omega)), rfl, rfl, rfl⟩
  · refine g_iload_n hX dX5_isInnerSite_4 rfl 0 rfl ?_
    refine g_bipush (v := nI 19) hX dX5_isInnerSite_5 (by decide) ?_
    refine g_ci_ge (a := x.toInt) (b := (19 : Int)) (tgt := 14) hX dX5_isInnerSite_7 (by decide) rfl (by decide) (fun h7 => ?_) (fun h7 => ?_)
    · refine g_iconst (v := nI 0) hX dX5_isInnerSite_14 (by decide) ?_
      exact g_zret hX hR dX5_isInnerSite_15 (by decide) (by decide) (by decide) ⟨congrArg (fun z => some (Value.int z)) (xb_n0 (by omega)), rfl, rfl, rfl⟩
    · refine g_iconst (v := nI 1) hX dX5_isInnerSite_10 (by decide) ?_
      refine g_goto (tgt := 15) hX dX5_isInnerSite_11 (by decide) ?_
      exact g_zret hX hR dX5_isInnerSite_15 (by decide) (by decide) (by decide) ⟨congrArg (fun z => some (Value.int z)) (xb_n1 (by omega)), rfl, rfl, rfl⟩

theorem c_X5_isOfKind (l : Launch) {nw sp : Nat} {I : xM} {x y : Int32}  : xC l 1 0 0 yX5_isOfKind cX5_isOfKind 2 (some .boolean) 319 [.int x, .int y] I (xRL nw sp) (xpI (xb (y.toInt = 0 ∨ x.toInt = y.toInt ∨ (y.toInt = 1 ∧ x.toInt = 2) ∨ (y.toInt = 4 ∧ x.toInt = 5))) 319 I (xRL nw sp)) := by
  refine xC_of (by decide) (Nat.le_of_ble_eq_true rfl) (fun X hXl hX hR => ?_)
  have hX : xOK X RX5 cX5_isOfKind 2 1 0 0 := hX
  show G X 319 0 0 I (xRL nw sp) 0 [(0, .int x), (1, .int y)] []
  refine g_iload_n hX dX5_isOfKind_0 rfl 1 rfl ?_
  refine g_cz_eq (a := y.toInt) (tgt := 29) hX dX5_isOfKind_1 (by decide) rfl (fun h1 => ?_) (fun h1 => ?_)
  · refine g_iconst (v := nI 1) hX dX5_isOfKind_29 (by decide) ?_
    refine g_goto (tgt := 34) hX dX5_isOfKind_30 (by decide) ?_
    exact g_zret hX hR dX5_isOfKind_34 (by decide) (by decide) (by decide) ⟨congrArg (fun z => some (Value.int z)) (xb_n1 (by omega)), rfl, rfl, rfl⟩
  · refine g_iload_n hX dX5_isOfKind_4 rfl 1 rfl ?_
    refine g_iload_n hX dX5_isOfKind_5 rfl 0 rfl ?_
    refine g_ci_eq (a := y.toInt) (b := x.toInt) (tgt := 29) hX dX5_isOfKind_6 (by decide) rfl rfl (fun h6 => ?_) (fun h6 => ?_)
    · refine g_iconst (v := nI 1) hX dX5_isOfKind_29 (by decide) ?_
      refine g_goto (tgt := 34) hX dX5_isOfKind_30 (by decide) ?_
      exact g_zret hX hR dX5_isOfKind_34 (by decide) (by decide) (by decide) ⟨congrArg (fun z => some (Value.int z)) (xb_n1 (by omega)), rfl, rfl, rfl⟩
    · refine g_iload_n hX dX5_isOfKind_9 rfl 1 rfl ?_
      refine g_iconst (v := nI 1) hX dX5_isOfKind_10 (by decide) ?_
      refine g_ci_ne (a := y.toInt) (b := (1 : Int)) (tgt := 19) hX dX5_isOfKind_11 (by decide) rfl (by decide) (fun h11 => ?_) (fun h11 => ?_)
      · refine g_iload_n hX dX5_isOfKind_19 rfl 1 rfl ?_
        refine g_iconst (v := nI 4) hX dX5_isOfKind_20 (by decide) ?_
        refine g_ci_ne (a := y.toInt) (b := (4 : Int)) (tgt := 33) hX dX5_isOfKind_21 (by decide) rfl (by decide) (fun h21 => ?_) (fun h21 => ?_)
        · refine g_iconst (v := nI 0) hX dX5_isOfKind_33 (by decide) ?_
          exact g_zret hX hR dX5_isOfKind_34 (by decide) (by decide) (by decide) ⟨congrArg (fun z => some (Value.int z)) (xb_n0 (by omega)), rfl, rfl, rfl⟩
        · refine g_iload_n hX dX5_isOfKind_24 rfl 0 rfl ?_
          refine g_iconst (v := nI 5) hX dX5_isOfKind_25 (by decide) ?_
          refine g_ci_ne (a := x.toInt) (b := (5 : Int)) (tgt := 33) hX dX5_isOfKind_26 (by decide) rfl (by decide) (fun h26 => ?_) (fun h26 => ?_)
          · refine g_iconst (v := nI 0) hX dX5_isOfKind_33 (by decide) ?_
            exact g_zret hX hR dX5_isOfKind_34 (by decide) (by decide) (by decide) ⟨congrArg (fun z => some (Value.int z)) (xb_n0 (by omega)), rfl, rfl, rfl⟩
          · refine g_iconst (v := nI 1) hX dX5_isOfKind_29 (by decide) ?_
            refine g_goto (tgt := 34) hX dX5_isOfKind_30 (by decide) ?_
            exact g_zret hX hR dX5_isOfKind_34 (by decide) (by decide) (by decide) ⟨congrArg (fun z => some (Value.int z)) (xb_n1 (by omega)), rfl, rfl, rfl⟩
      · refine g_iload_n hX dX5_isOfKind_14 rfl 0 rfl ?_
        refine g_iconst (v := nI 2) hX dX5_isOfKind_15 (by decide) ?_
        refine g_ci_eq (a := x.toInt) (b := (2 : Int)) (tgt := 29) hX dX5_isOfKind_16 (by decide) rfl (by decide) (fun h16 => ?_) (fun h16 => ?_)
        · refine g_iconst (v := nI 1) hX dX5_isOfKind_29 (by decide) ?_
          refine g_goto (tgt := 34) hX dX5_isOfKind_30 (by decide) ?_
          exact g_zret hX hR dX5_isOfKind_34 (by decide) (by decide) (by decide) ⟨congrArg (fun z => some (Value.int z)) (xb_n1 (by omega)), rfl, rfl, rfl⟩
        · refine g_iload_n hX dX5_isOfKind_19 rfl 1 rfl ?_
          refine g_iconst (v := nI 4) hX dX5_isOfKind_20 (by decide) ?_
          refine g_ci_ne (a := y.toInt) (b := (4 : Int)) (tgt := 33) hX dX5_isOfKind_21 (by decide) rfl (by decide) (fun h21 => ?_) (fun h21 => ?_)
          · refine g_iconst (v := nI 0) hX dX5_isOfKind_33 (by decide) ?_
            exact g_zret hX hR dX5_isOfKind_34 (by decide) (by decide) (by decide) ⟨congrArg (fun z => some (Value.int z)) (xb_n0 (by omega)), rfl, rfl, rfl⟩
          · refine g_iload_n hX dX5_isOfKind_24 rfl 0 rfl ?_
            refine g_iconst (v := nI 5) hX dX5_isOfKind_25 (by decide) ?_
            refine g_ci_ne (a := x.toInt) (b := (5 : Int)) (tgt := 33) hX dX5_isOfKind_26 (by decide) rfl (by decide) (fun h26 => ?_) (fun h26 => ?_)
            · refine g_iconst (v := nI 0) hX dX5_isOfKind_33 (by decide) ?_
              exact g_zret hX hR dX5_isOfKind_34 (by decide) (by decide) (by decide) ⟨congrArg (fun z => some (Value.int z)) (xb_n0 (by omega)), rfl, rfl, rfl⟩
            · refine g_iconst (v := nI 1) hX dX5_isOfKind_29 (by decide) ?_
              refine g_goto (tgt := 34) hX dX5_isOfKind_30 (by decide) ?_
              exact g_zret hX hR dX5_isOfKind_34 (by decide) (by decide) (by decide) ⟨congrArg (fun z => some (Value.int z)) (xb_n1 (by omega)), rfl, rfl, rfl⟩

theorem c_X5_years_none (l : Launch) {nw sp : Nat} {I : xM} {x : Int32} (hst : I 0 6 = nI 0) : xC l 1 0 0 yX5_years cX5_years 2 (some .int) 319 [.ref 0, .int x] I (xRL nw sp) (xpI (-1000002) 319 I (xRL nw sp)) := by
  refine xC_of (by decide) (Nat.le_of_ble_eq_true rfl) (fun X hXl hX hR => ?_)
  have hX : xOK X RX5 cX5_years 2 1 0 0 := hX
  show G X 319 0 0 I (xRL nw sp) 0 [(0, .ref 0), (1, .int x)] []
  refine g_aload_n hX dX5_years_0 rfl 0 rfl ?_
  refine g_getI (v := nI 0) hX (by decide) (by decide) xCl5 6 (by decide) (by decide) kX5_46 dX5_years_1 hst ?_
  refine g_cz_ne (a := (0 : Int)) (tgt := 10) hX dX5_years_4 (by decide) (by decide) (fun q => absurd q (by decide)) (fun _ => ?_)
  refine g_ldc (v := -1000002) hX cX5_139 dX5_years_7 ?_
  exact g_iret hX hR dX5_years_9 (by decide) (by decide) ⟨congrArg (fun z => some (Value.int z)) rfl, rfl, rfl, rfl⟩

theorem c_X5_years_bad (l : Launch) {nw sp : Nat} {I : xM} {x : Int32} (hst : I 0 6 = nI 1) (hb : ¬ (1 ≤ x.toInt ∧ x.toInt ≤ 99)) : xC l 1 0 0 yX5_years cX5_years 2 (some .int) 319 [.ref 0, .int x] I (xRL nw sp) (xpI (-1000001) 319 I (xRL nw sp)) := by
  refine xC_of (by decide) (Nat.le_of_ble_eq_true rfl) (fun X hXl hX hR => ?_)
  have hX : xOK X RX5 cX5_years 2 1 0 0 := hX
  show G X 319 0 0 I (xRL nw sp) 0 [(0, .ref 0), (1, .int x)] []
  refine g_aload_n hX dX5_years_0 rfl 0 rfl ?_
  refine g_getI (v := nI 1) hX (by decide) (by decide) xCl5 6 (by decide) (by decide) kX5_46 dX5_years_1 hst ?_
  refine g_cz_ne (a := (1 : Int)) (tgt := 10) hX dX5_years_4 (by decide) (by decide) (fun _ => ?_) (fun q => absurd q (by decide))
  refine g_iload_n hX dX5_years_10 rfl 1 rfl ?_
  refine g_iconst (v := nI 1) hX dX5_years_11 (by decide) ?_
  refine g_ci_lt (a := x.toInt) (b := (1 : Int)) (tgt := 21) hX dX5_years_12 (by decide) rfl (by decide) (fun h12 => ?_) (fun h12 => ?_)
  · refine g_ldc (v := -1000001) hX cX5_79 dX5_years_21 ?_
    exact g_iret hX hR dX5_years_23 (by decide) (by decide) ⟨congrArg (fun z => some (Value.int z)) rfl, rfl, rfl, rfl⟩
  · refine g_iload_n hX dX5_years_15 rfl 1 rfl ?_
    refine g_bipush (v := nI 99) hX dX5_years_16 (by decide) ?_
    refine g_ci_le (a := x.toInt) (b := (99 : Int)) (tgt := 24) hX dX5_years_18 (by decide) rfl (by decide) (fun h18 => ?_) (fun h18 => ?_)
    · exfalso; omega
    · refine g_ldc (v := -1000001) hX cX5_79 dX5_years_21 ?_
      exact g_iret hX hR dX5_years_23 (by decide) (by decide) ⟨congrArg (fun z => some (Value.int z)) rfl, rfl, rfl, rfl⟩

theorem c_X5_years_full (l : Launch) {nw sp : Nat} {I : xM} {T S F W : Nat} {f : Nat → Int32} {m y : Nat} (hst : I 0 6 = nI 1) (hnw : xG nw) (hG : GX I nw f T S F W) (hW : WF f T S F W) (hy : f 2 = nI y) (hm : 1 ≤ m) (hm9 : m ≤ 99) (hy9 : y ≤ 999) (hf : 999 < y + m) : xC l 1 0 0 yX5_years cX5_years 2 (some .int) 319 [.ref 0, .int (nI m)] I (xRL nw sp) (xpI (-1000003) 319 I (xRL nw sp)) := by
  refine xC_of (by decide) (Nat.le_of_ble_eq_true rfl) (fun X hXl hX hR => ?_)
  have hX : xOK X RX5 cX5_years 2 1 0 0 := hX
  show G X 319 0 0 I (xRL nw sp) 0 [(0, .ref 0), (1, .int (nI m))] []
  have hg8 := xG_8 hnw
  have hT6 := hW.T6
  have hS6 := hW.S6
  refine g_aload_n hX dX5_years_0 rfl 0 rfl ?_
  refine g_getI (v := nI 1) hX (by decide) (by decide) xCl5 6 (by decide) (by decide) kX5_46 dX5_years_1 hst ?_
  refine g_cz_ne (a := (1 : Int)) (tgt := 10) hX dX5_years_4 (by decide) (by decide) (fun _ => ?_) (fun q => absurd q (by decide))
  refine g_iload_n hX dX5_years_10 rfl 1 rfl ?_
  refine g_iconst (v := nI 1) hX dX5_years_11 (by decide) ?_
  refine g_ci_lt (a := ((m : Nat) : Int)) (b := (1 : Int)) (tgt := 21) hX dX5_years_12 (by decide) (nI_toInt (by omega)) (by decide) (fun h12 => ?_) (fun h12 => ?_)
  · exfalso; omega
  · refine g_iload_n hX dX5_years_15 rfl 1 rfl ?_
    refine g_bipush (v := nI 99) hX dX5_years_16 (by decide) ?_
    refine g_ci_le (a := ((m : Nat) : Int)) (b := (99 : Int)) (tgt := 24) hX dX5_years_18 (by decide) (nI_toInt (by omega)) (by decide) (fun h18 => ?_) (fun h18 => ?_)
    · refine g_aload_n hX dX5_years_24 rfl 0 rfl ?_
      refine g_getR (j := nw) hX (by decide) (by decide) xCl5 4 (by decide) (by decide) kX5_39 dX5_years_25 rfl ?_
      refine g_getI (v := nI y) hX (xG_n (j := 0) hnw (by decide)) (xG_K0 hnw) xCl0 13 (by decide) (by decide) kX5_140 dX5_years_28 (hG.ye.trans hy) ?_
      refine g_iload_n hX dX5_years_31 rfl 1 rfl ?_
      refine g_iadd (v := nI (y + m)) hX dX5_years_32 (nI_add y m) ?_
      refine g_sipush (v := nI 999) hX dX5_years_33 (by decide) ?_
      refine g_ci_le (a := ((y + m : Nat) : Int)) (b := (999 : Int)) (tgt := 42) hX dX5_years_36 (by decide) (nI_toInt (by omega)) (by decide) (fun h36 => ?_) (fun h36 => ?_)
      · exfalso; omega
      · refine g_ldc (v := -1000003) hX cX5_120 dX5_years_39 ?_
        exact g_iret hX hR dX5_years_41 (by decide) (by decide) ⟨congrArg (fun z => some (Value.int z)) rfl, rfl, rfl, rfl⟩
    · exfalso; omega

theorem c_X5_years_ok (l : Launch) {nw sp : Nat} {I : xM} {T S F W : Nat} {f : Nat → Int32} {m y n D : Nat} (hst : I 0 6 = nI 1) (hnw : xG nw) (hG : GX I nw f T S F W) (hW : WF f T S F W) (hy : f 2 = nI y) (hm : 1 ≤ m) (hm9 : m ≤ 99) (hf : y + m ≤ 999) (hn : I 0 8 = nI n) (hn24 : n < 24) (hk : I 0 9 = nI D) (hD : D ≤ 24) (hbz : BZ I nw) (hns : nw = 8 ∨ nw = 18) : xC l 3 0 0 yX5_years cX5_years 2 (some .int) 319 [.ref 0, .int (nI m)] I (xRL nw sp) (xpR 319 (xRL nw sp) (fun r J => r = nI (y + m) ∧ ∃ K, keepP I K n D nw ∧ J = xput K nw 13 (nI (y + m)))) := by
  refine xC_of (by decide) (Nat.le_of_ble_eq_true rfl) (fun X hXl hX hR => ?_)
  have hX : xOK X RX5 cX5_years 2 3 0 0 := hX
  show G X 319 0 0 I (xRL nw sp) 0 [(0, .ref 0), (1, .int (nI m))] []
  have hg8 := xG_8 hnw
  have hT6 := hW.T6
  have hS6 := hW.S6
  refine g_aload_n hX dX5_years_0 rfl 0 rfl ?_
  refine g_getI (v := nI 1) hX (by decide) (by decide) xCl5 6 (by decide) (by decide) kX5_46 dX5_years_1 hst ?_
  refine g_cz_ne (a := (1 : Int)) (tgt := 10) hX dX5_years_4 (by decide) (by decide) (fun _ => ?_) (fun q => absurd q (by decide))
  refine g_iload_n hX dX5_years_10 rfl 1 rfl ?_
  refine g_iconst (v := nI 1) hX dX5_years_11 (by decide) ?_
  refine g_ci_lt (a := ((m : Nat) : Int)) (b := (1 : Int)) (tgt := 21) hX dX5_years_12 (by decide) (nI_toInt (by omega)) (by decide) (fun h12 => ?_) (fun h12 => ?_)
  · exfalso; omega
  · refine g_iload_n hX dX5_years_15 rfl 1 rfl ?_
    refine g_bipush (v := nI 99) hX dX5_years_16 (by decide) ?_
    refine g_ci_le (a := ((m : Nat) : Int)) (b := (99 : Int)) (tgt := 24) hX dX5_years_18 (by decide) (nI_toInt (by omega)) (by decide) (fun h18 => ?_) (fun h18 => ?_)
    · refine g_aload_n hX dX5_years_24 rfl 0 rfl ?_
      refine g_getR (j := nw) hX (by decide) (by decide) xCl5 4 (by decide) (by decide) kX5_39 dX5_years_25 rfl ?_
      refine g_getI (v := nI y) hX (xG_n (j := 0) hnw (by decide)) (xG_K0 hnw) xCl0 13 (by decide) (by decide) kX5_140 dX5_years_28 (hG.ye.trans hy) ?_
      refine g_iload_n hX dX5_years_31 rfl 1 rfl ?_
      refine g_iadd (v := nI (y + m)) hX dX5_years_32 (nI_add y m) ?_
      refine g_sipush (v := nI 999) hX dX5_years_33 (by decide) ?_
      refine g_ci_le (a := ((y + m : Nat) : Int)) (b := (999 : Int)) (tgt := 42) hX dX5_years_36 (by decide) (nI_toInt (by omega)) (by decide) (fun h36 => ?_) (fun h36 => ?_)
      · refine g_aload_n hX dX5_years_42 rfl 0 rfl ?_
        refine g_callVrv hX (as := []) (fun l => c_X5_keepDay l (I := I) (n := n) (D := D) (hnw := (by first | assumption | omega)) (hn := (by first | assumption | omega)) (hn24 := (by first | assumption | omega)) (hk := (by first | assumption | omega)) (hD := (by first | assumption | omega)) (hbz := (by first | assumption | omega)) (hns := hns)) mX5_keepDay vX5_keepDay lX5_143 (by decide) (by decide) xCl5 rfl rfl dX5_years_43 rfl (by decide) (Nat.le_of_ble_eq_true rfl) (by decide) (by decide) (fun K hK => ?_)
        have hGK : GX K nw f T S F W := keepP.gx hK hns hG
        refine g_aload_n hX dX5_years_46 rfl 0 rfl ?_
        refine g_getR (j := nw) hX (by decide) (by decide) xCl5 4 (by decide) (by decide) kX5_39 dX5_years_47 rfl ?_
        refine g_dup hX rfl dX5_years_50 ?_
        refine g_getI (v := nI y) hX (xG_n (j := 0) hnw (by decide)) (xG_K0 hnw) xCl0 13 (by decide) (by decide) kX5_140 dX5_years_51 (hGK.ye.trans hy) ?_
        refine g_iload_n hX dX5_years_54 rfl 1 rfl ?_
        refine g_iadd (v := nI (y + m)) hX dX5_years_55 (nI_add y m) ?_
        refine g_putI hX (xG_n (j := 0) hnw (by decide)) (xG_K0 hnw) xCl0 13 (by decide) (by decide) (by decide) kX5_140 dX5_years_56 rfl rfl ?_
        refine g_aload_n hX dX5_years_59 rfl 0 rfl ?_
        refine g_getR (j := nw) hX (by decide) (by decide) xCl5 4 (by decide) (by decide) kX5_39 dX5_years_60 rfl ?_
        refine g_getI (v := nI (y + m)) hX (xG_n (j := 0) hnw (by decide)) (xG_K0 hnw) xCl0 13 (by decide) (by decide) kX5_140 dX5_years_63 xput_e ?_
        exact g_iret hX hR dX5_years_66 (by decide) (by decide) ⟨_, rfl, rfl, ⟨rfl, K, hK, rfl⟩, rfl⟩
      · exfalso; omega
    · exfalso; omega

theorem c_X5_winter_none (l : Launch) {nw sp : Nat} {I : xM} {x : Int32} (hst : I 0 6 = nI 0) : xC l 1 0 0 yX5_winter cX5_winter 3 (some .int) 319 [.ref 0, .int x] I (xRL nw sp) (xpI (-1000002) 319 I (xRL nw sp)) := by
  refine xC_of (by decide) (Nat.le_of_ble_eq_true rfl) (fun X hXl hX hR => ?_)
  have hX : xOK X RX5 cX5_winter 3 1 0 0 := hX
  show G X 319 0 0 I (xRL nw sp) 0 [(0, .ref 0), (1, .int x)] []
  refine g_aload_n hX dX5_winter_0 rfl 0 rfl ?_
  refine g_getI (v := nI 0) hX (by decide) (by decide) xCl5 6 (by decide) (by decide) kX5_46 dX5_winter_1 hst ?_
  refine g_cz_ne (a := (0 : Int)) (tgt := 10) hX dX5_winter_4 (by decide) (by decide) (fun q => absurd q (by decide)) (fun _ => ?_)
  refine g_ldc (v := -1000002) hX cX5_139 dX5_winter_7 ?_
  exact g_iret hX hR dX5_winter_9 (by decide) (by decide) ⟨congrArg (fun z => some (Value.int z)) rfl, rfl, rfl, rfl⟩

theorem c_X5_winter_bad (l : Launch) {nw sp : Nat} {I : xM} {x : Int32} (hst : I 0 6 = nI 1) (hb : ¬ (0 ≤ x.toInt ∧ x.toInt ≤ 1)) : xC l 1 0 0 yX5_winter cX5_winter 3 (some .int) 319 [.ref 0, .int x] I (xRL nw sp) (xpI (-1000001) 319 I (xRL nw sp)) := by
  refine xC_of (by decide) (Nat.le_of_ble_eq_true rfl) (fun X hXl hX hR => ?_)
  have hX : xOK X RX5 cX5_winter 3 1 0 0 := hX
  show G X 319 0 0 I (xRL nw sp) 0 [(0, .ref 0), (1, .int x)] []
  refine g_aload_n hX dX5_winter_0 rfl 0 rfl ?_
  refine g_getI (v := nI 1) hX (by decide) (by decide) xCl5 6 (by decide) (by decide) kX5_46 dX5_winter_1 hst ?_
  refine g_cz_ne (a := (1 : Int)) (tgt := 10) hX dX5_winter_4 (by decide) (by decide) (fun _ => ?_) (fun q => absurd q (by decide))
  refine g_iload_n hX dX5_winter_10 rfl 1 rfl ?_
  refine g_cz_lt (a := x.toInt) (tgt := 19) hX dX5_winter_11 (by decide) rfl (fun h11 => ?_) (fun h11 => ?_)
  · refine g_ldc (v := -1000001) hX cX5_79 dX5_winter_19 ?_
    exact g_iret hX hR dX5_winter_21 (by decide) (by decide) ⟨congrArg (fun z => some (Value.int z)) rfl, rfl, rfl, rfl⟩
  · refine g_iload_n hX dX5_winter_14 rfl 1 rfl ?_
    refine g_iconst (v := nI 1) hX dX5_winter_15 (by decide) ?_
    refine g_ci_le (a := x.toInt) (b := (1 : Int)) (tgt := 22) hX dX5_winter_16 (by decide) rfl (by decide) (fun h16 => ?_) (fun h16 => ?_)
    · exfalso; omega
    · refine g_ldc (v := -1000001) hX cX5_79 dX5_winter_19 ?_
      exact g_iret hX hR dX5_winter_21 (by decide) (by decide) ⟨congrArg (fun z => some (Value.int z)) rfl, rfl, rfl, rfl⟩

theorem c_X5_winter_ok (l : Launch) {nw sp : Nat} {I : xM} {T S F W : Nat} {f : Nat → Int32} {v n D : Nat} (hst : I 0 6 = nI 1) (hnw : xG nw) (hG : GX I nw f T S F W) (hW : WF f T S F W) (hv : v ≤ 1) (hn : I 0 8 = nI n) (hn24 : n < 24) (hk : I 0 9 = nI D) (hD : D ≤ 24) (hbz : BZ I nw) (hns : nw = 8 ∨ nw = 18) : xC l 3 0 0 yX5_winter cX5_winter 3 (some .int) 319 [.ref 0, .int (nI v)] I (xRL nw sp) (xpR 319 (xRL nw sp) (fun r J => r = f 3 ∧ ∃ K, keepP I K n D nw ∧ J = xput K nw 14 (nI v))) := by
  refine xC_of (by decide) (Nat.le_of_ble_eq_true rfl) (fun X hXl hX hR => ?_)
  have hX : xOK X RX5 cX5_winter 3 3 0 0 := hX
  show G X 319 0 0 I (xRL nw sp) 0 [(0, .ref 0), (1, .int (nI v))] []
  have hg8 := xG_8 hnw
  have hT6 := hW.T6
  have hS6 := hW.S6
  refine g_aload_n hX dX5_winter_0 rfl 0 rfl ?_
  refine g_getI (v := nI 1) hX (by decide) (by decide) xCl5 6 (by decide) (by decide) kX5_46 dX5_winter_1 hst ?_
  refine g_cz_ne (a := (1 : Int)) (tgt := 10) hX dX5_winter_4 (by decide) (by decide) (fun _ => ?_) (fun q => absurd q (by decide))
  refine g_iload_n hX dX5_winter_10 rfl 1 rfl ?_
  refine g_cz_lt (a := ((v : Nat) : Int)) (tgt := 19) hX dX5_winter_11 (by decide) (nI_toInt (by omega)) (fun h11 => ?_) (fun h11 => ?_)
  · exfalso; omega
  · refine g_iload_n hX dX5_winter_14 rfl 1 rfl ?_
    refine g_iconst (v := nI 1) hX dX5_winter_15 (by decide) ?_
    refine g_ci_le (a := ((v : Nat) : Int)) (b := (1 : Int)) (tgt := 22) hX dX5_winter_16 (by decide) (nI_toInt (by omega)) (by decide) (fun h16 => ?_) (fun h16 => ?_)
    · refine g_aload_n hX dX5_winter_22 rfl 0 rfl ?_
      refine g_callVrv hX (as := []) (fun l => c_X5_keepDay l (I := I) (n := n) (D := D) (hnw := (by first | assumption | omega)) (hn := (by first | assumption | omega)) (hn24 := (by first | assumption | omega)) (hk := (by first | assumption | omega)) (hD := (by first | assumption | omega)) (hbz := (by first | assumption | omega)) (hns := hns)) mX5_keepDay vX5_keepDay lX5_143 (by decide) (by decide) xCl5 rfl rfl dX5_winter_23 rfl (by decide) (Nat.le_of_ble_eq_true rfl) (by decide) (by decide) (fun K hK => ?_)
      have hGK : GX K nw f T S F W := keepP.gx hK hns hG
      refine g_aload_n hX dX5_winter_26 rfl 0 rfl ?_
      refine g_getR (j := nw) hX (by decide) (by decide) xCl5 4 (by decide) (by decide) kX5_39 dX5_winter_27 rfl ?_
      refine g_getI (v := f 3) hX (xG_n (j := 0) hnw (by decide)) (xG_K0 hnw) xCl0 14 (by decide) (by decide) kX5_146 dX5_winter_30 hGK.wi ?_
      refine g_cz_eq (a := (f 3).toInt) (tgt := 40) hX dX5_winter_33 (by decide) rfl (fun h33 => ?_) (fun h33 => ?_)
      · refine g_iconst (v := nI 0) hX dX5_winter_40 (by decide) ?_
        refine g_istore_n (L' := [(0, .ref 0), (1, .int (nI v)), (2, .int (nI 0))]) hX dX5_winter_41 rfl (by decide) rfl ?_
        refine g_aload_n hX dX5_winter_42 rfl 0 rfl ?_
        refine g_getR (j := nw) hX (by decide) (by decide) xCl5 4 (by decide) (by decide) kX5_39 dX5_winter_43 rfl ?_
        refine g_iload_n hX dX5_winter_46 rfl 1 rfl ?_
        refine g_iconst (v := nI 1) hX dX5_winter_47 (by decide) ?_
        refine g_ci_ne (a := ((v : Nat) : Int)) (b := (1 : Int)) (tgt := 55) hX dX5_winter_48 (by decide) (nI_toInt (by omega)) (by decide) (fun h48 => ?_) (fun h48 => ?_)
        · obtain rfl : v = 0 := by omega
          refine g_iconst (v := nI 0) hX dX5_winter_55 (by decide) ?_
          refine g_putI hX (xG_n (j := 0) hnw (by decide)) (xG_K0 hnw) xCl0 14 (by decide) (by decide) (by decide) kX5_146 dX5_winter_56 (by decide) (by decide) ?_
          refine g_iload_n hX dX5_winter_59 rfl 2 rfl ?_
          exact g_iret hX hR dX5_winter_60 (by decide) (by decide) ⟨_, rfl, rfl, (by first | exact ⟨b01_t hW.wi h33, K, hK, rfl⟩ | exact ⟨b01_f h33, K, hK, rfl⟩), rfl⟩
        · obtain rfl : v = 1 := by omega
          refine g_iconst (v := nI 1) hX dX5_winter_51 (by decide) ?_
          refine g_goto (tgt := 56) hX dX5_winter_52 (by decide) ?_
          refine g_putI hX (xG_n (j := 0) hnw (by decide)) (xG_K0 hnw) xCl0 14 (by decide) (by decide) (by decide) kX5_146 dX5_winter_56 (by decide) (by decide) ?_
          refine g_iload_n hX dX5_winter_59 rfl 2 rfl ?_
          exact g_iret hX hR dX5_winter_60 (by decide) (by decide) ⟨_, rfl, rfl, (by first | exact ⟨b01_t hW.wi h33, K, hK, rfl⟩ | exact ⟨b01_f h33, K, hK, rfl⟩), rfl⟩
      · refine g_iconst (v := nI 1) hX dX5_winter_36 (by decide) ?_
        refine g_goto (tgt := 41) hX dX5_winter_37 (by decide) ?_
        refine g_istore_n (L' := [(0, .ref 0), (1, .int (nI v)), (2, .int (nI 1))]) hX dX5_winter_41 rfl (by decide) rfl ?_
        refine g_aload_n hX dX5_winter_42 rfl 0 rfl ?_
        refine g_getR (j := nw) hX (by decide) (by decide) xCl5 4 (by decide) (by decide) kX5_39 dX5_winter_43 rfl ?_
        refine g_iload_n hX dX5_winter_46 rfl 1 rfl ?_
        refine g_iconst (v := nI 1) hX dX5_winter_47 (by decide) ?_
        refine g_ci_ne (a := ((v : Nat) : Int)) (b := (1 : Int)) (tgt := 55) hX dX5_winter_48 (by decide) (nI_toInt (by omega)) (by decide) (fun h48 => ?_) (fun h48 => ?_)
        · obtain rfl : v = 0 := by omega
          refine g_iconst (v := nI 0) hX dX5_winter_55 (by decide) ?_
          refine g_putI hX (xG_n (j := 0) hnw (by decide)) (xG_K0 hnw) xCl0 14 (by decide) (by decide) (by decide) kX5_146 dX5_winter_56 (by decide) (by decide) ?_
          refine g_iload_n hX dX5_winter_59 rfl 2 rfl ?_
          exact g_iret hX hR dX5_winter_60 (by decide) (by decide) ⟨_, rfl, rfl, (by first | exact ⟨b01_t hW.wi h33, K, hK, rfl⟩ | exact ⟨b01_f h33, K, hK, rfl⟩), rfl⟩
        · obtain rfl : v = 1 := by omega
          refine g_iconst (v := nI 1) hX dX5_winter_51 (by decide) ?_
          refine g_goto (tgt := 56) hX dX5_winter_52 (by decide) ?_
          refine g_putI hX (xG_n (j := 0) hnw (by decide)) (xG_K0 hnw) xCl0 14 (by decide) (by decide) (by decide) kX5_146 dX5_winter_56 (by decide) (by decide) ?_
          refine g_iload_n hX dX5_winter_59 rfl 2 rfl ?_
          exact g_iret hX hR dX5_winter_60 (by decide) (by decide) ⟨_, rfl, rfl, (by first | exact ⟨b01_t hW.wi h33, K, hK, rfl⟩ | exact ⟨b01_f h33, K, hK, rfl⟩), rfl⟩
    · exfalso; omega

theorem c_X5_clip_bad (l : Launch) {nw sp : Nat} {I : xM} {T S F W : Nat} {f : Nat → Int32} {x y : Int32} (hnw : xG nw) (hG : GX I nw f T S F W) (hW : WF f T S F W) (hb : ¬ (0 ≤ x.toInt ∧ x.toInt < T ∧ 1 ≤ y.toInt ∧ y.toInt ≤ 99)) : xC l 2 0 0 yX5_clip cX5_clip 3 (some .int) 319 [.ref 0, .int x, .int y] I (xRL nw sp) (xpI (-1000001) 319 I (xRL nw sp)) := by
  refine xC_of (by decide) (Nat.le_of_ble_eq_true rfl) (fun X hXl hX hR => ?_)
  have hX : xOK X RX5 cX5_clip 3 2 0 0 := hX
  show G X 319 0 0 I (xRL nw sp) 0 [(0, .ref 0), (1, .int x), (2, .int y)] []
  have hg8 := xG_8 hnw
  have hT6 := hW.T6
  have hS6 := hW.S6
  refine g_aload_n hX dX5_clip_0 rfl 0 rfl ?_
  refine g_getR (j := nw) hX (by decide) (by decide) xCl5 4 (by decide) (by decide) kX5_39 dX5_clip_1 rfl ?_
  refine g_iload_n hX dX5_clip_4 rfl 1 rfl ?_
  refine g_callVi hX (as := [.int x]) (fun l => c_X0_hasTree l (I := I) (g := nw) (T := T) (S := S) (F := F) (W := W) (f := f) (x := x) (hg := hnw) (hG := (by first | assumption | omega)) (hW := (by first | assumption | omega))) mX0_hasTree vX0_hasTree lX5_149 (xG_n (j := 0) hnw (by decide)) (xG_K0 hnw) xCl0 rfl rfl dX5_clip_5 rfl (by decide) (Nat.le_of_ble_eq_true rfl) (by decide) (by decide) ?_
  refine g_cb_eq (tgt := 22) hX dX5_clip_8 (by decide) (fun h8 => ?_) (fun h8 => ?_)
  · refine g_ldc (v := -1000001) hX cX5_79 dX5_clip_22 ?_
    exact g_iret hX hR dX5_clip_24 (by decide) (by decide) ⟨congrArg (fun z => some (Value.int z)) rfl, rfl, rfl, rfl⟩
  · refine g_iload_n hX dX5_clip_11 rfl 2 rfl ?_
    refine g_iconst (v := nI 1) hX dX5_clip_12 (by decide) ?_
    refine g_ci_lt (a := y.toInt) (b := (1 : Int)) (tgt := 22) hX dX5_clip_13 (by decide) rfl (by decide) (fun h13 => ?_) (fun h13 => ?_)
    · refine g_ldc (v := -1000001) hX cX5_79 dX5_clip_22 ?_
      exact g_iret hX hR dX5_clip_24 (by decide) (by decide) ⟨congrArg (fun z => some (Value.int z)) rfl, rfl, rfl, rfl⟩
    · refine g_iload_n hX dX5_clip_16 rfl 2 rfl ?_
      refine g_bipush (v := nI 99) hX dX5_clip_17 (by decide) ?_
      refine g_ci_le (a := y.toInt) (b := (99 : Int)) (tgt := 25) hX dX5_clip_19 (by decide) rfl (by decide) (fun h19 => ?_) (fun h19 => ?_)
      · exfalso; omega
      · refine g_ldc (v := -1000001) hX cX5_79 dX5_clip_22 ?_
        exact g_iret hX hR dX5_clip_24 (by decide) (by decide) ⟨congrArg (fun z => some (Value.int z)) rfl, rfl, rfl, rfl⟩

theorem c_X5_clip_state (l : Launch) {nw sp : Nat} {I : xM} {T S F W : Nat} {f : Nat → Int32} {t m : Nat} (hnw : xG nw) (hG : GX I nw f T S F W) (hW : WF f T S F W) (ht : t < T) (hm : 1 ≤ m) (hm9 : m ≤ 99) (hk : (f (26 + 5 * t + 0)).toInt = 3 ∨ (f (26 + 5 * t + 0)).toInt = 5) : xC l 3 0 0 yX5_clip cX5_clip 3 (some .int) 319 [.ref 0, .int (nI t), .int (nI m)] I (xRL nw sp) (xpI (-1000002) 319 I (xRL nw sp)) := by
  refine xC_of (by decide) (Nat.le_of_ble_eq_true rfl) (fun X hXl hX hR => ?_)
  have hX : xOK X RX5 cX5_clip 3 3 0 0 := hX
  show G X 319 0 0 I (xRL nw sp) 0 [(0, .ref 0), (1, .int (nI t)), (2, .int (nI m))] []
  have hg8 := xG_8 hnw
  have hT6 := hW.T6
  have hS6 := hW.S6
  refine g_aload_n hX dX5_clip_0 rfl 0 rfl ?_
  refine g_getR (j := nw) hX (by decide) (by decide) xCl5 4 (by decide) (by decide) kX5_39 dX5_clip_1 rfl ?_
  refine g_iload_n hX dX5_clip_4 rfl 1 rfl ?_
  refine g_callVi hX (as := [.int (nI t)]) (fun l => c_X0_hasTree l (I := I) (g := nw) (T := T) (S := S) (F := F) (W := W) (f := f) (x := (nI t)) (hg := hnw) (hG := (by first | assumption | omega)) (hW := (by first | assumption | omega))) mX0_hasTree vX0_hasTree lX5_149 (xG_n (j := 0) hnw (by decide)) (xG_K0 hnw) xCl0 rfl rfl dX5_clip_5 rfl (by decide) (Nat.le_of_ble_eq_true rfl) (by decide) (by decide) ?_
  refine g_top (y := xb (0 ≤ ((t : Nat) : Int) ∧ ((t : Nat) : Int) < T)) (by rw [nI_toInt (n := t) (by omega)]) ?_
  refine g_cb_eq (tgt := 22) hX dX5_clip_8 (by decide) (fun h8 => ?_) (fun h8 => ?_)
  · exfalso; omega
  · refine g_iload_n hX dX5_clip_11 rfl 2 rfl ?_
    refine g_iconst (v := nI 1) hX dX5_clip_12 (by decide) ?_
    refine g_ci_lt (a := ((m : Nat) : Int)) (b := (1 : Int)) (tgt := 22) hX dX5_clip_13 (by decide) (nI_toInt (by omega)) (by decide) (fun h13 => ?_) (fun h13 => ?_)
    · exfalso; omega
    · refine g_iload_n hX dX5_clip_16 rfl 2 rfl ?_
      refine g_bipush (v := nI 99) hX dX5_clip_17 (by decide) ?_
      refine g_ci_le (a := ((m : Nat) : Int)) (b := (99 : Int)) (tgt := 25) hX dX5_clip_19 (by decide) (nI_toInt (by omega)) (by decide) (fun h19 => ?_) (fun h19 => ?_)
      · refine g_aload_n hX dX5_clip_25 rfl 0 rfl ?_
        refine g_getR (j := nw) hX (by decide) (by decide) xCl5 4 (by decide) (by decide) kX5_39 dX5_clip_26 rfl ?_
        refine g_iload_n hX dX5_clip_29 rfl 1 rfl ?_
        refine g_callVi hX (as := [.int (nI t)]) (fun l => c_X0_mayBeCut_t l (I := I) (g := nw) (T := T) (S := S) (F := F) (W := W) (f := f) (t := t) (hg := hnw) (hG := (by first | assumption | omega)) (hW := (by first | assumption | omega)) (ht := (by first | assumption | omega))) mX0_mayBeCut vX0_mayBeCut lX5_152 (xG_n (j := 0) hnw (by decide)) (xG_K0 hnw) xCl0 rfl rfl dX5_clip_30 rfl (by decide) (Nat.le_of_ble_eq_true rfl) (by decide) (by decide) ?_
        refine g_cb_ne (tgt := 39) hX dX5_clip_33 (by decide) (fun h33 => ?_) (fun h33 => ?_)
        · exact absurd hk (fun q => q.elim h33.1 h33.2)
        · refine g_ldc (v := -1000002) hX cX5_139 dX5_clip_36 ?_
          exact g_iret hX hR dX5_clip_38 (by decide) (by decide) ⟨congrArg (fun z => some (Value.int z)) rfl, rfl, rfl, rfl⟩
      · exfalso; omega

theorem c_X5_clip_ok (l : Launch) {nw sp : Nat} {I : xM} {T S F W : Nat} {f : Nat → Int32} {t m n D : Nat} (hnw : xG nw) (hG : GX I nw f T S F W) (hW : WF f T S F W) (ht : t < T) (hm : 1 ≤ m) (hm9 : m ≤ 99) (hkd : (f (26 + 5 * t + 0)).toInt ≠ 3 ∧ (f (26 + 5 * t + 0)).toInt ≠ 5) (hn : I 0 8 = nI n) (hn24 : n < 24) (hk : I 0 9 = nI D) (hD : D ≤ 24) (hbz : BZ I nw) (hns : nw = 8 ∨ nw = 18) : xC l 4 0 0 yX5_clip cX5_clip 3 (some .int) 319 [.ref 0, .int (nI t), .int (nI m)] I (xRL nw sp) (xpR 319 (xRL nw sp) (fun r J => r = hgF (upd f (26 + 5 * t + 4) (f (26 + 5 * t + 4) + nI m)) (fun _ => 0) t ∧ ∃ K, keepP I K n D nw ∧ J = xput K (nw + 6) t (f (26 + 5 * t + 4) + nI m))) := by
  refine xC_of (by decide) (Nat.le_of_ble_eq_true rfl) (fun X hXl hX hR => ?_)
  have hX : xOK X RX5 cX5_clip 3 4 0 0 := hX
  show G X 319 0 0 I (xRL nw sp) 0 [(0, .ref 0), (1, .int (nI t)), (2, .int (nI m))] []
  have hg8 := xG_8 hnw
  have hT6 := hW.T6
  have hS6 := hW.S6
  refine g_aload_n hX dX5_clip_0 rfl 0 rfl ?_
  refine g_getR (j := nw) hX (by decide) (by decide) xCl5 4 (by decide) (by decide) kX5_39 dX5_clip_1 rfl ?_
  refine g_iload_n hX dX5_clip_4 rfl 1 rfl ?_
  refine g_callVi hX (as := [.int (nI t)]) (fun l => c_X0_hasTree l (I := I) (g := nw) (T := T) (S := S) (F := F) (W := W) (f := f) (x := (nI t)) (hg := hnw) (hG := (by first | assumption | omega)) (hW := (by first | assumption | omega))) mX0_hasTree vX0_hasTree lX5_149 (xG_n (j := 0) hnw (by decide)) (xG_K0 hnw) xCl0 rfl rfl dX5_clip_5 rfl (by decide) (Nat.le_of_ble_eq_true rfl) (by decide) (by decide) ?_
  refine g_top (y := xb (0 ≤ ((t : Nat) : Int) ∧ ((t : Nat) : Int) < T)) (by rw [nI_toInt (n := t) (by omega)]) ?_
  refine g_cb_eq (tgt := 22) hX dX5_clip_8 (by decide) (fun h8 => ?_) (fun h8 => ?_)
  · exfalso; omega
  · refine g_iload_n hX dX5_clip_11 rfl 2 rfl ?_
    refine g_iconst (v := nI 1) hX dX5_clip_12 (by decide) ?_
    refine g_ci_lt (a := ((m : Nat) : Int)) (b := (1 : Int)) (tgt := 22) hX dX5_clip_13 (by decide) (nI_toInt (by omega)) (by decide) (fun h13 => ?_) (fun h13 => ?_)
    · exfalso; omega
    · refine g_iload_n hX dX5_clip_16 rfl 2 rfl ?_
      refine g_bipush (v := nI 99) hX dX5_clip_17 (by decide) ?_
      refine g_ci_le (a := ((m : Nat) : Int)) (b := (99 : Int)) (tgt := 25) hX dX5_clip_19 (by decide) (nI_toInt (by omega)) (by decide) (fun h19 => ?_) (fun h19 => ?_)
      · refine g_aload_n hX dX5_clip_25 rfl 0 rfl ?_
        refine g_getR (j := nw) hX (by decide) (by decide) xCl5 4 (by decide) (by decide) kX5_39 dX5_clip_26 rfl ?_
        refine g_iload_n hX dX5_clip_29 rfl 1 rfl ?_
        refine g_callVi hX (as := [.int (nI t)]) (fun l => c_X0_mayBeCut_t l (I := I) (g := nw) (T := T) (S := S) (F := F) (W := W) (f := f) (t := t) (hg := hnw) (hG := (by first | assumption | omega)) (hW := (by first | assumption | omega)) (ht := (by first | assumption | omega))) mX0_mayBeCut vX0_mayBeCut lX5_152 (xG_n (j := 0) hnw (by decide)) (xG_K0 hnw) xCl0 rfl rfl dX5_clip_30 rfl (by decide) (Nat.le_of_ble_eq_true rfl) (by decide) (by decide) ?_
        refine g_cb_ne (tgt := 39) hX dX5_clip_33 (by decide) (fun h33 => ?_) (fun h33 => ?_)
        · refine g_aload_n hX dX5_clip_39 rfl 0 rfl ?_
          refine g_callVrv hX (as := []) (fun l => c_X5_keepDay l (I := I) (n := n) (D := D) (hnw := (by first | assumption | omega)) (hn := (by first | assumption | omega)) (hn24 := (by first | assumption | omega)) (hk := (by first | assumption | omega)) (hD := (by first | assumption | omega)) (hbz := (by first | assumption | omega)) (hns := hns)) mX5_keepDay vX5_keepDay lX5_143 (by decide) (by decide) xCl5 rfl rfl dX5_clip_40 rfl (by decide) (Nat.le_of_ble_eq_true rfl) (by decide) (by decide) (fun K hK => ?_)
          have hGK : GX K nw f T S F W := keepP.gx hK hns hG
          refine g_aload_n hX dX5_clip_43 rfl 0 rfl ?_
          refine g_getR (j := nw) hX (by decide) (by decide) xCl5 4 (by decide) (by decide) kX5_39 dX5_clip_44 rfl ?_
          refine g_getR (j := nw + 6) hX (xG_n (j := 0) hnw (by decide)) (xG_K0 hnw) xCl0 8 (by decide) (by decide) kX5_155 dX5_clip_47 (xRL_g8 hnw) ?_
          refine g_iload_n hX dX5_clip_50 rfl 1 rfl ?_
          refine g_dup2 hX rfl rfl dX5_clip_51 ?_
          refine g_iald (v := f (26 + 5 * t + 4)) hX (xG_n (j := 6) hnw (by decide)) (xG_K6 hnw) t rfl (by rw [(xG_N6 hnw)]; omega) dX5_clip_52 (hGK.k4 (by omega)) ?_
          refine g_iload_n hX dX5_clip_53 rfl 2 rfl ?_
          refine g_iadd (v := (f (26 + 5 * t + 4)) + (nI m)) hX dX5_clip_54 rfl ?_
          refine g_iast hX (xG_n (j := 6) hnw (by decide)) (xG_K6 hnw) t rfl (by rw [(xG_N6 hnw)]; omega) dX5_clip_55 ?_
          refine g_aload_n hX dX5_clip_56 rfl 0 rfl ?_
          refine g_getR (j := nw) hX (by decide) (by decide) xCl5 4 (by decide) (by decide) kX5_39 dX5_clip_57 rfl ?_
          refine g_iload_n hX dX5_clip_60 rfl 1 rfl ?_
          refine g_callVi hX (as := [.int (nI t)]) (fun l => c_X0_heightNow l (I := (xput K (nw + 6) t ((f (26 + 5 * t + 4)) + (nI m)))) (g := nw) (T := T) (S := S) (F := F) (W := W) (f := (upd f (26 + 5 * t + 4) (f (26 + 5 * t + 4) + nI m))) (t := t) (hg := hnw) (hG := (GX.cut hGK ht)) (hW := (WF.cut hW ht)) (ht := (by first | assumption | omega))) mX0_heightNow vX0_heightNow lX5_158 (xG_n (j := 0) hnw (by decide)) (xG_K0 hnw) xCl0 rfl rfl dX5_clip_61 rfl (by decide) (Nat.le_of_ble_eq_true rfl) (by decide) (by decide) ?_
          exact g_iret hX hR dX5_clip_64 (by decide) (by decide) ⟨_, rfl, rfl, ⟨rfl, K, hK, rfl⟩, rfl⟩
        · exact absurd hkd h33
      · exfalso; omega

theorem c_X5_move_bad (l : Launch) {nw sp : Nat} {I : xM} {T S F W : Nat} {f : Nat → Int32} {x y : Int32} (hnw : xG nw) (hG : GX I nw f T S F W) (hW : WF f T S F W) (hb : ¬ (0 ≤ x.toInt ∧ x.toInt < T ∧ 1 ≤ y.toInt ∧ y.toInt ≤ 18)) : xC l 2 0 0 yX5_move cX5_move 4 (some .int) 319 [.ref 0, .int x, .int y] I (xRL nw sp) (xpI (-1000001) 319 I (xRL nw sp)) := by
  refine xC_of (by decide) (Nat.le_of_ble_eq_true rfl) (fun X hXl hX hR => ?_)
  have hX : xOK X RX5 cX5_move 4 2 0 0 := hX
  show G X 319 0 0 I (xRL nw sp) 0 [(0, .ref 0), (1, .int x), (2, .int y)] []
  have hg8 := xG_8 hnw
  have hT6 := hW.T6
  have hS6 := hW.S6
  refine g_aload_n hX dX5_move_0 rfl 0 rfl ?_
  refine g_getR (j := nw) hX (by decide) (by decide) xCl5 4 (by decide) (by decide) kX5_39 dX5_move_1 rfl ?_
  refine g_iload_n hX dX5_move_4 rfl 1 rfl ?_
  refine g_callVi hX (as := [.int x]) (fun l => c_X0_hasTree l (I := I) (g := nw) (T := T) (S := S) (F := F) (W := W) (f := f) (x := x) (hg := hnw) (hG := (by first | assumption | omega)) (hW := (by first | assumption | omega))) mX0_hasTree vX0_hasTree lX5_149 (xG_n (j := 0) hnw (by decide)) (xG_K0 hnw) xCl0 rfl rfl dX5_move_5 rfl (by decide) (Nat.le_of_ble_eq_true rfl) (by decide) (by decide) ?_
  refine g_cb_eq (tgt := 18) hX dX5_move_8 (by decide) (fun h8 => ?_) (fun h8 => ?_)
  · refine g_ldc (v := -1000001) hX cX5_79 dX5_move_18 ?_
    exact g_iret hX hR dX5_move_20 (by decide) (by decide) ⟨congrArg (fun z => some (Value.int z)) rfl, rfl, rfl, rfl⟩
  · refine g_iload_n hX dX5_move_11 rfl 2 rfl ?_
    refine g_callSi hX (as := [.int y]) (fun l => c_X5_isInnerSite l (I := I) (x := y) ) mX5_isInnerSite sX5_isInnerSite lX5_161 rfl dX5_move_12 rfl (by decide) (Nat.le_of_ble_eq_true rfl) (by decide) (by decide) ?_
    refine g_cb_ne (tgt := 21) hX dX5_move_15 (by decide) (fun h15 => ?_) (fun h15 => ?_)
    · exact absurd ⟨h8.1, h8.2, by omega, by omega⟩ hb
    · refine g_ldc (v := -1000001) hX cX5_79 dX5_move_18 ?_
      exact g_iret hX hR dX5_move_20 (by decide) (by decide) ⟨congrArg (fun z => some (Value.int z)) rfl, rfl, rfl, rfl⟩

theorem c_X5_move_state (l : Launch) {nw sp : Nat} {I : xM} {T S F W : Nat} {f : Nat → Int32} {t q u : Nat} (hnw : xG nw) (hG : GX I nw f T S F W) (hW : WF f T S F W) (ht : t < T) (hq : 1 ≤ q) (hq8 : q ≤ 18) (hu : taF f T (nI q) = some u) (hu6 : u < 6) : xC l 2 0 0 yX5_move cX5_move 4 (some .int) 319 [.ref 0, .int (nI t), .int (nI q)] I (xRL nw sp) (xpI (-1000002) 319 I (xRL nw sp)) := by
  refine xC_of (by decide) (Nat.le_of_ble_eq_true rfl) (fun X hXl hX hR => ?_)
  have hX : xOK X RX5 cX5_move 4 2 0 0 := hX
  show G X 319 0 0 I (xRL nw sp) 0 [(0, .ref 0), (1, .int (nI t)), (2, .int (nI q))] []
  have hg8 := xG_8 hnw
  have hT6 := hW.T6
  have hS6 := hW.S6
  refine g_aload_n hX dX5_move_0 rfl 0 rfl ?_
  refine g_getR (j := nw) hX (by decide) (by decide) xCl5 4 (by decide) (by decide) kX5_39 dX5_move_1 rfl ?_
  refine g_iload_n hX dX5_move_4 rfl 1 rfl ?_
  refine g_callVi hX (as := [.int (nI t)]) (fun l => c_X0_hasTree l (I := I) (g := nw) (T := T) (S := S) (F := F) (W := W) (f := f) (x := (nI t)) (hg := hnw) (hG := (by first | assumption | omega)) (hW := (by first | assumption | omega))) mX0_hasTree vX0_hasTree lX5_149 (xG_n (j := 0) hnw (by decide)) (xG_K0 hnw) xCl0 rfl rfl dX5_move_5 rfl (by decide) (Nat.le_of_ble_eq_true rfl) (by decide) (by decide) ?_
  refine g_top (y := xb (0 ≤ ((t : Nat) : Int) ∧ ((t : Nat) : Int) < T)) (by rw [nI_toInt (n := t) (by omega)]) ?_
  refine g_cb_eq (tgt := 18) hX dX5_move_8 (by decide) (fun h8 => ?_) (fun h8 => ?_)
  · exfalso; omega
  · refine g_iload_n hX dX5_move_11 rfl 2 rfl ?_
    refine g_callSi hX (as := [.int (nI q)]) (fun l => c_X5_isInnerSite l (I := I) (x := (nI q)) ) mX5_isInnerSite sX5_isInnerSite lX5_161 rfl dX5_move_12 rfl (by decide) (Nat.le_of_ble_eq_true rfl) (by decide) (by decide) ?_
    refine g_top (y := xb (0 < ((q : Nat) : Int) ∧ ((q : Nat) : Int) < 19)) (by rw [nI_toInt (n := q) (by omega)]) ?_
    refine g_cb_ne (tgt := 21) hX dX5_move_15 (by decide) (fun h15 => ?_) (fun h15 => ?_)
    · refine g_aload_n hX dX5_move_21 rfl 0 rfl ?_
      refine g_getR (j := nw) hX (by decide) (by decide) xCl5 4 (by decide) (by decide) kX5_39 dX5_move_22 rfl ?_
      refine g_iload_n hX dX5_move_25 rfl 2 rfl ?_
      refine g_callVi hX (as := [.int (nI q)]) (fun l => c_X0_treeAt l (I := I) (g := nw) (T := T) (S := S) (F := F) (W := W) (f := f) (x := (nI q)) (hg := hnw) (hG := (by first | assumption | omega)) (hW := (by first | assumption | omega))) mX0_treeAt vX0_treeAt lX5_164 (xG_n (j := 0) hnw (by decide)) (xG_K0 hnw) xCl0 rfl rfl dX5_move_26 rfl (by decide) (Nat.le_of_ble_eq_true rfl) (by decide) (by decide) ?_
      refine g_top (y := nI u) (by rw [hu]; rfl) ?_
      refine g_ldc (v := -1000000) hX cX5_167 dX5_move_29 ?_
      refine g_ci_eq (a := ((u : Nat) : Int)) (b := (-1000000 : Int)) (tgt := 37) hX dX5_move_31 (by decide) (nI_toInt (by omega)) (by decide) (fun q => absurd q (by omega)) (fun _ => ?_)
      refine g_ldc (v := -1000002) hX cX5_139 dX5_move_34 ?_
      exact g_iret hX hR dX5_move_36 (by decide) (by decide) ⟨congrArg (fun z => some (Value.int z)) rfl, rfl, rfl, rfl⟩
    · exfalso; omega

theorem c_X5_move_ok (l : Launch) {nw sp : Nat} {I : xM} {T S F W : Nat} {f : Nat → Int32} {t q n D : Nat} (hnw : xG nw) (hG : GX I nw f T S F W) (hW : WF f T S F W) (ht : t < T) (hq : 1 ≤ q) (hq8 : q ≤ 18) (hu : taF f T (nI q) = none) (hn : I 0 8 = nI n) (hn24 : n < 24) (hk : I 0 9 = nI D) (hD : D ≤ 24) (hbz : BZ I nw) (hns : nw = 8 ∨ nw = 18) : xC l 3 0 0 yX5_move cX5_move 4 (some .int) 319 [.ref 0, .int (nI t), .int (nI q)] I (xRL nw sp) (xpR 319 (xRL nw sp) (fun r J => r = f (26 + 5 * t + 1) ∧ ∃ K, keepP I K n D nw ∧ J = xput K (nw + 3) t (nI q))) := by
  refine xC_of (by decide) (Nat.le_of_ble_eq_true rfl) (fun X hXl hX hR => ?_)
  have hX : xOK X RX5 cX5_move 4 3 0 0 := hX
  show G X 319 0 0 I (xRL nw sp) 0 [(0, .ref 0), (1, .int (nI t)), (2, .int (nI q))] []
  have hg8 := xG_8 hnw
  have hT6 := hW.T6
  have hS6 := hW.S6
  refine g_aload_n hX dX5_move_0 rfl 0 rfl ?_
  refine g_getR (j := nw) hX (by decide) (by decide) xCl5 4 (by decide) (by decide) kX5_39 dX5_move_1 rfl ?_
  refine g_iload_n hX dX5_move_4 rfl 1 rfl ?_
  refine g_callVi hX (as := [.int (nI t)]) (fun l => c_X0_hasTree l (I := I) (g := nw) (T := T) (S := S) (F := F) (W := W) (f := f) (x := (nI t)) (hg := hnw) (hG := (by first | assumption | omega)) (hW := (by first | assumption | omega))) mX0_hasTree vX0_hasTree lX5_149 (xG_n (j := 0) hnw (by decide)) (xG_K0 hnw) xCl0 rfl rfl dX5_move_5 rfl (by decide) (Nat.le_of_ble_eq_true rfl) (by decide) (by decide) ?_
  refine g_top (y := xb (0 ≤ ((t : Nat) : Int) ∧ ((t : Nat) : Int) < T)) (by rw [nI_toInt (n := t) (by omega)]) ?_
  refine g_cb_eq (tgt := 18) hX dX5_move_8 (by decide) (fun h8 => ?_) (fun h8 => ?_)
  · exfalso; omega
  · refine g_iload_n hX dX5_move_11 rfl 2 rfl ?_
    refine g_callSi hX (as := [.int (nI q)]) (fun l => c_X5_isInnerSite l (I := I) (x := (nI q)) ) mX5_isInnerSite sX5_isInnerSite lX5_161 rfl dX5_move_12 rfl (by decide) (Nat.le_of_ble_eq_true rfl) (by decide) (by decide) ?_
    refine g_top (y := xb (0 < ((q : Nat) : Int) ∧ ((q : Nat) : Int) < 19)) (by rw [nI_toInt (n := q) (by omega)]) ?_
    refine g_cb_ne (tgt := 21) hX dX5_move_15 (by decide) (fun h15 => ?_) (fun h15 => ?_)
    · refine g_aload_n hX dX5_move_21 rfl 0 rfl ?_
      refine g_getR (j := nw) hX (by decide) (by decide) xCl5 4 (by decide) (by decide) kX5_39 dX5_move_22 rfl ?_
      refine g_iload_n hX dX5_move_25 rfl 2 rfl ?_
      refine g_callVi hX (as := [.int (nI q)]) (fun l => c_X0_treeAt l (I := I) (g := nw) (T := T) (S := S) (F := F) (W := W) (f := f) (x := (nI q)) (hg := hnw) (hG := (by first | assumption | omega)) (hW := (by first | assumption | omega))) mX0_treeAt vX0_treeAt lX5_164 (xG_n (j := 0) hnw (by decide)) (xG_K0 hnw) xCl0 rfl rfl dX5_move_26 rfl (by decide) (Nat.le_of_ble_eq_true rfl) (by decide) (by decide) ?_
      refine g_top (y := (-1000000)) (by rw [hu]; rfl) ?_
      refine g_ldc (v := -1000000) hX cX5_167 dX5_move_29 ?_
      refine g_ci_eq (a := (-1000000 : Int)) (b := (-1000000 : Int)) (tgt := 37) hX dX5_move_31 (by decide) (by decide) (by decide) (fun _ => ?_) (fun q => absurd q (by decide))
      refine g_aload_n hX dX5_move_37 rfl 0 rfl ?_
      refine g_callVrv hX (as := []) (fun l => c_X5_keepDay l (I := I) (n := n) (D := D) (hnw := (by first | assumption | omega)) (hn := (by first | assumption | omega)) (hn24 := (by first | assumption | omega)) (hk := (by first | assumption | omega)) (hD := (by first | assumption | omega)) (hbz := (by first | assumption | omega)) (hns := hns)) mX5_keepDay vX5_keepDay lX5_143 (by decide) (by decide) xCl5 rfl rfl dX5_move_38 rfl (by decide) (Nat.le_of_ble_eq_true rfl) (by decide) (by decide) (fun K hK => ?_)
      have hGK : GX K nw f T S F W := keepP.gx hK hns hG
      refine g_aload_n hX dX5_move_41 rfl 0 rfl ?_
      refine g_getR (j := nw) hX (by decide) (by decide) xCl5 4 (by decide) (by decide) kX5_39 dX5_move_42 rfl ?_
      refine g_getR (j := nw + 3) hX (xG_n (j := 0) hnw (by decide)) (xG_K0 hnw) xCl0 5 (by decide) (by decide) kX5_168 dX5_move_45 (xRL_g5 hnw) ?_
      refine g_iload_n hX dX5_move_48 rfl 1 rfl ?_
      refine g_iald (v := f (26 + 5 * t + 1)) hX (xG_n (j := 3) hnw (by decide)) (xG_K3 hnw) t rfl (by rw [(xG_N3 hnw)]; omega) dX5_move_49 (hGK.k1 (by omega)) ?_
      refine g_istore_n (L' := [(0, .ref 0), (1, .int (nI t)), (2, .int (nI q)), (3, .int (f (26 + 5 * t + 1)))]) hX dX5_move_50 rfl (by decide) rfl ?_
      refine g_aload_n hX dX5_move_51 rfl 0 rfl ?_
      refine g_getR (j := nw) hX (by decide) (by decide) xCl5 4 (by decide) (by decide) kX5_39 dX5_move_52 rfl ?_
      refine g_getR (j := nw + 3) hX (xG_n (j := 0) hnw (by decide)) (xG_K0 hnw) xCl0 5 (by decide) (by decide) kX5_168 dX5_move_55 (xRL_g5 hnw) ?_
      refine g_iload_n hX dX5_move_58 rfl 1 rfl ?_
      refine g_iload_n hX dX5_move_59 rfl 2 rfl ?_
      refine g_iast hX (xG_n (j := 3) hnw (by decide)) (xG_K3 hnw) t rfl (by rw [(xG_N3 hnw)]; omega) dX5_move_60 ?_
      refine g_iload_n hX dX5_move_61 rfl 3 rfl ?_
      exact g_iret hX hR dX5_move_62 (by decide) (by decide) ⟨_, rfl, rfl, ⟨rfl, K, hK, rfl⟩, rfl⟩
    · exfalso; omega

theorem c_X5_level_none (l : Launch) {nw sp : Nat} {I : xM} {x y : Int32} (hst : I 0 6 = nI 0) : xC l 1 0 0 yX5_level cX5_level 5 (some .int) 319 [.ref 0, .int x, .int y] I (xRL nw sp) (xpI (-1000002) 319 I (xRL nw sp)) := by
  refine xC_of (by decide) (Nat.le_of_ble_eq_true rfl) (fun X hXl hX hR => ?_)
  have hX : xOK X RX5 cX5_level 5 1 0 0 := hX
  show G X 319 0 0 I (xRL nw sp) 0 [(0, .ref 0), (1, .int x), (2, .int y)] []
  refine g_aload_n hX dX5_level_0 rfl 0 rfl ?_
  refine g_getI (v := nI 0) hX (by decide) (by decide) xCl5 6 (by decide) (by decide) kX5_46 dX5_level_1 hst ?_
  refine g_cz_ne (a := (0 : Int)) (tgt := 10) hX dX5_level_4 (by decide) (by decide) (fun q => absurd q (by decide)) (fun _ => ?_)
  refine g_ldc (v := -1000002) hX cX5_139 dX5_level_7 ?_
  exact g_iret hX hR dX5_level_9 (by decide) (by decide) ⟨congrArg (fun z => some (Value.int z)) rfl, rfl, rfl, rfl⟩

theorem c_X5_level_bad (l : Launch) {nw sp : Nat} {I : xM} {x y : Int32} (hst : I 0 6 = nI 1) (hb : ¬ (0 ≤ x.toInt ∧ x.toInt ≤ 7)) : xC l 2 0 0 yX5_level cX5_level 5 (some .int) 319 [.ref 0, .int x, .int y] I (xRL nw sp) (xpI (-1000001) 319 I (xRL nw sp)) := by
  refine xC_of (by decide) (Nat.le_of_ble_eq_true rfl) (fun X hXl hX hR => ?_)
  have hX : xOK X RX5 cX5_level 5 2 0 0 := hX
  show G X 319 0 0 I (xRL nw sp) 0 [(0, .ref 0), (1, .int x), (2, .int y)] []
  refine g_aload_n hX dX5_level_0 rfl 0 rfl ?_
  refine g_getI (v := nI 1) hX (by decide) (by decide) xCl5 6 (by decide) (by decide) kX5_46 dX5_level_1 hst ?_
  refine g_cz_ne (a := (1 : Int)) (tgt := 10) hX dX5_level_4 (by decide) (by decide) (fun _ => ?_) (fun q => absurd q (by decide))
  refine g_iload_n hX dX5_level_10 rfl 1 rfl ?_
  refine g_callSi hX (as := [.int x]) (fun l => c_X5_isRow l (I := I) (x := x) ) mX5_isRow sX5_isRow lX5_75 rfl dX5_level_11 rfl (by decide) (Nat.le_of_ble_eq_true rfl) (by decide) (by decide) ?_
  refine g_cb_ne (tgt := 20) hX dX5_level_14 (by decide) (fun h14 => ?_) (fun h14 => ?_)
  · exfalso; omega
  · refine g_ldc (v := -1000001) hX cX5_79 dX5_level_17 ?_
    exact g_iret hX hR dX5_level_19 (by decide) (by decide) ⟨congrArg (fun z => some (Value.int z)) rfl, rfl, rfl, rfl⟩

theorem c_X5_level_null (l : Launch) {nw sp : Nat} {I : xM} {r : Nat} {y : Int32} (hst : I 0 6 = nI 1) (hr : r < 8) (ht : I (31 + 2 * r) 0 = nI 0) : xC l 2 0 0 yX5_level cX5_level 5 (some .int) 319 [.ref 0, .int (nI r), .int y] I (xRL nw sp) (xpI (-1000011) 319 (xput I 0 13 (nI 1)) (xRL nw sp)) := by
  refine xC_of (by decide) (Nat.le_of_ble_eq_true rfl) (fun X hXl hX hR => ?_)
  have hX : xOK X RX5 cX5_level 5 2 0 0 := hX
  show G X 319 0 0 I (xRL nw sp) 0 [(0, .ref 0), (1, .int (nI r)), (2, .int y)] []
  refine g_aload_n hX dX5_level_0 rfl 0 rfl ?_
  refine g_getI (v := nI 1) hX (by decide) (by decide) xCl5 6 (by decide) (by decide) kX5_46 dX5_level_1 hst ?_
  refine g_cz_ne (a := (1 : Int)) (tgt := 10) hX dX5_level_4 (by decide) (by decide) (fun _ => ?_) (fun q => absurd q (by decide))
  refine g_iload_n hX dX5_level_10 rfl 1 rfl ?_
  refine g_callSi hX (as := [.int (nI r)]) (fun l => c_X5_isRow l (I := I) (x := (nI r)) ) mX5_isRow sX5_isRow lX5_75 rfl dX5_level_11 rfl (by decide) (Nat.le_of_ble_eq_true rfl) (by decide) (by decide) ?_
  refine g_top (y := xb ((0 : Int) ≤ ((r : Nat) : Int) ∧ ((r : Nat) : Int) ≤ (7 : Int))) (by rw [nI_toInt (n := r) (by omega)]) ?_
  refine g_cb_ne (tgt := 20) hX dX5_level_14 (by decide) (fun h14 => ?_) (fun h14 => ?_)
  · refine g_aload_n hX dX5_level_20 rfl 0 rfl ?_
    refine g_getR (j := 1) hX (by decide) (by decide) xCl5 0 (by decide) (by decide) kX5_11 dX5_level_21 rfl ?_
    refine g_iload_n hX dX5_level_24 rfl 1 rfl ?_
    refine g_aald (j := 31 + 2 * r) hX (by decide) (by decide) (Or.inr rfl) r rfl (by rw [(show xN 1 = 8 by decide)]; omega) dX5_level_25 (xRL_rows hr) ?_
    refine g_astore_n (L' := [(0, .ref 0), (1, .int (nI r)), (2, .int y), (3, .ref (31 + 2 * r))]) hX dX5_level_26 rfl (by decide) rfl ?_
    refine g_aload_n hX dX5_level_27 rfl 3 rfl ?_
    refine g_getI (v := nI 0) hX (by omega) (xW_K0 hr) xCl2 0 (by decide) (by decide) kX5_91 dX5_level_28 ht ?_
    refine g_cz_ne (a := (0 : Int)) (tgt := 40) hX dX5_level_31 (by decide) (by decide) (fun q => absurd q (by decide)) (fun _ => ?_)
    refine g_aload_n hX dX5_level_34 rfl 0 rfl ?_
    refine g_iconst (v := nI 1) hX dX5_level_35 (by decide) ?_
    refine g_callVi hX (as := [.int (nI 1)]) (fun l => c_X5_found l (I := I) (x := (nI 1)) ) mX5_found vX5_found lX5_80 (by decide) (by decide) xCl5 rfl rfl dX5_level_36 rfl (by decide) (Nat.le_of_ble_eq_true rfl) (by decide) (by decide) ?_
    exact g_iret hX hR dX5_level_39 (by decide) (by decide) ⟨congrArg (fun z => some (Value.int z)) rfl, rfl, rfl, rfl⟩
  · exfalso; omega

theorem c_X5_level_place (l : Launch) {nw sp : Nat} {I : xM} {r m : Nat} {y : Int32} (hst : I 0 6 = nI 1) (hr : r < 8) (ht : I (31 + 2 * r) 0 = nI 1) (hm : I (31 + 2 * r) 2 = nI m) (hm4 : m ≤ 40) (hp : ¬ (0 ≤ y.toInt ∧ y.toInt + 20 ≤ m)) : xC l 2 0 0 yX5_level cX5_level 5 (some .int) 319 [.ref 0, .int (nI r), .int y] I (xRL nw sp) (xpI (-1000012) 319 (xput I 0 13 (nI 2)) (xRL nw sp)) := by
  refine xC_of (by decide) (Nat.le_of_ble_eq_true rfl) (fun X hXl hX hR => ?_)
  have hX : xOK X RX5 cX5_level 5 2 0 0 := hX
  show G X 319 0 0 I (xRL nw sp) 0 [(0, .ref 0), (1, .int (nI r)), (2, .int y)] []
  refine g_aload_n hX dX5_level_0 rfl 0 rfl ?_
  refine g_getI (v := nI 1) hX (by decide) (by decide) xCl5 6 (by decide) (by decide) kX5_46 dX5_level_1 hst ?_
  refine g_cz_ne (a := (1 : Int)) (tgt := 10) hX dX5_level_4 (by decide) (by decide) (fun _ => ?_) (fun q => absurd q (by decide))
  refine g_iload_n hX dX5_level_10 rfl 1 rfl ?_
  refine g_callSi hX (as := [.int (nI r)]) (fun l => c_X5_isRow l (I := I) (x := (nI r)) ) mX5_isRow sX5_isRow lX5_75 rfl dX5_level_11 rfl (by decide) (Nat.le_of_ble_eq_true rfl) (by decide) (by decide) ?_
  refine g_top (y := xb ((0 : Int) ≤ ((r : Nat) : Int) ∧ ((r : Nat) : Int) ≤ (7 : Int))) (by rw [nI_toInt (n := r) (by omega)]) ?_
  refine g_cb_ne (tgt := 20) hX dX5_level_14 (by decide) (fun h14 => ?_) (fun h14 => ?_)
  · refine g_aload_n hX dX5_level_20 rfl 0 rfl ?_
    refine g_getR (j := 1) hX (by decide) (by decide) xCl5 0 (by decide) (by decide) kX5_11 dX5_level_21 rfl ?_
    refine g_iload_n hX dX5_level_24 rfl 1 rfl ?_
    refine g_aald (j := 31 + 2 * r) hX (by decide) (by decide) (Or.inr rfl) r rfl (by rw [(show xN 1 = 8 by decide)]; omega) dX5_level_25 (xRL_rows hr) ?_
    refine g_astore_n (L' := [(0, .ref 0), (1, .int (nI r)), (2, .int y), (3, .ref (31 + 2 * r))]) hX dX5_level_26 rfl (by decide) rfl ?_
    refine g_aload_n hX dX5_level_27 rfl 3 rfl ?_
    refine g_getI (v := nI 1) hX (by omega) (xW_K0 hr) xCl2 0 (by decide) (by decide) kX5_91 dX5_level_28 ht ?_
    refine g_cz_ne (a := (1 : Int)) (tgt := 40) hX dX5_level_31 (by decide) (by decide) (fun _ => ?_) (fun q => absurd q (by decide))
    refine g_aload_n hX dX5_level_40 rfl 3 rfl ?_
    refine g_iload_n hX dX5_level_41 rfl 2 rfl ?_
    refine g_bipush (v := nI 20) hX dX5_level_42 (by decide) ?_
    refine g_callVi hX (as := [.int y, .int (nI 20)]) (fun l => c_X2_has l (I := I) (r := r) (m := m) (x := y) (y := (nI 20)) (hr := hr) (hm := (by first | assumption | omega)) (hm4 := (by first | assumption | omega))) mX2_has vX2_has lX5_107 (by omega) (xW_K0 hr) xCl2 rfl rfl dX5_level_44 rfl (by decide) (Nat.le_of_ble_eq_true rfl) (by decide) (by decide) ?_
    refine g_top (y := xb (0 ≤ y.toInt ∧ 0 ≤ (20 : Int) ∧ y.toInt + (20 : Int) ≤ m)) (by rw [show (nI 20).toInt = 20 from rfl]) ?_
    refine g_cb_ne (tgt := 56) hX dX5_level_47 (by decide) (fun h47 => ?_) (fun h47 => ?_)
    · exfalso; omega
    · refine g_aload_n hX dX5_level_50 rfl 0 rfl ?_
      refine g_iconst (v := nI 2) hX dX5_level_51 (by decide) ?_
      refine g_callVi hX (as := [.int (nI 2)]) (fun l => c_X5_found l (I := I) (x := (nI 2)) ) mX5_found vX5_found lX5_80 (by decide) (by decide) xCl5 rfl rfl dX5_level_52 rfl (by decide) (Nat.le_of_ble_eq_true rfl) (by decide) (by decide) ?_
      exact g_iret hX hR dX5_level_55 (by decide) (by decide) ⟨congrArg (fun z => some (Value.int z)) rfl, rfl, rfl, rfl⟩
  · exfalso; omega

theorem c_X5_level_val (l : Launch) {nw sp : Nat} {I : xM} {r i m p : Nat} (hst : I 0 6 = nI 1) (hr : r < 8) (ht : I (31 + 2 * r) 0 = nI 1) (hm : I (31 + 2 * r) 2 = nI m) (hm4 : m ≤ 40) (hi : i + 20 ≤ m) (hp : p < 20) (hv : ¬ (0 ≤ (I (32 + 2 * r) (i + p)).toInt ∧ (I (32 + 2 * r) (i + p)).toInt ≤ 60)) : xC l 2 0 0 yX5_level cX5_level 5 (some .int) 319 [.ref 0, .int (nI r), .int (nI i)] I (xRL nw sp) (xpI (-1000001) 319 I (xRL nw sp)) := by
  refine xC_of (by decide) (Nat.le_of_ble_eq_true rfl) (fun X hXl hX hR => ?_)
  have hX : xOK X RX5 cX5_level 5 2 0 0 := hX
  show G X 319 0 0 I (xRL nw sp) 0 [(0, .ref 0), (1, .int (nI r)), (2, .int (nI i))] []
  refine g_aload_n hX dX5_level_0 rfl 0 rfl ?_
  refine g_getI (v := nI 1) hX (by decide) (by decide) xCl5 6 (by decide) (by decide) kX5_46 dX5_level_1 hst ?_
  refine g_cz_ne (a := (1 : Int)) (tgt := 10) hX dX5_level_4 (by decide) (by decide) (fun _ => ?_) (fun q => absurd q (by decide))
  refine g_iload_n hX dX5_level_10 rfl 1 rfl ?_
  refine g_callSi hX (as := [.int (nI r)]) (fun l => c_X5_isRow l (I := I) (x := (nI r)) ) mX5_isRow sX5_isRow lX5_75 rfl dX5_level_11 rfl (by decide) (Nat.le_of_ble_eq_true rfl) (by decide) (by decide) ?_
  refine g_top (y := xb ((0 : Int) ≤ ((r : Nat) : Int) ∧ ((r : Nat) : Int) ≤ (7 : Int))) (by rw [nI_toInt (n := r) (by omega)]) ?_
  refine g_cb_ne (tgt := 20) hX dX5_level_14 (by decide) (fun h14 => ?_) (fun h14 => ?_)
  · refine g_aload_n hX dX5_level_20 rfl 0 rfl ?_
    refine g_getR (j := 1) hX (by decide) (by decide) xCl5 0 (by decide) (by decide) kX5_11 dX5_level_21 rfl ?_
    refine g_iload_n hX dX5_level_24 rfl 1 rfl ?_
    refine g_aald (j := 31 + 2 * r) hX (by decide) (by decide) (Or.inr rfl) r rfl (by rw [(show xN 1 = 8 by decide)]; omega) dX5_level_25 (xRL_rows hr) ?_
    refine g_astore_n (L' := [(0, .ref 0), (1, .int (nI r)), (2, .int (nI i)), (3, .ref (31 + 2 * r))]) hX dX5_level_26 rfl (by decide) rfl ?_
    refine g_aload_n hX dX5_level_27 rfl 3 rfl ?_
    refine g_getI (v := nI 1) hX (by omega) (xW_K0 hr) xCl2 0 (by decide) (by decide) kX5_91 dX5_level_28 ht ?_
    refine g_cz_ne (a := (1 : Int)) (tgt := 40) hX dX5_level_31 (by decide) (by decide) (fun _ => ?_) (fun q => absurd q (by decide))
    refine g_aload_n hX dX5_level_40 rfl 3 rfl ?_
    refine g_iload_n hX dX5_level_41 rfl 2 rfl ?_
    refine g_bipush (v := nI 20) hX dX5_level_42 (by decide) ?_
    refine g_callVi hX (as := [.int (nI i), .int (nI 20)]) (fun l => c_X2_has l (I := I) (r := r) (m := m) (x := (nI i)) (y := (nI 20)) (hr := hr) (hm := (by first | assumption | omega)) (hm4 := (by first | assumption | omega))) mX2_has vX2_has lX5_107 (by omega) (xW_K0 hr) xCl2 rfl rfl dX5_level_44 rfl (by decide) (Nat.le_of_ble_eq_true rfl) (by decide) (by decide) ?_
    refine g_top (y := xb (0 ≤ ((i : Nat) : Int) ∧ 0 ≤ (20 : Int) ∧ ((i : Nat) : Int) + (20 : Int) ≤ m)) (by rw [nI_toInt (n := i) (by omega), show (nI 20).toInt = 20 from rfl]) ?_
    refine g_cb_ne (tgt := 56) hX dX5_level_47 (by decide) (fun h47 => ?_) (fun h47 => ?_)
    · refine g_iconst (v := nI 0) hX dX5_level_56 (by decide) ?_
      refine g_istore (L' := [(0, .ref 0), (1, .int (nI r)), (2, .int (nI i)), (3, .ref (31 + 2 * r)), (4, .int (nI 0))]) hX dX5_level_57 (by decide) rfl ?_
      have cut59 : ∀ (fuel : Nat) (q : Nat) (hq : q ≤ p), 20 - q < fuel → G X 319 0 0 I (xRL nw sp) 59 [(0, .ref 0), (1, .int (nI r)), (2, .int (nI i)), (3, .ref (31 + 2 * r)), (4, .int (nI q))] [] := by
        intro fuel
        induction fuel with
        | zero => intro q hq hfuel; omega
        | succ fuel ih =>
          intro q hq hfuel
          refine g_iload hX dX5_level_59 4 rfl ?_
          refine g_bipush (v := nI 20) hX dX5_level_61 (by decide) ?_
          refine g_ci_ge (a := ((q : Nat) : Int)) (b := (20 : Int)) (tgt := 101) hX dX5_level_63 (by decide) (nI_toInt (by omega)) (by decide) (fun h63 => ?_) (fun h63 => ?_)
          · exfalso; omega
          · refine g_aload_n hX dX5_level_66 rfl 3 rfl ?_
            refine g_getR (j := 32 + 2 * r) hX (by omega) (xW_K0 hr) xCl2 3 (by decide) (by decide) kX5_97 dX5_level_67 (xRL_w hr) ?_
            refine g_iload_n hX dX5_level_70 rfl 2 rfl ?_
            refine g_iload hX dX5_level_71 4 rfl ?_
            refine g_iadd (v := nI (i + q)) hX dX5_level_73 (nI_add i q) ?_
            refine g_iald (v := I (32 + 2 * r) (i + q)) hX (by omega) (xW_K1 hr) (i + q) rfl (by rw [(xW_N1 hr)]; omega) dX5_level_74 rfl ?_
            refine g_cz_lt (a := (I (32 + 2 * r) (i + q)).toInt) (tgt := 92) hX dX5_level_75 (by decide) rfl (fun h75 => ?_) (fun h75 => ?_)
            · refine g_ldc (v := -1000001) hX cX5_79 dX5_level_92 ?_
              exact g_iret hX hR dX5_level_94 (by decide) (by decide) ⟨congrArg (fun z => some (Value.int z)) rfl, rfl, rfl, rfl⟩
            · refine g_aload_n hX dX5_level_78 rfl 3 rfl ?_
              refine g_getR (j := 32 + 2 * r) hX (by omega) (xW_K0 hr) xCl2 3 (by decide) (by decide) kX5_97 dX5_level_79 (xRL_w hr) ?_
              refine g_iload_n hX dX5_level_82 rfl 2 rfl ?_
              refine g_iload hX dX5_level_83 4 rfl ?_
              refine g_iadd (v := nI (i + q)) hX dX5_level_85 (nI_add i q) ?_
              refine g_iald (v := I (32 + 2 * r) (i + q)) hX (by omega) (xW_K1 hr) (i + q) rfl (by rw [(xW_N1 hr)]; omega) dX5_level_86 rfl ?_
              refine g_bipush (v := nI 60) hX dX5_level_87 (by decide) ?_
              refine g_ci_le (a := (I (32 + 2 * r) (i + q)).toInt) (b := (60 : Int)) (tgt := 95) hX dX5_level_89 (by decide) rfl (by decide) (fun h89 => ?_) (fun h89 => ?_)
              · refine g_iinc (v := nI (q + 1)) (L' := [(0, .ref 0), (1, .int (nI r)), (2, .int (nI i)), (3, .ref (31 + 2 * r)), (4, .int (nI (q + 1)))]) hX dX5_level_95 (by decide) 4 rfl (nI_add q 1) rfl ?_
                refine g_goto (tgt := 59) hX dX5_level_98 (by decide) ?_
                exact ih (q + 1) (Nat.lt_of_le_of_ne hq (fun e => by subst e; exact hv ⟨h75, h89⟩)) (by omega)
              · refine g_ldc (v := -1000001) hX cX5_79 dX5_level_92 ?_
                exact g_iret hX hR dX5_level_94 (by decide) (by decide) ⟨congrArg (fun z => some (Value.int z)) rfl, rfl, rfl, rfl⟩
      exact cut59 _ 0 (by first | assumption | omega) (Nat.lt_succ_self _)
    · exfalso; omega
  · exfalso; omega

theorem c_X5_level_ok (l : Launch) {nw sp : Nat} {I : xM} {T S F W : Nat} {f : Nat → Int32} {r i m n D : Nat} (hst : I 0 6 = nI 1) (hr : r < 8) (ht : I (31 + 2 * r) 0 = nI 1) (hm : I (31 + 2 * r) 2 = nI m) (hm4 : m ≤ 40) (hi : i + 20 ≤ m) (hnw : xG nw) (hG : GX I nw f T S F W) (hW : WF f T S F W) (hn : I 0 8 = nI n) (hn24 : n < 24) (hk : I 0 9 = nI D) (hD : D ≤ 24) (hbz : BZ I nw) (hns : nw = 8 ∨ nw = 18) (hv : ∀ p, p < 20 → 0 ≤ (I (32 + 2 * r) (i + p)).toInt ∧ (I (32 + 2 * r) (i + p)).toInt ≤ 60) : xC l 3 0 0 yX5_level cX5_level 5 (some .int) 319 [.ref 0, .int (nI r), .int (nI i)] I (xRL nw sp) (xpR 319 (xRL nw sp) (fun x J => x = nI 1 ∧ ∃ K, keepP I K n D nw ∧ J = xput (xrow K (nw + 1) (va_cpy (K (32 + 2 * r)) (K (nw + 1)) i 0 20)) 0 13 (nI 0))) := by
  refine xC_of (by decide) (Nat.le_of_ble_eq_true rfl) (fun X hXl hX hR => ?_)
  have hX : xOK X RX5 cX5_level 5 3 0 0 := hX
  show G X 319 0 0 I (xRL nw sp) 0 [(0, .ref 0), (1, .int (nI r)), (2, .int (nI i))] []
  have hg8 := xG_8 hnw
  have hT6 := hW.T6
  have hS6 := hW.S6
  refine g_aload_n hX dX5_level_0 rfl 0 rfl ?_
  refine g_getI (v := nI 1) hX (by decide) (by decide) xCl5 6 (by decide) (by decide) kX5_46 dX5_level_1 hst ?_
  refine g_cz_ne (a := (1 : Int)) (tgt := 10) hX dX5_level_4 (by decide) (by decide) (fun _ => ?_) (fun q => absurd q (by decide))
  refine g_iload_n hX dX5_level_10 rfl 1 rfl ?_
  refine g_callSi hX (as := [.int (nI r)]) (fun l => c_X5_isRow l (I := I) (x := (nI r)) ) mX5_isRow sX5_isRow lX5_75 rfl dX5_level_11 rfl (by decide) (Nat.le_of_ble_eq_true rfl) (by decide) (by decide) ?_
  refine g_top (y := xb ((0 : Int) ≤ ((r : Nat) : Int) ∧ ((r : Nat) : Int) ≤ (7 : Int))) (by rw [nI_toInt (n := r) (by omega)]) ?_
  refine g_cb_ne (tgt := 20) hX dX5_level_14 (by decide) (fun h14 => ?_) (fun h14 => ?_)
  · refine g_aload_n hX dX5_level_20 rfl 0 rfl ?_
    refine g_getR (j := 1) hX (by decide) (by decide) xCl5 0 (by decide) (by decide) kX5_11 dX5_level_21 rfl ?_
    refine g_iload_n hX dX5_level_24 rfl 1 rfl ?_
    refine g_aald (j := 31 + 2 * r) hX (by decide) (by decide) (Or.inr rfl) r rfl (by rw [(show xN 1 = 8 by decide)]; omega) dX5_level_25 (xRL_rows hr) ?_
    refine g_astore_n (L' := [(0, .ref 0), (1, .int (nI r)), (2, .int (nI i)), (3, .ref (31 + 2 * r))]) hX dX5_level_26 rfl (by decide) rfl ?_
    refine g_aload_n hX dX5_level_27 rfl 3 rfl ?_
    refine g_getI (v := nI 1) hX (by omega) (xW_K0 hr) xCl2 0 (by decide) (by decide) kX5_91 dX5_level_28 ht ?_
    refine g_cz_ne (a := (1 : Int)) (tgt := 40) hX dX5_level_31 (by decide) (by decide) (fun _ => ?_) (fun q => absurd q (by decide))
    refine g_aload_n hX dX5_level_40 rfl 3 rfl ?_
    refine g_iload_n hX dX5_level_41 rfl 2 rfl ?_
    refine g_bipush (v := nI 20) hX dX5_level_42 (by decide) ?_
    refine g_callVi hX (as := [.int (nI i), .int (nI 20)]) (fun l => c_X2_has l (I := I) (r := r) (m := m) (x := (nI i)) (y := (nI 20)) (hr := hr) (hm := (by first | assumption | omega)) (hm4 := (by first | assumption | omega))) mX2_has vX2_has lX5_107 (by omega) (xW_K0 hr) xCl2 rfl rfl dX5_level_44 rfl (by decide) (Nat.le_of_ble_eq_true rfl) (by decide) (by decide) ?_
    refine g_top (y := xb (0 ≤ ((i : Nat) : Int) ∧ 0 ≤ (20 : Int) ∧ ((i : Nat) : Int) + (20 : Int) ≤ m)) (by rw [nI_toInt (n := i) (by omega), show (nI 20).toInt = 20 from rfl]) ?_
    refine g_cb_ne (tgt := 56) hX dX5_level_47 (by decide) (fun h47 => ?_) (fun h47 => ?_)
    · refine g_iconst (v := nI 0) hX dX5_level_56 (by decide) ?_
      refine g_istore (L' := [(0, .ref 0), (1, .int (nI r)), (2, .int (nI i)), (3, .ref (31 + 2 * r)), (4, .int (nI 0))]) hX dX5_level_57 (by decide) rfl ?_
      have cut59 : ∀ (fuel : Nat) (q : Nat) (hq : q ≤ 20), 20 - q < fuel → G X 319 0 0 I (xRL nw sp) 59 [(0, .ref 0), (1, .int (nI r)), (2, .int (nI i)), (3, .ref (31 + 2 * r)), (4, .int (nI q))] [] := by
        intro fuel
        induction fuel with
        | zero => intro q hq hfuel; omega
        | succ fuel ih =>
          intro q hq hfuel
          refine g_iload hX dX5_level_59 4 rfl ?_
          refine g_bipush (v := nI 20) hX dX5_level_61 (by decide) ?_
          refine g_ci_ge (a := ((q : Nat) : Int)) (b := (20 : Int)) (tgt := 101) hX dX5_level_63 (by decide) (nI_toInt (by omega)) (by decide) (fun h63 => ?_) (fun h63 => ?_)
          · refine g_aload_n hX dX5_level_101 rfl 0 rfl ?_
            refine g_callVrv hX (as := []) (fun l => c_X5_keepDay l (I := I) (n := n) (D := D) (hnw := (by first | assumption | omega)) (hn := (by first | assumption | omega)) (hn24 := (by first | assumption | omega)) (hk := (by first | assumption | omega)) (hD := (by first | assumption | omega)) (hbz := (by first | assumption | omega)) (hns := hns)) mX5_keepDay vX5_keepDay lX5_143 (by decide) (by decide) xCl5 rfl rfl dX5_level_102 rfl (by decide) (Nat.le_of_ble_eq_true rfl) (by decide) (by decide) (fun K hK => ?_)
            have hGK : GX K nw f T S F W := keepP.gx hK hns hG
            refine g_aload_n hX dX5_level_105 rfl 3 rfl ?_
            refine g_getR (j := 32 + 2 * r) hX (by omega) (xW_K0 hr) xCl2 3 (by decide) (by decide) kX5_97 dX5_level_106 (xRL_w hr) ?_
            refine g_iload_n hX dX5_level_109 rfl 2 rfl ?_
            refine g_aload_n hX dX5_level_110 rfl 0 rfl ?_
            refine g_getR (j := nw) hX (by decide) (by decide) xCl5 4 (by decide) (by decide) kX5_39 dX5_level_111 rfl ?_
            refine g_getR (j := nw + 1) hX (xG_n (j := 0) hnw (by decide)) (xG_K0 hnw) xCl0 0 (by decide) (by decide) kX5_171 dX5_level_114 (xRL_g0 hnw) ?_
            refine g_iconst (v := nI 0) hX dX5_level_117 (by decide) ?_
            refine g_bipush (v := nI 20) hX dX5_level_118 (by decide) ?_
            refine g_copy hX jcX5_111 jc_n jc_s jc_i (by omega) (xG_n (j := 1) hnw (by decide)) (xW_K1 hr) (xG_K1 hnw) (Or.inl rfl) i 0 20 rfl rfl rfl (by rw [(xW_N1 hr)]; omega) (by rw [(xG_N1 hnw)]; omega) (fun q => absurd q (by decide)) (by decide) (Nat.le_of_ble_eq_true rfl) dX5_level_120 ?_
            refine g_aload_n hX dX5_level_123 rfl 0 rfl ?_
            refine g_iconst (v := nI 1) hX dX5_level_124 (by decide) ?_
            refine g_callVi hX (as := [.int (nI 1)]) (fun l => c_X5_unfound l (I := (xrow K (nw + 1) (va_cpy (K (32 + 2 * r)) (K (nw + 1)) i 0 20))) (x := (nI 1)) ) mX5_unfound vX5_unfound lX5_88 (by decide) (by decide) xCl5 rfl rfl dX5_level_125 rfl (by decide) (Nat.le_of_ble_eq_true rfl) (by decide) (by decide) ?_
            exact g_iret hX hR dX5_level_128 (by decide) (by decide) ⟨_, rfl, rfl, ⟨rfl, K, hK, rfl⟩, rfl⟩
          · refine g_aload_n hX dX5_level_66 rfl 3 rfl ?_
            refine g_getR (j := 32 + 2 * r) hX (by omega) (xW_K0 hr) xCl2 3 (by decide) (by decide) kX5_97 dX5_level_67 (xRL_w hr) ?_
            refine g_iload_n hX dX5_level_70 rfl 2 rfl ?_
            refine g_iload hX dX5_level_71 4 rfl ?_
            refine g_iadd (v := nI (i + q)) hX dX5_level_73 (nI_add i q) ?_
            refine g_iald (v := I (32 + 2 * r) (i + q)) hX (by omega) (xW_K1 hr) (i + q) rfl (by rw [(xW_N1 hr)]; omega) dX5_level_74 rfl ?_
            refine g_cz_lt (a := (I (32 + 2 * r) (i + q)).toInt) (tgt := 92) hX dX5_level_75 (by decide) rfl (fun h75 => ?_) (fun h75 => ?_)
            · exact absurd (hv q (by omega)).1 (Int.not_le.mpr h75)
            · refine g_aload_n hX dX5_level_78 rfl 3 rfl ?_
              refine g_getR (j := 32 + 2 * r) hX (by omega) (xW_K0 hr) xCl2 3 (by decide) (by decide) kX5_97 dX5_level_79 (xRL_w hr) ?_
              refine g_iload_n hX dX5_level_82 rfl 2 rfl ?_
              refine g_iload hX dX5_level_83 4 rfl ?_
              refine g_iadd (v := nI (i + q)) hX dX5_level_85 (nI_add i q) ?_
              refine g_iald (v := I (32 + 2 * r) (i + q)) hX (by omega) (xW_K1 hr) (i + q) rfl (by rw [(xW_N1 hr)]; omega) dX5_level_86 rfl ?_
              refine g_bipush (v := nI 60) hX dX5_level_87 (by decide) ?_
              refine g_ci_le (a := (I (32 + 2 * r) (i + q)).toInt) (b := (60 : Int)) (tgt := 95) hX dX5_level_89 (by decide) rfl (by decide) (fun h89 => ?_) (fun h89 => ?_)
              · refine g_iinc (v := nI (q + 1)) (L' := [(0, .ref 0), (1, .int (nI r)), (2, .int (nI i)), (3, .ref (31 + 2 * r)), (4, .int (nI (q + 1)))]) hX dX5_level_95 (by decide) 4 rfl (nI_add q 1) rfl ?_
                refine g_goto (tgt := 59) hX dX5_level_98 (by decide) ?_
                exact ih (q + 1) (by first | assumption | omega) (by omega)
              · exact absurd (hv q (by omega)).2 (Int.not_le.mpr h89)
      exact cut59 _ 0 (by first | assumption | omega) (Nat.lt_succ_self _)
    · exfalso; omega
  · exfalso; omega

theorem c_X5_undo_none (l : Launch) {nw sp : Nat} {I : xM}  (hk : I 0 9 = nI 0) : xC l 1 0 0 yX5_undo cX5_undo 1 (some .int) 319 [.ref 0] I (xRL nw sp) (xpI (-1000002) 319 I (xRL nw sp)) := by
  refine xC_of (by decide) (Nat.le_of_ble_eq_true rfl) (fun X hXl hX hR => ?_)
  have hX : xOK X RX5 cX5_undo 1 1 0 0 := hX
  show G X 319 0 0 I (xRL nw sp) 0 [(0, .ref 0)] []
  refine g_aload_n hX dX5_undo_0 rfl 0 rfl ?_
  refine g_getI (v := nI 0) hX (by decide) (by decide) xCl5 9 (by decide) (by decide) kX5_58 dX5_undo_1 hk ?_
  refine g_cz_ne (a := (0 : Int)) (tgt := 10) hX dX5_undo_4 (by decide) (by decide) (fun q => absurd q (by decide)) (fun _ => ?_)
  refine g_ldc (v := -1000002) hX cX5_139 dX5_undo_7 ?_
  exact g_iret hX hR dX5_undo_9 (by decide) (by decide) ⟨congrArg (fun z => some (Value.int z)) rfl, rfl, rfl, rfl⟩

theorem c_X5_undo_z (l : Launch) {nw sp : Nat} {I : xM} {D : Nat} (hnw : xG nw) (hns : nw = 8 ∨ nw = 18) (hk : I 0 9 = nI (D + 1)) (hD : D < 24) (hn : I 0 8 = nI (0)) (hn24 : 0 < 24) (hbz : BZ I (47 + 10 * 23)) : xC l 2 0 0 yX5_undo cX5_undo 1 (some .int) 319 [.ref 0] I (xRL nw sp) (xpR 319 (xRL nw sp) (fun r K => r = nI D ∧ ∃ J, gcopy (xput I 0 8 (nI 23)) J nw (47 + 10 * 23) ∧ K = xput J 0 9 (nI D))) := by
  refine xC_of (by decide) (Nat.le_of_ble_eq_true rfl) (fun X hXl hX hR => ?_)
  have hX : xOK X RX5 cX5_undo 1 2 0 0 := hX
  show G X 319 0 0 I (xRL nw sp) 0 [(0, .ref 0)] []
  refine g_aload_n hX dX5_undo_0 rfl 0 rfl ?_
  refine g_getI (v := nI (D + 1)) hX (by decide) (by decide) xCl5 9 (by decide) (by decide) kX5_58 dX5_undo_1 hk ?_
  refine g_cz_ne (a := ((D + 1 : Nat) : Int)) (tgt := 10) hX dX5_undo_4 (by decide) (nI_toInt (by omega)) (fun h4 => ?_) (fun h4 => ?_)
  · refine g_aload_n hX dX5_undo_10 rfl 0 rfl ?_
    refine g_aload_n hX dX5_undo_11 rfl 0 rfl ?_
    refine g_getI (v := nI 0) hX (by decide) (by decide) xCl5 8 (by decide) (by decide) kX5_54 dX5_undo_12 hn ?_
    refine g_cz_ne (a := (0 : Int)) (tgt := 23) hX dX5_undo_15 (by decide) (by decide) (fun q => absurd q (by decide)) (fun _ => ?_)
    refine g_bipush (v := nI 23) hX dX5_undo_18 (by decide) ?_
    refine g_goto (tgt := 29) hX dX5_undo_20 (by decide) ?_
    refine g_putI hX (by decide) (by decide) xCl5 8 (by decide) (by decide) (by decide) kX5_54 dX5_undo_29 rfl rfl ?_
    refine g_aload_n hX dX5_undo_32 rfl 0 rfl ?_
    refine g_getR (j := nw) hX (by decide) (by decide) xCl5 4 (by decide) (by decide) kX5_39 dX5_undo_33 rfl ?_
    refine g_aload_n hX dX5_undo_36 rfl 0 rfl ?_
    refine g_getR (j := 28) hX (by decide) (by decide) xCl5 7 (by decide) (by decide) kX5_50 dX5_undo_37 rfl ?_
    refine g_aload_n hX dX5_undo_40 rfl 0 rfl ?_
    refine g_getI (v := nI 23) hX (by decide) (by decide) xCl5 8 (by decide) (by decide) kX5_54 dX5_undo_41 xput_e ?_
    refine g_aald (j := (47 + 10 * 23)) hX (by decide) (by decide) (Or.inl rfl) 23 rfl (by rw [(show xN 28 = 24 by decide)]; decide) dX5_undo_44 (xRL_days (by omega)) ?_
    refine g_callVrv hX (as := [.ref (47 + 10 * 23)]) (fun l => c_X0_becomes l (I := (xput I 0 8 (nI 23))) (g := nw) (h := (47 + 10 * 23)) (hg := hnw) (hh := (xG_day (by omega))) (hd := (by first | assumption | omega)) (hbz := (hbz.ext (fun i h1 h2 => xput_ne (by omega))))) mX0_becomes vX0_becomes lX5_174 (xG_n (j := 0) hnw (by decide)) (xG_K0 hnw) xCl0 rfl rfl dX5_undo_45 rfl (by decide) (Nat.le_of_ble_eq_true rfl) (by decide) (by decide) (fun J hJ => ?_)
    have hk2 : J 0 9 = nI (D + 1) := by rw [hJ.out (by omega)]; exact xput_i (by decide) hk
    refine g_aload_n hX dX5_undo_48 rfl 0 rfl ?_
    refine g_dup hX rfl dX5_undo_49 ?_
    refine g_getI (v := nI (D + 1)) hX (by decide) (by decide) xCl5 9 (by decide) (by decide) kX5_58 dX5_undo_50 hk2 ?_
    refine g_iconst (v := nI 1) hX dX5_undo_53 (by decide) ?_
    refine g_isub (v := nI D) hX dX5_undo_54 (pk_1 D) ?_
    refine g_putI hX (by decide) (by decide) xCl5 9 (by decide) (by decide) (by decide) kX5_58 dX5_undo_55 rfl rfl ?_
    refine g_aload_n hX dX5_undo_58 rfl 0 rfl ?_
    refine g_getI (v := nI D) hX (by decide) (by decide) xCl5 9 (by decide) (by decide) kX5_58 dX5_undo_59 xput_e ?_
    exact g_iret hX hR dX5_undo_62 (by decide) (by decide) ⟨_, rfl, rfl, ⟨rfl, J, hJ, rfl⟩, rfl⟩
  · exfalso; omega

theorem c_X5_undo_s (l : Launch) {nw sp : Nat} {I : xM} {D m : Nat} (hnw : xG nw) (hns : nw = 8 ∨ nw = 18) (hk : I 0 9 = nI (D + 1)) (hD : D < 24) (hn : I 0 8 = nI (m + 1)) (hn24 : m + 1 < 24) (hbz : BZ I (47 + 10 * m)) : xC l 2 0 0 yX5_undo cX5_undo 1 (some .int) 319 [.ref 0] I (xRL nw sp) (xpR 319 (xRL nw sp) (fun r K => r = nI D ∧ ∃ J, gcopy (xput I 0 8 (nI m)) J nw (47 + 10 * m) ∧ K = xput J 0 9 (nI D))) := by
  refine xC_of (by decide) (Nat.le_of_ble_eq_true rfl) (fun X hXl hX hR => ?_)
  have hX : xOK X RX5 cX5_undo 1 2 0 0 := hX
  show G X 319 0 0 I (xRL nw sp) 0 [(0, .ref 0)] []
  refine g_aload_n hX dX5_undo_0 rfl 0 rfl ?_
  refine g_getI (v := nI (D + 1)) hX (by decide) (by decide) xCl5 9 (by decide) (by decide) kX5_58 dX5_undo_1 hk ?_
  refine g_cz_ne (a := ((D + 1 : Nat) : Int)) (tgt := 10) hX dX5_undo_4 (by decide) (nI_toInt (by omega)) (fun h4 => ?_) (fun h4 => ?_)
  · refine g_aload_n hX dX5_undo_10 rfl 0 rfl ?_
    refine g_aload_n hX dX5_undo_11 rfl 0 rfl ?_
    refine g_getI (v := nI (m + 1)) hX (by decide) (by decide) xCl5 8 (by decide) (by decide) kX5_54 dX5_undo_12 hn ?_
    refine g_cz_ne (a := ((m + 1 : Nat) : Int)) (tgt := 23) hX dX5_undo_15 (by decide) (nI_toInt (by omega)) (fun h15 => ?_) (fun h15 => ?_)
    · refine g_aload_n hX dX5_undo_23 rfl 0 rfl ?_
      refine g_getI (v := nI (m + 1)) hX (by decide) (by decide) xCl5 8 (by decide) (by decide) kX5_54 dX5_undo_24 hn ?_
      refine g_iconst (v := nI 1) hX dX5_undo_27 (by decide) ?_
      refine g_isub (v := nI m) hX dX5_undo_28 (pk_1 m) ?_
      refine g_putI hX (by decide) (by decide) xCl5 8 (by decide) (by decide) (by decide) kX5_54 dX5_undo_29 rfl rfl ?_
      refine g_aload_n hX dX5_undo_32 rfl 0 rfl ?_
      refine g_getR (j := nw) hX (by decide) (by decide) xCl5 4 (by decide) (by decide) kX5_39 dX5_undo_33 rfl ?_
      refine g_aload_n hX dX5_undo_36 rfl 0 rfl ?_
      refine g_getR (j := 28) hX (by decide) (by decide) xCl5 7 (by decide) (by decide) kX5_50 dX5_undo_37 rfl ?_
      refine g_aload_n hX dX5_undo_40 rfl 0 rfl ?_
      refine g_getI (v := nI m) hX (by decide) (by decide) xCl5 8 (by decide) (by decide) kX5_54 dX5_undo_41 xput_e ?_
      refine g_aald (j := (47 + 10 * m)) hX (by decide) (by decide) (Or.inl rfl) m rfl (by rw [(show xN 28 = 24 by decide)]; omega) dX5_undo_44 (xRL_days (by omega)) ?_
      refine g_callVrv hX (as := [.ref (47 + 10 * m)]) (fun l => c_X0_becomes l (I := (xput I 0 8 (nI m))) (g := nw) (h := (47 + 10 * m)) (hg := hnw) (hh := (xG_day (by omega))) (hd := (by first | assumption | omega)) (hbz := (hbz.ext (fun i h1 h2 => xput_ne (by omega))))) mX0_becomes vX0_becomes lX5_174 (xG_n (j := 0) hnw (by decide)) (xG_K0 hnw) xCl0 rfl rfl dX5_undo_45 rfl (by decide) (Nat.le_of_ble_eq_true rfl) (by decide) (by decide) (fun J hJ => ?_)
      have hk2 : J 0 9 = nI (D + 1) := by rw [hJ.out (by omega)]; exact xput_i (by decide) hk
      refine g_aload_n hX dX5_undo_48 rfl 0 rfl ?_
      refine g_dup hX rfl dX5_undo_49 ?_
      refine g_getI (v := nI (D + 1)) hX (by decide) (by decide) xCl5 9 (by decide) (by decide) kX5_58 dX5_undo_50 hk2 ?_
      refine g_iconst (v := nI 1) hX dX5_undo_53 (by decide) ?_
      refine g_isub (v := nI D) hX dX5_undo_54 (pk_1 D) ?_
      refine g_putI hX (by decide) (by decide) xCl5 9 (by decide) (by decide) (by decide) kX5_58 dX5_undo_55 rfl rfl ?_
      refine g_aload_n hX dX5_undo_58 rfl 0 rfl ?_
      refine g_getI (v := nI D) hX (by decide) (by decide) xCl5 9 (by decide) (by decide) kX5_58 dX5_undo_59 xput_e ?_
      exact g_iret hX hR dX5_undo_62 (by decide) (by decide) ⟨_, rfl, rfl, ⟨rfl, J, hJ, rfl⟩, rfl⟩
    · exfalso; omega
  · exfalso; omega

theorem c_X5_tree_bad (l : Launch) {nw sp : Nat} {I : xM} {T S F W : Nat} {f : Nat → Int32} {x y : Int32} (hnw : xG nw) (hG : GX I nw f T S F W) (hW : WF f T S F W) (hb : ¬ (0 ≤ x.toInt ∧ x.toInt < T ∧ 0 ≤ y.toInt ∧ y.toInt ≤ 3)) : xC l 2 0 0 yX5_tree cX5_tree 3 (some .int) 319 [.ref 0, .int x, .int y] I (xRL nw sp) (xpI (-1000001) 319 I (xRL nw sp)) := by
  refine xC_of (by decide) (Nat.le_of_ble_eq_true rfl) (fun X hXl hX hR => ?_)
  have hX : xOK X RX5 cX5_tree 3 2 0 0 := hX
  show G X 319 0 0 I (xRL nw sp) 0 [(0, .ref 0), (1, .int x), (2, .int y)] []
  have hg8 := xG_8 hnw
  have hT6 := hW.T6
  have hS6 := hW.S6
  refine g_aload_n hX dX5_tree_0 rfl 0 rfl ?_
  refine g_getR (j := nw) hX (by decide) (by decide) xCl5 4 (by decide) (by decide) kX5_39 dX5_tree_1 rfl ?_
  refine g_iload_n hX dX5_tree_4 rfl 1 rfl ?_
  refine g_callVi hX (as := [.int x]) (fun l => c_X0_hasTree l (I := I) (g := nw) (T := T) (S := S) (F := F) (W := W) (f := f) (x := x) (hg := hnw) (hG := (by first | assumption | omega)) (hW := (by first | assumption | omega))) mX0_hasTree vX0_hasTree lX5_149 (xG_n (j := 0) hnw (by decide)) (xG_K0 hnw) xCl0 rfl rfl dX5_tree_5 rfl (by decide) (Nat.le_of_ble_eq_true rfl) (by decide) (by decide) ?_
  refine g_cb_ne (tgt := 14) hX dX5_tree_8 (by decide) (fun h8 => ?_) (fun h8 => ?_)
  · refine g_iload_n hX dX5_tree_14 rfl 2 rfl ?_
    rcases (show (y.toInt < 0 ∨ 3 < y.toInt) ∨ y.toInt = 0 ∨ y.toInt = 1 ∨ y.toInt = 2 ∨ y.toInt = 3 by omega) with h15 | h15 | h15 | h15 | h15
    · refine g_tsO (a := y.toInt) (tgt := 83) hX dX5_tree_15 rfl h15 (by decide) ?_
      refine g_ldc (v := -1000001) hX cX5_79 dX5_tree_83 ?_
      exact g_iret hX hR dX5_tree_85 (by decide) (by decide) ⟨congrArg (fun z => some (Value.int z)) rfl, rfl, rfl, rfl⟩
    · exfalso; omega
    · exfalso; omega
    · exfalso; omega
    · exfalso; omega
  · refine g_ldc (v := -1000001) hX cX5_79 dX5_tree_11 ?_
    exact g_iret hX hR dX5_tree_13 (by decide) (by decide) ⟨congrArg (fun z => some (Value.int z)) rfl, rfl, rfl, rfl⟩

theorem c_X5_tree_ok0 (l : Launch) {nw sp : Nat} {I : xM} {T S F W : Nat} {f : Nat → Int32} {t : Nat} (hnw : xG nw) (hG : GX I nw f T S F W) (hW : WF f T S F W) (ht : t < T) : xC l 2 0 0 yX5_tree cX5_tree 3 (some .int) 319 [.ref 0, .int (nI t), .int (nI 0)] I (xRL nw sp) (xpI (f (26 + 5 * t + 1)) 319 I (xRL nw sp)) := by
  refine xC_of (by decide) (Nat.le_of_ble_eq_true rfl) (fun X hXl hX hR => ?_)
  have hX : xOK X RX5 cX5_tree 3 2 0 0 := hX
  show G X 319 0 0 I (xRL nw sp) 0 [(0, .ref 0), (1, .int (nI t)), (2, .int (nI 0))] []
  have hg8 := xG_8 hnw
  have hT6 := hW.T6
  have hS6 := hW.S6
  refine g_aload_n hX dX5_tree_0 rfl 0 rfl ?_
  refine g_getR (j := nw) hX (by decide) (by decide) xCl5 4 (by decide) (by decide) kX5_39 dX5_tree_1 rfl ?_
  refine g_iload_n hX dX5_tree_4 rfl 1 rfl ?_
  refine g_callVi hX (as := [.int (nI t)]) (fun l => c_X0_hasTree l (I := I) (g := nw) (T := T) (S := S) (F := F) (W := W) (f := f) (x := (nI t)) (hg := hnw) (hG := (by first | assumption | omega)) (hW := (by first | assumption | omega))) mX0_hasTree vX0_hasTree lX5_149 (xG_n (j := 0) hnw (by decide)) (xG_K0 hnw) xCl0 rfl rfl dX5_tree_5 rfl (by decide) (Nat.le_of_ble_eq_true rfl) (by decide) (by decide) ?_
  refine g_top (y := xb (0 ≤ ((t : Nat) : Int) ∧ ((t : Nat) : Int) < T)) (by rw [nI_toInt (n := t) (by omega)]) ?_
  refine g_cb_ne (tgt := 14) hX dX5_tree_8 (by decide) (fun h8 => ?_) (fun h8 => ?_)
  · refine g_iload_n hX dX5_tree_14 rfl 2 rfl ?_
    refine g_tsI (a := (0 : Int)) (v := 0) (tgt := 44) hX dX5_tree_15 (by decide) rfl (by decide) (by decide) rfl (by decide) ?_
    refine g_aload_n hX dX5_tree_44 rfl 0 rfl ?_
    refine g_getR (j := nw) hX (by decide) (by decide) xCl5 4 (by decide) (by decide) kX5_39 dX5_tree_45 rfl ?_
    refine g_getR (j := nw + 3) hX (xG_n (j := 0) hnw (by decide)) (xG_K0 hnw) xCl0 5 (by decide) (by decide) kX5_168 dX5_tree_48 (xRL_g5 hnw) ?_
    refine g_iload_n hX dX5_tree_51 rfl 1 rfl ?_
    refine g_iald (v := f (26 + 5 * t + 1)) hX (xG_n (j := 3) hnw (by decide)) (xG_K3 hnw) t rfl (by rw [(xG_N3 hnw)]; omega) dX5_tree_52 (hG.k1 (by omega)) ?_
    exact g_iret hX hR dX5_tree_53 (by decide) (by decide) ⟨congrArg (fun z => some (Value.int z)) rfl, rfl, rfl, rfl⟩
  · exfalso; omega

theorem c_X5_tree_ok1 (l : Launch) {nw sp : Nat} {I : xM} {T S F W : Nat} {f : Nat → Int32} {t : Nat} (hnw : xG nw) (hG : GX I nw f T S F W) (hW : WF f T S F W) (ht : t < T) : xC l 4 0 0 yX5_tree cX5_tree 3 (some .int) 319 [.ref 0, .int (nI t), .int (nI 1)] I (xRL nw sp) (xpI (hgF f (fun _ => 0) t) 319 I (xRL nw sp)) := by
  refine xC_of (by decide) (Nat.le_of_ble_eq_true rfl) (fun X hXl hX hR => ?_)
  have hX : xOK X RX5 cX5_tree 3 4 0 0 := hX
  show G X 319 0 0 I (xRL nw sp) 0 [(0, .ref 0), (1, .int (nI t)), (2, .int (nI 1))] []
  have hg8 := xG_8 hnw
  have hT6 := hW.T6
  have hS6 := hW.S6
  refine g_aload_n hX dX5_tree_0 rfl 0 rfl ?_
  refine g_getR (j := nw) hX (by decide) (by decide) xCl5 4 (by decide) (by decide) kX5_39 dX5_tree_1 rfl ?_
  refine g_iload_n hX dX5_tree_4 rfl 1 rfl ?_
  refine g_callVi hX (as := [.int (nI t)]) (fun l => c_X0_hasTree l (I := I) (g := nw) (T := T) (S := S) (F := F) (W := W) (f := f) (x := (nI t)) (hg := hnw) (hG := (by first | assumption | omega)) (hW := (by first | assumption | omega))) mX0_hasTree vX0_hasTree lX5_149 (xG_n (j := 0) hnw (by decide)) (xG_K0 hnw) xCl0 rfl rfl dX5_tree_5 rfl (by decide) (Nat.le_of_ble_eq_true rfl) (by decide) (by decide) ?_
  refine g_top (y := xb (0 ≤ ((t : Nat) : Int) ∧ ((t : Nat) : Int) < T)) (by rw [nI_toInt (n := t) (by omega)]) ?_
  refine g_cb_ne (tgt := 14) hX dX5_tree_8 (by decide) (fun h8 => ?_) (fun h8 => ?_)
  · refine g_iload_n hX dX5_tree_14 rfl 2 rfl ?_
    refine g_tsI (a := (1 : Int)) (v := 1) (tgt := 54) hX dX5_tree_15 (by decide) rfl (by decide) (by decide) rfl (by decide) ?_
    refine g_aload_n hX dX5_tree_54 rfl 0 rfl ?_
    refine g_getR (j := nw) hX (by decide) (by decide) xCl5 4 (by decide) (by decide) kX5_39 dX5_tree_55 rfl ?_
    refine g_iload_n hX dX5_tree_58 rfl 1 rfl ?_
    refine g_callVi hX (as := [.int (nI t)]) (fun l => c_X0_heightNow l (I := I) (g := nw) (T := T) (S := S) (F := F) (W := W) (f := f) (t := t) (hg := hnw) (hG := (by first | assumption | omega)) (hW := (by first | assumption | omega)) (ht := (by first | assumption | omega))) mX0_heightNow vX0_heightNow lX5_158 (xG_n (j := 0) hnw (by decide)) (xG_K0 hnw) xCl0 rfl rfl dX5_tree_59 rfl (by decide) (Nat.le_of_ble_eq_true rfl) (by decide) (by decide) ?_
    exact g_iret hX hR dX5_tree_62 (by decide) (by decide) ⟨congrArg (fun z => some (Value.int z)) rfl, rfl, rfl, rfl⟩
  · exfalso; omega

theorem c_X5_tree_ok2 (l : Launch) {nw sp : Nat} {I : xM} {T S F W : Nat} {f : Nat → Int32} {t : Nat} (hnw : xG nw) (hG : GX I nw f T S F W) (hW : WF f T S F W) (ht : t < T) : xC l 2 0 0 yX5_tree cX5_tree 3 (some .int) 319 [.ref 0, .int (nI t), .int (nI 2)] I (xRL nw sp) (xpI (f (26 + 5 * t + 4)) 319 I (xRL nw sp)) := by
  refine xC_of (by decide) (Nat.le_of_ble_eq_true rfl) (fun X hXl hX hR => ?_)
  have hX : xOK X RX5 cX5_tree 3 2 0 0 := hX
  show G X 319 0 0 I (xRL nw sp) 0 [(0, .ref 0), (1, .int (nI t)), (2, .int (nI 2))] []
  have hg8 := xG_8 hnw
  have hT6 := hW.T6
  have hS6 := hW.S6
  refine g_aload_n hX dX5_tree_0 rfl 0 rfl ?_
  refine g_getR (j := nw) hX (by decide) (by decide) xCl5 4 (by decide) (by decide) kX5_39 dX5_tree_1 rfl ?_
  refine g_iload_n hX dX5_tree_4 rfl 1 rfl ?_
  refine g_callVi hX (as := [.int (nI t)]) (fun l => c_X0_hasTree l (I := I) (g := nw) (T := T) (S := S) (F := F) (W := W) (f := f) (x := (nI t)) (hg := hnw) (hG := (by first | assumption | omega)) (hW := (by first | assumption | omega))) mX0_hasTree vX0_hasTree lX5_149 (xG_n (j := 0) hnw (by decide)) (xG_K0 hnw) xCl0 rfl rfl dX5_tree_5 rfl (by decide) (Nat.le_of_ble_eq_true rfl) (by decide) (by decide) ?_
  refine g_top (y := xb (0 ≤ ((t : Nat) : Int) ∧ ((t : Nat) : Int) < T)) (by rw [nI_toInt (n := t) (by omega)]) ?_
  refine g_cb_ne (tgt := 14) hX dX5_tree_8 (by decide) (fun h8 => ?_) (fun h8 => ?_)
  · refine g_iload_n hX dX5_tree_14 rfl 2 rfl ?_
    refine g_tsI (a := (2 : Int)) (v := 2) (tgt := 63) hX dX5_tree_15 (by decide) rfl (by decide) (by decide) rfl (by decide) ?_
    refine g_aload_n hX dX5_tree_63 rfl 0 rfl ?_
    refine g_getR (j := nw) hX (by decide) (by decide) xCl5 4 (by decide) (by decide) kX5_39 dX5_tree_64 rfl ?_
    refine g_getR (j := nw + 6) hX (xG_n (j := 0) hnw (by decide)) (xG_K0 hnw) xCl0 8 (by decide) (by decide) kX5_155 dX5_tree_67 (xRL_g8 hnw) ?_
    refine g_iload_n hX dX5_tree_70 rfl 1 rfl ?_
    refine g_iald (v := f (26 + 5 * t + 4)) hX (xG_n (j := 6) hnw (by decide)) (xG_K6 hnw) t rfl (by rw [(xG_N6 hnw)]; omega) dX5_tree_71 (hG.k4 (by omega)) ?_
    exact g_iret hX hR dX5_tree_72 (by decide) (by decide) ⟨congrArg (fun z => some (Value.int z)) rfl, rfl, rfl, rfl⟩
  · exfalso; omega

theorem c_X5_tree_ok3 (l : Launch) {nw sp : Nat} {I : xM} {T S F W : Nat} {f : Nat → Int32} {t : Nat} (hnw : xG nw) (hG : GX I nw f T S F W) (hW : WF f T S F W) (ht : t < T) : xC l 2 0 0 yX5_tree cX5_tree 3 (some .int) 319 [.ref 0, .int (nI t), .int (nI 3)] I (xRL nw sp) (xpI (f (26 + 5 * t + 3)) 319 I (xRL nw sp)) := by
  refine xC_of (by decide) (Nat.le_of_ble_eq_true rfl) (fun X hXl hX hR => ?_)
  have hX : xOK X RX5 cX5_tree 3 2 0 0 := hX
  show G X 319 0 0 I (xRL nw sp) 0 [(0, .ref 0), (1, .int (nI t)), (2, .int (nI 3))] []
  have hg8 := xG_8 hnw
  have hT6 := hW.T6
  have hS6 := hW.S6
  refine g_aload_n hX dX5_tree_0 rfl 0 rfl ?_
  refine g_getR (j := nw) hX (by decide) (by decide) xCl5 4 (by decide) (by decide) kX5_39 dX5_tree_1 rfl ?_
  refine g_iload_n hX dX5_tree_4 rfl 1 rfl ?_
  refine g_callVi hX (as := [.int (nI t)]) (fun l => c_X0_hasTree l (I := I) (g := nw) (T := T) (S := S) (F := F) (W := W) (f := f) (x := (nI t)) (hg := hnw) (hG := (by first | assumption | omega)) (hW := (by first | assumption | omega))) mX0_hasTree vX0_hasTree lX5_149 (xG_n (j := 0) hnw (by decide)) (xG_K0 hnw) xCl0 rfl rfl dX5_tree_5 rfl (by decide) (Nat.le_of_ble_eq_true rfl) (by decide) (by decide) ?_
  refine g_top (y := xb (0 ≤ ((t : Nat) : Int) ∧ ((t : Nat) : Int) < T)) (by rw [nI_toInt (n := t) (by omega)]) ?_
  refine g_cb_ne (tgt := 14) hX dX5_tree_8 (by decide) (fun h8 => ?_) (fun h8 => ?_)
  · refine g_iload_n hX dX5_tree_14 rfl 2 rfl ?_
    refine g_tsI (a := (3 : Int)) (v := 3) (tgt := 73) hX dX5_tree_15 (by decide) rfl (by decide) (by decide) rfl (by decide) ?_
    refine g_aload_n hX dX5_tree_73 rfl 0 rfl ?_
    refine g_getR (j := nw) hX (by decide) (by decide) xCl5 4 (by decide) (by decide) kX5_39 dX5_tree_74 rfl ?_
    refine g_getR (j := nw + 5) hX (xG_n (j := 0) hnw (by decide)) (xG_K0 hnw) xCl0 7 (by decide) (by decide) kX5_178 dX5_tree_77 (xRL_g7 hnw) ?_
    refine g_iload_n hX dX5_tree_80 rfl 1 rfl ?_
    refine g_iald (v := f (26 + 5 * t + 3)) hX (xG_n (j := 5) hnw (by decide)) (xG_K5 hnw) t rfl (by rw [(xG_N5 hnw)]; omega) dX5_tree_81 (hG.k3 (by omega)) ?_
    exact g_iret hX hR dX5_tree_82 (by decide) (by decide) ⟨congrArg (fun z => some (Value.int z)) rfl, rfl, rfl, rfl⟩
  · exfalso; omega

theorem c_X5_site_none (l : Launch) {nw sp : Nat} {I : xM} {x y : Int32} (hst : I 0 6 = nI 0) : xC l 1 0 0 yX5_site cX5_site 3 (some .int) 319 [.ref 0, .int x, .int y] I (xRL nw sp) (xpI (-1000002) 319 I (xRL nw sp)) := by
  refine xC_of (by decide) (Nat.le_of_ble_eq_true rfl) (fun X hXl hX hR => ?_)
  have hX : xOK X RX5 cX5_site 3 1 0 0 := hX
  show G X 319 0 0 I (xRL nw sp) 0 [(0, .ref 0), (1, .int x), (2, .int y)] []
  refine g_aload_n hX dX5_site_0 rfl 0 rfl ?_
  refine g_getI (v := nI 0) hX (by decide) (by decide) xCl5 6 (by decide) (by decide) kX5_46 dX5_site_1 hst ?_
  refine g_cz_ne (a := (0 : Int)) (tgt := 10) hX dX5_site_4 (by decide) (by decide) (fun q => absurd q (by decide)) (fun _ => ?_)
  refine g_ldc (v := -1000002) hX cX5_139 dX5_site_7 ?_
  exact g_iret hX hR dX5_site_9 (by decide) (by decide) ⟨congrArg (fun z => some (Value.int z)) rfl, rfl, rfl, rfl⟩

theorem c_X5_site_bad (l : Launch) {nw sp : Nat} {I : xM} {x y : Int32} (hst : I 0 6 = nI 1) (hb : ¬ (0 ≤ x.toInt ∧ x.toInt ≤ 19 ∧ 0 ≤ y.toInt ∧ y.toInt ≤ 2)) : xC l 1 0 0 yX5_site cX5_site 3 (some .int) 319 [.ref 0, .int x, .int y] I (xRL nw sp) (xpI (-1000001) 319 I (xRL nw sp)) := by
  refine xC_of (by decide) (Nat.le_of_ble_eq_true rfl) (fun X hXl hX hR => ?_)
  have hX : xOK X RX5 cX5_site 3 1 0 0 := hX
  show G X 319 0 0 I (xRL nw sp) 0 [(0, .ref 0), (1, .int x), (2, .int y)] []
  refine g_aload_n hX dX5_site_0 rfl 0 rfl ?_
  refine g_getI (v := nI 1) hX (by decide) (by decide) xCl5 6 (by decide) (by decide) kX5_46 dX5_site_1 hst ?_
  refine g_cz_ne (a := (1 : Int)) (tgt := 10) hX dX5_site_4 (by decide) (by decide) (fun _ => ?_) (fun q => absurd q (by decide))
  refine g_iload_n hX dX5_site_10 rfl 1 rfl ?_
  refine g_cz_lt (a := x.toInt) (tgt := 20) hX dX5_site_11 (by decide) rfl (fun h11 => ?_) (fun h11 => ?_)
  · refine g_ldc (v := -1000001) hX cX5_79 dX5_site_20 ?_
    exact g_iret hX hR dX5_site_22 (by decide) (by decide) ⟨congrArg (fun z => some (Value.int z)) rfl, rfl, rfl, rfl⟩
  · refine g_iload_n hX dX5_site_14 rfl 1 rfl ?_
    refine g_bipush (v := nI 19) hX dX5_site_15 (by decide) ?_
    refine g_ci_le (a := x.toInt) (b := (19 : Int)) (tgt := 23) hX dX5_site_17 (by decide) rfl (by decide) (fun h17 => ?_) (fun h17 => ?_)
    · refine g_iload_n hX dX5_site_23 rfl 2 rfl ?_
      rcases (show (y.toInt < 0 ∨ 2 < y.toInt) ∨ y.toInt = 0 ∨ y.toInt = 1 ∨ y.toInt = 2 by omega) with h24 | h24 | h24 | h24
      · refine g_tsO (a := y.toInt) (tgt := 92) hX dX5_site_24 rfl h24 (by decide) ?_
        refine g_ldc (v := -1000001) hX cX5_79 dX5_site_92 ?_
        exact g_iret hX hR dX5_site_94 (by decide) (by decide) ⟨congrArg (fun z => some (Value.int z)) rfl, rfl, rfl, rfl⟩
      · exfalso; omega
      · exfalso; omega
      · exfalso; omega
    · refine g_ldc (v := -1000001) hX cX5_79 dX5_site_20 ?_
      exact g_iret hX hR dX5_site_22 (by decide) (by decide) ⟨congrArg (fun z => some (Value.int z)) rfl, rfl, rfl, rfl⟩

theorem c_X5_site_ok0 (l : Launch) {nw sp : Nat} {I : xM} {T S F W : Nat} {f : Nat → Int32} {q : Nat} (hst : I 0 6 = nI 1) (hnw : xG nw) (hG : GX I nw f T S F W) (hW : WF f T S F W) (hq : q < 20) : xC l 1 0 0 yX5_site cX5_site 3 (some .int) 319 [.ref 0, .int (nI q), .int (nI 0)] I (xRL nw sp) (xpI (f (6 + q)) 319 I (xRL nw sp)) := by
  refine xC_of (by decide) (Nat.le_of_ble_eq_true rfl) (fun X hXl hX hR => ?_)
  have hX : xOK X RX5 cX5_site 3 1 0 0 := hX
  show G X 319 0 0 I (xRL nw sp) 0 [(0, .ref 0), (1, .int (nI q)), (2, .int (nI 0))] []
  have hg8 := xG_8 hnw
  have hT6 := hW.T6
  have hS6 := hW.S6
  refine g_aload_n hX dX5_site_0 rfl 0 rfl ?_
  refine g_getI (v := nI 1) hX (by decide) (by decide) xCl5 6 (by decide) (by decide) kX5_46 dX5_site_1 hst ?_
  refine g_cz_ne (a := (1 : Int)) (tgt := 10) hX dX5_site_4 (by decide) (by decide) (fun _ => ?_) (fun q => absurd q (by decide))
  refine g_iload_n hX dX5_site_10 rfl 1 rfl ?_
  refine g_cz_lt (a := ((q : Nat) : Int)) (tgt := 20) hX dX5_site_11 (by decide) (nI_toInt (by omega)) (fun h11 => ?_) (fun h11 => ?_)
  · exfalso; omega
  · refine g_iload_n hX dX5_site_14 rfl 1 rfl ?_
    refine g_bipush (v := nI 19) hX dX5_site_15 (by decide) ?_
    refine g_ci_le (a := ((q : Nat) : Int)) (b := (19 : Int)) (tgt := 23) hX dX5_site_17 (by decide) (nI_toInt (by omega)) (by decide) (fun h17 => ?_) (fun h17 => ?_)
    · refine g_iload_n hX dX5_site_23 rfl 2 rfl ?_
      refine g_tsI (a := (0 : Int)) (v := 0) (tgt := 52) hX dX5_site_24 (by decide) rfl (by decide) (by decide) rfl (by decide) ?_
      refine g_aload_n hX dX5_site_52 rfl 0 rfl ?_
      refine g_getR (j := nw) hX (by decide) (by decide) xCl5 4 (by decide) (by decide) kX5_39 dX5_site_53 rfl ?_
      refine g_getR (j := nw + 1) hX (xG_n (j := 0) hnw (by decide)) (xG_K0 hnw) xCl0 0 (by decide) (by decide) kX5_171 dX5_site_56 (xRL_g0 hnw) ?_
      refine g_iload_n hX dX5_site_59 rfl 1 rfl ?_
      refine g_iald (v := f (6 + q)) hX (xG_n (j := 1) hnw (by decide)) (xG_K1 hnw) q rfl (by rw [(xG_N1 hnw)]; omega) dX5_site_60 (hG.gr (by omega)) ?_
      exact g_iret hX hR dX5_site_61 (by decide) (by decide) ⟨congrArg (fun z => some (Value.int z)) rfl, rfl, rfl, rfl⟩
    · exfalso; omega

theorem c_X5_site_ok1 (l : Launch) {nw sp : Nat} {I : xM} {T S F W : Nat} {f : Nat → Int32} {q : Nat} (hst : I 0 6 = nI 1) (hnw : xG nw) (hG : GX I nw f T S F W) (hW : WF f T S F W) (hq : q < 20) : xC l 5 0 0 yX5_site cX5_site 3 (some .int) 319 [.ref 0, .int (nI q), .int (nI 1)] I (xRL nw sp) (xpR 319 (xRL nw sp) (fun r J => r = brY f T (f 2) (f 3) q ∧ ∃ b, J = xrow I 5 b)) := by
  refine xC_of (by decide) (Nat.le_of_ble_eq_true rfl) (fun X hXl hX hR => ?_)
  have hX : xOK X RX5 cX5_site 3 5 0 0 := hX
  show G X 319 0 0 I (xRL nw sp) 0 [(0, .ref 0), (1, .int (nI q)), (2, .int (nI 1))] []
  have hg8 := xG_8 hnw
  have hT6 := hW.T6
  have hS6 := hW.S6
  refine g_aload_n hX dX5_site_0 rfl 0 rfl ?_
  refine g_getI (v := nI 1) hX (by decide) (by decide) xCl5 6 (by decide) (by decide) kX5_46 dX5_site_1 hst ?_
  refine g_cz_ne (a := (1 : Int)) (tgt := 10) hX dX5_site_4 (by decide) (by decide) (fun _ => ?_) (fun q => absurd q (by decide))
  refine g_iload_n hX dX5_site_10 rfl 1 rfl ?_
  refine g_cz_lt (a := ((q : Nat) : Int)) (tgt := 20) hX dX5_site_11 (by decide) (nI_toInt (by omega)) (fun h11 => ?_) (fun h11 => ?_)
  · exfalso; omega
  · refine g_iload_n hX dX5_site_14 rfl 1 rfl ?_
    refine g_bipush (v := nI 19) hX dX5_site_15 (by decide) ?_
    refine g_ci_le (a := ((q : Nat) : Int)) (b := (19 : Int)) (tgt := 23) hX dX5_site_17 (by decide) (nI_toInt (by omega)) (by decide) (fun h17 => ?_) (fun h17 => ?_)
    · refine g_iload_n hX dX5_site_23 rfl 2 rfl ?_
      refine g_tsI (a := (1 : Int)) (v := 1) (tgt := 62) hX dX5_site_24 (by decide) rfl (by decide) (by decide) rfl (by decide) ?_
      refine g_aload_n hX dX5_site_62 rfl 0 rfl ?_
      refine g_getR (j := 4) hX (by decide) (by decide) xCl5 2 (by decide) (by decide) kX5_25 dX5_site_63 rfl ?_
      refine g_aload_n hX dX5_site_66 rfl 0 rfl ?_
      refine g_getR (j := nw) hX (by decide) (by decide) xCl5 4 (by decide) (by decide) kX5_39 dX5_site_67 rfl ?_
      refine g_callVrv hX (as := [.ref nw]) (fun l => c_X3_lookNow l (I := I) (g := nw) (T := T) (S := S) (F := F) (W := W) (f := f) (hg := hnw) (hG := (by first | assumption | omega)) (hW := (by first | assumption | omega))) mX3_lookNow vX3_lookNow lX5_181 (by decide) (by decide) xCl3 rfl rfl dX5_site_70 rfl (by decide) (Nat.le_of_ble_eq_true rfl) (by decide) (by decide) (fun J hJ0 => ?_)
      obtain ⟨b, hJ, hb⟩ := hJ0
      have hGJ : GX J nw f T S F W := by rw [hJ]; exact hG.ext (fun i h1 h2 => xrow_o (by omega))
      have hb5 : ∀ q, q < 20 → J 5 q = brY f T (f 2) (f 3) q := fun q hq => by rw [hJ, xrow_e]; exact hb q hq
      refine g_aload_n hX dX5_site_73 rfl 0 rfl ?_
      refine g_getR (j := 4) hX (by decide) (by decide) xCl5 2 (by decide) (by decide) kX5_25 dX5_site_74 rfl ?_
      refine g_getR (j := 5) hX (by decide) (by decide) xCl3 0 (by decide) (by decide) kX5_184 dX5_site_77 rfl ?_
      refine g_iload_n hX dX5_site_80 rfl 1 rfl ?_
      refine g_iald (v := J 5 q) hX (by decide) (by decide) q rfl (by rw [(show xN 5 = 20 by decide)]; omega) dX5_site_81 rfl ?_
      exact g_iret hX hR dX5_site_82 (by decide) (by decide) ⟨_, rfl, rfl, ⟨hb5 q hq, b, hJ⟩, rfl⟩
    · exfalso; omega

theorem c_X5_site_ok2 (l : Launch) {nw sp : Nat} {I : xM} {T S F W : Nat} {f : Nat → Int32} {q : Nat} (hst : I 0 6 = nI 1) (hnw : xG nw) (hG : GX I nw f T S F W) (hW : WF f T S F W) (hq : q < 20) : xC l 2 0 0 yX5_site cX5_site 3 (some .int) 319 [.ref 0, .int (nI q), .int (nI 2)] I (xRL nw sp) (xpI (oI (taF f T (nI q))) 319 I (xRL nw sp)) := by
  refine xC_of (by decide) (Nat.le_of_ble_eq_true rfl) (fun X hXl hX hR => ?_)
  have hX : xOK X RX5 cX5_site 3 2 0 0 := hX
  show G X 319 0 0 I (xRL nw sp) 0 [(0, .ref 0), (1, .int (nI q)), (2, .int (nI 2))] []
  have hg8 := xG_8 hnw
  have hT6 := hW.T6
  have hS6 := hW.S6
  refine g_aload_n hX dX5_site_0 rfl 0 rfl ?_
  refine g_getI (v := nI 1) hX (by decide) (by decide) xCl5 6 (by decide) (by decide) kX5_46 dX5_site_1 hst ?_
  refine g_cz_ne (a := (1 : Int)) (tgt := 10) hX dX5_site_4 (by decide) (by decide) (fun _ => ?_) (fun q => absurd q (by decide))
  refine g_iload_n hX dX5_site_10 rfl 1 rfl ?_
  refine g_cz_lt (a := ((q : Nat) : Int)) (tgt := 20) hX dX5_site_11 (by decide) (nI_toInt (by omega)) (fun h11 => ?_) (fun h11 => ?_)
  · exfalso; omega
  · refine g_iload_n hX dX5_site_14 rfl 1 rfl ?_
    refine g_bipush (v := nI 19) hX dX5_site_15 (by decide) ?_
    refine g_ci_le (a := ((q : Nat) : Int)) (b := (19 : Int)) (tgt := 23) hX dX5_site_17 (by decide) (nI_toInt (by omega)) (by decide) (fun h17 => ?_) (fun h17 => ?_)
    · refine g_iload_n hX dX5_site_23 rfl 2 rfl ?_
      refine g_tsI (a := (2 : Int)) (v := 2) (tgt := 83) hX dX5_site_24 (by decide) rfl (by decide) (by decide) rfl (by decide) ?_
      refine g_aload_n hX dX5_site_83 rfl 0 rfl ?_
      refine g_getR (j := nw) hX (by decide) (by decide) xCl5 4 (by decide) (by decide) kX5_39 dX5_site_84 rfl ?_
      refine g_iload_n hX dX5_site_87 rfl 1 rfl ?_
      refine g_callVi hX (as := [.int (nI q)]) (fun l => c_X0_treeAt l (I := I) (g := nw) (T := T) (S := S) (F := F) (W := W) (f := f) (x := (nI q)) (hg := hnw) (hG := (by first | assumption | omega)) (hW := (by first | assumption | omega))) mX0_treeAt vX0_treeAt lX5_164 (xG_n (j := 0) hnw (by decide)) (xG_K0 hnw) xCl0 rfl rfl dX5_site_88 rfl (by decide) (Nat.le_of_ble_eq_true rfl) (by decide) (by decide) ?_
      exact g_iret hX hR dX5_site_91 (by decide) (by decide) ⟨congrArg (fun z => some (Value.int z)) rfl, rfl, rfl, rfl⟩
    · exfalso; omega

theorem c_X5_seen_none (l : Launch) {nw sp : Nat} {I : xM} {x y : Int32} (hst : I 0 6 = nI 0) : xC l 1 0 0 yX5_seen cX5_seen 3 (some .int) 319 [.ref 0, .int x, .int y] I (xRL nw sp) (xpI (-1000002) 319 I (xRL nw sp)) := by
  refine xC_of (by decide) (Nat.le_of_ble_eq_true rfl) (fun X hXl hX hR => ?_)
  have hX : xOK X RX5 cX5_seen 3 1 0 0 := hX
  show G X 319 0 0 I (xRL nw sp) 0 [(0, .ref 0), (1, .int x), (2, .int y)] []
  refine g_aload_n hX dX5_seen_0 rfl 0 rfl ?_
  refine g_getI (v := nI 0) hX (by decide) (by decide) xCl5 6 (by decide) (by decide) kX5_46 dX5_seen_1 hst ?_
  refine g_cz_ne (a := (0 : Int)) (tgt := 10) hX dX5_seen_4 (by decide) (by decide) (fun q => absurd q (by decide)) (fun _ => ?_)
  refine g_ldc (v := -1000002) hX cX5_139 dX5_seen_7 ?_
  exact g_iret hX hR dX5_seen_9 (by decide) (by decide) ⟨congrArg (fun z => some (Value.int z)) rfl, rfl, rfl, rfl⟩

theorem c_X5_seen_bad (l : Launch) {nw sp : Nat} {I : xM} {x y : Int32} (hst : I 0 6 = nI 1) (hb : ¬ (0 ≤ x.toInt ∧ x.toInt ≤ 18 ∧ 0 ≤ y.toInt ∧ y.toInt ≤ 30)) : xC l 2 0 0 yX5_seen cX5_seen 3 (some .int) 319 [.ref 0, .int x, .int y] I (xRL nw sp) (xpI (-1000001) 319 I (xRL nw sp)) := by
  refine xC_of (by decide) (Nat.le_of_ble_eq_true rfl) (fun X hXl hX hR => ?_)
  have hX : xOK X RX5 cX5_seen 3 2 0 0 := hX
  show G X 319 0 0 I (xRL nw sp) 0 [(0, .ref 0), (1, .int x), (2, .int y)] []
  refine g_aload_n hX dX5_seen_0 rfl 0 rfl ?_
  refine g_getI (v := nI 1) hX (by decide) (by decide) xCl5 6 (by decide) (by decide) kX5_46 dX5_seen_1 hst ?_
  refine g_cz_ne (a := (1 : Int)) (tgt := 10) hX dX5_seen_4 (by decide) (by decide) (fun _ => ?_) (fun q => absurd q (by decide))
  refine g_iload_n hX dX5_seen_10 rfl 1 rfl ?_
  refine g_cz_lt (a := x.toInt) (tgt := 27) hX dX5_seen_11 (by decide) rfl (fun h11 => ?_) (fun h11 => ?_)
  · refine g_ldc (v := -1000001) hX cX5_79 dX5_seen_27 ?_
    exact g_iret hX hR dX5_seen_29 (by decide) (by decide) ⟨congrArg (fun z => some (Value.int z)) rfl, rfl, rfl, rfl⟩
  · refine g_iload_n hX dX5_seen_14 rfl 1 rfl ?_
    refine g_bipush (v := nI 19) hX dX5_seen_15 (by decide) ?_
    refine g_ci_ge (a := x.toInt) (b := (19 : Int)) (tgt := 27) hX dX5_seen_17 (by decide) rfl (by decide) (fun h17 => ?_) (fun h17 => ?_)
    · refine g_ldc (v := -1000001) hX cX5_79 dX5_seen_27 ?_
      exact g_iret hX hR dX5_seen_29 (by decide) (by decide) ⟨congrArg (fun z => some (Value.int z)) rfl, rfl, rfl, rfl⟩
    · refine g_iload_n hX dX5_seen_20 rfl 2 rfl ?_
      refine g_callSi hX (as := [.int y]) (fun l => c_X5_isEye l (I := I) (x := y) ) mX5_isEye sX5_isEye lX5_187 rfl dX5_seen_21 rfl (by decide) (Nat.le_of_ble_eq_true rfl) (by decide) (by decide) ?_
      refine g_cb_ne (tgt := 30) hX dX5_seen_24 (by decide) (fun h24 => ?_) (fun h24 => ?_)
      · exfalso; omega
      · refine g_ldc (v := -1000001) hX cX5_79 dX5_seen_27 ?_
        exact g_iret hX hR dX5_seen_29 (by decide) (by decide) ⟨congrArg (fun z => some (Value.int z)) rfl, rfl, rfl, rfl⟩

theorem c_X5_seen_ok (l : Launch) {nw sp : Nat} {I : xM} {T S F W : Nat} {f : Nat → Int32} {s : Nat} {e : Int32} (hst : I 0 6 = nI 1) (hnw : xG nw) (hG : GX I nw f T S F W) (hW : WF f T S F W) (hs : s < 19) (he0 : 0 ≤ e.toInt) (he3 : e.toInt ≤ 30) : xC l 5 0 0 yX5_seen cX5_seen 3 (some .int) 319 [.ref 0, .int (nI s), .int e] I (xRL nw sp) (xpR 319 (xRL nw sp) (fun r J => r = bitsI (snP (brY f T (f 2) (f 3)) f s e) S ∧ ∃ b, J = xrow I 5 b)) := by
  refine xC_of (by decide) (Nat.le_of_ble_eq_true rfl) (fun X hXl hX hR => ?_)
  have hX : xOK X RX5 cX5_seen 3 5 0 0 := hX
  show G X 319 0 0 I (xRL nw sp) 0 [(0, .ref 0), (1, .int (nI s)), (2, .int e)] []
  have hg8 := xG_8 hnw
  have hT6 := hW.T6
  have hS6 := hW.S6
  refine g_aload_n hX dX5_seen_0 rfl 0 rfl ?_
  refine g_getI (v := nI 1) hX (by decide) (by decide) xCl5 6 (by decide) (by decide) kX5_46 dX5_seen_1 hst ?_
  refine g_cz_ne (a := (1 : Int)) (tgt := 10) hX dX5_seen_4 (by decide) (by decide) (fun _ => ?_) (fun q => absurd q (by decide))
  refine g_iload_n hX dX5_seen_10 rfl 1 rfl ?_
  refine g_cz_lt (a := ((s : Nat) : Int)) (tgt := 27) hX dX5_seen_11 (by decide) (nI_toInt (by omega)) (fun h11 => ?_) (fun h11 => ?_)
  · exfalso; omega
  · refine g_iload_n hX dX5_seen_14 rfl 1 rfl ?_
    refine g_bipush (v := nI 19) hX dX5_seen_15 (by decide) ?_
    refine g_ci_ge (a := ((s : Nat) : Int)) (b := (19 : Int)) (tgt := 27) hX dX5_seen_17 (by decide) (nI_toInt (by omega)) (by decide) (fun h17 => ?_) (fun h17 => ?_)
    · exfalso; omega
    · refine g_iload_n hX dX5_seen_20 rfl 2 rfl ?_
      refine g_callSi hX (as := [.int e]) (fun l => c_X5_isEye l (I := I) (x := e) ) mX5_isEye sX5_isEye lX5_187 rfl dX5_seen_21 rfl (by decide) (Nat.le_of_ble_eq_true rfl) (by decide) (by decide) ?_
      refine g_cb_ne (tgt := 30) hX dX5_seen_24 (by decide) (fun h24 => ?_) (fun h24 => ?_)
      · refine g_aload_n hX dX5_seen_30 rfl 0 rfl ?_
        refine g_getR (j := 4) hX (by decide) (by decide) xCl5 2 (by decide) (by decide) kX5_25 dX5_seen_31 rfl ?_
        refine g_aload_n hX dX5_seen_34 rfl 0 rfl ?_
        refine g_getR (j := nw) hX (by decide) (by decide) xCl5 4 (by decide) (by decide) kX5_39 dX5_seen_35 rfl ?_
        refine g_callVrv hX (as := [.ref nw]) (fun l => c_X3_lookNow l (I := I) (g := nw) (T := T) (S := S) (F := F) (W := W) (f := f) (hg := hnw) (hG := (by first | assumption | omega)) (hW := (by first | assumption | omega))) mX3_lookNow vX3_lookNow lX5_181 (by decide) (by decide) xCl3 rfl rfl dX5_seen_38 rfl (by decide) (Nat.le_of_ble_eq_true rfl) (by decide) (by decide) (fun J hJ0 => ?_)
        obtain ⟨b, hJ, hb⟩ := hJ0
        have hGJ : GX J nw f T S F W := by rw [hJ]; exact hG.ext (fun i h1 h2 => xrow_o (by omega))
        have hb5 : ∀ q, q < 20 → J 5 q = brY f T (f 2) (f 3) q := fun q hq => by rw [hJ, xrow_e]; exact hb q hq
        refine g_aload_n hX dX5_seen_41 rfl 0 rfl ?_
        refine g_getR (j := 4) hX (by decide) (by decide) xCl5 2 (by decide) (by decide) kX5_25 dX5_seen_42 rfl ?_
        refine g_aload_n hX dX5_seen_45 rfl 0 rfl ?_
        refine g_getR (j := nw) hX (by decide) (by decide) xCl5 4 (by decide) (by decide) kX5_39 dX5_seen_46 rfl ?_
        refine g_iload_n hX dX5_seen_49 rfl 1 rfl ?_
        refine g_iload_n hX dX5_seen_50 rfl 2 rfl ?_
        refine g_callVi hX (as := [.ref nw, .int (nI s), .int e]) (fun l => c_X3_thingsFrom l (I := J) (g := nw) (T := T) (S := S) (F := F) (W := W) (f := f) (s := s) (e := e) (hg := hnw) (hG := (by first | assumption | omega)) (hW := (by first | assumption | omega)) (hs := (by first | assumption | omega))) mX3_thingsFrom vX3_thingsFrom lX5_190 (by decide) (by decide) xCl3 rfl rfl dX5_seen_51 rfl (by decide) (Nat.le_of_ble_eq_true rfl) (by decide) (by decide) ?_
        exact g_iret hX hR dX5_seen_54 (by decide) (by decide) ⟨_, rfl, rfl, ⟨bits_congr (fun k hk => snP_congr hb5 (hW.ts9 hk)), b, hJ⟩, rfl⟩
      · exfalso; omega

theorem c_X5_doubled_none (l : Launch) {nw sp : Nat} {I : xM} {x : Int32} (hst : I 0 6 = nI 0) : xC l 1 0 0 yX5_doubled cX5_doubled 4 (some .int) 319 [.ref 0, .int x] I (xRL nw sp) (xpI (-1000002) 319 I (xRL nw sp)) := by
  refine xC_of (by decide) (Nat.le_of_ble_eq_true rfl) (fun X hXl hX hR => ?_)
  have hX : xOK X RX5 cX5_doubled 4 1 0 0 := hX
  show G X 319 0 0 I (xRL nw sp) 0 [(0, .ref 0), (1, .int x)] []
  refine g_aload_n hX dX5_doubled_0 rfl 0 rfl ?_
  refine g_getI (v := nI 0) hX (by decide) (by decide) xCl5 6 (by decide) (by decide) kX5_46 dX5_doubled_1 hst ?_
  refine g_cz_ne (a := (0 : Int)) (tgt := 10) hX dX5_doubled_4 (by decide) (by decide) (fun q => absurd q (by decide)) (fun _ => ?_)
  refine g_ldc (v := -1000002) hX cX5_139 dX5_doubled_7 ?_
  exact g_iret hX hR dX5_doubled_9 (by decide) (by decide) ⟨congrArg (fun z => some (Value.int z)) rfl, rfl, rfl, rfl⟩

theorem c_X5_doubled_bad (l : Launch) {nw sp : Nat} {I : xM} {x : Int32} (hst : I 0 6 = nI 1) (hb : ¬ (0 ≤ x.toInt ∧ x.toInt ≤ 30)) : xC l 2 0 0 yX5_doubled cX5_doubled 4 (some .int) 319 [.ref 0, .int x] I (xRL nw sp) (xpI (-1000001) 319 I (xRL nw sp)) := by
  refine xC_of (by decide) (Nat.le_of_ble_eq_true rfl) (fun X hXl hX hR => ?_)
  have hX : xOK X RX5 cX5_doubled 4 2 0 0 := hX
  show G X 319 0 0 I (xRL nw sp) 0 [(0, .ref 0), (1, .int x)] []
  refine g_aload_n hX dX5_doubled_0 rfl 0 rfl ?_
  refine g_getI (v := nI 1) hX (by decide) (by decide) xCl5 6 (by decide) (by decide) kX5_46 dX5_doubled_1 hst ?_
  refine g_cz_ne (a := (1 : Int)) (tgt := 10) hX dX5_doubled_4 (by decide) (by decide) (fun _ => ?_) (fun q => absurd q (by decide))
  refine g_iload_n hX dX5_doubled_10 rfl 1 rfl ?_
  refine g_callSi hX (as := [.int x]) (fun l => c_X5_isEye l (I := I) (x := x) ) mX5_isEye sX5_isEye lX5_187 rfl dX5_doubled_11 rfl (by decide) (Nat.le_of_ble_eq_true rfl) (by decide) (by decide) ?_
  refine g_cb_ne (tgt := 20) hX dX5_doubled_14 (by decide) (fun h14 => ?_) (fun h14 => ?_)
  · exfalso; omega
  · refine g_ldc (v := -1000001) hX cX5_79 dX5_doubled_17 ?_
    exact g_iret hX hR dX5_doubled_19 (by decide) (by decide) ⟨congrArg (fun z => some (Value.int z)) rfl, rfl, rfl, rfl⟩

theorem c_X5_moon_none (l : Launch) {nw sp : Nat} {I : xM} {x : Int32} (hst : I 0 6 = nI 0) : xC l 1 0 0 yX5_moon cX5_moon 6 (some .int) 319 [.ref 0, .int x] I (xRL nw sp) (xpI (-1000002) 319 I (xRL nw sp)) := by
  refine xC_of (by decide) (Nat.le_of_ble_eq_true rfl) (fun X hXl hX hR => ?_)
  have hX : xOK X RX5 cX5_moon 6 1 0 0 := hX
  show G X 319 0 0 I (xRL nw sp) 0 [(0, .ref 0), (1, .int x)] []
  refine g_aload_n hX dX5_moon_0 rfl 0 rfl ?_
  refine g_getI (v := nI 0) hX (by decide) (by decide) xCl5 6 (by decide) (by decide) kX5_46 dX5_moon_1 hst ?_
  refine g_cz_ne (a := (0 : Int)) (tgt := 10) hX dX5_moon_4 (by decide) (by decide) (fun q => absurd q (by decide)) (fun _ => ?_)
  refine g_ldc (v := -1000002) hX cX5_139 dX5_moon_7 ?_
  exact g_iret hX hR dX5_moon_9 (by decide) (by decide) ⟨congrArg (fun z => some (Value.int z)) rfl, rfl, rfl, rfl⟩

theorem c_X5_moon_bad (l : Launch) {nw sp : Nat} {I : xM} {x : Int32} (hst : I 0 6 = nI 1) (hb : ¬ (0 ≤ x.toInt ∧ x.toInt ≤ 30)) : xC l 2 0 0 yX5_moon cX5_moon 6 (some .int) 319 [.ref 0, .int x] I (xRL nw sp) (xpI (-1000001) 319 I (xRL nw sp)) := by
  refine xC_of (by decide) (Nat.le_of_ble_eq_true rfl) (fun X hXl hX hR => ?_)
  have hX : xOK X RX5 cX5_moon 6 2 0 0 := hX
  show G X 319 0 0 I (xRL nw sp) 0 [(0, .ref 0), (1, .int x)] []
  refine g_aload_n hX dX5_moon_0 rfl 0 rfl ?_
  refine g_getI (v := nI 1) hX (by decide) (by decide) xCl5 6 (by decide) (by decide) kX5_46 dX5_moon_1 hst ?_
  refine g_cz_ne (a := (1 : Int)) (tgt := 10) hX dX5_moon_4 (by decide) (by decide) (fun _ => ?_) (fun q => absurd q (by decide))
  refine g_iload_n hX dX5_moon_10 rfl 1 rfl ?_
  refine g_callSi hX (as := [.int x]) (fun l => c_X5_isEye l (I := I) (x := x) ) mX5_isEye sX5_isEye lX5_187 rfl dX5_moon_11 rfl (by decide) (Nat.le_of_ble_eq_true rfl) (by decide) (by decide) ?_
  refine g_cb_ne (tgt := 20) hX dX5_moon_14 (by decide) (fun h14 => ?_) (fun h14 => ?_)
  · exfalso; omega
  · refine g_ldc (v := -1000001) hX cX5_79 dX5_moon_17 ?_
    exact g_iret hX hR dX5_moon_19 (by decide) (by decide) ⟨congrArg (fun z => some (Value.int z)) rfl, rfl, rfl, rfl⟩

theorem c_X5_doubled_ok (l : Launch) {nw sp : Nat} {I : xM} {T S F W : Nat} {f : Nat → Int32} {e : Int32} (hst : I 0 6 = nI 1) (hnw : xG nw) (hG : GX I nw f T S F W) (hW : WF f T S F W) (he0 : 0 ≤ e.toInt) (he3 : e.toInt ≤ 30) : xC l 5 0 0 yX5_doubled cX5_doubled 4 (some .int) 319 [.ref 0, .int e] I (xRL nw sp) (xpR 319 (xRL nw sp) (fun r J => r = bitsI (dbP (brY f T (f 2) (f 3)) f F W e) S ∧ ∃ b, J = xrow I 5 b)) := by
  refine xC_of (by decide) (Nat.le_of_ble_eq_true rfl) (fun X hXl hX hR => ?_)
  have hX : xOK X RX5 cX5_doubled 4 5 0 0 := hX
  show G X 319 0 0 I (xRL nw sp) 0 [(0, .ref 0), (1, .int e)] []
  have hg8 := xG_8 hnw
  have hT6 := hW.T6
  have hS6 := hW.S6
  refine g_aload_n hX dX5_doubled_0 rfl 0 rfl ?_
  refine g_getI (v := nI 1) hX (by decide) (by decide) xCl5 6 (by decide) (by decide) kX5_46 dX5_doubled_1 hst ?_
  refine g_cz_ne (a := (1 : Int)) (tgt := 10) hX dX5_doubled_4 (by decide) (by decide) (fun _ => ?_) (fun q => absurd q (by decide))
  refine g_iload_n hX dX5_doubled_10 rfl 1 rfl ?_
  refine g_callSi hX (as := [.int e]) (fun l => c_X5_isEye l (I := I) (x := e) ) mX5_isEye sX5_isEye lX5_187 rfl dX5_doubled_11 rfl (by decide) (Nat.le_of_ble_eq_true rfl) (by decide) (by decide) ?_
  refine g_cb_ne (tgt := 20) hX dX5_doubled_14 (by decide) (fun h14 => ?_) (fun h14 => ?_)
  · refine g_aload_n hX dX5_doubled_20 rfl 0 rfl ?_
    refine g_getR (j := 4) hX (by decide) (by decide) xCl5 2 (by decide) (by decide) kX5_25 dX5_doubled_21 rfl ?_
    refine g_aload_n hX dX5_doubled_24 rfl 0 rfl ?_
    refine g_getR (j := nw) hX (by decide) (by decide) xCl5 4 (by decide) (by decide) kX5_39 dX5_doubled_25 rfl ?_
    refine g_callVrv hX (as := [.ref nw]) (fun l => c_X3_lookNow l (I := I) (g := nw) (T := T) (S := S) (F := F) (W := W) (f := f) (hg := hnw) (hG := (by first | assumption | omega)) (hW := (by first | assumption | omega))) mX3_lookNow vX3_lookNow lX5_181 (by decide) (by decide) xCl3 rfl rfl dX5_doubled_28 rfl (by decide) (Nat.le_of_ble_eq_true rfl) (by decide) (by decide) (fun J hJ0 => ?_)
    obtain ⟨b, hJ, hb⟩ := hJ0
    have hGJ : GX J nw f T S F W := by rw [hJ]; exact hG.ext (fun i h1 h2 => xrow_o (by omega))
    have hb5 : ∀ q, q < 20 → J 5 q = brY f T (f 2) (f 3) q := fun q hq => by rw [hJ, xrow_e]; exact hb q hq
    refine g_iconst (v := nI 0) hX dX5_doubled_31 (by decide) ?_
    refine g_istore_n (L' := [(0, .ref 0), (1, .int e), (2, .int (nI 0))]) hX dX5_doubled_32 rfl (by decide) rfl ?_
    refine g_iconst (v := nI 0) hX dX5_doubled_33 (by decide) ?_
    refine g_istore_n (L' := [(0, .ref 0), (1, .int e), (2, .int (nI 0)), (3, .int (nI 0))]) hX dX5_doubled_34 rfl (by decide) rfl ?_
    have cut35 : ∀ (fuel : Nat) (c : Int32) (k : Nat) (hk : k ≤ S) (hc : c = bitsI (dbP (J 5) f F W e) k), S - k < fuel → G X 319 0 0 J (xRL nw sp) 35 [(0, .ref 0), (1, .int e), (2, .int c), (3, .int (nI k))] [] := by
      intro fuel
      induction fuel with
      | zero => intro c k hk hc hfuel; omega
      | succ fuel ih =>
        intro c k hk hc hfuel
        refine g_iload_n hX dX5_doubled_35 rfl 3 rfl ?_
        refine g_aload_n hX dX5_doubled_36 rfl 0 rfl ?_
        refine g_getR (j := nw) hX (by decide) (by decide) xCl5 4 (by decide) (by decide) kX5_39 dX5_doubled_37 rfl ?_
        refine g_getI (v := nI S) hX (xG_n (j := 0) hnw (by decide)) (xG_K0 hnw) xCl0 9 (by decide) (by decide) kX5_194 dX5_doubled_40 hGJ.th ?_
        refine g_ci_ge (a := ((k : Nat) : Int)) (b := ((S : Nat) : Int)) (tgt := 74) hX dX5_doubled_43 (by decide) (nI_toInt (by omega)) (nI_toInt (by omega)) (fun h43 => ?_) (fun h43 => ?_)
        · refine g_iload_n hX dX5_doubled_74 rfl 2 rfl ?_
          exact g_iret hX hR dX5_doubled_75 (by decide) (by decide) ⟨_, rfl, rfl, ⟨by rw [hc, show k = S by omega]; exact bits_congr (fun k hk => dbP_congr hb5 (hW.ts9 hk)), b, hJ⟩, rfl⟩
        · refine g_aload_n hX dX5_doubled_46 rfl 0 rfl ?_
          refine g_getR (j := 4) hX (by decide) (by decide) xCl5 2 (by decide) (by decide) kX5_25 dX5_doubled_47 rfl ?_
          refine g_aload_n hX dX5_doubled_50 rfl 0 rfl ?_
          refine g_getR (j := nw) hX (by decide) (by decide) xCl5 4 (by decide) (by decide) kX5_39 dX5_doubled_51 rfl ?_
          refine g_iload_n hX dX5_doubled_54 rfl 3 rfl ?_
          refine g_iload_n hX dX5_doubled_55 rfl 1 rfl ?_
          refine g_callVi hX (as := [.ref nw, .int (nI k), .int e]) (fun l => c_X3_isDoubled l (I := J) (g := nw) (T := T) (S := S) (F := F) (W := W) (f := f) (k := k) (e := e) (hg := hnw) (hG := (by first | assumption | omega)) (hW := (by first | assumption | omega)) (hk := (by first | assumption | omega))) mX3_isDoubled vX3_isDoubled lX5_197 (by decide) (by decide) xCl3 rfl rfl dX5_doubled_56 rfl (by decide) (Nat.le_of_ble_eq_true rfl) (by decide) (by decide) ?_
          refine g_cb_eq (tgt := 68) hX dX5_doubled_59 (by decide) (fun h59 => ?_) (fun h59 => ?_)
          · refine g_iinc (v := nI (k + 1)) (L' := [(0, .ref 0), (1, .int e), (2, .int c), (3, .int (nI (k + 1)))]) hX dX5_doubled_68 (by decide) 3 rfl (nI_add k 1) rfl ?_
            refine g_goto (tgt := 35) hX dX5_doubled_71 (by decide) ?_
            exact ih c (k + 1) (by first | assumption | omega) (by first | exact bits_t hc h59 | exact bits_f' hc h59) (by omega)
          · refine g_iload_n hX dX5_doubled_62 rfl 2 rfl ?_
            refine g_iconst (v := nI 1) hX dX5_doubled_63 (by decide) ?_
            refine g_iload_n hX dX5_doubled_64 rfl 3 rfl ?_
            refine g_ishl (v := (nI 1) <<< ((nI k) &&& 31)) hX dX5_doubled_65 rfl ?_
            refine g_ior (v := c ||| ((nI 1) <<< ((nI k) &&& 31))) hX dX5_doubled_66 rfl ?_
            refine g_istore_n (L' := [(0, .ref 0), (1, .int e), (2, .int (c ||| ((nI 1) <<< ((nI k) &&& 31)))), (3, .int (nI k))]) hX dX5_doubled_67 rfl (by decide) rfl ?_
            refine g_iinc (v := nI (k + 1)) (L' := [(0, .ref 0), (1, .int e), (2, .int (c ||| ((nI 1) <<< ((nI k) &&& 31)))), (3, .int (nI (k + 1)))]) hX dX5_doubled_68 (by decide) 3 rfl (nI_add k 1) rfl ?_
            refine g_goto (tgt := 35) hX dX5_doubled_71 (by decide) ?_
            exact ih (c ||| ((nI 1) <<< ((nI k) &&& 31))) (k + 1) (by first | assumption | omega) (by first | exact bits_t hc h59 | exact bits_f' hc h59) (by omega)
    exact cut35 _ (nI 0) 0 (by first | assumption | omega) rfl (Nat.lt_succ_self _)
  · exfalso; omega

theorem c_X5_met_none (l : Launch) {nw sp : Nat} {I : xM} {x : Int32} (hst : I 0 6 = nI 0) : xC l 1 0 0 yX5_met cX5_met 4 (some .int) 319 [.ref 0, .int x] I (xRL nw sp) (xpI (-1000002) 319 I (xRL nw sp)) := by
  refine xC_of (by decide) (Nat.le_of_ble_eq_true rfl) (fun X hXl hX hR => ?_)
  have hX : xOK X RX5 cX5_met 4 1 0 0 := hX
  show G X 319 0 0 I (xRL nw sp) 0 [(0, .ref 0), (1, .int x)] []
  refine g_aload_n hX dX5_met_0 rfl 0 rfl ?_
  refine g_getI (v := nI 0) hX (by decide) (by decide) xCl5 6 (by decide) (by decide) kX5_46 dX5_met_1 hst ?_
  refine g_cz_ne (a := (0 : Int)) (tgt := 10) hX dX5_met_4 (by decide) (by decide) (fun q => absurd q (by decide)) (fun _ => ?_)
  refine g_ldc (v := -1000002) hX cX5_139 dX5_met_7 ?_
  exact g_iret hX hR dX5_met_9 (by decide) (by decide) ⟨congrArg (fun z => some (Value.int z)) rfl, rfl, rfl, rfl⟩

theorem c_X5_met_bad (l : Launch) {nw sp : Nat} {I : xM} {x : Int32} (hst : I 0 6 = nI 1) (hb : x.toInt < 0) : xC l 1 0 0 yX5_met cX5_met 4 (some .int) 319 [.ref 0, .int x] I (xRL nw sp) (xpI (-1000001) 319 I (xRL nw sp)) := by
  refine xC_of (by decide) (Nat.le_of_ble_eq_true rfl) (fun X hXl hX hR => ?_)
  have hX : xOK X RX5 cX5_met 4 1 0 0 := hX
  show G X 319 0 0 I (xRL nw sp) 0 [(0, .ref 0), (1, .int x)] []
  refine g_aload_n hX dX5_met_0 rfl 0 rfl ?_
  refine g_getI (v := nI 1) hX (by decide) (by decide) xCl5 6 (by decide) (by decide) kX5_46 dX5_met_1 hst ?_
  refine g_cz_ne (a := (1 : Int)) (tgt := 10) hX dX5_met_4 (by decide) (by decide) (fun _ => ?_) (fun q => absurd q (by decide))
  refine g_iload_n hX dX5_met_10 rfl 1 rfl ?_
  refine g_cz_ge (a := x.toInt) (tgt := 17) hX dX5_met_11 (by decide) rfl (fun h11 => ?_) (fun h11 => ?_)
  · exfalso; omega
  · refine g_ldc (v := -1000001) hX cX5_79 dX5_met_14 ?_
    exact g_iret hX hR dX5_met_16 (by decide) (by decide) ⟨congrArg (fun z => some (Value.int z)) rfl, rfl, rfl, rfl⟩

theorem c_X5_met_ok (l : Launch) {nw sp : Nat} {I : xM} {T S F W : Nat} {f : Nat → Int32} {x : Int32} (hst : I 0 6 = nI 1) (hnw : xG nw) (hG : GX I nw f T S F W) (hW : WF f T S F W) (hx : 0 ≤ x.toInt) : xC l 5 0 0 yX5_met cX5_met 4 (some .int) 319 [.ref 0, .int x] I (xRL nw sp) (xpR 319 (xRL nw sp) (fun r J => r = bitsI (fun e => inP x e ∧ mtP (brY f T (f 2) (f 3)) f S (nI e)) 31 ∧ ∃ b, J = xrow I 5 b)) := by
  refine xC_of (by decide) (Nat.le_of_ble_eq_true rfl) (fun X hXl hX hR => ?_)
  have hX : xOK X RX5 cX5_met 4 5 0 0 := hX
  show G X 319 0 0 I (xRL nw sp) 0 [(0, .ref 0), (1, .int x)] []
  have hg8 := xG_8 hnw
  have hT6 := hW.T6
  have hS6 := hW.S6
  refine g_aload_n hX dX5_met_0 rfl 0 rfl ?_
  refine g_getI (v := nI 1) hX (by decide) (by decide) xCl5 6 (by decide) (by decide) kX5_46 dX5_met_1 hst ?_
  refine g_cz_ne (a := (1 : Int)) (tgt := 10) hX dX5_met_4 (by decide) (by decide) (fun _ => ?_) (fun q => absurd q (by decide))
  refine g_iload_n hX dX5_met_10 rfl 1 rfl ?_
  refine g_cz_ge (a := x.toInt) (tgt := 17) hX dX5_met_11 (by decide) rfl (fun h11 => ?_) (fun h11 => ?_)
  · refine g_aload_n hX dX5_met_17 rfl 0 rfl ?_
    refine g_getR (j := 4) hX (by decide) (by decide) xCl5 2 (by decide) (by decide) kX5_25 dX5_met_18 rfl ?_
    refine g_aload_n hX dX5_met_21 rfl 0 rfl ?_
    refine g_getR (j := nw) hX (by decide) (by decide) xCl5 4 (by decide) (by decide) kX5_39 dX5_met_22 rfl ?_
    refine g_callVrv hX (as := [.ref nw]) (fun l => c_X3_lookNow l (I := I) (g := nw) (T := T) (S := S) (F := F) (W := W) (f := f) (hg := hnw) (hG := (by first | assumption | omega)) (hW := (by first | assumption | omega))) mX3_lookNow vX3_lookNow lX5_181 (by decide) (by decide) xCl3 rfl rfl dX5_met_25 rfl (by decide) (Nat.le_of_ble_eq_true rfl) (by decide) (by decide) (fun J hJ0 => ?_)
    obtain ⟨b, hJ, hb⟩ := hJ0
    have hGJ : GX J nw f T S F W := by rw [hJ]; exact hG.ext (fun i h1 h2 => xrow_o (by omega))
    have hb5 : ∀ q, q < 20 → J 5 q = brY f T (f 2) (f 3) q := fun q hq => by rw [hJ, xrow_e]; exact hb q hq
    refine g_iconst (v := nI 0) hX dX5_met_28 (by decide) ?_
    refine g_istore_n (L' := [(0, .ref 0), (1, .int x), (2, .int (nI 0))]) hX dX5_met_29 rfl (by decide) rfl ?_
    refine g_iconst (v := nI 0) hX dX5_met_30 (by decide) ?_
    refine g_istore_n (L' := [(0, .ref 0), (1, .int x), (2, .int (nI 0)), (3, .int (nI 0))]) hX dX5_met_31 rfl (by decide) rfl ?_
    have cut32 : ∀ (fuel : Nat) (c : Int32) (k : Nat) (hk : k ≤ 31) (hc : c = bitsI (fun e => inP x e ∧ mtP (J 5) f S (nI e)) k), 31 - k < fuel → G X 319 0 0 J (xRL nw sp) 32 [(0, .ref 0), (1, .int x), (2, .int c), (3, .int (nI k))] [] := by
      intro fuel
      induction fuel with
      | zero => intro c k hk hc hfuel; omega
      | succ fuel ih =>
        intro c k hk hc hfuel
        refine g_iload_n hX dX5_met_32 rfl 3 rfl ?_
        refine g_bipush (v := nI 31) hX dX5_met_33 (by decide) ?_
        refine g_ci_ge (a := ((k : Nat) : Int)) (b := (31 : Int)) (tgt := 73) hX dX5_met_35 (by decide) (nI_toInt (by omega)) (by decide) (fun h35 => ?_) (fun h35 => ?_)
        · refine g_iload_n hX dX5_met_73 rfl 2 rfl ?_
          exact g_iret hX hR dX5_met_74 (by decide) (by decide) ⟨_, rfl, rfl, ⟨by rw [hc, show k = 31 by omega]; exact bits_congr (fun k hk => and_congr_right fun _ => mtP_congr hb5 hW), b, hJ⟩, rfl⟩
        · refine g_iload_n hX dX5_met_38 rfl 1 rfl ?_
          refine g_iload_n hX dX5_met_39 rfl 3 rfl ?_
          refine g_callSi hX (as := [.int x, .int (nI k)]) (fun l => c_X5_isIn l (I := J) (x := x) (k := k) ) mX5_isIn sX5_isIn lX5_201 rfl dX5_met_40 rfl (by decide) (Nat.le_of_ble_eq_true rfl) (by decide) (by decide) ?_
          refine g_cb_eq (tgt := 67) hX dX5_met_43 (by decide) (fun h43 => ?_) (fun h43 => ?_)
          · refine g_iinc (v := nI (k + 1)) (L' := [(0, .ref 0), (1, .int x), (2, .int c), (3, .int (nI (k + 1)))]) hX dX5_met_67 (by decide) 3 rfl (nI_add k 1) rfl ?_
            refine g_goto (tgt := 32) hX dX5_met_70 (by decide) ?_
            exact ih c (k + 1) (by first | assumption | omega) (by first | exact bits_t hc ⟨h43, h58⟩ | exact bits_f' hc (fun q => h58 q.2) | exact bits_f' hc (fun q => h43 q.1)) (by omega)
          · refine g_aload_n hX dX5_met_46 rfl 0 rfl ?_
            refine g_getR (j := 4) hX (by decide) (by decide) xCl5 2 (by decide) (by decide) kX5_25 dX5_met_47 rfl ?_
            refine g_aload_n hX dX5_met_50 rfl 0 rfl ?_
            refine g_getR (j := nw) hX (by decide) (by decide) xCl5 4 (by decide) (by decide) kX5_39 dX5_met_51 rfl ?_
            refine g_iload_n hX dX5_met_54 rfl 3 rfl ?_
            refine g_callVi hX (as := [.ref nw, .int (nI k)]) (fun l => c_X3_wantsAreMet l (I := J) (g := nw) (T := T) (S := S) (F := F) (W := W) (f := f) (e := (nI k)) (hg := hnw) (hG := (by first | assumption | omega)) (hW := (by first | assumption | omega))) mX3_wantsAreMet vX3_wantsAreMet lX5_204 (by decide) (by decide) xCl3 rfl rfl dX5_met_55 rfl (by decide) (Nat.le_of_ble_eq_true rfl) (by decide) (by decide) ?_
            refine g_cb_eq (tgt := 67) hX dX5_met_58 (by decide) (fun h58 => ?_) (fun h58 => ?_)
            · refine g_iinc (v := nI (k + 1)) (L' := [(0, .ref 0), (1, .int x), (2, .int c), (3, .int (nI (k + 1)))]) hX dX5_met_67 (by decide) 3 rfl (nI_add k 1) rfl ?_
              refine g_goto (tgt := 32) hX dX5_met_70 (by decide) ?_
              exact ih c (k + 1) (by first | assumption | omega) (by first | exact bits_t hc ⟨h43, h58⟩ | exact bits_f' hc (fun q => h58 q.2) | exact bits_f' hc (fun q => h43 q.1)) (by omega)
            · refine g_iload_n hX dX5_met_61 rfl 2 rfl ?_
              refine g_iconst (v := nI 1) hX dX5_met_62 (by decide) ?_
              refine g_iload_n hX dX5_met_63 rfl 3 rfl ?_
              refine g_ishl (v := (nI 1) <<< ((nI k) &&& 31)) hX dX5_met_64 rfl ?_
              refine g_ior (v := c ||| ((nI 1) <<< ((nI k) &&& 31))) hX dX5_met_65 rfl ?_
              refine g_istore_n (L' := [(0, .ref 0), (1, .int x), (2, .int (c ||| ((nI 1) <<< ((nI k) &&& 31)))), (3, .int (nI k))]) hX dX5_met_66 rfl (by decide) rfl ?_
              refine g_iinc (v := nI (k + 1)) (L' := [(0, .ref 0), (1, .int x), (2, .int (c ||| ((nI 1) <<< ((nI k) &&& 31)))), (3, .int (nI (k + 1)))]) hX dX5_met_67 (by decide) 3 rfl (nI_add k 1) rfl ?_
              refine g_goto (tgt := 32) hX dX5_met_70 (by decide) ?_
              exact ih (c ||| ((nI 1) <<< ((nI k) &&& 31))) (k + 1) (by first | assumption | omega) (by first | exact bits_t hc ⟨h43, h58⟩ | exact bits_f' hc (fun q => h58 q.2) | exact bits_f' hc (fun q => h43 q.1)) (by omega)
    exact cut32 _ (nI 0) 0 (by first | assumption | omega) rfl (Nat.lt_succ_self _)
  · exfalso; omega

theorem c_X5_moon_ok (l : Launch) {nw sp : Nat} {I : xM} {T S F W : Nat} {f : Nat → Int32} {e : Int32} (hst : I 0 6 = nI 1) (hnw : xG nw) (hG : GX I nw f T S F W) (hW : WF f T S F W) (he0 : 0 ≤ e.toInt) (he3 : e.toInt ≤ 30) : xC l 5 0 0 yX5_moon cX5_moon 6 (some .int) 319 [.ref 0, .int e] I (xRL nw sp) (xpR 319 (xRL nw sp) (fun r J => r = bitsI (mnP (brY f T (f 2) (f 3)) f e) 13 ∧ ∃ b, J = xrow I 5 b)) := by
  refine xC_of (by decide) (Nat.le_of_ble_eq_true rfl) (fun X hXl hX hR => ?_)
  have hX : xOK X RX5 cX5_moon 6 5 0 0 := hX
  show G X 319 0 0 I (xRL nw sp) 0 [(0, .ref 0), (1, .int e)] []
  have hg8 := xG_8 hnw
  have hT6 := hW.T6
  have hS6 := hW.S6
  refine g_aload_n hX dX5_moon_0 rfl 0 rfl ?_
  refine g_getI (v := nI 1) hX (by decide) (by decide) xCl5 6 (by decide) (by decide) kX5_46 dX5_moon_1 hst ?_
  refine g_cz_ne (a := (1 : Int)) (tgt := 10) hX dX5_moon_4 (by decide) (by decide) (fun _ => ?_) (fun q => absurd q (by decide))
  refine g_iload_n hX dX5_moon_10 rfl 1 rfl ?_
  refine g_callSi hX (as := [.int e]) (fun l => c_X5_isEye l (I := I) (x := e) ) mX5_isEye sX5_isEye lX5_187 rfl dX5_moon_11 rfl (by decide) (Nat.le_of_ble_eq_true rfl) (by decide) (by decide) ?_
  refine g_cb_ne (tgt := 20) hX dX5_moon_14 (by decide) (fun h14 => ?_) (fun h14 => ?_)
  · refine g_aload_n hX dX5_moon_20 rfl 0 rfl ?_
    refine g_getR (j := 4) hX (by decide) (by decide) xCl5 2 (by decide) (by decide) kX5_25 dX5_moon_21 rfl ?_
    refine g_aload_n hX dX5_moon_24 rfl 0 rfl ?_
    refine g_getR (j := nw) hX (by decide) (by decide) xCl5 4 (by decide) (by decide) kX5_39 dX5_moon_25 rfl ?_
    refine g_callVrv hX (as := [.ref nw]) (fun l => c_X3_lookNow l (I := I) (g := nw) (T := T) (S := S) (F := F) (W := W) (f := f) (hg := hnw) (hG := (by first | assumption | omega)) (hW := (by first | assumption | omega))) mX3_lookNow vX3_lookNow lX5_181 (by decide) (by decide) xCl3 rfl rfl dX5_moon_28 rfl (by decide) (Nat.le_of_ble_eq_true rfl) (by decide) (by decide) (fun J hJ0 => ?_)
    obtain ⟨b, hJ, hb⟩ := hJ0
    have hGJ : GX J nw f T S F W := by rw [hJ]; exact hG.ext (fun i h1 h2 => xrow_o (by omega))
    have hb5 : ∀ q, q < 20 → J 5 q = brY f T (f 2) (f 3) q := fun q hq => by rw [hJ, xrow_e]; exact hb q hq
    refine g_aload_n hX dX5_moon_31 rfl 0 rfl ?_
    refine g_getR (j := nw) hX (by decide) (by decide) xCl5 4 (by decide) (by decide) kX5_39 dX5_moon_32 rfl ?_
    refine g_getR (j := nw + 1) hX (xG_n (j := 0) hnw (by decide)) (xG_K0 hnw) xCl0 0 (by decide) (by decide) kX5_171 dX5_moon_35 (xRL_g0 hnw) ?_
    refine g_iconst (v := nI 0) hX dX5_moon_38 (by decide) ?_
    refine g_iald (v := f (6 + 0)) hX (xG_n (j := 1) hnw (by decide)) (xG_K1 hnw) 0 rfl (by rw [(xG_N1 hnw)]; decide) dX5_moon_39 (hGJ.gr (by decide)) ?_
    refine g_iload_n hX dX5_moon_40 rfl 1 rfl ?_
    refine g_iadd (v := (f (6 + 0)) + e) hX dX5_moon_41 rfl ?_
    refine g_istore_n (L' := [(0, .ref 0), (1, .int e), (2, .int ((f (6 + 0)) + e))]) hX dX5_moon_42 rfl (by decide) rfl ?_
    refine g_iconst (v := nI 0) hX dX5_moon_43 (by decide) ?_
    refine g_istore_n (L' := [(0, .ref 0), (1, .int e), (2, .int ((f (6 + 0)) + e)), (3, .int (nI 0))]) hX dX5_moon_44 rfl (by decide) rfl ?_
    refine g_iconst (v := nI 0) hX dX5_moon_45 (by decide) ?_
    refine g_istore (L' := [(0, .ref 0), (1, .int e), (2, .int ((f (6 + 0)) + e)), (3, .int (nI 0)), (4, .int (nI 0))]) hX dX5_moon_46 (by decide) rfl ?_
    have cut48 : ∀ (fuel : Nat) (c : Int32) (k : Nat) (hk : k ≤ 13) (hc : c = bitsI (mnP (J 5) f e) k), 13 - k < fuel → G X 319 0 0 J (xRL nw sp) 48 [(0, .ref 0), (1, .int e), (2, .int (f (6 + 0) + e)), (3, .int c), (4, .int (nI k))] [] := by
      intro fuel
      induction fuel with
      | zero => intro c k hk hc hfuel; omega
      | succ fuel ih =>
        intro c k hk hc hfuel
        refine g_iload hX dX5_moon_48 4 rfl ?_
        refine g_bipush (v := nI 13) hX dX5_moon_50 (by decide) ?_
        refine g_ci_ge (a := ((k : Nat) : Int)) (b := (13 : Int)) (tgt := 104) hX dX5_moon_52 (by decide) (nI_toInt (by omega)) (by decide) (fun h52 => ?_) (fun h52 => ?_)
        · refine g_iload_n hX dX5_moon_104 rfl 3 rfl ?_
          exact g_iret hX hR dX5_moon_105 (by decide) (by decide) ⟨_, rfl, rfl, ⟨by rw [hc, show k = 13 by omega]; exact bits_congr (fun k hk => mnP_congr hb5), b, hJ⟩, rfl⟩
        · refine g_aload_n hX dX5_moon_55 rfl 0 rfl ?_
          refine g_getR (j := nw) hX (by decide) (by decide) xCl5 4 (by decide) (by decide) kX5_39 dX5_moon_56 rfl ?_
          refine g_getR (j := nw + 1) hX (xG_n (j := 0) hnw (by decide)) (xG_K0 hnw) xCl0 0 (by decide) (by decide) kX5_171 dX5_moon_59 (xRL_g0 hnw) ?_
          refine g_bipush (v := nI 19) hX dX5_moon_62 (by decide) ?_
          refine g_iald (v := f (6 + 19)) hX (xG_n (j := 1) hnw (by decide)) (xG_K1 hnw) 19 rfl (by rw [(xG_N1 hnw)]; decide) dX5_moon_64 (hGJ.gr (by decide)) ?_
          refine g_bipush (v := nI 20) hX dX5_moon_65 (by decide) ?_
          refine g_iadd (v := (f (6 + 19)) + (nI 20)) hX dX5_moon_67 rfl ?_
          refine g_iconst (v := nI 3) hX dX5_moon_68 (by decide) ?_
          refine g_iload hX dX5_moon_69 4 rfl ?_
          refine g_imul (v := nI (3 * k)) hX dX5_moon_71 (nI_mul 3 k) ?_
          refine g_iadd (v := ((f (6 + 19)) + (nI 20)) + (nI (3 * k))) hX dX5_moon_72 rfl ?_
          refine g_istore (L' := [(0, .ref 0), (1, .int e), (2, .int (f (6 + 0) + e)), (3, .int c), (4, .int (nI k)), (5, .int (((f (6 + 19)) + (nI 20)) + (nI (3 * k))))]) hX dX5_moon_73 (by decide) rfl ?_
          refine g_aload_n hX dX5_moon_75 rfl 0 rfl ?_
          refine g_getR (j := 4) hX (by decide) (by decide) xCl5 2 (by decide) (by decide) kX5_25 dX5_moon_76 rfl ?_
          refine g_iload_n hX dX5_moon_79 rfl 2 rfl ?_
          refine g_iconst (v := nI 0) hX dX5_moon_80 (by decide) ?_
          refine g_iload hX dX5_moon_81 5 rfl ?_
          refine g_bipush (v := nI 19) hX dX5_moon_83 (by decide) ?_
          refine g_callVi hX (as := [.int (f (6 + 0) + e), .int (nI 0), .int (((f (6 + 19)) + (nI 20)) + (nI (3 * k))), .int (nI 19)]) (fun l => c_X3_isFree l (I := J) (a := 0) (c := 19) (x := (f (6 + 0) + e)) (y := (((f (6 + 19)) + (nI 20)) + (nI (3 * k)))) (ha := (by first | assumption | omega)) (hc := (by first | assumption | omega))) mX3_isFree vX3_isFree lX5_227 (by decide) (by decide) xCl3 rfl rfl dX5_moon_85 rfl (by decide) (Nat.le_of_ble_eq_true rfl) (by decide) (by decide) ?_
          refine g_cb_eq (tgt := 98) hX dX5_moon_88 (by decide) (fun h88 => ?_) (fun h88 => ?_)
          · refine g_iinc (v := nI (k + 1)) (L' := [(0, .ref 0), (1, .int e), (2, .int (f (6 + 0) + e)), (3, .int c), (4, .int (nI (k + 1))), (5, .int (((f (6 + 19)) + (nI 20)) + (nI (3 * k))))]) hX dX5_moon_98 (by decide) 4 rfl (nI_add k 1) rfl ?_
            refine g_goto (tgt := 48) hX dX5_moon_101 (by decide) ?_
            refine g_loc [0, 1, 2, 3, 4] rfl ?_
            exact ih c (k + 1) (by first | assumption | omega) (by first | exact bits_t hc h88 | exact bits_f' hc h88) (by omega)
          · refine g_iload_n hX dX5_moon_91 rfl 3 rfl ?_
            refine g_iconst (v := nI 1) hX dX5_moon_92 (by decide) ?_
            refine g_iload hX dX5_moon_93 4 rfl ?_
            refine g_ishl (v := (nI 1) <<< ((nI k) &&& 31)) hX dX5_moon_95 rfl ?_
            refine g_ior (v := c ||| ((nI 1) <<< ((nI k) &&& 31))) hX dX5_moon_96 rfl ?_
            refine g_istore_n (L' := [(0, .ref 0), (1, .int e), (2, .int (f (6 + 0) + e)), (3, .int (c ||| ((nI 1) <<< ((nI k) &&& 31)))), (4, .int (nI k)), (5, .int (((f (6 + 19)) + (nI 20)) + (nI (3 * k))))]) hX dX5_moon_97 rfl (by decide) rfl ?_
            refine g_iinc (v := nI (k + 1)) (L' := [(0, .ref 0), (1, .int e), (2, .int (f (6 + 0) + e)), (3, .int (c ||| ((nI 1) <<< ((nI k) &&& 31)))), (4, .int (nI (k + 1))), (5, .int (((f (6 + 19)) + (nI 20)) + (nI (3 * k))))]) hX dX5_moon_98 (by decide) 4 rfl (nI_add k 1) rfl ?_
            refine g_goto (tgt := 48) hX dX5_moon_101 (by decide) ?_
            refine g_loc [0, 1, 2, 3, 4] rfl ?_
            exact ih (c ||| ((nI 1) <<< ((nI k) &&& 31))) (k + 1) (by first | assumption | omega) (by first | exact bits_t hc h88 | exact bits_f' hc h88) (by omega)
    exact cut48 _ (nI 0) 0 (by first | assumption | omega) rfl (Nat.lt_succ_self _)
  · exfalso; omega

theorem c_X5_placesSeeing (l : Launch) {nw sp : Nat} {I : xM} {T S F W : Nat} {f : Nat → Int32} {e x y : Int32} (hnw : xG nw) (hG : GX I nw f T S F W) (hW : WF f T S F W) : xC l 5 0 0 yX5_placesSeeing cX5_placesSeeing 6 (some .int) 319 [.ref 0, .int e, .int x, .int y] I (xRL nw sp) (xpR 319 (xRL nw sp) (fun r J => r = bitsI (fun q => (bitsI (snP (brY f T (f 2) (f 3)) f q e) S &&& x).toInt = y.toInt) 19 ∧ ∃ b, J = xrow I 5 b)) := by
  refine xC_of (by decide) (Nat.le_of_ble_eq_true rfl) (fun X hXl hX hR => ?_)
  have hX : xOK X RX5 cX5_placesSeeing 6 5 0 0 := hX
  show G X 319 0 0 I (xRL nw sp) 0 [(0, .ref 0), (1, .int e), (2, .int x), (3, .int y)] []
  have hg8 := xG_8 hnw
  have hT6 := hW.T6
  have hS6 := hW.S6
  refine g_aload_n hX dX5_placesSeeing_0 rfl 0 rfl ?_
  refine g_getR (j := 4) hX (by decide) (by decide) xCl5 2 (by decide) (by decide) kX5_25 dX5_placesSeeing_1 rfl ?_
  refine g_aload_n hX dX5_placesSeeing_4 rfl 0 rfl ?_
  refine g_getR (j := nw) hX (by decide) (by decide) xCl5 4 (by decide) (by decide) kX5_39 dX5_placesSeeing_5 rfl ?_
  refine g_callVrv hX (as := [.ref nw]) (fun l => c_X3_lookNow l (I := I) (g := nw) (T := T) (S := S) (F := F) (W := W) (f := f) (hg := hnw) (hG := (by first | assumption | omega)) (hW := (by first | assumption | omega))) mX3_lookNow vX3_lookNow lX5_181 (by decide) (by decide) xCl3 rfl rfl dX5_placesSeeing_8 rfl (by decide) (Nat.le_of_ble_eq_true rfl) (by decide) (by decide) (fun J hJ0 => ?_)
  obtain ⟨b, hJ, hb⟩ := hJ0
  have hGJ : GX J nw f T S F W := by rw [hJ]; exact hG.ext (fun i h1 h2 => xrow_o (by omega))
  have hb5 : ∀ q, q < 20 → J 5 q = brY f T (f 2) (f 3) q := fun q hq => by rw [hJ, xrow_e]; exact hb q hq
  refine g_iconst (v := nI 0) hX dX5_placesSeeing_11 (by decide) ?_
  refine g_istore (L' := [(0, .ref 0), (1, .int e), (2, .int x), (3, .int y), (4, .int (nI 0))]) hX dX5_placesSeeing_12 (by decide) rfl ?_
  refine g_iconst (v := nI 0) hX dX5_placesSeeing_14 (by decide) ?_
  refine g_istore (L' := [(0, .ref 0), (1, .int e), (2, .int x), (3, .int y), (4, .int (nI 0)), (5, .int (nI 0))]) hX dX5_placesSeeing_15 (by decide) rfl ?_
  have cut17 : ∀ (fuel : Nat) (c : Int32) (k : Nat) (hk : k ≤ 19) (hc : c = bitsI (fun q => (bitsI (snP (J 5) f q e) S &&& x).toInt = y.toInt) k), 19 - k < fuel → G X 319 0 0 J (xRL nw sp) 17 [(0, .ref 0), (1, .int e), (2, .int x), (3, .int y), (4, .int c), (5, .int (nI k))] [] := by
    intro fuel
    induction fuel with
    | zero => intro c k hk hc hfuel; omega
    | succ fuel ih =>
      intro c k hk hc hfuel
      refine g_iload hX dX5_placesSeeing_17 5 rfl ?_
      refine g_bipush (v := nI 19) hX dX5_placesSeeing_19 (by decide) ?_
      refine g_ci_ge (a := ((k : Nat) : Int)) (b := (19 : Int)) (tgt := 59) hX dX5_placesSeeing_21 (by decide) (nI_toInt (by omega)) (by decide) (fun h21 => ?_) (fun h21 => ?_)
      · refine g_iload hX dX5_placesSeeing_59 4 rfl ?_
        exact g_iret hX hR dX5_placesSeeing_61 (by decide) (by decide) ⟨_, rfl, rfl, ⟨by rw [hc, show k = 19 by omega]; exact bits_congr (fun q hq => by rw [bits_congr (fun k hk => snP_congr hb5 (hW.ts9 hk))]), b, hJ⟩, rfl⟩
      · refine g_aload_n hX dX5_placesSeeing_24 rfl 0 rfl ?_
        refine g_getR (j := 4) hX (by decide) (by decide) xCl5 2 (by decide) (by decide) kX5_25 dX5_placesSeeing_25 rfl ?_
        refine g_aload_n hX dX5_placesSeeing_28 rfl 0 rfl ?_
        refine g_getR (j := nw) hX (by decide) (by decide) xCl5 4 (by decide) (by decide) kX5_39 dX5_placesSeeing_29 rfl ?_
        refine g_iload hX dX5_placesSeeing_32 5 rfl ?_
        refine g_iload_n hX dX5_placesSeeing_34 rfl 1 rfl ?_
        refine g_callVi hX (as := [.ref nw, .int (nI k), .int e]) (fun l => c_X3_thingsFrom l (I := J) (g := nw) (T := T) (S := S) (F := F) (W := W) (f := f) (s := k) (e := e) (hg := hnw) (hG := (by first | assumption | omega)) (hW := (by first | assumption | omega)) (hs := (by first | assumption | omega))) mX3_thingsFrom vX3_thingsFrom lX5_190 (by decide) (by decide) xCl3 rfl rfl dX5_placesSeeing_35 rfl (by decide) (Nat.le_of_ble_eq_true rfl) (by decide) (by decide) ?_
        refine g_iload_n hX dX5_placesSeeing_38 rfl 2 rfl ?_
        refine g_iand (v := (bitsI (snP (J 5) f k e) S) &&& x) hX dX5_placesSeeing_39 rfl ?_
        refine g_iload_n hX dX5_placesSeeing_40 rfl 3 rfl ?_
        refine g_ci_ne (a := ((bitsI (snP (J 5) f k e) S) &&& x).toInt) (b := y.toInt) (tgt := 53) hX dX5_placesSeeing_41 (by decide) rfl rfl (fun h41 => ?_) (fun h41 => ?_)
        · refine g_iinc (v := nI (k + 1)) (L' := [(0, .ref 0), (1, .int e), (2, .int x), (3, .int y), (4, .int c), (5, .int (nI (k + 1)))]) hX dX5_placesSeeing_53 (by decide) 5 rfl (nI_add k 1) rfl ?_
          refine g_goto (tgt := 17) hX dX5_placesSeeing_56 (by decide) ?_
          exact ih c (k + 1) (by first | assumption | omega) (by first | exact bits_t hc h41 | exact bits_f' hc h41) (by omega)
        · refine g_iload hX dX5_placesSeeing_44 4 rfl ?_
          refine g_iconst (v := nI 1) hX dX5_placesSeeing_46 (by decide) ?_
          refine g_iload hX dX5_placesSeeing_47 5 rfl ?_
          refine g_ishl (v := (nI 1) <<< ((nI k) &&& 31)) hX dX5_placesSeeing_49 rfl ?_
          refine g_ior (v := c ||| ((nI 1) <<< ((nI k) &&& 31))) hX dX5_placesSeeing_50 rfl ?_
          refine g_istore (L' := [(0, .ref 0), (1, .int e), (2, .int x), (3, .int y), (4, .int (c ||| ((nI 1) <<< ((nI k) &&& 31)))), (5, .int (nI k))]) hX dX5_placesSeeing_51 (by decide) rfl ?_
          refine g_iinc (v := nI (k + 1)) (L' := [(0, .ref 0), (1, .int e), (2, .int x), (3, .int y), (4, .int (c ||| ((nI 1) <<< ((nI k) &&& 31)))), (5, .int (nI (k + 1)))]) hX dX5_placesSeeing_53 (by decide) 5 rfl (nI_add k 1) rfl ?_
          refine g_goto (tgt := 17) hX dX5_placesSeeing_56 (by decide) ?_
          exact ih (c ||| ((nI 1) <<< ((nI k) &&& 31))) (k + 1) (by first | assumption | omega) (by first | exact bits_t hc h41 | exact bits_f' hc h41) (by omega)
  exact cut17 _ (nI 0) 0 (by first | assumption | omega) rfl (Nat.lt_succ_self _)

theorem c_X5_path_none (l : Launch) {nw sp : Nat} {I : xM} {x y : Int32} (hst : I 0 6 = nI 0) : xC l 1 0 0 yX5_path cX5_path 3 (some .int) 319 [.ref 0, .int x, .int y] I (xRL nw sp) (xpI (-1000002) 319 I (xRL nw sp)) := by
  refine xC_of (by decide) (Nat.le_of_ble_eq_true rfl) (fun X hXl hX hR => ?_)
  have hX : xOK X RX5 cX5_path 3 1 0 0 := hX
  show G X 319 0 0 I (xRL nw sp) 0 [(0, .ref 0), (1, .int x), (2, .int y)] []
  refine g_aload_n hX dX5_path_0 rfl 0 rfl ?_
  refine g_getI (v := nI 0) hX (by decide) (by decide) xCl5 6 (by decide) (by decide) kX5_46 dX5_path_1 hst ?_
  refine g_cz_ne (a := (0 : Int)) (tgt := 10) hX dX5_path_4 (by decide) (by decide) (fun q => absurd q (by decide)) (fun _ => ?_)
  refine g_ldc (v := -1000002) hX cX5_139 dX5_path_7 ?_
  exact g_iret hX hR dX5_path_9 (by decide) (by decide) ⟨congrArg (fun z => some (Value.int z)) rfl, rfl, rfl, rfl⟩

theorem c_X5_path_bad (l : Launch) {nw sp : Nat} {I : xM} {T S F W : Nat} {f : Nat → Int32} {x y : Int32} (hst : I 0 6 = nI 1) (hnw : xG nw) (hG : GX I nw f T S F W) (hW : WF f T S F W) (hb : ¬ (0 ≤ x.toInt ∧ x.toInt ≤ 30 ∧ (0 ≤ y.toInt ∧ y.toInt < 2 ^ S))) : xC l 2 0 0 yX5_path cX5_path 3 (some .int) 319 [.ref 0, .int x, .int y] I (xRL nw sp) (xpI (-1000001) 319 I (xRL nw sp)) := by
  refine xC_of (by decide) (Nat.le_of_ble_eq_true rfl) (fun X hXl hX hR => ?_)
  have hX : xOK X RX5 cX5_path 3 2 0 0 := hX
  show G X 319 0 0 I (xRL nw sp) 0 [(0, .ref 0), (1, .int x), (2, .int y)] []
  have hg8 := xG_8 hnw
  have hT6 := hW.T6
  have hS6 := hW.S6
  refine g_aload_n hX dX5_path_0 rfl 0 rfl ?_
  refine g_getI (v := nI 1) hX (by decide) (by decide) xCl5 6 (by decide) (by decide) kX5_46 dX5_path_1 hst ?_
  refine g_cz_ne (a := (1 : Int)) (tgt := 10) hX dX5_path_4 (by decide) (by decide) (fun _ => ?_) (fun q => absurd q (by decide))
  refine g_iload_n hX dX5_path_10 rfl 1 rfl ?_
  refine g_callSi hX (as := [.int x]) (fun l => c_X5_isEye l (I := I) (x := x) ) mX5_isEye sX5_isEye lX5_187 rfl dX5_path_11 rfl (by decide) (Nat.le_of_ble_eq_true rfl) (by decide) (by decide) ?_
  refine g_cb_eq (tgt := 28) hX dX5_path_14 (by decide) (fun h14 => ?_) (fun h14 => ?_)
  · refine g_ldc (v := -1000001) hX cX5_79 dX5_path_28 ?_
    exact g_iret hX hR dX5_path_30 (by decide) (by decide) ⟨congrArg (fun z => some (Value.int z)) rfl, rfl, rfl, rfl⟩
  · refine g_aload_n hX dX5_path_17 rfl 0 rfl ?_
    refine g_getR (j := nw) hX (by decide) (by decide) xCl5 4 (by decide) (by decide) kX5_39 dX5_path_18 rfl ?_
    refine g_iload_n hX dX5_path_21 rfl 2 rfl ?_
    refine g_callVi hX (as := [.int y]) (fun l => c_X0_hasThings l (I := I) (g := nw) (T := T) (S := S) (F := F) (W := W) (f := f) (x := y) (hg := hnw) (hG := (by first | assumption | omega)) (hW := (by first | assumption | omega))) mX0_hasThings vX0_hasThings lX5_231 (xG_n (j := 0) hnw (by decide)) (xG_K0 hnw) xCl0 rfl rfl dX5_path_22 rfl (by decide) (Nat.le_of_ble_eq_true rfl) (by decide) (by decide) ?_
    refine g_cb_ne (tgt := 31) hX dX5_path_25 (by decide) (fun h25 => ?_) (fun h25 => ?_)
    · exact absurd ⟨h14.1, h14.2, h25⟩ hb
    · refine g_ldc (v := -1000001) hX cX5_79 dX5_path_28 ?_
      exact g_iret hX hR dX5_path_30 (by decide) (by decide) ⟨congrArg (fun z => some (Value.int z)) rfl, rfl, rfl, rfl⟩

theorem c_X5_path_ok (l : Launch) {nw sp : Nat} {I : xM} {T S F W : Nat} {f : Nat → Int32} {e x : Int32} (hst : I 0 6 = nI 1) (hnw : xG nw) (hG : GX I nw f T S F W) (hW : WF f T S F W) (he0 : 0 ≤ e.toInt) (he3 : e.toInt ≤ 30) (hth2 : 0 ≤ x.toInt ∧ x.toInt < 2 ^ S) : xC l 6 0 0 yX5_path cX5_path 3 (some .int) 319 [.ref 0, .int e, .int x] I (xRL nw sp) (xpR 319 (xRL nw sp) (fun r J => r = bitsI (fun q => (bitsI (snP (brY f T (f 2) (f 3)) f q e) S &&& x).toInt = (nI 0).toInt) 19 ∧ ∃ b, J = xrow I 5 b)) := by
  refine xC_of (by decide) (Nat.le_of_ble_eq_true rfl) (fun X hXl hX hR => ?_)
  have hX : xOK X RX5 cX5_path 3 6 0 0 := hX
  show G X 319 0 0 I (xRL nw sp) 0 [(0, .ref 0), (1, .int e), (2, .int x)] []
  have hg8 := xG_8 hnw
  have hT6 := hW.T6
  have hS6 := hW.S6
  refine g_aload_n hX dX5_path_0 rfl 0 rfl ?_
  refine g_getI (v := nI 1) hX (by decide) (by decide) xCl5 6 (by decide) (by decide) kX5_46 dX5_path_1 hst ?_
  refine g_cz_ne (a := (1 : Int)) (tgt := 10) hX dX5_path_4 (by decide) (by decide) (fun _ => ?_) (fun q => absurd q (by decide))
  refine g_iload_n hX dX5_path_10 rfl 1 rfl ?_
  refine g_callSi hX (as := [.int e]) (fun l => c_X5_isEye l (I := I) (x := e) ) mX5_isEye sX5_isEye lX5_187 rfl dX5_path_11 rfl (by decide) (Nat.le_of_ble_eq_true rfl) (by decide) (by decide) ?_
  refine g_cb_eq (tgt := 28) hX dX5_path_14 (by decide) (fun h14 => ?_) (fun h14 => ?_)
  · exfalso; omega
  · refine g_aload_n hX dX5_path_17 rfl 0 rfl ?_
    refine g_getR (j := nw) hX (by decide) (by decide) xCl5 4 (by decide) (by decide) kX5_39 dX5_path_18 rfl ?_
    refine g_iload_n hX dX5_path_21 rfl 2 rfl ?_
    refine g_callVi hX (as := [.int x]) (fun l => c_X0_hasThings l (I := I) (g := nw) (T := T) (S := S) (F := F) (W := W) (f := f) (x := x) (hg := hnw) (hG := (by first | assumption | omega)) (hW := (by first | assumption | omega))) mX0_hasThings vX0_hasThings lX5_231 (xG_n (j := 0) hnw (by decide)) (xG_K0 hnw) xCl0 rfl rfl dX5_path_22 rfl (by decide) (Nat.le_of_ble_eq_true rfl) (by decide) (by decide) ?_
    refine g_cb_ne (tgt := 31) hX dX5_path_25 (by decide) (fun h25 => ?_) (fun h25 => ?_)
    · refine g_aload_n hX dX5_path_31 rfl 0 rfl ?_
      refine g_iload_n hX dX5_path_32 rfl 1 rfl ?_
      refine g_iload_n hX dX5_path_33 rfl 2 rfl ?_
      refine g_iconst (v := nI 0) hX dX5_path_34 (by decide) ?_
      refine g_callVr hX (as := [.int e, .int x, .int (nI 0)]) (fun l => c_X5_placesSeeing l (I := I) (T := T) (S := S) (F := F) (W := W) (f := f) (e := e) (x := x) (y := (nI 0)) (hnw := (by first | assumption | omega)) (hG := (by first | assumption | omega)) (hW := (by first | assumption | omega))) mX5_placesSeeing vX5_placesSeeing lX5_234 (by decide) (by decide) xCl5 rfl rfl dX5_path_35 rfl (by decide) (Nat.le_of_ble_eq_true rfl) (by decide) (by decide) (fun r1 J hJ => ?_)
      exact g_iret hX hR dX5_path_38 (by decide) (by decide) ⟨_, rfl, rfl, hJ, rfl⟩
    · exact absurd hth2 h25

theorem c_X5_picture_none (l : Launch) {nw sp : Nat} {I : xM} {x y : Int32} (hst : I 0 6 = nI 0) : xC l 1 0 0 yX5_picture cX5_picture 3 (some .int) 319 [.ref 0, .int x, .int y] I (xRL nw sp) (xpI (-1000002) 319 I (xRL nw sp)) := by
  refine xC_of (by decide) (Nat.le_of_ble_eq_true rfl) (fun X hXl hX hR => ?_)
  have hX : xOK X RX5 cX5_picture 3 1 0 0 := hX
  show G X 319 0 0 I (xRL nw sp) 0 [(0, .ref 0), (1, .int x), (2, .int y)] []
  refine g_aload_n hX dX5_picture_0 rfl 0 rfl ?_
  refine g_getI (v := nI 0) hX (by decide) (by decide) xCl5 6 (by decide) (by decide) kX5_46 dX5_picture_1 hst ?_
  refine g_cz_ne (a := (0 : Int)) (tgt := 10) hX dX5_picture_4 (by decide) (by decide) (fun q => absurd q (by decide)) (fun _ => ?_)
  refine g_ldc (v := -1000002) hX cX5_139 dX5_picture_7 ?_
  exact g_iret hX hR dX5_picture_9 (by decide) (by decide) ⟨congrArg (fun z => some (Value.int z)) rfl, rfl, rfl, rfl⟩

theorem c_X5_picture_bad (l : Launch) {nw sp : Nat} {I : xM} {T S F W : Nat} {f : Nat → Int32} {x y : Int32} (hst : I 0 6 = nI 1) (hnw : xG nw) (hG : GX I nw f T S F W) (hW : WF f T S F W) (hb : ¬ (0 ≤ x.toInt ∧ x.toInt ≤ 30 ∧ (0 ≤ y.toInt ∧ y.toInt < 2 ^ S))) : xC l 2 0 0 yX5_picture cX5_picture 3 (some .int) 319 [.ref 0, .int x, .int y] I (xRL nw sp) (xpI (-1000001) 319 I (xRL nw sp)) := by
  refine xC_of (by decide) (Nat.le_of_ble_eq_true rfl) (fun X hXl hX hR => ?_)
  have hX : xOK X RX5 cX5_picture 3 2 0 0 := hX
  show G X 319 0 0 I (xRL nw sp) 0 [(0, .ref 0), (1, .int x), (2, .int y)] []
  have hg8 := xG_8 hnw
  have hT6 := hW.T6
  have hS6 := hW.S6
  refine g_aload_n hX dX5_picture_0 rfl 0 rfl ?_
  refine g_getI (v := nI 1) hX (by decide) (by decide) xCl5 6 (by decide) (by decide) kX5_46 dX5_picture_1 hst ?_
  refine g_cz_ne (a := (1 : Int)) (tgt := 10) hX dX5_picture_4 (by decide) (by decide) (fun _ => ?_) (fun q => absurd q (by decide))
  refine g_iload_n hX dX5_picture_10 rfl 1 rfl ?_
  refine g_callSi hX (as := [.int x]) (fun l => c_X5_isEye l (I := I) (x := x) ) mX5_isEye sX5_isEye lX5_187 rfl dX5_picture_11 rfl (by decide) (Nat.le_of_ble_eq_true rfl) (by decide) (by decide) ?_
  refine g_cb_eq (tgt := 28) hX dX5_picture_14 (by decide) (fun h14 => ?_) (fun h14 => ?_)
  · refine g_ldc (v := -1000001) hX cX5_79 dX5_picture_28 ?_
    exact g_iret hX hR dX5_picture_30 (by decide) (by decide) ⟨congrArg (fun z => some (Value.int z)) rfl, rfl, rfl, rfl⟩
  · refine g_aload_n hX dX5_picture_17 rfl 0 rfl ?_
    refine g_getR (j := nw) hX (by decide) (by decide) xCl5 4 (by decide) (by decide) kX5_39 dX5_picture_18 rfl ?_
    refine g_iload_n hX dX5_picture_21 rfl 2 rfl ?_
    refine g_callVi hX (as := [.int y]) (fun l => c_X0_hasThings l (I := I) (g := nw) (T := T) (S := S) (F := F) (W := W) (f := f) (x := y) (hg := hnw) (hG := (by first | assumption | omega)) (hW := (by first | assumption | omega))) mX0_hasThings vX0_hasThings lX5_231 (xG_n (j := 0) hnw (by decide)) (xG_K0 hnw) xCl0 rfl rfl dX5_picture_22 rfl (by decide) (Nat.le_of_ble_eq_true rfl) (by decide) (by decide) ?_
    refine g_cb_ne (tgt := 31) hX dX5_picture_25 (by decide) (fun h25 => ?_) (fun h25 => ?_)
    · exact absurd ⟨h14.1, h14.2, h25⟩ hb
    · refine g_ldc (v := -1000001) hX cX5_79 dX5_picture_28 ?_
      exact g_iret hX hR dX5_picture_30 (by decide) (by decide) ⟨congrArg (fun z => some (Value.int z)) rfl, rfl, rfl, rfl⟩

theorem c_X5_picture_ok (l : Launch) {nw sp : Nat} {I : xM} {T S F W : Nat} {f : Nat → Int32} {e x : Int32} (hst : I 0 6 = nI 1) (hnw : xG nw) (hG : GX I nw f T S F W) (hW : WF f T S F W) (he0 : 0 ≤ e.toInt) (he3 : e.toInt ≤ 30) (hth2 : 0 ≤ x.toInt ∧ x.toInt < 2 ^ S) : xC l 6 0 0 yX5_picture cX5_picture 3 (some .int) 319 [.ref 0, .int e, .int x] I (xRL nw sp) (xpR 319 (xRL nw sp) (fun r J => r = bitsI (fun q => (bitsI (snP (brY f T (f 2) (f 3)) f q e) S &&& nI 63).toInt = x.toInt) 19 ∧ ∃ b, J = xrow I 5 b)) := by
  refine xC_of (by decide) (Nat.le_of_ble_eq_true rfl) (fun X hXl hX hR => ?_)
  have hX : xOK X RX5 cX5_picture 3 6 0 0 := hX
  show G X 319 0 0 I (xRL nw sp) 0 [(0, .ref 0), (1, .int e), (2, .int x)] []
  have hg8 := xG_8 hnw
  have hT6 := hW.T6
  have hS6 := hW.S6
  refine g_aload_n hX dX5_picture_0 rfl 0 rfl ?_
  refine g_getI (v := nI 1) hX (by decide) (by decide) xCl5 6 (by decide) (by decide) kX5_46 dX5_picture_1 hst ?_
  refine g_cz_ne (a := (1 : Int)) (tgt := 10) hX dX5_picture_4 (by decide) (by decide) (fun _ => ?_) (fun q => absurd q (by decide))
  refine g_iload_n hX dX5_picture_10 rfl 1 rfl ?_
  refine g_callSi hX (as := [.int e]) (fun l => c_X5_isEye l (I := I) (x := e) ) mX5_isEye sX5_isEye lX5_187 rfl dX5_picture_11 rfl (by decide) (Nat.le_of_ble_eq_true rfl) (by decide) (by decide) ?_
  refine g_cb_eq (tgt := 28) hX dX5_picture_14 (by decide) (fun h14 => ?_) (fun h14 => ?_)
  · exfalso; omega
  · refine g_aload_n hX dX5_picture_17 rfl 0 rfl ?_
    refine g_getR (j := nw) hX (by decide) (by decide) xCl5 4 (by decide) (by decide) kX5_39 dX5_picture_18 rfl ?_
    refine g_iload_n hX dX5_picture_21 rfl 2 rfl ?_
    refine g_callVi hX (as := [.int x]) (fun l => c_X0_hasThings l (I := I) (g := nw) (T := T) (S := S) (F := F) (W := W) (f := f) (x := x) (hg := hnw) (hG := (by first | assumption | omega)) (hW := (by first | assumption | omega))) mX0_hasThings vX0_hasThings lX5_231 (xG_n (j := 0) hnw (by decide)) (xG_K0 hnw) xCl0 rfl rfl dX5_picture_22 rfl (by decide) (Nat.le_of_ble_eq_true rfl) (by decide) (by decide) ?_
    refine g_cb_ne (tgt := 31) hX dX5_picture_25 (by decide) (fun h25 => ?_) (fun h25 => ?_)
    · refine g_aload_n hX dX5_picture_31 rfl 0 rfl ?_
      refine g_iload_n hX dX5_picture_32 rfl 1 rfl ?_
      refine g_bipush (v := nI 63) hX dX5_picture_33 (by decide) ?_
      refine g_iload_n hX dX5_picture_35 rfl 2 rfl ?_
      refine g_callVr hX (as := [.int e, .int (nI 63), .int x]) (fun l => c_X5_placesSeeing l (I := I) (T := T) (S := S) (F := F) (W := W) (f := f) (e := e) (x := (nI 63)) (y := x) (hnw := (by first | assumption | omega)) (hG := (by first | assumption | omega)) (hW := (by first | assumption | omega))) mX5_placesSeeing vX5_placesSeeing lX5_234 (by decide) (by decide) xCl5 rfl rfl dX5_picture_36 rfl (by decide) (Nat.le_of_ble_eq_true rfl) (by decide) (by decide) (fun r1 J hJ => ?_)
      exact g_iret hX hR dX5_picture_39 (by decide) (by decide) ⟨_, rfl, rfl, hJ, rfl⟩
    · exact absurd hth2 h25

theorem c_X5_image_bad (l : Launch) {nw sp : Nat} {I : xM} {x : Int32} (hb : ¬ (0 ≤ x.toInt ∧ x.toInt ≤ 1)) : xC l 1 0 0 yX5_image cX5_image 2 (some .int) 319 [.ref 0, .int x] I (xRL nw sp) (xpI (-1000001) 319 I (xRL nw sp)) := by
  refine xC_of (by decide) (Nat.le_of_ble_eq_true rfl) (fun X hXl hX hR => ?_)
  have hX : xOK X RX5 cX5_image 2 1 0 0 := hX
  show G X 319 0 0 I (xRL nw sp) 0 [(0, .ref 0), (1, .int x)] []
  refine g_iload_n hX dX5_image_0 rfl 1 rfl ?_
  refine g_cz_lt (a := x.toInt) (tgt := 9) hX dX5_image_1 (by decide) rfl (fun h1 => ?_) (fun h1 => ?_)
  · refine g_ldc (v := -1000001) hX cX5_79 dX5_image_9 ?_
    exact g_iret hX hR dX5_image_11 (by decide) (by decide) ⟨congrArg (fun z => some (Value.int z)) rfl, rfl, rfl, rfl⟩
  · refine g_iload_n hX dX5_image_4 rfl 1 rfl ?_
    refine g_iconst (v := nI 2) hX dX5_image_5 (by decide) ?_
    refine g_ci_lt (a := x.toInt) (b := (2 : Int)) (tgt := 12) hX dX5_image_6 (by decide) rfl (by decide) (fun h6 => ?_) (fun h6 => ?_)
    · exfalso; omega
    · refine g_ldc (v := -1000001) hX cX5_79 dX5_image_9 ?_
      exact g_iret hX hR dX5_image_11 (by decide) (by decide) ⟨congrArg (fun z => some (Value.int z)) rfl, rfl, rfl, rfl⟩

theorem c_X5_image_state (l : Launch) {nw sp : Nat} {I : xM} {k : Nat} (hst : I 0 6 = nI 0) (hk : k < 2) : xC l 1 0 0 yX5_image cX5_image 2 (some .int) 319 [.ref 0, .int (nI k)] I (xRL nw sp) (xpI (-1000002) 319 I (xRL nw sp)) := by
  refine xC_of (by decide) (Nat.le_of_ble_eq_true rfl) (fun X hXl hX hR => ?_)
  have hX : xOK X RX5 cX5_image 2 1 0 0 := hX
  show G X 319 0 0 I (xRL nw sp) 0 [(0, .ref 0), (1, .int (nI k))] []
  refine g_iload_n hX dX5_image_0 rfl 1 rfl ?_
  refine g_cz_lt (a := ((k : Nat) : Int)) (tgt := 9) hX dX5_image_1 (by decide) (nI_toInt (by omega)) (fun h1 => ?_) (fun h1 => ?_)
  · exfalso; omega
  · refine g_iload_n hX dX5_image_4 rfl 1 rfl ?_
    refine g_iconst (v := nI 2) hX dX5_image_5 (by decide) ?_
    refine g_ci_lt (a := ((k : Nat) : Int)) (b := (2 : Int)) (tgt := 12) hX dX5_image_6 (by decide) (nI_toInt (by omega)) (by decide) (fun h6 => ?_) (fun h6 => ?_)
    · refine g_aload_n hX dX5_image_12 rfl 0 rfl ?_
      refine g_getI (v := nI 0) hX (by decide) (by decide) xCl5 6 (by decide) (by decide) kX5_46 dX5_image_13 hst ?_
      refine g_cz_ne (a := (0 : Int)) (tgt := 22) hX dX5_image_16 (by decide) (by decide) (fun q => absurd q (by decide)) (fun _ => ?_)
      refine g_ldc (v := -1000002) hX cX5_139 dX5_image_19 ?_
      exact g_iret hX hR dX5_image_21 (by decide) (by decide) ⟨congrArg (fun z => some (Value.int z)) rfl, rfl, rfl, rfl⟩
    · exfalso; omega

theorem c_X5_image_ok (l : Launch) {nw sp : Nat} {I : xM} {k : Nat} (hst : I 0 6 = nI 1) (hk : k < 2) (hnw : xG nw) (hns : nw = 8 ∨ nw = 18) (hbz : BZ I nw) : xC l 2 0 0 yX5_image cX5_image 2 (some .int) 319 [.ref 0, .int (nI k)] I (xRL nw sp) (xpR 319 (xRL nw sp) (fun r K => r = nI 1 ∧ ∃ J, gcopy I J (287 + 10 * k) nw ∧ K = xput J 30 k (nI 1))) := by
  refine xC_of (by decide) (Nat.le_of_ble_eq_true rfl) (fun X hXl hX hR => ?_)
  have hX : xOK X RX5 cX5_image 2 2 0 0 := hX
  show G X 319 0 0 I (xRL nw sp) 0 [(0, .ref 0), (1, .int (nI k))] []
  refine g_iload_n hX dX5_image_0 rfl 1 rfl ?_
  refine g_cz_lt (a := ((k : Nat) : Int)) (tgt := 9) hX dX5_image_1 (by decide) (nI_toInt (by omega)) (fun h1 => ?_) (fun h1 => ?_)
  · exfalso; omega
  · refine g_iload_n hX dX5_image_4 rfl 1 rfl ?_
    refine g_iconst (v := nI 2) hX dX5_image_5 (by decide) ?_
    refine g_ci_lt (a := ((k : Nat) : Int)) (b := (2 : Int)) (tgt := 12) hX dX5_image_6 (by decide) (nI_toInt (by omega)) (by decide) (fun h6 => ?_) (fun h6 => ?_)
    · refine g_aload_n hX dX5_image_12 rfl 0 rfl ?_
      refine g_getI (v := nI 1) hX (by decide) (by decide) xCl5 6 (by decide) (by decide) kX5_46 dX5_image_13 hst ?_
      refine g_cz_ne (a := (1 : Int)) (tgt := 22) hX dX5_image_16 (by decide) (by decide) (fun _ => ?_) (fun q => absurd q (by decide))
      refine g_aload_n hX dX5_image_22 rfl 0 rfl ?_
      refine g_getR (j := 29) hX (by decide) (by decide) xCl5 10 (by decide) (by decide) kX5_61 dX5_image_23 rfl ?_
      refine g_iload_n hX dX5_image_26 rfl 1 rfl ?_
      refine g_aald (j := (287 + 10 * k)) hX (by decide) (by decide) (Or.inl rfl) k rfl (by rw [(show xN 29 = 2 by decide)]; omega) dX5_image_27 (xRL_images hk) ?_
      refine g_aload_n hX dX5_image_28 rfl 0 rfl ?_
      refine g_getR (j := nw) hX (by decide) (by decide) xCl5 4 (by decide) (by decide) kX5_39 dX5_image_29 rfl ?_
      refine g_callVrv hX (as := [.ref nw]) (fun l => c_X0_becomes l (I := I) (g := (287 + 10 * k)) (h := nw) (hg := (xG_im hk)) (hh := hnw) (hd := (by first | assumption | omega)) (hbz := (by first | assumption | omega))) mX0_becomes vX0_becomes lX5_174 (xG_n (j := 0) (xG_im hk) (by decide)) (xG_K0 (xG_im hk)) xCl0 rfl rfl dX5_image_32 rfl (by decide) (Nat.le_of_ble_eq_true rfl) (by decide) (by decide) (fun J hJ => ?_)
      refine g_aload_n hX dX5_image_35 rfl 0 rfl ?_
      refine g_getR (j := 30) hX (by decide) (by decide) xCl5 11 (by decide) (by decide) kX5_64 dX5_image_36 rfl ?_
      refine g_iload_n hX dX5_image_39 rfl 1 rfl ?_
      refine g_iconst (v := nI 1) hX dX5_image_40 (by decide) ?_
      refine g_zast hX (by decide) (by decide) k rfl (by rw [(show xN 30 = 2 by decide)]; omega) dX5_image_41 (by decide) ?_
      refine g_iconst (v := nI 1) hX dX5_image_42 (by decide) ?_
      exact g_iret hX hR dX5_image_43 (by decide) (by decide) ⟨_, rfl, rfl, ⟨rfl, J, hJ, rfl⟩, rfl⟩
    · exfalso; omega

theorem c_X5_restore_bad (l : Launch) {nw sp : Nat} {I : xM} {x : Int32} (hb : ¬ (0 ≤ x.toInt ∧ x.toInt ≤ 1)) : xC l 1 0 0 yX5_restore cX5_restore 2 (some .int) 319 [.ref 0, .int x] I (xRL nw sp) (xpI (-1000001) 319 I (xRL nw sp)) := by
  refine xC_of (by decide) (Nat.le_of_ble_eq_true rfl) (fun X hXl hX hR => ?_)
  have hX : xOK X RX5 cX5_restore 2 1 0 0 := hX
  show G X 319 0 0 I (xRL nw sp) 0 [(0, .ref 0), (1, .int x)] []
  refine g_iload_n hX dX5_restore_0 rfl 1 rfl ?_
  refine g_cz_lt (a := x.toInt) (tgt := 9) hX dX5_restore_1 (by decide) rfl (fun h1 => ?_) (fun h1 => ?_)
  · refine g_ldc (v := -1000001) hX cX5_79 dX5_restore_9 ?_
    exact g_iret hX hR dX5_restore_11 (by decide) (by decide) ⟨congrArg (fun z => some (Value.int z)) rfl, rfl, rfl, rfl⟩
  · refine g_iload_n hX dX5_restore_4 rfl 1 rfl ?_
    refine g_iconst (v := nI 2) hX dX5_restore_5 (by decide) ?_
    refine g_ci_lt (a := x.toInt) (b := (2 : Int)) (tgt := 12) hX dX5_restore_6 (by decide) rfl (by decide) (fun h6 => ?_) (fun h6 => ?_)
    · exfalso; omega
    · refine g_ldc (v := -1000001) hX cX5_79 dX5_restore_9 ?_
      exact g_iret hX hR dX5_restore_11 (by decide) (by decide) ⟨congrArg (fun z => some (Value.int z)) rfl, rfl, rfl, rfl⟩

theorem c_X5_restore_state (l : Launch) {nw sp : Nat} {I : xM} {k : Nat} (hk : k < 2) (hi : I 30 k = nI 0) : xC l 1 0 0 yX5_restore cX5_restore 2 (some .int) 319 [.ref 0, .int (nI k)] I (xRL nw sp) (xpI (-1000002) 319 I (xRL nw sp)) := by
  refine xC_of (by decide) (Nat.le_of_ble_eq_true rfl) (fun X hXl hX hR => ?_)
  have hX : xOK X RX5 cX5_restore 2 1 0 0 := hX
  show G X 319 0 0 I (xRL nw sp) 0 [(0, .ref 0), (1, .int (nI k))] []
  refine g_iload_n hX dX5_restore_0 rfl 1 rfl ?_
  refine g_cz_lt (a := ((k : Nat) : Int)) (tgt := 9) hX dX5_restore_1 (by decide) (nI_toInt (by omega)) (fun h1 => ?_) (fun h1 => ?_)
  · exfalso; omega
  · refine g_iload_n hX dX5_restore_4 rfl 1 rfl ?_
    refine g_iconst (v := nI 2) hX dX5_restore_5 (by decide) ?_
    refine g_ci_lt (a := ((k : Nat) : Int)) (b := (2 : Int)) (tgt := 12) hX dX5_restore_6 (by decide) (nI_toInt (by omega)) (by decide) (fun h6 => ?_) (fun h6 => ?_)
    · refine g_aload_n hX dX5_restore_12 rfl 0 rfl ?_
      refine g_getR (j := 30) hX (by decide) (by decide) xCl5 11 (by decide) (by decide) kX5_64 dX5_restore_13 rfl ?_
      refine g_iload_n hX dX5_restore_16 rfl 1 rfl ?_
      refine g_zald (v := nI 0) hX (by decide) (by decide) k rfl (by rw [(show xN 30 = 2 by decide)]; omega) dX5_restore_17 hi ?_
      refine g_cz_ne (a := (0 : Int)) (tgt := 24) hX dX5_restore_18 (by decide) (by decide) (fun q => absurd q (by decide)) (fun _ => ?_)
      refine g_ldc (v := -1000002) hX cX5_139 dX5_restore_21 ?_
      exact g_iret hX hR dX5_restore_23 (by decide) (by decide) ⟨congrArg (fun z => some (Value.int z)) rfl, rfl, rfl, rfl⟩
    · exfalso; omega

theorem c_X5_restore_ok (l : Launch) {nw sp : Nat} {I : xM} {k : Nat} (hk : k < 2) (hi : I 30 k = nI 1) (hnw : xG nw) (hns : nw = 8 ∨ nw = 18) (hbz : BZ I (287 + 10 * k)) : xC l 2 0 0 yX5_restore cX5_restore 2 (some .int) 319 [.ref 0, .int (nI k)] I (xRL nw sp) (xpR 319 (xRL nw sp) (fun r K => r = nI 1 ∧ ∃ J, gcopy I J nw (287 + 10 * k) ∧ K = xput J 0 9 (nI 0))) := by
  refine xC_of (by decide) (Nat.le_of_ble_eq_true rfl) (fun X hXl hX hR => ?_)
  have hX : xOK X RX5 cX5_restore 2 2 0 0 := hX
  show G X 319 0 0 I (xRL nw sp) 0 [(0, .ref 0), (1, .int (nI k))] []
  refine g_iload_n hX dX5_restore_0 rfl 1 rfl ?_
  refine g_cz_lt (a := ((k : Nat) : Int)) (tgt := 9) hX dX5_restore_1 (by decide) (nI_toInt (by omega)) (fun h1 => ?_) (fun h1 => ?_)
  · exfalso; omega
  · refine g_iload_n hX dX5_restore_4 rfl 1 rfl ?_
    refine g_iconst (v := nI 2) hX dX5_restore_5 (by decide) ?_
    refine g_ci_lt (a := ((k : Nat) : Int)) (b := (2 : Int)) (tgt := 12) hX dX5_restore_6 (by decide) (nI_toInt (by omega)) (by decide) (fun h6 => ?_) (fun h6 => ?_)
    · refine g_aload_n hX dX5_restore_12 rfl 0 rfl ?_
      refine g_getR (j := 30) hX (by decide) (by decide) xCl5 11 (by decide) (by decide) kX5_64 dX5_restore_13 rfl ?_
      refine g_iload_n hX dX5_restore_16 rfl 1 rfl ?_
      refine g_zald (v := nI 1) hX (by decide) (by decide) k rfl (by rw [(show xN 30 = 2 by decide)]; omega) dX5_restore_17 hi ?_
      refine g_cz_ne (a := (1 : Int)) (tgt := 24) hX dX5_restore_18 (by decide) (by decide) (fun _ => ?_) (fun q => absurd q (by decide))
      refine g_aload_n hX dX5_restore_24 rfl 0 rfl ?_
      refine g_getR (j := nw) hX (by decide) (by decide) xCl5 4 (by decide) (by decide) kX5_39 dX5_restore_25 rfl ?_
      refine g_aload_n hX dX5_restore_28 rfl 0 rfl ?_
      refine g_getR (j := 29) hX (by decide) (by decide) xCl5 10 (by decide) (by decide) kX5_61 dX5_restore_29 rfl ?_
      refine g_iload_n hX dX5_restore_32 rfl 1 rfl ?_
      refine g_aald (j := (287 + 10 * k)) hX (by decide) (by decide) (Or.inl rfl) k rfl (by rw [(show xN 29 = 2 by decide)]; omega) dX5_restore_33 (xRL_images hk) ?_
      refine g_callVrv hX (as := [.ref (287 + 10 * k)]) (fun l => c_X0_becomes l (I := I) (g := nw) (h := (287 + 10 * k)) (hg := hnw) (hh := (xG_im hk)) (hd := (by first | assumption | omega)) (hbz := (by first | assumption | omega))) mX0_becomes vX0_becomes lX5_174 (xG_n (j := 0) hnw (by decide)) (xG_K0 hnw) xCl0 rfl rfl dX5_restore_34 rfl (by decide) (Nat.le_of_ble_eq_true rfl) (by decide) (by decide) (fun J hJ => ?_)
      refine g_aload_n hX dX5_restore_37 rfl 0 rfl ?_
      refine g_iconst (v := nI 0) hX dX5_restore_38 (by decide) ?_
      refine g_putI hX (by decide) (by decide) xCl5 9 (by decide) (by decide) (by decide) kX5_58 dX5_restore_39 rfl rfl ?_
      refine g_iconst (v := nI 1) hX dX5_restore_42 (by decide) ?_
      exact g_iret hX hR dX5_restore_43 (by decide) (by decide) ⟨_, rfl, rfl, ⟨rfl, J, hJ, rfl⟩, rfl⟩
    · exfalso; omega

theorem c_X5_kind_bad (l : Launch) {nw sp : Nat} {I : xM} {T S F W : Nat} {f : Nat → Int32} {x : Int32} (hnw : xG nw) (hG : GX I nw f T S F W) (hW : WF f T S F W) (hb : ¬ (0 ≤ x.toInt ∧ x.toInt < T)) : xC l 2 0 0 yX5_kind cX5_kind 2 (some .int) 319 [.ref 0, .int x] I (xRL nw sp) (xpI (-1000001) 319 I (xRL nw sp)) := by
  refine xC_of (by decide) (Nat.le_of_ble_eq_true rfl) (fun X hXl hX hR => ?_)
  have hX : xOK X RX5 cX5_kind 2 2 0 0 := hX
  show G X 319 0 0 I (xRL nw sp) 0 [(0, .ref 0), (1, .int x)] []
  have hg8 := xG_8 hnw
  have hT6 := hW.T6
  have hS6 := hW.S6
  refine g_aload_n hX dX5_kind_0 rfl 0 rfl ?_
  refine g_getR (j := nw) hX (by decide) (by decide) xCl5 4 (by decide) (by decide) kX5_39 dX5_kind_1 rfl ?_
  refine g_iload_n hX dX5_kind_4 rfl 1 rfl ?_
  refine g_callVi hX (as := [.int x]) (fun l => c_X0_hasTree l (I := I) (g := nw) (T := T) (S := S) (F := F) (W := W) (f := f) (x := x) (hg := hnw) (hG := (by first | assumption | omega)) (hW := (by first | assumption | omega))) mX0_hasTree vX0_hasTree lX5_149 (xG_n (j := 0) hnw (by decide)) (xG_K0 hnw) xCl0 rfl rfl dX5_kind_5 rfl (by decide) (Nat.le_of_ble_eq_true rfl) (by decide) (by decide) ?_
  refine g_cb_eq (tgt := 23) hX dX5_kind_8 (by decide) (fun h8 => ?_) (fun h8 => ?_)
  · refine g_ldc (v := -1000001) hX cX5_79 dX5_kind_23 ?_
    exact g_iret hX hR dX5_kind_25 (by decide) (by decide) ⟨congrArg (fun z => some (Value.int z)) rfl, rfl, rfl, rfl⟩
  · exfalso; omega

theorem c_X5_kind_ok (l : Launch) {nw sp : Nat} {I : xM} {T S F W : Nat} {f : Nat → Int32} {t : Nat} (hnw : xG nw) (hG : GX I nw f T S F W) (hW : WF f T S F W) (ht : t < T) : xC l 2 0 0 yX5_kind cX5_kind 2 (some .int) 319 [.ref 0, .int (nI t)] I (xRL nw sp) (xpI (f (26 + 5 * t + 0)) 319 I (xRL nw sp)) := by
  refine xC_of (by decide) (Nat.le_of_ble_eq_true rfl) (fun X hXl hX hR => ?_)
  have hX : xOK X RX5 cX5_kind 2 2 0 0 := hX
  show G X 319 0 0 I (xRL nw sp) 0 [(0, .ref 0), (1, .int (nI t))] []
  have hg8 := xG_8 hnw
  have hT6 := hW.T6
  have hS6 := hW.S6
  refine g_aload_n hX dX5_kind_0 rfl 0 rfl ?_
  refine g_getR (j := nw) hX (by decide) (by decide) xCl5 4 (by decide) (by decide) kX5_39 dX5_kind_1 rfl ?_
  refine g_iload_n hX dX5_kind_4 rfl 1 rfl ?_
  refine g_callVi hX (as := [.int (nI t)]) (fun l => c_X0_hasTree l (I := I) (g := nw) (T := T) (S := S) (F := F) (W := W) (f := f) (x := (nI t)) (hg := hnw) (hG := (by first | assumption | omega)) (hW := (by first | assumption | omega))) mX0_hasTree vX0_hasTree lX5_149 (xG_n (j := 0) hnw (by decide)) (xG_K0 hnw) xCl0 rfl rfl dX5_kind_5 rfl (by decide) (Nat.le_of_ble_eq_true rfl) (by decide) (by decide) ?_
  refine g_top (y := xb (0 ≤ ((t : Nat) : Int) ∧ ((t : Nat) : Int) < T)) (by rw [nI_toInt (n := t) (by omega)]) ?_
  refine g_cb_eq (tgt := 23) hX dX5_kind_8 (by decide) (fun h8 => ?_) (fun h8 => ?_)
  · exfalso; omega
  · refine g_aload_n hX dX5_kind_11 rfl 0 rfl ?_
    refine g_getR (j := nw) hX (by decide) (by decide) xCl5 4 (by decide) (by decide) kX5_39 dX5_kind_12 rfl ?_
    refine g_getR (j := nw + 2) hX (xG_n (j := 0) hnw (by decide)) (xG_K0 hnw) xCl0 4 (by decide) (by decide) kX5_244 dX5_kind_15 (xRL_g4 hnw) ?_
    refine g_iload_n hX dX5_kind_18 rfl 1 rfl ?_
    refine g_iald (v := f (26 + 5 * t + 0)) hX (xG_n (j := 2) hnw (by decide)) (xG_K2 hnw) t rfl (by rw [(xG_N2 hnw)]; omega) dX5_kind_19 (hG.k0 (by omega)) ?_
    refine g_goto (tgt := 25) hX dX5_kind_20 (by decide) ?_
    exact g_iret hX hR dX5_kind_25 (by decide) (by decide) ⟨congrArg (fun z => some (Value.int z)) rfl, rfl, rfl, rfl⟩

theorem c_X5_as_bad (l : Launch) {nw sp : Nat} {I : xM} {T S F W : Nat} {f : Nat → Int32} {x y : Int32} (hnw : xG nw) (hG : GX I nw f T S F W) (hW : WF f T S F W) (hb : ¬ (0 ≤ x.toInt ∧ x.toInt < T ∧ 0 ≤ y.toInt ∧ y.toInt ≤ 5)) : xC l 2 0 0 yX5_as cX5_as 3 (some .int) 319 [.ref 0, .int x, .int y] I (xRL nw sp) (xpI (-1000001) 319 I (xRL nw sp)) := by
  refine xC_of (by decide) (Nat.le_of_ble_eq_true rfl) (fun X hXl hX hR => ?_)
  have hX : xOK X RX5 cX5_as 3 2 0 0 := hX
  show G X 319 0 0 I (xRL nw sp) 0 [(0, .ref 0), (1, .int x), (2, .int y)] []
  have hg8 := xG_8 hnw
  have hT6 := hW.T6
  have hS6 := hW.S6
  refine g_aload_n hX dX5_as_0 rfl 0 rfl ?_
  refine g_getR (j := nw) hX (by decide) (by decide) xCl5 4 (by decide) (by decide) kX5_39 dX5_as_1 rfl ?_
  refine g_iload_n hX dX5_as_4 rfl 1 rfl ?_
  refine g_callVi hX (as := [.int x]) (fun l => c_X0_hasTree l (I := I) (g := nw) (T := T) (S := S) (F := F) (W := W) (f := f) (x := x) (hg := hnw) (hG := (by first | assumption | omega)) (hW := (by first | assumption | omega))) mX0_hasTree vX0_hasTree lX5_149 (xG_n (j := 0) hnw (by decide)) (xG_K0 hnw) xCl0 rfl rfl dX5_as_5 rfl (by decide) (Nat.le_of_ble_eq_true rfl) (by decide) (by decide) ?_
  refine g_cb_eq (tgt := 20) hX dX5_as_8 (by decide) (fun h8 => ?_) (fun h8 => ?_)
  · refine g_ldc (v := -1000001) hX cX5_79 dX5_as_20 ?_
    exact g_iret hX hR dX5_as_22 (by decide) (by decide) ⟨congrArg (fun z => some (Value.int z)) rfl, rfl, rfl, rfl⟩
  · refine g_iload_n hX dX5_as_11 rfl 2 rfl ?_
    refine g_cz_lt (a := y.toInt) (tgt := 20) hX dX5_as_12 (by decide) rfl (fun h12 => ?_) (fun h12 => ?_)
    · refine g_ldc (v := -1000001) hX cX5_79 dX5_as_20 ?_
      exact g_iret hX hR dX5_as_22 (by decide) (by decide) ⟨congrArg (fun z => some (Value.int z)) rfl, rfl, rfl, rfl⟩
    · refine g_iload_n hX dX5_as_15 rfl 2 rfl ?_
      refine g_iconst (v := nI 5) hX dX5_as_16 (by decide) ?_
      refine g_ci_le (a := y.toInt) (b := (5 : Int)) (tgt := 23) hX dX5_as_17 (by decide) rfl (by decide) (fun h17 => ?_) (fun h17 => ?_)
      · exfalso; omega
      · refine g_ldc (v := -1000001) hX cX5_79 dX5_as_20 ?_
        exact g_iret hX hR dX5_as_22 (by decide) (by decide) ⟨congrArg (fun z => some (Value.int z)) rfl, rfl, rfl, rfl⟩

theorem c_X5_as_ok (l : Launch) {nw sp : Nat} {I : xM} {T S F W : Nat} {f : Nat → Int32} {t : Nat} {y : Int32} (hnw : xG nw) (hG : GX I nw f T S F W) (hW : WF f T S F W) (ht : t < T) (hy : 0 ≤ y.toInt ∧ y.toInt ≤ 5) (hk : y.toInt = 0 ∨ (f (26 + 5 * t + 0)).toInt = y.toInt ∨ (y.toInt = 1 ∧ (f (26 + 5 * t + 0)).toInt = 2) ∨ (y.toInt = 4 ∧ (f (26 + 5 * t + 0)).toInt = 5)) : xC l 2 0 0 yX5_as cX5_as 3 (some .int) 319 [.ref 0, .int (nI t), .int y] I (xRL nw sp) (xpI (nI t) 319 (xput I 0 13 (nI 0)) (xRL nw sp)) := by
  refine xC_of (by decide) (Nat.le_of_ble_eq_true rfl) (fun X hXl hX hR => ?_)
  have hX : xOK X RX5 cX5_as 3 2 0 0 := hX
  show G X 319 0 0 I (xRL nw sp) 0 [(0, .ref 0), (1, .int (nI t)), (2, .int y)] []
  have hg8 := xG_8 hnw
  have hT6 := hW.T6
  have hS6 := hW.S6
  refine g_aload_n hX dX5_as_0 rfl 0 rfl ?_
  refine g_getR (j := nw) hX (by decide) (by decide) xCl5 4 (by decide) (by decide) kX5_39 dX5_as_1 rfl ?_
  refine g_iload_n hX dX5_as_4 rfl 1 rfl ?_
  refine g_callVi hX (as := [.int (nI t)]) (fun l => c_X0_hasTree l (I := I) (g := nw) (T := T) (S := S) (F := F) (W := W) (f := f) (x := (nI t)) (hg := hnw) (hG := (by first | assumption | omega)) (hW := (by first | assumption | omega))) mX0_hasTree vX0_hasTree lX5_149 (xG_n (j := 0) hnw (by decide)) (xG_K0 hnw) xCl0 rfl rfl dX5_as_5 rfl (by decide) (Nat.le_of_ble_eq_true rfl) (by decide) (by decide) ?_
  refine g_top (y := xb (0 ≤ ((t : Nat) : Int) ∧ ((t : Nat) : Int) < T)) (by rw [nI_toInt (n := t) (by omega)]) ?_
  refine g_cb_eq (tgt := 20) hX dX5_as_8 (by decide) (fun h8 => ?_) (fun h8 => ?_)
  · exfalso; omega
  · refine g_iload_n hX dX5_as_11 rfl 2 rfl ?_
    refine g_cz_lt (a := y.toInt) (tgt := 20) hX dX5_as_12 (by decide) rfl (fun h12 => ?_) (fun h12 => ?_)
    · exfalso; omega
    · refine g_iload_n hX dX5_as_15 rfl 2 rfl ?_
      refine g_iconst (v := nI 5) hX dX5_as_16 (by decide) ?_
      refine g_ci_le (a := y.toInt) (b := (5 : Int)) (tgt := 23) hX dX5_as_17 (by decide) rfl (by decide) (fun h17 => ?_) (fun h17 => ?_)
      · refine g_aload_n hX dX5_as_23 rfl 0 rfl ?_
        refine g_getR (j := nw) hX (by decide) (by decide) xCl5 4 (by decide) (by decide) kX5_39 dX5_as_24 rfl ?_
        refine g_getR (j := nw + 2) hX (xG_n (j := 0) hnw (by decide)) (xG_K0 hnw) xCl0 4 (by decide) (by decide) kX5_244 dX5_as_27 (xRL_g4 hnw) ?_
        refine g_iload_n hX dX5_as_30 rfl 1 rfl ?_
        refine g_iald (v := f (26 + 5 * t + 0)) hX (xG_n (j := 2) hnw (by decide)) (xG_K2 hnw) t rfl (by rw [(xG_N2 hnw)]; omega) dX5_as_31 (hG.k0 (by omega)) ?_
        refine g_iload_n hX dX5_as_32 rfl 2 rfl ?_
        refine g_callSi hX (as := [.int (f (26 + 5 * t + 0)), .int y]) (fun l => c_X5_isOfKind l (I := I) (x := (f (26 + 5 * t + 0))) (y := y) ) mX5_isOfKind sX5_isOfKind lX5_247 rfl dX5_as_33 rfl (by decide) (Nat.le_of_ble_eq_true rfl) (by decide) (by decide) ?_
        refine g_cb_eq (tgt := 47) hX dX5_as_36 (by decide) (fun h36 => ?_) (fun h36 => ?_)
        · exact absurd hk h36
        · refine g_aload_n hX dX5_as_39 rfl 0 rfl ?_
          refine g_iload_n hX dX5_as_40 rfl 1 rfl ?_
          refine g_callVi hX (as := [.int (nI t)]) (fun l => c_X5_unfound l (I := I) (x := (nI t)) ) mX5_unfound vX5_unfound lX5_88 (by decide) (by decide) xCl5 rfl rfl dX5_as_41 rfl (by decide) (Nat.le_of_ble_eq_true rfl) (by decide) (by decide) ?_
          refine g_goto (tgt := 52) hX dX5_as_44 (by decide) ?_
          exact g_iret hX hR dX5_as_52 (by decide) (by decide) ⟨congrArg (fun z => some (Value.int z)) rfl, rfl, rfl, rfl⟩
      · exfalso; omega

theorem c_X5_as_no (l : Launch) {nw sp : Nat} {I : xM} {T S F W : Nat} {f : Nat → Int32} {t : Nat} {y : Int32} (hnw : xG nw) (hG : GX I nw f T S F W) (hW : WF f T S F W) (ht : t < T) (hy : 0 ≤ y.toInt ∧ y.toInt ≤ 5) (hk : ¬ (y.toInt = 0 ∨ (f (26 + 5 * t + 0)).toInt = y.toInt ∨ (y.toInt = 1 ∧ (f (26 + 5 * t + 0)).toInt = 2) ∨ (y.toInt = 4 ∧ (f (26 + 5 * t + 0)).toInt = 5))) : xC l 2 0 0 yX5_as cX5_as 3 (some .int) 319 [.ref 0, .int (nI t), .int y] I (xRL nw sp) (xpI (-1000013) 319 (xput I 0 13 (nI 3)) (xRL nw sp)) := by
  refine xC_of (by decide) (Nat.le_of_ble_eq_true rfl) (fun X hXl hX hR => ?_)
  have hX : xOK X RX5 cX5_as 3 2 0 0 := hX
  show G X 319 0 0 I (xRL nw sp) 0 [(0, .ref 0), (1, .int (nI t)), (2, .int y)] []
  have hg8 := xG_8 hnw
  have hT6 := hW.T6
  have hS6 := hW.S6
  refine g_aload_n hX dX5_as_0 rfl 0 rfl ?_
  refine g_getR (j := nw) hX (by decide) (by decide) xCl5 4 (by decide) (by decide) kX5_39 dX5_as_1 rfl ?_
  refine g_iload_n hX dX5_as_4 rfl 1 rfl ?_
  refine g_callVi hX (as := [.int (nI t)]) (fun l => c_X0_hasTree l (I := I) (g := nw) (T := T) (S := S) (F := F) (W := W) (f := f) (x := (nI t)) (hg := hnw) (hG := (by first | assumption | omega)) (hW := (by first | assumption | omega))) mX0_hasTree vX0_hasTree lX5_149 (xG_n (j := 0) hnw (by decide)) (xG_K0 hnw) xCl0 rfl rfl dX5_as_5 rfl (by decide) (Nat.le_of_ble_eq_true rfl) (by decide) (by decide) ?_
  refine g_top (y := xb (0 ≤ ((t : Nat) : Int) ∧ ((t : Nat) : Int) < T)) (by rw [nI_toInt (n := t) (by omega)]) ?_
  refine g_cb_eq (tgt := 20) hX dX5_as_8 (by decide) (fun h8 => ?_) (fun h8 => ?_)
  · exfalso; omega
  · refine g_iload_n hX dX5_as_11 rfl 2 rfl ?_
    refine g_cz_lt (a := y.toInt) (tgt := 20) hX dX5_as_12 (by decide) rfl (fun h12 => ?_) (fun h12 => ?_)
    · exfalso; omega
    · refine g_iload_n hX dX5_as_15 rfl 2 rfl ?_
      refine g_iconst (v := nI 5) hX dX5_as_16 (by decide) ?_
      refine g_ci_le (a := y.toInt) (b := (5 : Int)) (tgt := 23) hX dX5_as_17 (by decide) rfl (by decide) (fun h17 => ?_) (fun h17 => ?_)
      · refine g_aload_n hX dX5_as_23 rfl 0 rfl ?_
        refine g_getR (j := nw) hX (by decide) (by decide) xCl5 4 (by decide) (by decide) kX5_39 dX5_as_24 rfl ?_
        refine g_getR (j := nw + 2) hX (xG_n (j := 0) hnw (by decide)) (xG_K0 hnw) xCl0 4 (by decide) (by decide) kX5_244 dX5_as_27 (xRL_g4 hnw) ?_
        refine g_iload_n hX dX5_as_30 rfl 1 rfl ?_
        refine g_iald (v := f (26 + 5 * t + 0)) hX (xG_n (j := 2) hnw (by decide)) (xG_K2 hnw) t rfl (by rw [(xG_N2 hnw)]; omega) dX5_as_31 (hG.k0 (by omega)) ?_
        refine g_iload_n hX dX5_as_32 rfl 2 rfl ?_
        refine g_callSi hX (as := [.int (f (26 + 5 * t + 0)), .int y]) (fun l => c_X5_isOfKind l (I := I) (x := (f (26 + 5 * t + 0))) (y := y) ) mX5_isOfKind sX5_isOfKind lX5_247 rfl dX5_as_33 rfl (by decide) (Nat.le_of_ble_eq_true rfl) (by decide) (by decide) ?_
        refine g_cb_eq (tgt := 47) hX dX5_as_36 (by decide) (fun h36 => ?_) (fun h36 => ?_)
        · refine g_aload_n hX dX5_as_47 rfl 0 rfl ?_
          refine g_iconst (v := nI 3) hX dX5_as_48 (by decide) ?_
          refine g_callVi hX (as := [.int (nI 3)]) (fun l => c_X5_found l (I := I) (x := (nI 3)) ) mX5_found vX5_found lX5_80 (by decide) (by decide) xCl5 rfl rfl dX5_as_49 rfl (by decide) (Nat.le_of_ble_eq_true rfl) (by decide) (by decide) ?_
          exact g_iret hX hR dX5_as_52 (by decide) (by decide) ⟨congrArg (fun z => some (Value.int z)) rfl, rfl, rfl, rfl⟩
        · exact absurd h36 hk
      · exfalso; omega

theorem c_X5_trace_none (l : Launch) {nw sp : Nat} {I : xM} {n : Nat} {x : Int32} (hn : I 6 1 = nI n) (hn16 : n ≤ 16) (hb : ¬ (0 ≤ x.toInt ∧ x.toInt < n)) : xC l 1 0 0 yX5_trace cX5_trace 2 (some .int) 319 [.ref 0, .int x] I (xRL nw sp) (xpI (-1000000) 319 I (xRL nw sp)) := by
  refine xC_of (by decide) (Nat.le_of_ble_eq_true rfl) (fun X hXl hX hR => ?_)
  have hX : xOK X RX5 cX5_trace 2 1 0 0 := hX
  show G X 319 0 0 I (xRL nw sp) 0 [(0, .ref 0), (1, .int x)] []
  refine g_iload_n hX dX5_trace_0 rfl 1 rfl ?_
  refine g_cz_lt (a := x.toInt) (tgt := 27) hX dX5_trace_1 (by decide) rfl (fun h1 => ?_) (fun h1 => ?_)
  · refine g_ldc (v := -1000000) hX cX5_167 dX5_trace_27 ?_
    exact g_iret hX hR dX5_trace_29 (by decide) (by decide) ⟨congrArg (fun z => some (Value.int z)) rfl, rfl, rfl, rfl⟩
  · refine g_iload_n hX dX5_trace_4 rfl 1 rfl ?_
    refine g_aload_n hX dX5_trace_5 rfl 0 rfl ?_
    refine g_getR (j := 6) hX (by decide) (by decide) xCl5 3 (by decide) (by decide) kX5_32 dX5_trace_6 rfl ?_
    refine g_getI (v := nI n) hX (by decide) (by decide) xCl4 1 (by decide) (by decide) kX5_250 dX5_trace_9 hn ?_
    refine g_ci_ge (a := x.toInt) (b := ((n : Nat) : Int)) (tgt := 27) hX dX5_trace_12 (by decide) rfl (nI_toInt (by omega)) (fun h12 => ?_) (fun h12 => ?_)
    · refine g_ldc (v := -1000000) hX cX5_167 dX5_trace_27 ?_
      exact g_iret hX hR dX5_trace_29 (by decide) (by decide) ⟨congrArg (fun z => some (Value.int z)) rfl, rfl, rfl, rfl⟩
    · exfalso; omega

theorem c_X5_trace_ok (l : Launch) {nw sp : Nat} {I : xM} {i n : Nat} (hn : I 6 1 = nI n) (hn16 : n ≤ 16) (hi : i < n) : xC l 1 0 0 yX5_trace cX5_trace 2 (some .int) 319 [.ref 0, .int (nI i)] I (xRL nw sp) (xpI (I 7 i) 319 I (xRL nw sp)) := by
  refine xC_of (by decide) (Nat.le_of_ble_eq_true rfl) (fun X hXl hX hR => ?_)
  have hX : xOK X RX5 cX5_trace 2 1 0 0 := hX
  show G X 319 0 0 I (xRL nw sp) 0 [(0, .ref 0), (1, .int (nI i))] []
  refine g_iload_n hX dX5_trace_0 rfl 1 rfl ?_
  refine g_cz_lt (a := ((i : Nat) : Int)) (tgt := 27) hX dX5_trace_1 (by decide) (nI_toInt (by omega)) (fun h1 => ?_) (fun h1 => ?_)
  · exfalso; omega
  · refine g_iload_n hX dX5_trace_4 rfl 1 rfl ?_
    refine g_aload_n hX dX5_trace_5 rfl 0 rfl ?_
    refine g_getR (j := 6) hX (by decide) (by decide) xCl5 3 (by decide) (by decide) kX5_32 dX5_trace_6 rfl ?_
    refine g_getI (v := nI n) hX (by decide) (by decide) xCl4 1 (by decide) (by decide) kX5_250 dX5_trace_9 hn ?_
    refine g_ci_ge (a := ((i : Nat) : Int)) (b := ((n : Nat) : Int)) (tgt := 27) hX dX5_trace_12 (by decide) (nI_toInt (by omega)) (nI_toInt (by omega)) (fun h12 => ?_) (fun h12 => ?_)
    · exfalso; omega
    · refine g_aload_n hX dX5_trace_15 rfl 0 rfl ?_
      refine g_getR (j := 6) hX (by decide) (by decide) xCl5 3 (by decide) (by decide) kX5_32 dX5_trace_16 rfl ?_
      refine g_getR (j := 7) hX (by decide) (by decide) xCl4 0 (by decide) (by decide) kX5_263 dX5_trace_19 rfl ?_
      refine g_iload_n hX dX5_trace_22 rfl 1 rfl ?_
      refine g_iald (v := I 7 i) hX (by decide) (by decide) i rfl (by rw [(show xN 7 = 16 by decide)]; omega) dX5_trace_23 rfl ?_
      refine g_goto (tgt := 29) hX dX5_trace_24 (by decide) ?_
      exact g_iret hX hR dX5_trace_29 (by decide) (by decide) ⟨congrArg (fun z => some (Value.int z)) rfl, rfl, rfl, rfl⟩

theorem c_X5_rowsThere (l : Launch) {nw sp : Nat} {I : xM}   : xC l 1 0 0 yX5_rowsThere cX5_rowsThere 3 (some .int) 319 [.ref 0] I (xRL nw sp) (xpI (nI (cntP (fun r => (I (31 + 2 * r) 0).toInt ≠ 0) 8)) 319 I (xRL nw sp)) := by
  refine xC_of (by decide) (Nat.le_of_ble_eq_true rfl) (fun X hXl hX hR => ?_)
  have hX : xOK X RX5 cX5_rowsThere 3 1 0 0 := hX
  show G X 319 0 0 I (xRL nw sp) 0 [(0, .ref 0)] []
  refine g_iconst (v := nI 0) hX dX5_rowsThere_0 (by decide) ?_
  refine g_istore_n (L' := [(0, .ref 0), (1, .int (nI 0))]) hX dX5_rowsThere_1 rfl (by decide) rfl ?_
  refine g_iconst (v := nI 0) hX dX5_rowsThere_2 (by decide) ?_
  refine g_istore_n (L' := [(0, .ref 0), (1, .int (nI 0)), (2, .int (nI 0))]) hX dX5_rowsThere_3 rfl (by decide) rfl ?_
  have cut4 : ∀ (fuel : Nat) (c k : Nat) (hk : k ≤ 8) (hc : c = cntP (fun r => (I (31 + 2 * r) 0).toInt ≠ 0) k), 8 - k < fuel → G X 319 0 0 I (xRL nw sp) 4 [(0, .ref 0), (1, .int (nI c)), (2, .int (nI k))] [] := by
    intro fuel
    induction fuel with
    | zero => intro c k hk hc hfuel; omega
    | succ fuel ih =>
      intro c k hk hc hfuel
      have hc8 := cnt_le (P := (fun r => (I (31 + 2 * r) 0).toInt ≠ 0)) k
      refine g_iload_n hX dX5_rowsThere_4 rfl 2 rfl ?_
      refine g_bipush (v := nI 8) hX dX5_rowsThere_5 (by decide) ?_
      refine g_ci_ge (a := ((k : Nat) : Int)) (b := (8 : Int)) (tgt := 31) hX dX5_rowsThere_7 (by decide) (nI_toInt (by omega)) (by decide) (fun h7 => ?_) (fun h7 => ?_)
      · refine g_iload_n hX dX5_rowsThere_31 rfl 1 rfl ?_
        exact g_iret hX hR dX5_rowsThere_32 (by decide) (by decide) ⟨congrArg (fun z => some (Value.int z)) (by rw [hc, show k = 8 by omega]), rfl, rfl, rfl⟩
      · refine g_aload_n hX dX5_rowsThere_10 rfl 0 rfl ?_
        refine g_getR (j := 1) hX (by decide) (by decide) xCl5 0 (by decide) (by decide) kX5_11 dX5_rowsThere_11 rfl ?_
        refine g_iload_n hX dX5_rowsThere_14 rfl 2 rfl ?_
        refine g_aald (j := 31 + 2 * k) hX (by decide) (by decide) (Or.inr rfl) k rfl (by rw [(show xN 1 = 8 by decide)]; omega) dX5_rowsThere_15 (xRL_rows (show k < 8 by omega)) ?_
        refine g_getI (v := I (31 + 2 * k) 0) hX (by omega) (xW_K0 (show k < 8 by omega)) xCl2 0 (by decide) (by decide) kX5_91 dX5_rowsThere_16 rfl ?_
        refine g_cz_eq (a := (I (31 + 2 * k) 0).toInt) (tgt := 25) hX dX5_rowsThere_19 (by decide) rfl (fun h19 => ?_) (fun h19 => ?_)
        · refine g_iinc (v := nI (k + 1)) (L' := [(0, .ref 0), (1, .int (nI c)), (2, .int (nI (k + 1)))]) hX dX5_rowsThere_25 (by decide) 2 rfl (nI_add k 1) rfl ?_
          refine g_goto (tgt := 4) hX dX5_rowsThere_28 (by decide) ?_
          exact ih c (k + 1) (by first | assumption | omega) (by first | exact cnt_t hc h19 | exact cnt_f hc (fun q => q h19)) (by omega)
        · refine g_iinc (v := nI (c + 1)) (L' := [(0, .ref 0), (1, .int (nI (c + 1))), (2, .int (nI k))]) hX dX5_rowsThere_22 (by decide) 1 rfl (nI_add c 1) rfl ?_
          refine g_iinc (v := nI (k + 1)) (L' := [(0, .ref 0), (1, .int (nI (c + 1))), (2, .int (nI (k + 1)))]) hX dX5_rowsThere_25 (by decide) 2 rfl (nI_add k 1) rfl ?_
          refine g_goto (tgt := 4) hX dX5_rowsThere_28 (by decide) ?_
          exact ih (c + 1) (k + 1) (by first | assumption | omega) (by first | exact cnt_t hc h19 | exact cnt_f hc (fun q => q h19)) (by omega)
  exact cut4 _ 0 0 (by first | assumption | omega) rfl (Nat.lt_succ_self _)

theorem c_X5_count_bad (l : Launch) {nw sp : Nat} {I : xM} {x : Int32} (hb : ¬ (0 ≤ x.toInt ∧ x.toInt ≤ 6)) : xC l 1 0 0 yX5_count cX5_count 2 (some .int) 319 [.ref 0, .int x] I (xRL nw sp) (xpI (-1000001) 319 I (xRL nw sp)) := by
  refine xC_of (by decide) (Nat.le_of_ble_eq_true rfl) (fun X hXl hX hR => ?_)
  have hX : xOK X RX5 cX5_count 2 1 0 0 := hX
  show G X 319 0 0 I (xRL nw sp) 0 [(0, .ref 0), (1, .int x)] []
  refine g_iload_n hX dX5_count_0 rfl 1 rfl ?_
  rcases (show (x.toInt < 0 ∨ 6 < x.toInt) ∨ x.toInt = 0 ∨ x.toInt = 1 ∨ x.toInt = 2 ∨ x.toInt = 3 ∨ x.toInt = 4 ∨ x.toInt = 5 ∨ x.toInt = 6 by omega) with h1 | h1 | h1 | h1 | h1 | h1 | h1 | h1
  · refine g_tsO (a := x.toInt) (tgt := 102) hX dX5_count_1 rfl h1 (by decide) ?_
    refine g_ldc (v := -1000001) hX cX5_79 dX5_count_102 ?_
    exact g_iret hX hR dX5_count_104 (by decide) (by decide) ⟨congrArg (fun z => some (Value.int z)) rfl, rfl, rfl, rfl⟩
  · exfalso; omega
  · exfalso; omega
  · exfalso; omega
  · exfalso; omega
  · exfalso; omega
  · exfalso; omega
  · exfalso; omega

theorem c_X5_count_ok0 (l : Launch) {nw sp : Nat} {I : xM}   : xC l 2 0 0 yX5_count cX5_count 2 (some .int) 319 [.ref 0, .int (nI 0)] I (xRL nw sp) (xpI (nI (cntP (fun r => (I (31 + 2 * r) 0).toInt ≠ 0) 8)) 319 I (xRL nw sp)) := by
  refine xC_of (by decide) (Nat.le_of_ble_eq_true rfl) (fun X hXl hX hR => ?_)
  have hX : xOK X RX5 cX5_count 2 2 0 0 := hX
  show G X 319 0 0 I (xRL nw sp) 0 [(0, .ref 0), (1, .int (nI 0))] []
  refine g_iload_n hX dX5_count_0 rfl 1 rfl ?_
  refine g_tsI (a := (0 : Int)) (v := 0) (tgt := 44) hX dX5_count_1 (by decide) rfl (by decide) (by decide) rfl (by decide) ?_
  refine g_aload_n hX dX5_count_44 rfl 0 rfl ?_
  refine g_callVi hX (as := []) (fun l => c_X5_rowsThere l (I := I) ) mX5_rowsThere vX5_rowsThere lX5_266 (by decide) (by decide) xCl5 rfl rfl dX5_count_45 rfl (by decide) (Nat.le_of_ble_eq_true rfl) (by decide) (by decide) ?_
  exact g_iret hX hR dX5_count_48 (by decide) (by decide) ⟨congrArg (fun z => some (Value.int z)) rfl, rfl, rfl, rfl⟩

theorem c_X5_count_ok1 (l : Launch) {nw sp : Nat} {I : xM} {T S F W : Nat} {f : Nat → Int32} (hnw : xG nw) (hG : GX I nw f T S F W) (hW : WF f T S F W) : xC l 1 0 0 yX5_count cX5_count 2 (some .int) 319 [.ref 0, .int (nI 1)] I (xRL nw sp) (xpI (nI T) 319 I (xRL nw sp)) := by
  refine xC_of (by decide) (Nat.le_of_ble_eq_true rfl) (fun X hXl hX hR => ?_)
  have hX : xOK X RX5 cX5_count 2 1 0 0 := hX
  show G X 319 0 0 I (xRL nw sp) 0 [(0, .ref 0), (1, .int (nI 1))] []
  have hg8 := xG_8 hnw
  have hT6 := hW.T6
  have hS6 := hW.S6
  refine g_iload_n hX dX5_count_0 rfl 1 rfl ?_
  refine g_tsI (a := (1 : Int)) (v := 1) (tgt := 49) hX dX5_count_1 (by decide) rfl (by decide) (by decide) rfl (by decide) ?_
  refine g_aload_n hX dX5_count_49 rfl 0 rfl ?_
  refine g_getR (j := nw) hX (by decide) (by decide) xCl5 4 (by decide) (by decide) kX5_39 dX5_count_50 rfl ?_
  refine g_getI (v := nI T) hX (xG_n (j := 0) hnw (by decide)) (xG_K0 hnw) xCl0 3 (by decide) (by decide) kX5_136 dX5_count_53 hG.tr ?_
  exact g_iret hX hR dX5_count_56 (by decide) (by decide) ⟨congrArg (fun z => some (Value.int z)) rfl, rfl, rfl, rfl⟩

theorem c_X5_count_ok2 (l : Launch) {nw sp : Nat} {I : xM} {T S F W : Nat} {f : Nat → Int32} (hnw : xG nw) (hG : GX I nw f T S F W) (hW : WF f T S F W) : xC l 1 0 0 yX5_count cX5_count 2 (some .int) 319 [.ref 0, .int (nI 2)] I (xRL nw sp) (xpI (nI S) 319 I (xRL nw sp)) := by
  refine xC_of (by decide) (Nat.le_of_ble_eq_true rfl) (fun X hXl hX hR => ?_)
  have hX : xOK X RX5 cX5_count 2 1 0 0 := hX
  show G X 319 0 0 I (xRL nw sp) 0 [(0, .ref 0), (1, .int (nI 2))] []
  have hg8 := xG_8 hnw
  have hT6 := hW.T6
  have hS6 := hW.S6
  refine g_iload_n hX dX5_count_0 rfl 1 rfl ?_
  refine g_tsI (a := (2 : Int)) (v := 2) (tgt := 57) hX dX5_count_1 (by decide) rfl (by decide) (by decide) rfl (by decide) ?_
  refine g_aload_n hX dX5_count_57 rfl 0 rfl ?_
  refine g_getR (j := nw) hX (by decide) (by decide) xCl5 4 (by decide) (by decide) kX5_39 dX5_count_58 rfl ?_
  refine g_getI (v := nI S) hX (xG_n (j := 0) hnw (by decide)) (xG_K0 hnw) xCl0 9 (by decide) (by decide) kX5_194 dX5_count_61 hG.th ?_
  exact g_iret hX hR dX5_count_64 (by decide) (by decide) ⟨congrArg (fun z => some (Value.int z)) rfl, rfl, rfl, rfl⟩

theorem c_X5_count_ok3 (l : Launch) {nw sp : Nat} {I : xM} {T S F W : Nat} {f : Nat → Int32} (hnw : xG nw) (hG : GX I nw f T S F W) (hW : WF f T S F W) : xC l 1 0 0 yX5_count cX5_count 2 (some .int) 319 [.ref 0, .int (nI 3)] I (xRL nw sp) (xpI (f 2) 319 I (xRL nw sp)) := by
  refine xC_of (by decide) (Nat.le_of_ble_eq_true rfl) (fun X hXl hX hR => ?_)
  have hX : xOK X RX5 cX5_count 2 1 0 0 := hX
  show G X 319 0 0 I (xRL nw sp) 0 [(0, .ref 0), (1, .int (nI 3))] []
  have hg8 := xG_8 hnw
  have hT6 := hW.T6
  have hS6 := hW.S6
  refine g_iload_n hX dX5_count_0 rfl 1 rfl ?_
  refine g_tsI (a := (3 : Int)) (v := 3) (tgt := 65) hX dX5_count_1 (by decide) rfl (by decide) (by decide) rfl (by decide) ?_
  refine g_aload_n hX dX5_count_65 rfl 0 rfl ?_
  refine g_getR (j := nw) hX (by decide) (by decide) xCl5 4 (by decide) (by decide) kX5_39 dX5_count_66 rfl ?_
  refine g_getI (v := f 2) hX (xG_n (j := 0) hnw (by decide)) (xG_K0 hnw) xCl0 13 (by decide) (by decide) kX5_140 dX5_count_69 hG.ye ?_
  exact g_iret hX hR dX5_count_72 (by decide) (by decide) ⟨congrArg (fun z => some (Value.int z)) rfl, rfl, rfl, rfl⟩

theorem c_X5_count_ok4 (l : Launch) {nw sp : Nat} {I : xM}   : xC l 1 0 0 yX5_count cX5_count 2 (some .int) 319 [.ref 0, .int (nI 4)] I (xRL nw sp) (xpI (I 0 9) 319 I (xRL nw sp)) := by
  refine xC_of (by decide) (Nat.le_of_ble_eq_true rfl) (fun X hXl hX hR => ?_)
  have hX : xOK X RX5 cX5_count 2 1 0 0 := hX
  show G X 319 0 0 I (xRL nw sp) 0 [(0, .ref 0), (1, .int (nI 4))] []
  refine g_iload_n hX dX5_count_0 rfl 1 rfl ?_
  refine g_tsI (a := (4 : Int)) (v := 4) (tgt := 73) hX dX5_count_1 (by decide) rfl (by decide) (by decide) rfl (by decide) ?_
  refine g_aload_n hX dX5_count_73 rfl 0 rfl ?_
  refine g_getI (v := I 0 9) hX (by decide) (by decide) xCl5 9 (by decide) (by decide) kX5_58 dX5_count_74 rfl ?_
  exact g_iret hX hR dX5_count_77 (by decide) (by decide) ⟨congrArg (fun z => some (Value.int z)) rfl, rfl, rfl, rfl⟩

theorem c_X5_count_ok5 (l : Launch) {nw sp : Nat} {I : xM} {T S F W : Nat} {f : Nat → Int32} (hnw : xG nw) (hG : GX I nw f T S F W) (hW : WF f T S F W) : xC l 1 0 0 yX5_count cX5_count 2 (some .int) 319 [.ref 0, .int (nI 5)] I (xRL nw sp) (xpI (f 3) 319 I (xRL nw sp)) := by
  refine xC_of (by decide) (Nat.le_of_ble_eq_true rfl) (fun X hXl hX hR => ?_)
  have hX : xOK X RX5 cX5_count 2 1 0 0 := hX
  show G X 319 0 0 I (xRL nw sp) 0 [(0, .ref 0), (1, .int (nI 5))] []
  have hg8 := xG_8 hnw
  have hT6 := hW.T6
  have hS6 := hW.S6
  refine g_iload_n hX dX5_count_0 rfl 1 rfl ?_
  refine g_tsI (a := (5 : Int)) (v := 5) (tgt := 78) hX dX5_count_1 (by decide) rfl (by decide) (by decide) rfl (by decide) ?_
  refine g_aload_n hX dX5_count_78 rfl 0 rfl ?_
  refine g_getR (j := nw) hX (by decide) (by decide) xCl5 4 (by decide) (by decide) kX5_39 dX5_count_79 rfl ?_
  refine g_getI (v := f 3) hX (xG_n (j := 0) hnw (by decide)) (xG_K0 hnw) xCl0 14 (by decide) (by decide) kX5_146 dX5_count_82 hG.wi ?_
  refine g_cz_eq (a := (f 3).toInt) (tgt := 92) hX dX5_count_85 (by decide) rfl (fun h85 => ?_) (fun h85 => ?_)
  · refine g_iconst (v := nI 0) hX dX5_count_92 (by decide) ?_
    exact g_iret hX hR dX5_count_93 (by decide) (by decide) ⟨congrArg (fun z => some (Value.int z)) (by first | exact b01_t hW.wi h85 | exact b01_f h85), rfl, rfl, rfl⟩
  · refine g_iconst (v := nI 1) hX dX5_count_88 (by decide) ?_
    refine g_goto (tgt := 93) hX dX5_count_89 (by decide) ?_
    exact g_iret hX hR dX5_count_93 (by decide) (by decide) ⟨congrArg (fun z => some (Value.int z)) (by first | exact b01_t hW.wi h85 | exact b01_f h85), rfl, rfl, rfl⟩

theorem c_X5_count_ok6 (l : Launch) {nw sp : Nat} {I : xM}   : xC l 1 0 0 yX5_count cX5_count 2 (some .int) 319 [.ref 0, .int (nI 6)] I (xRL nw sp) (xpI (I 2 1) 319 I (xRL nw sp)) := by
  refine xC_of (by decide) (Nat.le_of_ble_eq_true rfl) (fun X hXl hX hR => ?_)
  have hX : xOK X RX5 cX5_count 2 1 0 0 := hX
  show G X 319 0 0 I (xRL nw sp) 0 [(0, .ref 0), (1, .int (nI 6))] []
  refine g_iload_n hX dX5_count_0 rfl 1 rfl ?_
  refine g_tsI (a := (6 : Int)) (v := 6) (tgt := 94) hX dX5_count_1 (by decide) rfl (by decide) (by decide) rfl (by decide) ?_
  refine g_aload_n hX dX5_count_94 rfl 0 rfl ?_
  refine g_getR (j := 2) hX (by decide) (by decide) xCl5 1 (by decide) (by decide) kX5_18 dX5_count_95 rfl ?_
  refine g_getI (v := I 2 1) hX (by decide) (by decide) xCl1 1 (by decide) (by decide) kX5_117 dX5_count_98 rfl ?_
  exact g_iret hX hR dX5_count_101 (by decide) (by decide) ⟨congrArg (fun z => some (Value.int z)) rfl, rfl, rfl, rfl⟩
