theorem c_X0_hasTree (l : Launch) {nw sp : Nat} {I : xM} {g T S F W : Nat} {f : Nat → Int32} {x : Int32} (hg : xG g) (hG : GX I g f T S F W) (hW : WF f T S F W) : xC l 1 0 0 yX0_hasTree cX0_hasTree 2 (some .boolean) 319 [.ref g, .int x] I (xRL nw sp) (xpI (xb (0 ≤ x.toInt ∧ x.toInt < T)) 319 I (xRL nw sp)) := by
  refine xC_of (by decide) (Nat.le_of_ble_eq_true rfl) (fun X hXl hX hR => ?_)
  have hX : xOK X RX0 cX0_hasTree 2 1 0 0 := hX
  show G X 319 0 0 I (xRL nw sp) 0 [(0, .ref g), (1, .int x)] []
  have hg8 := xG_8 hg
  have hT6 := hW.T6
  have hS6 := hW.S6
  refine g_iload_n hX dX0_hasTree_0 rfl 1 rfl ?_
  refine g_cz_lt (a := x.toInt) (tgt := 16) hX dX0_hasTree_1 (by decide) rfl (fun h1 => ?_) (fun h1 => ?_)
  · refine g_iconst (v := nI 0) hX dX0_hasTree_16 (by decide) ?_
    exact g_zret hX hR dX0_hasTree_17 (by decide) (by decide) (by decide) ⟨congrArg (fun z => some (Value.int z)) (xb_n0 (by omega)), rfl, rfl, rfl⟩
  · refine g_iload_n hX dX0_hasTree_4 rfl 1 rfl ?_
    refine g_aload_n hX dX0_hasTree_5 rfl 0 rfl ?_
    refine g_getI (v := nI T) hX (xG_n (j := 0) hg (by decide)) (xG_K0 hg) xCl0 3 (by decide) (by decide) kX0_23 dX0_hasTree_6 hG.tr ?_
    refine g_ci_ge (a := x.toInt) (b := ((T : Nat) : Int)) (tgt := 16) hX dX0_hasTree_9 (by decide) rfl (nI_toInt (by omega)) (fun h9 => ?_) (fun h9 => ?_)
    · refine g_iconst (v := nI 0) hX dX0_hasTree_16 (by decide) ?_
      exact g_zret hX hR dX0_hasTree_17 (by decide) (by decide) (by decide) ⟨congrArg (fun z => some (Value.int z)) (xb_n0 (by omega)), rfl, rfl, rfl⟩
    · refine g_iconst (v := nI 1) hX dX0_hasTree_12 (by decide) ?_
      refine g_goto (tgt := 17) hX dX0_hasTree_13 (by decide) ?_
      exact g_zret hX hR dX0_hasTree_17 (by decide) (by decide) (by decide) ⟨congrArg (fun z => some (Value.int z)) (xb_n1 (by omega)), rfl, rfl, rfl⟩

theorem c_X0_hasThings (l : Launch) {nw sp : Nat} {I : xM} {g T S F W : Nat} {f : Nat → Int32} {x : Int32} (hg : xG g) (hG : GX I g f T S F W) (hW : WF f T S F W) : xC l 1 0 0 yX0_hasThings cX0_hasThings 2 (some .boolean) 319 [.ref g, .int x] I (xRL nw sp) (xpI (xb (0 ≤ x.toInt ∧ x.toInt < 2 ^ S)) 319 I (xRL nw sp)) := by
  refine xC_of (by decide) (Nat.le_of_ble_eq_true rfl) (fun X hXl hX hR => ?_)
  have hX : xOK X RX0 cX0_hasThings 2 1 0 0 := hX
  show G X 319 0 0 I (xRL nw sp) 0 [(0, .ref g), (1, .int x)] []
  have hg8 := xG_8 hg
  have hT6 := hW.T6
  have hS6 := hW.S6
  obtain ⟨p, hp⟩ : ∃ p, p = 2 ^ S := ⟨_, rfl⟩
  have hp1 : 1 ≤ p := by rw [hp]; exact Nat.one_le_two_pow
  have hp2 : p ≤ 64 := by rw [hp]; exact Nat.pow_le_pow_right (by decide) hS6
  have hpi : ((2 : Int) ^ S) = (p : Int) := by rw [hp]; exact (Int.natCast_pow 2 S).symm
  refine g_iload_n hX dX0_hasThings_0 rfl 1 rfl ?_
  refine g_cz_lt (a := x.toInt) (tgt := 18) hX dX0_hasThings_1 (by decide) rfl (fun h1 => ?_) (fun h1 => ?_)
  · refine g_iconst (v := nI 0) hX dX0_hasThings_18 (by decide) ?_
    exact g_zret hX hR dX0_hasThings_19 (by decide) (by decide) (by decide) ⟨congrArg (fun z => some (Value.int z)) (xb_n0 (by rw [hpi]; omega)), rfl, rfl, rfl⟩
  · refine g_iload_n hX dX0_hasThings_4 rfl 1 rfl ?_
    refine g_iconst (v := nI 1) hX dX0_hasThings_5 (by decide) ?_
    refine g_aload_n hX dX0_hasThings_6 rfl 0 rfl ?_
    refine g_getI (v := nI S) hX (xG_n (j := 0) hg (by decide)) (xG_K0 hg) xCl0 9 (by decide) (by decide) kX0_41 dX0_hasThings_7 hG.th ?_
    refine g_ishl (v := nI p) hX dX0_hasThings_10 (by rw [hp]; exact shl1_d S (by omega)) ?_
    refine g_ci_ge (a := x.toInt) (b := ((p : Nat) : Int)) (tgt := 18) hX dX0_hasThings_11 (by decide) rfl (nI_toInt (by omega)) (fun h11 => ?_) (fun h11 => ?_)
    · refine g_iconst (v := nI 0) hX dX0_hasThings_18 (by decide) ?_
      exact g_zret hX hR dX0_hasThings_19 (by decide) (by decide) (by decide) ⟨congrArg (fun z => some (Value.int z)) (xb_n0 (by rw [hpi]; omega)), rfl, rfl, rfl⟩
    · refine g_iconst (v := nI 1) hX dX0_hasThings_14 (by decide) ?_
      refine g_goto (tgt := 19) hX dX0_hasThings_15 (by decide) ?_
      exact g_zret hX hR dX0_hasThings_19 (by decide) (by decide) (by decide) ⟨congrArg (fun z => some (Value.int z)) (xb_n1 (by rw [hpi]; omega)), rfl, rfl, rfl⟩

theorem c_X0_mayBeCut_t (l : Launch) {nw sp : Nat} {I : xM} {g T S F W : Nat} {f : Nat → Int32} {t : Nat} (hg : xG g) (hG : GX I g f T S F W) (hW : WF f T S F W) (ht : t < T) : xC l 2 0 0 yX0_mayBeCut cX0_mayBeCut 2 (some .boolean) 319 [.ref g, .int (nI t)] I (xRL nw sp) (xpI (xb ((f (26 + 5 * t + 0)).toInt ≠ 3 ∧ (f (26 + 5 * t + 0)).toInt ≠ 5)) 319 I (xRL nw sp)) := by
  refine xC_of (by decide) (Nat.le_of_ble_eq_true rfl) (fun X hXl hX hR => ?_)
  have hX : xOK X RX0 cX0_mayBeCut 2 2 0 0 := hX
  show G X 319 0 0 I (xRL nw sp) 0 [(0, .ref g), (1, .int (nI t))] []
  have hg8 := xG_8 hg
  have hT6 := hW.T6
  have hS6 := hW.S6
  refine g_aload_n hX dX0_mayBeCut_0 rfl 0 rfl ?_
  refine g_iload_n hX dX0_mayBeCut_1 rfl 1 rfl ?_
  refine g_callVi hX (as := [.int (nI t)]) (fun l => c_X0_hasTree l (I := I) (g := g) (T := T) (S := S) (F := F) (W := W) (f := f) (x := (nI t)) (hg := hg) (hG := (by first | assumption | omega)) (hW := (by first | assumption | omega))) mX0_hasTree vX0_hasTree lX0_73 (xG_n (j := 0) hg (by decide)) (xG_K0 hg) xCl0 rfl rfl dX0_mayBeCut_2 rfl (by decide) (Nat.le_of_ble_eq_true rfl) (by decide) (by decide) ?_
  refine g_top (y := xb (0 ≤ ((t : Nat) : Int) ∧ ((t : Nat) : Int) < T)) (by rw [nI_toInt (n := t) (by omega)]) ?_
  refine g_cb_eq (tgt := 32) hX dX0_mayBeCut_5 (by decide) (fun h5 => ?_) (fun h5 => ?_)
  · exfalso; omega
  · refine g_aload_n hX dX0_mayBeCut_8 rfl 0 rfl ?_
    refine g_getR (j := g + 2) hX (xG_n (j := 0) hg (by decide)) (xG_K0 hg) xCl0 4 (by decide) (by decide) kX0_26 dX0_mayBeCut_9 (xRL_g4 hg) ?_
    refine g_iload_n hX dX0_mayBeCut_12 rfl 1 rfl ?_
    refine g_iald (v := f (26 + 5 * t + 0)) hX (xG_n (j := 2) hg (by decide)) (xG_K2 hg) t rfl (by rw [(xG_N2 hg)]; omega) dX0_mayBeCut_13 (hG.k0 (by omega)) ?_
    refine g_iconst (v := nI 3) hX dX0_mayBeCut_14 (by decide) ?_
    refine g_ci_eq (a := (f (26 + 5 * t + 0)).toInt) (b := (3 : Int)) (tgt := 32) hX dX0_mayBeCut_15 (by decide) rfl (by decide) (fun h15 => ?_) (fun h15 => ?_)
    · refine g_iconst (v := nI 0) hX dX0_mayBeCut_32 (by decide) ?_
      exact g_zret hX hR dX0_mayBeCut_33 (by decide) (by decide) (by decide) ⟨congrArg (fun z => some (Value.int z)) (xb_n0 (by omega)), rfl, rfl, rfl⟩
    · refine g_aload_n hX dX0_mayBeCut_18 rfl 0 rfl ?_
      refine g_getR (j := g + 2) hX (xG_n (j := 0) hg (by decide)) (xG_K0 hg) xCl0 4 (by decide) (by decide) kX0_26 dX0_mayBeCut_19 (xRL_g4 hg) ?_
      refine g_iload_n hX dX0_mayBeCut_22 rfl 1 rfl ?_
      refine g_iald (v := f (26 + 5 * t + 0)) hX (xG_n (j := 2) hg (by decide)) (xG_K2 hg) t rfl (by rw [(xG_N2 hg)]; omega) dX0_mayBeCut_23 (hG.k0 (by omega)) ?_
      refine g_iconst (v := nI 5) hX dX0_mayBeCut_24 (by decide) ?_
      refine g_ci_eq (a := (f (26 + 5 * t + 0)).toInt) (b := (5 : Int)) (tgt := 32) hX dX0_mayBeCut_25 (by decide) rfl (by decide) (fun h25 => ?_) (fun h25 => ?_)
      · refine g_iconst (v := nI 0) hX dX0_mayBeCut_32 (by decide) ?_
        exact g_zret hX hR dX0_mayBeCut_33 (by decide) (by decide) (by decide) ⟨congrArg (fun z => some (Value.int z)) (xb_n0 (by omega)), rfl, rfl, rfl⟩
      · refine g_iconst (v := nI 1) hX dX0_mayBeCut_28 (by decide) ?_
        refine g_goto (tgt := 33) hX dX0_mayBeCut_29 (by decide) ?_
        exact g_zret hX hR dX0_mayBeCut_33 (by decide) (by decide) (by decide) ⟨congrArg (fun z => some (Value.int z)) (xb_n1 (by omega)), rfl, rfl, rfl⟩

theorem c_X0_mayBeCut_no (l : Launch) {nw sp : Nat} {I : xM} {g T S F W : Nat} {f : Nat → Int32} {x : Int32} (hg : xG g) (hG : GX I g f T S F W) (hW : WF f T S F W) (hx : ¬ (0 ≤ x.toInt ∧ x.toInt < T)) : xC l 2 0 0 yX0_mayBeCut cX0_mayBeCut 2 (some .boolean) 319 [.ref g, .int x] I (xRL nw sp) (xpI (xb (False)) 319 I (xRL nw sp)) := by
  refine xC_of (by decide) (Nat.le_of_ble_eq_true rfl) (fun X hXl hX hR => ?_)
  have hX : xOK X RX0 cX0_mayBeCut 2 2 0 0 := hX
  show G X 319 0 0 I (xRL nw sp) 0 [(0, .ref g), (1, .int x)] []
  have hg8 := xG_8 hg
  have hT6 := hW.T6
  have hS6 := hW.S6
  refine g_aload_n hX dX0_mayBeCut_0 rfl 0 rfl ?_
  refine g_iload_n hX dX0_mayBeCut_1 rfl 1 rfl ?_
  refine g_callVi hX (as := [.int x]) (fun l => c_X0_hasTree l (I := I) (g := g) (T := T) (S := S) (F := F) (W := W) (f := f) (x := x) (hg := hg) (hG := (by first | assumption | omega)) (hW := (by first | assumption | omega))) mX0_hasTree vX0_hasTree lX0_73 (xG_n (j := 0) hg (by decide)) (xG_K0 hg) xCl0 rfl rfl dX0_mayBeCut_2 rfl (by decide) (Nat.le_of_ble_eq_true rfl) (by decide) (by decide) ?_
  refine g_cb_eq (tgt := 32) hX dX0_mayBeCut_5 (by decide) (fun h5 => ?_) (fun h5 => ?_)
  · refine g_iconst (v := nI 0) hX dX0_mayBeCut_32 (by decide) ?_
    exact g_zret hX hR dX0_mayBeCut_33 (by decide) (by decide) (by decide) ⟨congrArg (fun z => some (Value.int z)) (xb_n0 (by exact fun q => q)), rfl, rfl, rfl⟩
  · exfalso; omega

theorem c_X0_treeAt (l : Launch) {nw sp : Nat} {I : xM} {g T S F W : Nat} {f : Nat → Int32} {x : Int32} (hg : xG g) (hG : GX I g f T S F W) (hW : WF f T S F W) : xC l 1 0 0 yX0_treeAt cX0_treeAt 3 (some .int) 319 [.ref g, .int x] I (xRL nw sp) (xpI (oI (taF f T x)) 319 I (xRL nw sp)) := by
  refine xC_of (by decide) (Nat.le_of_ble_eq_true rfl) (fun X hXl hX hR => ?_)
  have hX : xOK X RX0 cX0_treeAt 3 1 0 0 := hX
  show G X 319 0 0 I (xRL nw sp) 0 [(0, .ref g), (1, .int x)] []
  have hg8 := xG_8 hg
  have hT6 := hW.T6
  have hS6 := hW.S6
  refine g_iconst (v := nI 0) hX dX0_treeAt_0 (by decide) ?_
  refine g_istore_n (L' := [(0, .ref g), (1, .int x), (2, .int (nI 0))]) hX dX0_treeAt_1 rfl (by decide) rfl ?_
  have cut2 : ∀ (fuel : Nat) (i : Nat) (hi : i ≤ T) (hno : ∀ u, u < i → ¬ f (26 + 5 * u + 1) = x), T - i < fuel → G X 319 0 0 I (xRL nw sp) 2 [(0, .ref g), (1, .int x), (2, .int (nI i))] [] := by
    intro fuel
    induction fuel with
    | zero => intro i hi hno hfuel; omega
    | succ fuel ih =>
      intro i hi hno hfuel
      refine g_iload_n hX dX0_treeAt_2 rfl 2 rfl ?_
      refine g_aload_n hX dX0_treeAt_3 rfl 0 rfl ?_
      refine g_getI (v := nI T) hX (xG_n (j := 0) hg (by decide)) (xG_K0 hg) xCl0 3 (by decide) (by decide) kX0_23 dX0_treeAt_4 hG.tr ?_
      refine g_ci_ge (a := ((i : Nat) : Int)) (b := ((T : Nat) : Int)) (tgt := 28) hX dX0_treeAt_7 (by decide) (nI_toInt (by omega)) (nI_toInt (by omega)) (fun h7 => ?_) (fun h7 => ?_)
      · refine g_ldc (v := -1000000) hX cX0_19 dX0_treeAt_28 ?_
        exact g_iret hX hR dX0_treeAt_30 (by decide) (by decide) ⟨congrArg (fun z => some (Value.int z)) (by rw [taF, xfind_none (fun u hu => hno u (by omega))]; rfl), rfl, rfl, rfl⟩
      · refine g_aload_n hX dX0_treeAt_10 rfl 0 rfl ?_
        refine g_getR (j := g + 3) hX (xG_n (j := 0) hg (by decide)) (xG_K0 hg) xCl0 5 (by decide) (by decide) kX0_29 dX0_treeAt_11 (xRL_g5 hg) ?_
        refine g_iload_n hX dX0_treeAt_14 rfl 2 rfl ?_
        refine g_iald (v := f (26 + 5 * i + 1)) hX (xG_n (j := 3) hg (by decide)) (xG_K3 hg) i rfl (by rw [(xG_N3 hg)]; omega) dX0_treeAt_15 (hG.k1 (by omega)) ?_
        refine g_iload_n hX dX0_treeAt_16 rfl 1 rfl ?_
        refine g_ci_ne (a := (f (26 + 5 * i + 1)).toInt) (b := x.toInt) (tgt := 22) hX dX0_treeAt_17 (by decide) rfl rfl (fun h17 => ?_) (fun h17 => ?_)
        · refine g_iinc (v := nI (i + 1)) (L' := [(0, .ref g), (1, .int x), (2, .int (nI (i + 1)))]) hX dX0_treeAt_22 (by decide) 2 rfl (nI_add i 1) rfl ?_
          refine g_goto (tgt := 2) hX dX0_treeAt_25 (by decide) ?_
          exact ih (i + 1) (by first | assumption | omega) (lt_succ_or hno (fun e => h17 (congrArg Int32.toInt e))) (by omega)
        · refine g_iload_n hX dX0_treeAt_20 rfl 2 rfl ?_
          exact g_iret hX hR dX0_treeAt_21 (by decide) (by decide) ⟨congrArg (fun z => some (Value.int z)) (by rw [taF, xfind_some (i := i) (Int32.toInt_inj.mp h17) hno (by omega)]; rfl), rfl, rfl, rfl⟩
  exact cut2 _ 0 (by first | assumption | omega) (fun u hu => absurd hu (Nat.not_lt_zero u)) (Nat.lt_succ_self _)

theorem c_X0_topOf (l : Launch) {nw sp : Nat} {I : xM} {g T S F W : Nat} {f : Nat → Int32} {k : Nat} (hg : xG g) (hG : GX I g f T S F W) (hW : WF f T S F W) (hk : k < S) : xC l 1 0 0 yX0_topOf cX0_topOf 2 (some .int) 319 [.ref g, .int (nI k)] I (xRL nw sp) (xpI (tpF f k) 319 I (xRL nw sp)) := by
  refine xC_of (by decide) (Nat.le_of_ble_eq_true rfl) (fun X hXl hX hR => ?_)
  have hX : xOK X RX0 cX0_topOf 2 1 0 0 := hX
  show G X 319 0 0 I (xRL nw sp) 0 [(0, .ref g), (1, .int (nI k))] []
  have hg8 := xG_8 hg
  have hT6 := hW.T6
  have hS6 := hW.S6
  have hts9 := hW.ts9 hk
  refine g_aload_n hX dX0_topOf_0 rfl 0 rfl ?_
  refine g_getR (j := g + 1) hX (xG_n (j := 0) hg (by decide)) (xG_K0 hg) xCl0 0 (by decide) (by decide) kX0_9 dX0_topOf_1 (xRL_g0 hg) ?_
  refine g_aload_n hX dX0_topOf_4 rfl 0 rfl ?_
  refine g_getR (j := g + 7) hX (xG_n (j := 0) hg (by decide)) (xG_K0 hg) xCl0 10 (by decide) (by decide) kX0_44 dX0_topOf_5 (xRL_g10 hg) ?_
  refine g_iload_n hX dX0_topOf_8 rfl 1 rfl ?_
  refine g_iald (v := nI (tsF f k)) hX (xG_n (j := 7) hg (by decide)) (xG_K7 hg) k rfl (by rw [(xG_N7 hg)]; omega) dX0_topOf_9 ((hG.s0 (by omega)).trans (hW.ts (by omega))) ?_
  refine g_iald (v := f (6 + (tsF f k))) hX (xG_n (j := 1) hg (by decide)) (xG_K1 hg) (tsF f k) rfl (by rw [(xG_N1 hg)]; omega) dX0_topOf_10 (hG.gr (by omega)) ?_
  refine g_aload_n hX dX0_topOf_11 rfl 0 rfl ?_
  refine g_getR (j := g + 8) hX (xG_n (j := 0) hg (by decide)) (xG_K0 hg) xCl0 11 (by decide) (by decide) kX0_47 dX0_topOf_12 (xRL_g11 hg) ?_
  refine g_iload_n hX dX0_topOf_15 rfl 1 rfl ?_
  refine g_iald (v := f (56 + 3 * k + 1)) hX (xG_n (j := 8) hg (by decide)) (xG_K8 hg) k rfl (by rw [(xG_N8 hg)]; omega) dX0_topOf_16 (hG.s1 (by omega)) ?_
  refine g_iadd (v := (f (6 + (tsF f k))) + (f (56 + 3 * k + 1))) hX dX0_topOf_17 rfl ?_
  exact g_iret hX hR dX0_topOf_18 (by decide) (by decide) ⟨congrArg (fun z => some (Value.int z)) rfl, rfl, rfl, rfl⟩

theorem c_X0_heightIn (l : Launch) {nw sp : Nat} {I : xM} {g T S F W : Nat} {f : Nat → Int32} {t : Nat} {y w : Int32} (hg : xG g) (hG : GX I g f T S F W) (hW : WF f T S F W) (ht : t < T) (hw : w.toInt = 0 ∨ w.toInt = 1) : xC l 2 0 0 yX0_heightIn cX0_heightIn 6 (some .int) 319 [.ref g, .int (nI t), .int y, .int w] I (xRL nw sp) (xpI (hgM (f (26 + 5 * t + 0)) (f (26 + 5 * t + 2)) (f (26 + 5 * t + 3)) (f (26 + 5 * t + 4)) y w 0) 319 I (xRL nw sp)) := by
  refine xC_of (by decide) (Nat.le_of_ble_eq_true rfl) (fun X hXl hX hR => ?_)
  have hX : xOK X RX0 cX0_heightIn 6 2 0 0 := hX
  show G X 319 0 0 I (xRL nw sp) 0 [(0, .ref g), (1, .int (nI t)), (2, .int y), (3, .int w)] []
  have hg8 := xG_8 hg
  have hT6 := hW.T6
  have hS6 := hW.S6
  have hkd := hW.kd ht
  refine g_aload_n hX dX0_heightIn_0 rfl 0 rfl ?_
  refine g_iload_n hX dX0_heightIn_1 rfl 1 rfl ?_
  refine g_callVi hX (as := [.int (nI t)]) (fun l => c_X0_hasTree l (I := I) (g := g) (T := T) (S := S) (F := F) (W := W) (f := f) (x := (nI t)) (hg := hg) (hG := (by first | assumption | omega)) (hW := (by first | assumption | omega))) mX0_hasTree vX0_hasTree lX0_73 (xG_n (j := 0) hg (by decide)) (xG_K0 hg) xCl0 rfl rfl dX0_heightIn_2 rfl (by decide) (Nat.le_of_ble_eq_true rfl) (by decide) (by decide) ?_
  refine g_top (y := xb (0 ≤ ((t : Nat) : Int) ∧ ((t : Nat) : Int) < T)) (by rw [nI_toInt (n := t) (by omega)]) ?_
  refine g_cb_eq (tgt := 22) hX dX0_heightIn_5 (by decide) (fun h5 => ?_) (fun h5 => ?_)
  · exfalso; omega
  · refine g_iload_n hX dX0_heightIn_8 rfl 3 rfl ?_
    refine g_cz_eq (a := w.toInt) (tgt := 24) hX dX0_heightIn_9 (by decide) rfl (fun h9 => ?_) (fun h9 => ?_)
    · have cut24 : ∀  (hnb : ¬ ((f (26 + 5 * t + 0)).toInt = 1 ∧ w.toInt = 1)), G X 319 0 0 I (xRL nw sp) 24 [(0, .ref g), (1, .int (nI t)), (2, .int y), (3, .int w)] [] := by
        intro hnb
        refine g_aload_n hX dX0_heightIn_24 rfl 0 rfl ?_
        refine g_getR (j := g + 2) hX (xG_n (j := 0) hg (by decide)) (xG_K0 hg) xCl0 4 (by decide) (by decide) kX0_26 dX0_heightIn_25 (xRL_g4 hg) ?_
        refine g_iload_n hX dX0_heightIn_28 rfl 1 rfl ?_
        refine g_iald (v := f (26 + 5 * t + 0)) hX (xG_n (j := 2) hg (by decide)) (xG_K2 hg) t rfl (by rw [(xG_N2 hg)]; omega) dX0_heightIn_29 (hG.k0 (by omega)) ?_
        refine g_iconst (v := nI 4) hX dX0_heightIn_30 (by decide) ?_
        refine g_ci_eq (a := (f (26 + 5 * t + 0)).toInt) (b := (4 : Int)) (tgt := 44) hX dX0_heightIn_31 (by decide) rfl (by decide) (fun h31 => ?_) (fun h31 => ?_)
        · refine g_iconst (v := nI 1) hX dX0_heightIn_44 (by decide) ?_
          refine g_goto (tgt := 49) hX dX0_heightIn_45 (by decide) ?_
          refine g_istore (L' := [(0, .ref g), (1, .int (nI t)), (2, .int y), (3, .int w), (4, .int (nI 1))]) hX dX0_heightIn_49 (by decide) rfl ?_
          refine g_iload hX dX0_heightIn_51 4 rfl ?_
          refine g_cz_eq (a := (1 : Int)) (tgt := 65) hX dX0_heightIn_53 (by decide) (by decide) (fun q => absurd q (by decide)) (fun _ => ?_)
          refine g_aload_n hX dX0_heightIn_56 rfl 0 rfl ?_
          refine g_getR (j := g + 4) hX (xG_n (j := 0) hg (by decide)) (xG_K0 hg) xCl0 6 (by decide) (by decide) kX0_32 dX0_heightIn_57 (xRL_g6 hg) ?_
          refine g_iload_n hX dX0_heightIn_60 rfl 1 rfl ?_
          refine g_iald (v := f (26 + 5 * t + 2)) hX (xG_n (j := 4) hg (by decide)) (xG_K4 hg) t rfl (by rw [(xG_N4 hg)]; omega) dX0_heightIn_61 (hG.k2 (by omega)) ?_
          refine g_goto (tgt := 80) hX dX0_heightIn_62 (by decide) ?_
          have cut80 : ∀ (s : Int32) (hs : s = hgS (f (26 + 5 * t + 0)) (f (26 + 5 * t + 2)) (f (26 + 5 * t + 3)) y), G X 319 0 0 I (xRL nw sp) 80 [(0, .ref g), (1, .int (nI t)), (2, .int y)] [.int s] := by
            intro s hs
            refine g_istore (L' := [(0, .ref g), (1, .int (nI t)), (2, .int y), (5, .int s)]) hX dX0_heightIn_80 (by decide) rfl ?_
            refine g_iconst (v := nI 0) hX dX0_heightIn_82 (by decide) ?_
            refine g_bipush (v := nI 99) hX dX0_heightIn_83 (by decide) ?_
            refine g_iload hX dX0_heightIn_85 3 rfl ?_
            refine g_imin (v := if s.toInt ≤ 99 then s else 99) hX jmX0_81 jmin_s jm_i jmin_c (by decide) (Nat.le_of_ble_eq_true rfl) (by decide) (by decide) dX0_heightIn_87 (min99 s) ?_
            refine g_aload_n hX dX0_heightIn_90 rfl 0 rfl ?_
            refine g_getR (j := g + 6) hX (xG_n (j := 0) hg (by decide)) (xG_K0 hg) xCl0 8 (by decide) (by decide) kX0_38 dX0_heightIn_91 (xRL_g8 hg) ?_
            refine g_iload_n hX dX0_heightIn_94 rfl 1 rfl ?_
            refine g_iald (v := f (26 + 5 * t + 4)) hX (xG_n (j := 6) hg (by decide)) (xG_K6 hg) t rfl (by rw [(xG_N6 hg)]; omega) dX0_heightIn_95 (hG.k4 (by omega)) ?_
            refine g_isub (v := (if s.toInt ≤ 99 then s else 99) - (f (26 + 5 * t + 4))) hX dX0_heightIn_96 rfl ?_
            refine g_imax (v := hgZ ((if s.toInt ≤ 99 then s else 99) - f (26 + 5 * t + 4))) hX jmX0_87 jmax_s jm_i jmax_c (by decide) (Nat.le_of_ble_eq_true rfl) (by decide) (by decide) dX0_heightIn_97 (max0 _) ?_
            exact g_iret hX hR dX0_heightIn_100 (by decide) (by decide) ⟨congrArg (fun z => some (Value.int z)) (by rw [hgM, if_neg hnb, ← hs, hgT, Int32.add_zero]), rfl, rfl, rfl⟩
          refine g_loc [0, 1, 2] rfl ?_
          exact cut80 (f (26 + 5 * t + 2)) (by rw [hgS, if_neg (by omega)]; exact (Int32.add_zero _).symm)
        · refine g_aload_n hX dX0_heightIn_34 rfl 0 rfl ?_
          refine g_getR (j := g + 2) hX (xG_n (j := 0) hg (by decide)) (xG_K0 hg) xCl0 4 (by decide) (by decide) kX0_26 dX0_heightIn_35 (xRL_g4 hg) ?_
          refine g_iload_n hX dX0_heightIn_38 rfl 1 rfl ?_
          refine g_iald (v := f (26 + 5 * t + 0)) hX (xG_n (j := 2) hg (by decide)) (xG_K2 hg) t rfl (by rw [(xG_N2 hg)]; omega) dX0_heightIn_39 (hG.k0 (by omega)) ?_
          refine g_iconst (v := nI 5) hX dX0_heightIn_40 (by decide) ?_
          refine g_ci_ne (a := (f (26 + 5 * t + 0)).toInt) (b := (5 : Int)) (tgt := 48) hX dX0_heightIn_41 (by decide) rfl (by decide) (fun h41 => ?_) (fun h41 => ?_)
          · refine g_iconst (v := nI 0) hX dX0_heightIn_48 (by decide) ?_
            refine g_istore (L' := [(0, .ref g), (1, .int (nI t)), (2, .int y), (3, .int w), (4, .int (nI 0))]) hX dX0_heightIn_49 (by decide) rfl ?_
            refine g_iload hX dX0_heightIn_51 4 rfl ?_
            refine g_cz_eq (a := (0 : Int)) (tgt := 65) hX dX0_heightIn_53 (by decide) (by decide) (fun _ => ?_) (fun q => absurd q (by decide))
            refine g_aload_n hX dX0_heightIn_65 rfl 0 rfl ?_
            refine g_getR (j := g + 4) hX (xG_n (j := 0) hg (by decide)) (xG_K0 hg) xCl0 6 (by decide) (by decide) kX0_32 dX0_heightIn_66 (xRL_g6 hg) ?_
            refine g_iload_n hX dX0_heightIn_69 rfl 1 rfl ?_
            refine g_iald (v := f (26 + 5 * t + 2)) hX (xG_n (j := 4) hg (by decide)) (xG_K4 hg) t rfl (by rw [(xG_N4 hg)]; omega) dX0_heightIn_70 (hG.k2 (by omega)) ?_
            refine g_aload_n hX dX0_heightIn_71 rfl 0 rfl ?_
            refine g_getR (j := g + 5) hX (xG_n (j := 0) hg (by decide)) (xG_K0 hg) xCl0 7 (by decide) (by decide) kX0_35 dX0_heightIn_72 (xRL_g7 hg) ?_
            refine g_iload_n hX dX0_heightIn_75 rfl 1 rfl ?_
            refine g_iald (v := f (26 + 5 * t + 3)) hX (xG_n (j := 5) hg (by decide)) (xG_K5 hg) t rfl (by rw [(xG_N5 hg)]; omega) dX0_heightIn_76 (hG.k3 (by omega)) ?_
            refine g_iload_n hX dX0_heightIn_77 rfl 2 rfl ?_
            refine g_imul (v := (f (26 + 5 * t + 3)) * y) hX dX0_heightIn_78 rfl ?_
            refine g_iadd (v := (f (26 + 5 * t + 2)) + ((f (26 + 5 * t + 3)) * y)) hX dX0_heightIn_79 rfl ?_
            have cut80 : ∀ (s : Int32) (hs : s = hgS (f (26 + 5 * t + 0)) (f (26 + 5 * t + 2)) (f (26 + 5 * t + 3)) y), G X 319 0 0 I (xRL nw sp) 80 [(0, .ref g), (1, .int (nI t)), (2, .int y)] [.int s] := by
              intro s hs
              refine g_istore (L' := [(0, .ref g), (1, .int (nI t)), (2, .int y), (5, .int s)]) hX dX0_heightIn_80 (by decide) rfl ?_
              refine g_iconst (v := nI 0) hX dX0_heightIn_82 (by decide) ?_
              refine g_bipush (v := nI 99) hX dX0_heightIn_83 (by decide) ?_
              refine g_iload hX dX0_heightIn_85 3 rfl ?_
              refine g_imin (v := if s.toInt ≤ 99 then s else 99) hX jmX0_81 jmin_s jm_i jmin_c (by decide) (Nat.le_of_ble_eq_true rfl) (by decide) (by decide) dX0_heightIn_87 (min99 s) ?_
              refine g_aload_n hX dX0_heightIn_90 rfl 0 rfl ?_
              refine g_getR (j := g + 6) hX (xG_n (j := 0) hg (by decide)) (xG_K0 hg) xCl0 8 (by decide) (by decide) kX0_38 dX0_heightIn_91 (xRL_g8 hg) ?_
              refine g_iload_n hX dX0_heightIn_94 rfl 1 rfl ?_
              refine g_iald (v := f (26 + 5 * t + 4)) hX (xG_n (j := 6) hg (by decide)) (xG_K6 hg) t rfl (by rw [(xG_N6 hg)]; omega) dX0_heightIn_95 (hG.k4 (by omega)) ?_
              refine g_isub (v := (if s.toInt ≤ 99 then s else 99) - (f (26 + 5 * t + 4))) hX dX0_heightIn_96 rfl ?_
              refine g_imax (v := hgZ ((if s.toInt ≤ 99 then s else 99) - f (26 + 5 * t + 4))) hX jmX0_87 jmax_s jm_i jmax_c (by decide) (Nat.le_of_ble_eq_true rfl) (by decide) (by decide) dX0_heightIn_97 (max0 _) ?_
              exact g_iret hX hR dX0_heightIn_100 (by decide) (by decide) ⟨congrArg (fun z => some (Value.int z)) (by rw [hgM, if_neg hnb, ← hs, hgT, Int32.add_zero]), rfl, rfl, rfl⟩
            refine g_loc [0, 1, 2] rfl ?_
            exact cut80 ((f (26 + 5 * t + 2)) + ((f (26 + 5 * t + 3)) * y)) (by rw [hgS, if_pos (by omega)])
          · refine g_iconst (v := nI 1) hX dX0_heightIn_44 (by decide) ?_
            refine g_goto (tgt := 49) hX dX0_heightIn_45 (by decide) ?_
            refine g_istore (L' := [(0, .ref g), (1, .int (nI t)), (2, .int y), (3, .int w), (4, .int (nI 1))]) hX dX0_heightIn_49 (by decide) rfl ?_
            refine g_iload hX dX0_heightIn_51 4 rfl ?_
            refine g_cz_eq (a := (1 : Int)) (tgt := 65) hX dX0_heightIn_53 (by decide) (by decide) (fun q => absurd q (by decide)) (fun _ => ?_)
            refine g_aload_n hX dX0_heightIn_56 rfl 0 rfl ?_
            refine g_getR (j := g + 4) hX (xG_n (j := 0) hg (by decide)) (xG_K0 hg) xCl0 6 (by decide) (by decide) kX0_32 dX0_heightIn_57 (xRL_g6 hg) ?_
            refine g_iload_n hX dX0_heightIn_60 rfl 1 rfl ?_
            refine g_iald (v := f (26 + 5 * t + 2)) hX (xG_n (j := 4) hg (by decide)) (xG_K4 hg) t rfl (by rw [(xG_N4 hg)]; omega) dX0_heightIn_61 (hG.k2 (by omega)) ?_
            refine g_goto (tgt := 80) hX dX0_heightIn_62 (by decide) ?_
            have cut80 : ∀ (s : Int32) (hs : s = hgS (f (26 + 5 * t + 0)) (f (26 + 5 * t + 2)) (f (26 + 5 * t + 3)) y), G X 319 0 0 I (xRL nw sp) 80 [(0, .ref g), (1, .int (nI t)), (2, .int y)] [.int s] := by
              intro s hs
              refine g_istore (L' := [(0, .ref g), (1, .int (nI t)), (2, .int y), (5, .int s)]) hX dX0_heightIn_80 (by decide) rfl ?_
              refine g_iconst (v := nI 0) hX dX0_heightIn_82 (by decide) ?_
              refine g_bipush (v := nI 99) hX dX0_heightIn_83 (by decide) ?_
              refine g_iload hX dX0_heightIn_85 3 rfl ?_
              refine g_imin (v := if s.toInt ≤ 99 then s else 99) hX jmX0_81 jmin_s jm_i jmin_c (by decide) (Nat.le_of_ble_eq_true rfl) (by decide) (by decide) dX0_heightIn_87 (min99 s) ?_
              refine g_aload_n hX dX0_heightIn_90 rfl 0 rfl ?_
              refine g_getR (j := g + 6) hX (xG_n (j := 0) hg (by decide)) (xG_K0 hg) xCl0 8 (by decide) (by decide) kX0_38 dX0_heightIn_91 (xRL_g8 hg) ?_
              refine g_iload_n hX dX0_heightIn_94 rfl 1 rfl ?_
              refine g_iald (v := f (26 + 5 * t + 4)) hX (xG_n (j := 6) hg (by decide)) (xG_K6 hg) t rfl (by rw [(xG_N6 hg)]; omega) dX0_heightIn_95 (hG.k4 (by omega)) ?_
              refine g_isub (v := (if s.toInt ≤ 99 then s else 99) - (f (26 + 5 * t + 4))) hX dX0_heightIn_96 rfl ?_
              refine g_imax (v := hgZ ((if s.toInt ≤ 99 then s else 99) - f (26 + 5 * t + 4))) hX jmX0_87 jmax_s jm_i jmax_c (by decide) (Nat.le_of_ble_eq_true rfl) (by decide) (by decide) dX0_heightIn_97 (max0 _) ?_
              exact g_iret hX hR dX0_heightIn_100 (by decide) (by decide) ⟨congrArg (fun z => some (Value.int z)) (by rw [hgM, if_neg hnb, ← hs, hgT, Int32.add_zero]), rfl, rfl, rfl⟩
            refine g_loc [0, 1, 2] rfl ?_
            exact cut80 (f (26 + 5 * t + 2)) (by rw [hgS, if_neg (by omega)]; exact (Int32.add_zero _).symm)
      exact cut24 (by omega)
    · refine g_aload_n hX dX0_heightIn_12 rfl 0 rfl ?_
      refine g_getR (j := g + 2) hX (xG_n (j := 0) hg (by decide)) (xG_K0 hg) xCl0 4 (by decide) (by decide) kX0_26 dX0_heightIn_13 (xRL_g4 hg) ?_
      refine g_iload_n hX dX0_heightIn_16 rfl 1 rfl ?_
      refine g_iald (v := f (26 + 5 * t + 0)) hX (xG_n (j := 2) hg (by decide)) (xG_K2 hg) t rfl (by rw [(xG_N2 hg)]; omega) dX0_heightIn_17 (hG.k0 (by omega)) ?_
      refine g_iconst (v := nI 1) hX dX0_heightIn_18 (by decide) ?_
      refine g_ci_ne (a := (f (26 + 5 * t + 0)).toInt) (b := (1 : Int)) (tgt := 24) hX dX0_heightIn_19 (by decide) rfl (by decide) (fun h19 => ?_) (fun h19 => ?_)
      · have cut24 : ∀  (hnb : ¬ ((f (26 + 5 * t + 0)).toInt = 1 ∧ w.toInt = 1)), G X 319 0 0 I (xRL nw sp) 24 [(0, .ref g), (1, .int (nI t)), (2, .int y), (3, .int w)] [] := by
          intro hnb
          refine g_aload_n hX dX0_heightIn_24 rfl 0 rfl ?_
          refine g_getR (j := g + 2) hX (xG_n (j := 0) hg (by decide)) (xG_K0 hg) xCl0 4 (by decide) (by decide) kX0_26 dX0_heightIn_25 (xRL_g4 hg) ?_
          refine g_iload_n hX dX0_heightIn_28 rfl 1 rfl ?_
          refine g_iald (v := f (26 + 5 * t + 0)) hX (xG_n (j := 2) hg (by decide)) (xG_K2 hg) t rfl (by rw [(xG_N2 hg)]; omega) dX0_heightIn_29 (hG.k0 (by omega)) ?_
          refine g_iconst (v := nI 4) hX dX0_heightIn_30 (by decide) ?_
          refine g_ci_eq (a := (f (26 + 5 * t + 0)).toInt) (b := (4 : Int)) (tgt := 44) hX dX0_heightIn_31 (by decide) rfl (by decide) (fun h31 => ?_) (fun h31 => ?_)
          · refine g_iconst (v := nI 1) hX dX0_heightIn_44 (by decide) ?_
            refine g_goto (tgt := 49) hX dX0_heightIn_45 (by decide) ?_
            refine g_istore (L' := [(0, .ref g), (1, .int (nI t)), (2, .int y), (3, .int w), (4, .int (nI 1))]) hX dX0_heightIn_49 (by decide) rfl ?_
            refine g_iload hX dX0_heightIn_51 4 rfl ?_
            refine g_cz_eq (a := (1 : Int)) (tgt := 65) hX dX0_heightIn_53 (by decide) (by decide) (fun q => absurd q (by decide)) (fun _ => ?_)
            refine g_aload_n hX dX0_heightIn_56 rfl 0 rfl ?_
            refine g_getR (j := g + 4) hX (xG_n (j := 0) hg (by decide)) (xG_K0 hg) xCl0 6 (by decide) (by decide) kX0_32 dX0_heightIn_57 (xRL_g6 hg) ?_
            refine g_iload_n hX dX0_heightIn_60 rfl 1 rfl ?_
            refine g_iald (v := f (26 + 5 * t + 2)) hX (xG_n (j := 4) hg (by decide)) (xG_K4 hg) t rfl (by rw [(xG_N4 hg)]; omega) dX0_heightIn_61 (hG.k2 (by omega)) ?_
            refine g_goto (tgt := 80) hX dX0_heightIn_62 (by decide) ?_
            have cut80 : ∀ (s : Int32) (hs : s = hgS (f (26 + 5 * t + 0)) (f (26 + 5 * t + 2)) (f (26 + 5 * t + 3)) y), G X 319 0 0 I (xRL nw sp) 80 [(0, .ref g), (1, .int (nI t)), (2, .int y)] [.int s] := by
              intro s hs
              refine g_istore (L' := [(0, .ref g), (1, .int (nI t)), (2, .int y), (5, .int s)]) hX dX0_heightIn_80 (by decide) rfl ?_
              refine g_iconst (v := nI 0) hX dX0_heightIn_82 (by decide) ?_
              refine g_bipush (v := nI 99) hX dX0_heightIn_83 (by decide) ?_
              refine g_iload hX dX0_heightIn_85 3 rfl ?_
              refine g_imin (v := if s.toInt ≤ 99 then s else 99) hX jmX0_81 jmin_s jm_i jmin_c (by decide) (Nat.le_of_ble_eq_true rfl) (by decide) (by decide) dX0_heightIn_87 (min99 s) ?_
              refine g_aload_n hX dX0_heightIn_90 rfl 0 rfl ?_
              refine g_getR (j := g + 6) hX (xG_n (j := 0) hg (by decide)) (xG_K0 hg) xCl0 8 (by decide) (by decide) kX0_38 dX0_heightIn_91 (xRL_g8 hg) ?_
              refine g_iload_n hX dX0_heightIn_94 rfl 1 rfl ?_
              refine g_iald (v := f (26 + 5 * t + 4)) hX (xG_n (j := 6) hg (by decide)) (xG_K6 hg) t rfl (by rw [(xG_N6 hg)]; omega) dX0_heightIn_95 (hG.k4 (by omega)) ?_
              refine g_isub (v := (if s.toInt ≤ 99 then s else 99) - (f (26 + 5 * t + 4))) hX dX0_heightIn_96 rfl ?_
              refine g_imax (v := hgZ ((if s.toInt ≤ 99 then s else 99) - f (26 + 5 * t + 4))) hX jmX0_87 jmax_s jm_i jmax_c (by decide) (Nat.le_of_ble_eq_true rfl) (by decide) (by decide) dX0_heightIn_97 (max0 _) ?_
              exact g_iret hX hR dX0_heightIn_100 (by decide) (by decide) ⟨congrArg (fun z => some (Value.int z)) (by rw [hgM, if_neg hnb, ← hs, hgT, Int32.add_zero]), rfl, rfl, rfl⟩
            refine g_loc [0, 1, 2] rfl ?_
            exact cut80 (f (26 + 5 * t + 2)) (by rw [hgS, if_neg (by omega)]; exact (Int32.add_zero _).symm)
          · refine g_aload_n hX dX0_heightIn_34 rfl 0 rfl ?_
            refine g_getR (j := g + 2) hX (xG_n (j := 0) hg (by decide)) (xG_K0 hg) xCl0 4 (by decide) (by decide) kX0_26 dX0_heightIn_35 (xRL_g4 hg) ?_
            refine g_iload_n hX dX0_heightIn_38 rfl 1 rfl ?_
            refine g_iald (v := f (26 + 5 * t + 0)) hX (xG_n (j := 2) hg (by decide)) (xG_K2 hg) t rfl (by rw [(xG_N2 hg)]; omega) dX0_heightIn_39 (hG.k0 (by omega)) ?_
            refine g_iconst (v := nI 5) hX dX0_heightIn_40 (by decide) ?_
            refine g_ci_ne (a := (f (26 + 5 * t + 0)).toInt) (b := (5 : Int)) (tgt := 48) hX dX0_heightIn_41 (by decide) rfl (by decide) (fun h41 => ?_) (fun h41 => ?_)
            · refine g_iconst (v := nI 0) hX dX0_heightIn_48 (by decide) ?_
              refine g_istore (L' := [(0, .ref g), (1, .int (nI t)), (2, .int y), (3, .int w), (4, .int (nI 0))]) hX dX0_heightIn_49 (by decide) rfl ?_
              refine g_iload hX dX0_heightIn_51 4 rfl ?_
              refine g_cz_eq (a := (0 : Int)) (tgt := 65) hX dX0_heightIn_53 (by decide) (by decide) (fun _ => ?_) (fun q => absurd q (by decide))
              refine g_aload_n hX dX0_heightIn_65 rfl 0 rfl ?_
              refine g_getR (j := g + 4) hX (xG_n (j := 0) hg (by decide)) (xG_K0 hg) xCl0 6 (by decide) (by decide) kX0_32 dX0_heightIn_66 (xRL_g6 hg) ?_
              refine g_iload_n hX dX0_heightIn_69 rfl 1 rfl ?_
              refine g_iald (v := f (26 + 5 * t + 2)) hX (xG_n (j := 4) hg (by decide)) (xG_K4 hg) t rfl (by rw [(xG_N4 hg)]; omega) dX0_heightIn_70 (hG.k2 (by omega)) ?_
              refine g_aload_n hX dX0_heightIn_71 rfl 0 rfl ?_
              refine g_getR (j := g + 5) hX (xG_n (j := 0) hg (by decide)) (xG_K0 hg) xCl0 7 (by decide) (by decide) kX0_35 dX0_heightIn_72 (xRL_g7 hg) ?_
              refine g_iload_n hX dX0_heightIn_75 rfl 1 rfl ?_
              refine g_iald (v := f (26 + 5 * t + 3)) hX (xG_n (j := 5) hg (by decide)) (xG_K5 hg) t rfl (by rw [(xG_N5 hg)]; omega) dX0_heightIn_76 (hG.k3 (by omega)) ?_
              refine g_iload_n hX dX0_heightIn_77 rfl 2 rfl ?_
              refine g_imul (v := (f (26 + 5 * t + 3)) * y) hX dX0_heightIn_78 rfl ?_
              refine g_iadd (v := (f (26 + 5 * t + 2)) + ((f (26 + 5 * t + 3)) * y)) hX dX0_heightIn_79 rfl ?_
              have cut80 : ∀ (s : Int32) (hs : s = hgS (f (26 + 5 * t + 0)) (f (26 + 5 * t + 2)) (f (26 + 5 * t + 3)) y), G X 319 0 0 I (xRL nw sp) 80 [(0, .ref g), (1, .int (nI t)), (2, .int y)] [.int s] := by
                intro s hs
                refine g_istore (L' := [(0, .ref g), (1, .int (nI t)), (2, .int y), (5, .int s)]) hX dX0_heightIn_80 (by decide) rfl ?_
                refine g_iconst (v := nI 0) hX dX0_heightIn_82 (by decide) ?_
                refine g_bipush (v := nI 99) hX dX0_heightIn_83 (by decide) ?_
                refine g_iload hX dX0_heightIn_85 3 rfl ?_
                refine g_imin (v := if s.toInt ≤ 99 then s else 99) hX jmX0_81 jmin_s jm_i jmin_c (by decide) (Nat.le_of_ble_eq_true rfl) (by decide) (by decide) dX0_heightIn_87 (min99 s) ?_
                refine g_aload_n hX dX0_heightIn_90 rfl 0 rfl ?_
                refine g_getR (j := g + 6) hX (xG_n (j := 0) hg (by decide)) (xG_K0 hg) xCl0 8 (by decide) (by decide) kX0_38 dX0_heightIn_91 (xRL_g8 hg) ?_
                refine g_iload_n hX dX0_heightIn_94 rfl 1 rfl ?_
                refine g_iald (v := f (26 + 5 * t + 4)) hX (xG_n (j := 6) hg (by decide)) (xG_K6 hg) t rfl (by rw [(xG_N6 hg)]; omega) dX0_heightIn_95 (hG.k4 (by omega)) ?_
                refine g_isub (v := (if s.toInt ≤ 99 then s else 99) - (f (26 + 5 * t + 4))) hX dX0_heightIn_96 rfl ?_
                refine g_imax (v := hgZ ((if s.toInt ≤ 99 then s else 99) - f (26 + 5 * t + 4))) hX jmX0_87 jmax_s jm_i jmax_c (by decide) (Nat.le_of_ble_eq_true rfl) (by decide) (by decide) dX0_heightIn_97 (max0 _) ?_
                exact g_iret hX hR dX0_heightIn_100 (by decide) (by decide) ⟨congrArg (fun z => some (Value.int z)) (by rw [hgM, if_neg hnb, ← hs, hgT, Int32.add_zero]), rfl, rfl, rfl⟩
              refine g_loc [0, 1, 2] rfl ?_
              exact cut80 ((f (26 + 5 * t + 2)) + ((f (26 + 5 * t + 3)) * y)) (by rw [hgS, if_pos (by omega)])
            · refine g_iconst (v := nI 1) hX dX0_heightIn_44 (by decide) ?_
              refine g_goto (tgt := 49) hX dX0_heightIn_45 (by decide) ?_
              refine g_istore (L' := [(0, .ref g), (1, .int (nI t)), (2, .int y), (3, .int w), (4, .int (nI 1))]) hX dX0_heightIn_49 (by decide) rfl ?_
              refine g_iload hX dX0_heightIn_51 4 rfl ?_
              refine g_cz_eq (a := (1 : Int)) (tgt := 65) hX dX0_heightIn_53 (by decide) (by decide) (fun q => absurd q (by decide)) (fun _ => ?_)
              refine g_aload_n hX dX0_heightIn_56 rfl 0 rfl ?_
              refine g_getR (j := g + 4) hX (xG_n (j := 0) hg (by decide)) (xG_K0 hg) xCl0 6 (by decide) (by decide) kX0_32 dX0_heightIn_57 (xRL_g6 hg) ?_
              refine g_iload_n hX dX0_heightIn_60 rfl 1 rfl ?_
              refine g_iald (v := f (26 + 5 * t + 2)) hX (xG_n (j := 4) hg (by decide)) (xG_K4 hg) t rfl (by rw [(xG_N4 hg)]; omega) dX0_heightIn_61 (hG.k2 (by omega)) ?_
              refine g_goto (tgt := 80) hX dX0_heightIn_62 (by decide) ?_
              have cut80 : ∀ (s : Int32) (hs : s = hgS (f (26 + 5 * t + 0)) (f (26 + 5 * t + 2)) (f (26 + 5 * t + 3)) y), G X 319 0 0 I (xRL nw sp) 80 [(0, .ref g), (1, .int (nI t)), (2, .int y)] [.int s] := by
                intro s hs
                refine g_istore (L' := [(0, .ref g), (1, .int (nI t)), (2, .int y), (5, .int s)]) hX dX0_heightIn_80 (by decide) rfl ?_
                refine g_iconst (v := nI 0) hX dX0_heightIn_82 (by decide) ?_
                refine g_bipush (v := nI 99) hX dX0_heightIn_83 (by decide) ?_
                refine g_iload hX dX0_heightIn_85 3 rfl ?_
                refine g_imin (v := if s.toInt ≤ 99 then s else 99) hX jmX0_81 jmin_s jm_i jmin_c (by decide) (Nat.le_of_ble_eq_true rfl) (by decide) (by decide) dX0_heightIn_87 (min99 s) ?_
                refine g_aload_n hX dX0_heightIn_90 rfl 0 rfl ?_
                refine g_getR (j := g + 6) hX (xG_n (j := 0) hg (by decide)) (xG_K0 hg) xCl0 8 (by decide) (by decide) kX0_38 dX0_heightIn_91 (xRL_g8 hg) ?_
                refine g_iload_n hX dX0_heightIn_94 rfl 1 rfl ?_
                refine g_iald (v := f (26 + 5 * t + 4)) hX (xG_n (j := 6) hg (by decide)) (xG_K6 hg) t rfl (by rw [(xG_N6 hg)]; omega) dX0_heightIn_95 (hG.k4 (by omega)) ?_
                refine g_isub (v := (if s.toInt ≤ 99 then s else 99) - (f (26 + 5 * t + 4))) hX dX0_heightIn_96 rfl ?_
                refine g_imax (v := hgZ ((if s.toInt ≤ 99 then s else 99) - f (26 + 5 * t + 4))) hX jmX0_87 jmax_s jm_i jmax_c (by decide) (Nat.le_of_ble_eq_true rfl) (by decide) (by decide) dX0_heightIn_97 (max0 _) ?_
                exact g_iret hX hR dX0_heightIn_100 (by decide) (by decide) ⟨congrArg (fun z => some (Value.int z)) (by rw [hgM, if_neg hnb, ← hs, hgT, Int32.add_zero]), rfl, rfl, rfl⟩
              refine g_loc [0, 1, 2] rfl ?_
              exact cut80 (f (26 + 5 * t + 2)) (by rw [hgS, if_neg (by omega)]; exact (Int32.add_zero _).symm)
        exact cut24 (by omega)
      · refine g_iconst (v := nI 0) hX dX0_heightIn_22 (by decide) ?_
        exact g_iret hX hR dX0_heightIn_23 (by decide) (by decide) ⟨congrArg (fun z => some (Value.int z)) (by rw [hgM, if_pos (by omega)]; rfl), rfl, rfl, rfl⟩

theorem c_X0_heightNow (l : Launch) {nw sp : Nat} {I : xM} {g T S F W : Nat} {f : Nat → Int32} {t : Nat} (hg : xG g) (hG : GX I g f T S F W) (hW : WF f T S F W) (ht : t < T) : xC l 3 0 0 yX0_heightNow cX0_heightNow 2 (some .int) 319 [.ref g, .int (nI t)] I (xRL nw sp) (xpI (hgF f (fun _ => 0) t) 319 I (xRL nw sp)) := by
  refine xC_of (by decide) (Nat.le_of_ble_eq_true rfl) (fun X hXl hX hR => ?_)
  have hX : xOK X RX0 cX0_heightNow 2 3 0 0 := hX
  show G X 319 0 0 I (xRL nw sp) 0 [(0, .ref g), (1, .int (nI t))] []
  have hg8 := xG_8 hg
  have hT6 := hW.T6
  have hS6 := hW.S6
  refine g_aload_n hX dX0_heightNow_0 rfl 0 rfl ?_
  refine g_iload_n hX dX0_heightNow_1 rfl 1 rfl ?_
  refine g_aload_n hX dX0_heightNow_2 rfl 0 rfl ?_
  refine g_getI (v := f 2) hX (xG_n (j := 0) hg (by decide)) (xG_K0 hg) xCl0 13 (by decide) (by decide) kX0_54 dX0_heightNow_3 hG.ye ?_
  refine g_aload_n hX dX0_heightNow_6 rfl 0 rfl ?_
  refine g_getI (v := f 3) hX (xG_n (j := 0) hg (by decide)) (xG_K0 hg) xCl0 14 (by decide) (by decide) kX0_57 dX0_heightNow_7 hG.wi ?_
  refine g_callVi hX (as := [.int (nI t), .int (f 2), .int (f 3)]) (fun l => c_X0_heightIn l (I := I) (g := g) (T := T) (S := S) (F := F) (W := W) (f := f) (t := t) (y := (f 2)) (w := (f 3)) (hg := hg) (hG := (by first | assumption | omega)) (hW := (by first | assumption | omega)) (ht := (by first | assumption | omega)) (hw := hW.wi)) mX0_heightIn vX0_heightIn lX0_77 (xG_n (j := 0) hg (by decide)) (xG_K0 hg) xCl0 rfl rfl dX0_heightNow_10 rfl (by decide) (Nat.le_of_ble_eq_true rfl) (by decide) (by decide) ?_
  exact g_iret hX hR dX0_heightNow_13 (by decide) (by decide) ⟨congrArg (fun z => some (Value.int z)) rfl, rfl, rfl, rfl⟩

theorem c_X3_raise (l : Launch) {nw sp : Nat} {I : xM} {q : Nat} {b : Int32} (hq : q < 20) : xC l 1 0 0 yX3_raise cX3_raise 3 none 319 [.ref 4, .int (nI q), .int b] I (xRL nw sp) (xpV 319 (xput I 5 q (I 5 q + b)) (xRL nw sp)) := by
  refine xC_of (by decide) (Nat.le_of_ble_eq_true rfl) (fun X hXl hX hR => ?_)
  have hX : xOK X RX3 cX3_raise 3 1 0 0 := hX
  show G X 319 0 0 I (xRL nw sp) 0 [(0, .ref 4), (1, .int (nI q)), (2, .int b)] []
  refine g_iload_n hX dX3_raise_0 rfl 1 rfl ?_
  refine g_cz_lt (a := ((q : Nat) : Int)) (tgt := 20) hX dX3_raise_1 (by decide) (nI_toInt (by omega)) (fun h1 => ?_) (fun h1 => ?_)
  · exfalso; omega
  · refine g_iload_n hX dX3_raise_4 rfl 1 rfl ?_
    refine g_bipush (v := nI 20) hX dX3_raise_5 (by decide) ?_
    refine g_ci_ge (a := ((q : Nat) : Int)) (b := (20 : Int)) (tgt := 20) hX dX3_raise_7 (by decide) (nI_toInt (by omega)) (by decide) (fun h7 => ?_) (fun h7 => ?_)
    · exfalso; omega
    · refine g_aload_n hX dX3_raise_10 rfl 0 rfl ?_
      refine g_getR (j := 5) hX (by decide) (by decide) xCl3 0 (by decide) (by decide) kX3_9 dX3_raise_11 rfl ?_
      refine g_iload_n hX dX3_raise_14 rfl 1 rfl ?_
      refine g_dup2 hX rfl rfl dX3_raise_15 ?_
      refine g_iald (v := I 5 q) hX (by decide) (by decide) q rfl (by rw [(show xN 5 = 20 by decide)]; omega) dX3_raise_16 rfl ?_
      refine g_iload_n hX dX3_raise_17 rfl 2 rfl ?_
      refine g_iadd (v := (I 5 q) + b) hX dX3_raise_18 rfl ?_
      refine g_iast hX (by decide) (by decide) q rfl (by rw [(show xN 5 = 20 by decide)]; omega) dX3_raise_19 ?_
      exact g_vret hX hR dX3_raise_20 (by decide) (by decide) ⟨rfl, rfl, rfl, rfl⟩

theorem c_X3_look (l : Launch) {nw sp : Nat} {I : xM} {g T S F W : Nat} {f : Nat → Int32} {y w : Int32} (hg : xG g) (hG : GX I g f T S F W) (hW : WF f T S F W) (hw : w.toInt = 0 ∨ w.toInt = 1) : xC l 3 0 0 yX3_look cX3_look 5 none 319 [.ref 4, .ref g, .int y, .int w] I (xRL nw sp) (xpW 319 (xRL nw sp) (fun J => (∃ b : Nat → Int32, J = xrow I 5 b ∧ ∀ q, q < 20 → b q = brY f T y w q))) := by
  refine xC_of (by decide) (Nat.le_of_ble_eq_true rfl) (fun X hXl hX hR => ?_)
  have hX : xOK X RX3 cX3_look 5 3 0 0 := hX
  show G X 319 0 0 I (xRL nw sp) 0 [(0, .ref 4), (1, .ref g), (2, .int y), (3, .int w)] []
  have hg8 := xG_8 hg
  have hT6 := hW.T6
  have hS6 := hW.S6
  refine g_aload_n hX dX3_look_0 rfl 1 rfl ?_
  refine g_getR (j := g + 1) hX (xG_n (j := 0) hg (by decide)) (xG_K0 hg) xCl0 0 (by decide) (by decide) kX3_29 dX3_look_1 (xRL_g0 hg) ?_
  refine g_iconst (v := nI 0) hX dX3_look_4 (by decide) ?_
  refine g_aload_n hX dX3_look_5 rfl 0 rfl ?_
  refine g_getR (j := 5) hX (by decide) (by decide) xCl3 0 (by decide) (by decide) kX3_9 dX3_look_6 rfl ?_
  refine g_iconst (v := nI 0) hX dX3_look_9 (by decide) ?_
  refine g_bipush (v := nI 20) hX dX3_look_10 (by decide) ?_
  refine g_copy hX jcX3_32 jc_n jc_s jc_i (xG_n (j := 1) hg (by decide)) (by decide) (xG_K1 hg) (by decide) (Or.inl rfl) 0 0 20 rfl rfl rfl (by rw [(xG_N1 hg)]; omega) (by rw [(show xN 5 = 20 by decide)]; omega) (fun q => absurd q (by decide)) (by decide) (Nat.le_of_ble_eq_true rfl) dX3_look_12 ?_
  refine g_iconst (v := nI 0) hX dX3_look_15 (by decide) ?_
  refine g_istore (L' := [(0, .ref 4), (1, .ref g), (2, .int y), (3, .int w), (4, .int (nI 0))]) hX dX3_look_16 (by decide) rfl ?_
  have cut18 : ∀ (fuel : Nat) (i : Nat) (J : xM) (hi : i ≤ T) (hJ : (∃ b : Nat → Int32, J = xrow I 5 b ∧ ∀ q, q < 20 → b q = brY f i y w q)), T - i < fuel → G X 319 0 0 J (xRL nw sp) 18 [(0, .ref 4), (1, .ref g), (2, .int y), (3, .int w), (4, .int (nI i))] [] := by
    intro fuel
    induction fuel with
    | zero => intro i J hi hJ hfuel; omega
    | succ fuel ih =>
      intro i J hi hJ hfuel
      have hGJ : GX J g f T S F W := by obtain ⟨b, e, _⟩ := hJ; rw [e]; exact hG.ext (fun j h1 h2 => xrow_o (by omega))
      refine g_iload hX dX3_look_18 4 rfl ?_
      refine g_aload_n hX dX3_look_20 rfl 1 rfl ?_
      refine g_getI (v := nI T) hX (xG_n (j := 0) hg (by decide)) (xG_K0 hg) xCl0 3 (by decide) (by decide) kX3_38 dX3_look_21 hGJ.tr ?_
      refine g_ci_ge (a := ((i : Nat) : Int)) (b := ((T : Nat) : Int)) (tgt := 52) hX dX3_look_24 (by decide) (nI_toInt (by omega)) (nI_toInt (by omega)) (fun h24 => ?_) (fun h24 => ?_)
      · exact g_vret hX hR dX3_look_52 (by decide) (by decide) ⟨rfl, rfl, (by rw [show T = i by omega]; exact hJ), rfl⟩
      · obtain ⟨s, hs, es⟩ := hW.st (t := i) (by omega)
        refine g_aload_n hX dX3_look_27 rfl 0 rfl ?_
        refine g_aload_n hX dX3_look_28 rfl 1 rfl ?_
        refine g_getR (j := g + 3) hX (xG_n (j := 0) hg (by decide)) (xG_K0 hg) xCl0 5 (by decide) (by decide) kX3_41 dX3_look_29 (xRL_g5 hg) ?_
        refine g_iload hX dX3_look_32 4 rfl ?_
        refine g_iald (v := nI s) hX (xG_n (j := 3) hg (by decide)) (xG_K3 hg) i rfl (by rw [(xG_N3 hg)]; omega) dX3_look_34 ((hGJ.k1 (by omega)).trans es) ?_
        refine g_aload_n hX dX3_look_35 rfl 1 rfl ?_
        refine g_iload hX dX3_look_36 4 rfl ?_
        refine g_iload_n hX dX3_look_38 rfl 2 rfl ?_
        refine g_iload_n hX dX3_look_39 rfl 3 rfl ?_
        refine g_callVi hX (as := [.int (nI i), .int y, .int w]) (fun l => c_X0_heightIn l (I := J) (g := g) (T := T) (S := S) (F := F) (W := W) (f := f) (t := i) (y := y) (w := w) (hg := hg) (hG := (by first | assumption | omega)) (hW := (by first | assumption | omega)) (ht := (by first | assumption | omega)) (hw := (by first | assumption | omega))) mX0_heightIn vX0_heightIn lX3_44 (xG_n (j := 0) hg (by decide)) (xG_K0 hg) xCl0 rfl rfl dX3_look_40 rfl (by decide) (Nat.le_of_ble_eq_true rfl) (by decide) (by decide) ?_
        refine g_callVv hX (as := [.int (nI s), .int (hgM (f (26 + 5 * i + 0)) (f (26 + 5 * i + 2)) (f (26 + 5 * i + 3)) (f (26 + 5 * i + 4)) y w 0)]) (fun l => c_X3_raise l (I := J) (q := s) (b := (hgM (f (26 + 5 * i + 0)) (f (26 + 5 * i + 2)) (f (26 + 5 * i + 3)) (f (26 + 5 * i + 4)) y w 0)) (hq := (by first | assumption | omega))) mX3_raise vX3_raise lX3_48 (by decide) (by decide) xCl3 rfl rfl dX3_look_43 rfl (by decide) (Nat.le_of_ble_eq_true rfl) (by decide) (by decide) ?_
        refine g_iinc (v := nI (i + 1)) (L' := [(0, .ref 4), (1, .ref g), (2, .int y), (3, .int w), (4, .int (nI (i + 1)))]) hX dX3_look_46 (by decide) 4 rfl (nI_add i 1) rfl ?_
        refine g_goto (tgt := 18) hX dX3_look_49 (by decide) ?_
        exact ih (i + 1) (xput J 5 s (J 5 s + (hgM (f (26 + 5 * i + 0)) (f (26 + 5 * i + 2)) (f (26 + 5 * i + 3)) (f (26 + 5 * i + 4)) y w 0))) (by first | assumption | omega) (by obtain ⟨b, e, hb⟩ := hJ; refine ⟨_, (by rw [e, xput_row, xrow_e]), fun q hq => brY_s hW (by omega) hs hq es (hb q hq)⟩) (by omega)
  exact cut18 _ 0 (xrow I 5 (va_cpy (I (g + 1)) (I 5) 0 0 20)) (by first | assumption | omega) ⟨_, rfl, fun q hq => by rw [brY_0, ← hG.gr hq]; exact (pk_cpy_in (Nat.zero_le q) (by omega)).trans (by rw [Nat.zero_add, Nat.sub_zero])⟩ (Nat.lt_succ_self _)

theorem c_X3_lookNow (l : Launch) {nw sp : Nat} {I : xM} {g T S F W : Nat} {f : Nat → Int32} (hg : xG g) (hG : GX I g f T S F W) (hW : WF f T S F W) : xC l 4 0 0 yX3_lookNow cX3_lookNow 2 none 319 [.ref 4, .ref g] I (xRL nw sp) (xpW 319 (xRL nw sp) (fun J => ∃ b : Nat → Int32, J = xrow I 5 b ∧ ∀ q, q < 20 → b q = brY f T (f 2) (f 3) q)) := by
  refine xC_of (by decide) (Nat.le_of_ble_eq_true rfl) (fun X hXl hX hR => ?_)
  have hX : xOK X RX3 cX3_lookNow 2 4 0 0 := hX
  show G X 319 0 0 I (xRL nw sp) 0 [(0, .ref 4), (1, .ref g)] []
  have hg8 := xG_8 hg
  have hT6 := hW.T6
  have hS6 := hW.S6
  refine g_aload_n hX dX3_lookNow_0 rfl 0 rfl ?_
  refine g_aload_n hX dX3_lookNow_1 rfl 1 rfl ?_
  refine g_aload_n hX dX3_lookNow_2 rfl 1 rfl ?_
  refine g_getI (v := f 2) hX (xG_n (j := 0) hg (by decide)) (xG_K0 hg) xCl0 13 (by decide) (by decide) kX3_15 dX3_lookNow_3 hG.ye ?_
  refine g_aload_n hX dX3_lookNow_6 rfl 1 rfl ?_
  refine g_getI (v := f 3) hX (xG_n (j := 0) hg (by decide)) (xG_K0 hg) xCl0 14 (by decide) (by decide) kX3_21 dX3_lookNow_7 hG.wi ?_
  refine g_callVrv hX (as := [.ref g, .int (f 2), .int (f 3)]) (fun l => c_X3_look l (I := I) (g := g) (T := T) (S := S) (F := F) (W := W) (f := f) (y := (f 2)) (w := (f 3)) (hg := hg) (hG := (by first | assumption | omega)) (hW := (by first | assumption | omega)) (hw := hW.wi)) mX3_look vX3_look lX3_25 (by decide) (by decide) xCl3 rfl rfl dX3_lookNow_10 rfl (by decide) (Nat.le_of_ble_eq_true rfl) (by decide) (by decide) (fun J hJ => ?_)
  exact g_vret hX hR dX3_lookNow_13 (by decide) (by decide) ⟨rfl, rfl, hJ, rfl⟩

theorem c_X3_isFree (l : Launch) {nw sp : Nat} {I : xM} {a c : Nat} {x y : Int32} (ha : a < 20) (hc : c ≤ 20) : xC l 1 0 0 yX3_isFree cX3_isFree 6 (some .boolean) 319 [.ref 4, .int x, .int (nI a), .int y, .int (nI c)] I (xRL nw sp) (xpI (xb (frP (I 5) a x c y)) 319 I (xRL nw sp)) := by
  refine xC_of (by decide) (Nat.le_of_ble_eq_true rfl) (fun X hXl hX hR => ?_)
  have hX : xOK X RX3 cX3_isFree 6 1 0 0 := hX
  show G X 319 0 0 I (xRL nw sp) 0 [(0, .ref 4), (1, .int x), (2, .int (nI a)), (3, .int y), (4, .int (nI c))] []
  refine g_iconst (v := nI 0) hX dX3_isFree_0 (by decide) ?_
  refine g_iload_n hX dX3_isFree_1 rfl 2 rfl ?_
  refine g_iconst (v := nI 1) hX dX3_isFree_2 (by decide) ?_
  refine g_iadd (v := nI (a + 1)) hX dX3_isFree_3 (nI_add a 1) ?_
  refine g_imax (v := nI (a + 1)) hX jmX3_52 jmax_s jm_i jmax_c (by decide) (Nat.le_of_ble_eq_true rfl) (by decide) (by decide) dX3_isFree_4 (max0n (by omega)) ?_
  refine g_istore (L' := [(0, .ref 4), (1, .int x), (2, .int (nI a)), (3, .int y), (4, .int (nI c)), (5, .int (nI (a + 1)))]) hX dX3_isFree_7 (by decide) rfl ?_
  have cut9 : ∀ (fuel : Nat) (q : Nat) (hq : a < q) (hq2 : q ≤ 21) (hall : ∀ p, p < q → p < c → a < p → (I 5 p * zI (((c : Nat) : Int) - ((a : Nat) : Int))).toInt < (frL x y a c p).toInt), c - q < fuel → G X 319 0 0 I (xRL nw sp) 9 [(0, .ref 4), (1, .int x), (2, .int (nI a)), (3, .int y), (4, .int (nI c)), (5, .int (nI q))] [] := by
    intro fuel
    induction fuel with
    | zero => intro q hq hq2 hall hfuel; omega
    | succ fuel ih =>
      intro q hq hq2 hall hfuel
      refine g_iload hX dX3_isFree_9 5 rfl ?_
      refine g_iload hX dX3_isFree_11 4 rfl ?_
      refine g_ci_ge (a := ((q : Nat) : Int)) (b := ((c : Nat) : Int)) (tgt := 61) hX dX3_isFree_13 (by decide) (nI_toInt (by omega)) (nI_toInt (by omega)) (fun h13 => ?_) (fun h13 => ?_)
      · refine g_iconst (v := nI 1) hX dX3_isFree_61 (by decide) ?_
        exact g_zret hX hR dX3_isFree_62 (by decide) (by decide) (by decide) ⟨congrArg (fun z => some (Value.int z)) (xb_n1 (by exact fun p h1 h2 => hall p (by omega) h1 h2)), rfl, rfl, rfl⟩
      · refine g_iload hX dX3_isFree_16 5 rfl ?_
        refine g_bipush (v := nI 20) hX dX3_isFree_18 (by decide) ?_
        refine g_ci_ge (a := ((q : Nat) : Int)) (b := (20 : Int)) (tgt := 61) hX dX3_isFree_20 (by decide) (nI_toInt (by omega)) (by decide) (fun h20 => ?_) (fun h20 => ?_)
        · exfalso; omega
        · refine g_iload_n hX dX3_isFree_23 rfl 3 rfl ?_
          refine g_iload_n hX dX3_isFree_24 rfl 1 rfl ?_
          refine g_isub (v := y - x) hX dX3_isFree_25 rfl ?_
          refine g_iload hX dX3_isFree_26 5 rfl ?_
          refine g_iload_n hX dX3_isFree_28 rfl 2 rfl ?_
          refine g_isub (v := zI (((q : Nat) : Int) - ((a : Nat) : Int))) hX dX3_isFree_29 (zI_sub (((q : Nat) : Int)) (((a : Nat) : Int))) ?_
          refine g_imul (v := (y - x) * (zI (((q : Nat) : Int) - ((a : Nat) : Int)))) hX dX3_isFree_30 rfl ?_
          refine g_iload_n hX dX3_isFree_31 rfl 1 rfl ?_
          refine g_iload hX dX3_isFree_32 4 rfl ?_
          refine g_iload_n hX dX3_isFree_34 rfl 2 rfl ?_
          refine g_isub (v := zI (((c : Nat) : Int) - ((a : Nat) : Int))) hX dX3_isFree_35 (zI_sub (((c : Nat) : Int)) (((a : Nat) : Int))) ?_
          refine g_imul (v := x * (zI (((c : Nat) : Int) - ((a : Nat) : Int)))) hX dX3_isFree_36 rfl ?_
          refine g_iadd (v := ((y - x) * (zI (((q : Nat) : Int) - ((a : Nat) : Int)))) + (x * (zI (((c : Nat) : Int) - ((a : Nat) : Int))))) hX dX3_isFree_37 rfl ?_
          refine g_aload_n hX dX3_isFree_38 rfl 0 rfl ?_
          refine g_getR (j := 5) hX (by decide) (by decide) xCl3 0 (by decide) (by decide) kX3_9 dX3_isFree_39 rfl ?_
          refine g_iload hX dX3_isFree_42 5 rfl ?_
          refine g_iald (v := I 5 q) hX (by decide) (by decide) q rfl (by rw [(show xN 5 = 20 by decide)]; omega) dX3_isFree_44 rfl ?_
          refine g_iload hX dX3_isFree_45 4 rfl ?_
          refine g_iload_n hX dX3_isFree_47 rfl 2 rfl ?_
          refine g_isub (v := zI (((c : Nat) : Int) - ((a : Nat) : Int))) hX dX3_isFree_48 (zI_sub (((c : Nat) : Int)) (((a : Nat) : Int))) ?_
          refine g_imul (v := (I 5 q) * (zI (((c : Nat) : Int) - ((a : Nat) : Int)))) hX dX3_isFree_49 rfl ?_
          refine g_ci_gt (a := (((y - x) * (zI (((q : Nat) : Int) - ((a : Nat) : Int)))) + (x * (zI (((c : Nat) : Int) - ((a : Nat) : Int))))).toInt) (b := ((I 5 q) * (zI (((c : Nat) : Int) - ((a : Nat) : Int)))).toInt) (tgt := 55) hX dX3_isFree_50 (by decide) rfl rfl (fun h50 => ?_) (fun h50 => ?_)
          · refine g_iinc (v := nI (q + 1)) (L' := [(0, .ref 4), (1, .int x), (2, .int (nI a)), (3, .int y), (4, .int (nI c)), (5, .int (nI (q + 1)))]) hX dX3_isFree_55 (by decide) 5 rfl (nI_add q 1) rfl ?_
            refine g_goto (tgt := 9) hX dX3_isFree_58 (by decide) ?_
            exact ih (q + 1) (by first | assumption | omega) (by first | assumption | omega) (lt_succ_or hall (fun _ _ => h50)) (by omega)
          · refine g_iconst (v := nI 0) hX dX3_isFree_53 (by decide) ?_
            exact g_zret hX hR dX3_isFree_54 (by decide) (by decide) (by decide) ⟨congrArg (fun z => some (Value.int z)) (xb_n0 (by intro hf; exact absurd (hf q (by omega) hq) (Int.not_lt.mpr h50))), rfl, rfl, rfl⟩
  exact cut9 _ (a + 1) (by first | assumption | omega) (by first | assumption | omega) (fun p h1 h2 h3 => absurd h1 (by omega)) (Nat.lt_succ_self _)

theorem c_X3_isSeen (l : Launch) {nw sp : Nat} {I : xM} {g T S F W : Nat} {f : Nat → Int32} {k s : Nat} {e : Int32} (hg : xG g) (hG : GX I g f T S F W) (hW : WF f T S F W) (hk : k < S) (hs : s < 20) : xC l 2 0 0 yX3_isSeen cX3_isSeen 6 (some .boolean) 319 [.ref 4, .ref g, .int (nI k), .int (nI s), .int e] I (xRL nw sp) (xpI (xb (snP (I 5) f s e k)) 319 I (xRL nw sp)) := by
  refine xC_of (by decide) (Nat.le_of_ble_eq_true rfl) (fun X hXl hX hR => ?_)
  have hX : xOK X RX3 cX3_isSeen 6 2 0 0 := hX
  show G X 319 0 0 I (xRL nw sp) 0 [(0, .ref 4), (1, .ref g), (2, .int (nI k)), (3, .int (nI s)), (4, .int e)] []
  have hg8 := xG_8 hg
  have hT6 := hW.T6
  have hS6 := hW.S6
  have hts9 := hW.ts9 hk
  refine g_aload_n hX dX3_isSeen_0 rfl 1 rfl ?_
  refine g_getR (j := g + 7) hX (xG_n (j := 0) hg (by decide)) (xG_K0 hg) xCl0 10 (by decide) (by decide) kX3_58 dX3_isSeen_1 (xRL_g10 hg) ?_
  refine g_iload_n hX dX3_isSeen_4 rfl 2 rfl ?_
  refine g_iald (v := nI (tsF f k)) hX (xG_n (j := 7) hg (by decide)) (xG_K7 hg) k rfl (by rw [(xG_N7 hg)]; omega) dX3_isSeen_5 ((hG.s0 (by omega)).trans (hW.ts (by omega))) ?_
  refine g_istore (L' := [(0, .ref 4), (1, .ref g), (2, .int (nI k)), (3, .int (nI s)), (4, .int e), (5, .int (nI (tsF f k)))]) hX dX3_isSeen_6 (by decide) rfl ?_
  refine g_iload_n hX dX3_isSeen_8 rfl 3 rfl ?_
  refine g_iload hX dX3_isSeen_9 5 rfl ?_
  refine g_ci_ge (a := ((s : Nat) : Int)) (b := ((tsF f k : Nat) : Int)) (tgt := 42) hX dX3_isSeen_11 (by decide) (nI_toInt (by omega)) (nI_toInt (by omega)) (fun h11 => ?_) (fun h11 => ?_)
  · refine g_iconst (v := nI 0) hX dX3_isSeen_42 (by decide) ?_
    exact g_zret hX hR dX3_isSeen_43 (by decide) (by decide) (by decide) ⟨congrArg (fun z => some (Value.int z)) (xb_n0 (by first | exact fun q => absurd q.1 (by omega) | exact fun q => absurd q.2 h35 | exact ⟨by omega, h35⟩)), rfl, rfl, rfl⟩
  · refine g_aload_n hX dX3_isSeen_14 rfl 0 rfl ?_
    refine g_aload_n hX dX3_isSeen_15 rfl 1 rfl ?_
    refine g_getR (j := g + 1) hX (xG_n (j := 0) hg (by decide)) (xG_K0 hg) xCl0 0 (by decide) (by decide) kX3_29 dX3_isSeen_16 (xRL_g0 hg) ?_
    refine g_iload_n hX dX3_isSeen_19 rfl 3 rfl ?_
    refine g_iald (v := f (6 + s)) hX (xG_n (j := 1) hg (by decide)) (xG_K1 hg) s rfl (by rw [(xG_N1 hg)]; omega) dX3_isSeen_20 (hG.gr (by omega)) ?_
    refine g_iload hX dX3_isSeen_21 4 rfl ?_
    refine g_iadd (v := (f (6 + s)) + e) hX dX3_isSeen_23 rfl ?_
    refine g_iload_n hX dX3_isSeen_24 rfl 3 rfl ?_
    refine g_aload_n hX dX3_isSeen_25 rfl 1 rfl ?_
    refine g_iload_n hX dX3_isSeen_26 rfl 2 rfl ?_
    refine g_callVi hX (as := [.int (nI k)]) (fun l => c_X0_topOf l (I := I) (g := g) (T := T) (S := S) (F := F) (W := W) (f := f) (k := k) (hg := hg) (hG := (by first | assumption | omega)) (hW := (by first | assumption | omega)) (hk := (by first | assumption | omega))) mX0_topOf vX0_topOf lX3_61 (xG_n (j := 0) hg (by decide)) (xG_K0 hg) xCl0 rfl rfl dX3_isSeen_27 rfl (by decide) (Nat.le_of_ble_eq_true rfl) (by decide) (by decide) ?_
    refine g_iload hX dX3_isSeen_30 5 rfl ?_
    refine g_callVi hX (as := [.int ((f (6 + s)) + e), .int (nI s), .int (tpF f k), .int (nI (tsF f k))]) (fun l => c_X3_isFree l (I := I) (a := s) (c := (tsF f k)) (x := ((f (6 + s)) + e)) (y := (tpF f k)) (ha := (by first | assumption | omega)) (hc := (by first | assumption | omega))) mX3_isFree vX3_isFree lX3_65 (by decide) (by decide) xCl3 rfl rfl dX3_isSeen_32 rfl (by decide) (Nat.le_of_ble_eq_true rfl) (by decide) (by decide) ?_
    refine g_cb_eq (tgt := 42) hX dX3_isSeen_35 (by decide) (fun h35 => ?_) (fun h35 => ?_)
    · refine g_iconst (v := nI 0) hX dX3_isSeen_42 (by decide) ?_
      exact g_zret hX hR dX3_isSeen_43 (by decide) (by decide) (by decide) ⟨congrArg (fun z => some (Value.int z)) (xb_n0 (by first | exact fun q => absurd q.1 (by omega) | exact fun q => absurd q.2 h35 | exact ⟨by omega, h35⟩)), rfl, rfl, rfl⟩
    · refine g_iconst (v := nI 1) hX dX3_isSeen_38 (by decide) ?_
      refine g_goto (tgt := 43) hX dX3_isSeen_39 (by decide) ?_
      exact g_zret hX hR dX3_isSeen_43 (by decide) (by decide) (by decide) ⟨congrArg (fun z => some (Value.int z)) (xb_n1 (by first | exact fun q => absurd q.1 (by omega) | exact fun q => absurd q.2 h35 | exact ⟨by omega, h35⟩)), rfl, rfl, rfl⟩

theorem c_X3_thingsFrom (l : Launch) {nw sp : Nat} {I : xM} {g T S F W : Nat} {f : Nat → Int32} {s : Nat} {e : Int32} (hg : xG g) (hG : GX I g f T S F W) (hW : WF f T S F W) (hs : s < 20) : xC l 3 0 0 yX3_thingsFrom cX3_thingsFrom 6 (some .int) 319 [.ref 4, .ref g, .int (nI s), .int e] I (xRL nw sp) (xpI (bitsI (snP (I 5) f s e) S) 319 I (xRL nw sp)) := by
  refine xC_of (by decide) (Nat.le_of_ble_eq_true rfl) (fun X hXl hX hR => ?_)
  have hX : xOK X RX3 cX3_thingsFrom 6 3 0 0 := hX
  show G X 319 0 0 I (xRL nw sp) 0 [(0, .ref 4), (1, .ref g), (2, .int (nI s)), (3, .int e)] []
  have hg8 := xG_8 hg
  have hT6 := hW.T6
  have hS6 := hW.S6
  refine g_iconst (v := nI 0) hX dX3_thingsFrom_0 (by decide) ?_
  refine g_istore (L' := [(0, .ref 4), (1, .ref g), (2, .int (nI s)), (3, .int e), (4, .int (nI 0))]) hX dX3_thingsFrom_1 (by decide) rfl ?_
  refine g_iconst (v := nI 0) hX dX3_thingsFrom_3 (by decide) ?_
  refine g_istore (L' := [(0, .ref 4), (1, .ref g), (2, .int (nI s)), (3, .int e), (4, .int (nI 0)), (5, .int (nI 0))]) hX dX3_thingsFrom_4 (by decide) rfl ?_
  have cut6 : ∀ (fuel : Nat) (b : Int32) (k : Nat) (hk : k ≤ S) (hb : b = bitsI (snP (I 5) f s e) k), S - k < fuel → G X 319 0 0 I (xRL nw sp) 6 [(0, .ref 4), (1, .ref g), (2, .int (nI s)), (3, .int e), (4, .int b), (5, .int (nI k))] [] := by
    intro fuel
    induction fuel with
    | zero => intro b k hk hb hfuel; omega
    | succ fuel ih =>
      intro b k hk hb hfuel
      refine g_iload hX dX3_thingsFrom_6 5 rfl ?_
      refine g_aload_n hX dX3_thingsFrom_8 rfl 1 rfl ?_
      refine g_getI (v := nI S) hX (xG_n (j := 0) hg (by decide)) (xG_K0 hg) xCl0 9 (by decide) (by decide) kX3_69 dX3_thingsFrom_9 hG.th ?_
      refine g_ci_ge (a := ((k : Nat) : Int)) (b := ((S : Nat) : Int)) (tgt := 42) hX dX3_thingsFrom_12 (by decide) (nI_toInt (by omega)) (nI_toInt (by omega)) (fun h12 => ?_) (fun h12 => ?_)
      · refine g_iload hX dX3_thingsFrom_42 4 rfl ?_
        exact g_iret hX hR dX3_thingsFrom_44 (by decide) (by decide) ⟨congrArg (fun z => some (Value.int z)) (by rw [hb, show k = S by omega]), rfl, rfl, rfl⟩
      · refine g_aload_n hX dX3_thingsFrom_15 rfl 0 rfl ?_
        refine g_aload_n hX dX3_thingsFrom_16 rfl 1 rfl ?_
        refine g_iload hX dX3_thingsFrom_17 5 rfl ?_
        refine g_iload_n hX dX3_thingsFrom_19 rfl 2 rfl ?_
        refine g_iload_n hX dX3_thingsFrom_20 rfl 3 rfl ?_
        refine g_callVi hX (as := [.ref g, .int (nI k), .int (nI s), .int e]) (fun l => c_X3_isSeen l (I := I) (g := g) (T := T) (S := S) (F := F) (W := W) (f := f) (k := k) (s := s) (e := e) (hg := hg) (hG := (by first | assumption | omega)) (hW := (by first | assumption | omega)) (hk := (by first | assumption | omega)) (hs := (by first | assumption | omega))) mX3_isSeen vX3_isSeen lX3_72 (by decide) (by decide) xCl3 rfl rfl dX3_thingsFrom_21 rfl (by decide) (Nat.le_of_ble_eq_true rfl) (by decide) (by decide) ?_
        refine g_cb_eq (tgt := 36) hX dX3_thingsFrom_24 (by decide) (fun h24 => ?_) (fun h24 => ?_)
        · refine g_iinc (v := nI (k + 1)) (L' := [(0, .ref 4), (1, .ref g), (2, .int (nI s)), (3, .int e), (4, .int b), (5, .int (nI (k + 1)))]) hX dX3_thingsFrom_36 (by decide) 5 rfl (nI_add k 1) rfl ?_
          refine g_goto (tgt := 6) hX dX3_thingsFrom_39 (by decide) ?_
          exact ih b (k + 1) (by first | assumption | omega) (by first | exact bits_t hb h24 | exact bits_f' hb h24) (by omega)
        · refine g_iload hX dX3_thingsFrom_27 4 rfl ?_
          refine g_iconst (v := nI 1) hX dX3_thingsFrom_29 (by decide) ?_
          refine g_iload hX dX3_thingsFrom_30 5 rfl ?_
          refine g_ishl (v := (nI 1) <<< ((nI k) &&& 31)) hX dX3_thingsFrom_32 rfl ?_
          refine g_ior (v := b ||| ((nI 1) <<< ((nI k) &&& 31))) hX dX3_thingsFrom_33 rfl ?_
          refine g_istore (L' := [(0, .ref 4), (1, .ref g), (2, .int (nI s)), (3, .int e), (4, .int (b ||| ((nI 1) <<< ((nI k) &&& 31)))), (5, .int (nI k))]) hX dX3_thingsFrom_34 (by decide) rfl ?_
          refine g_iinc (v := nI (k + 1)) (L' := [(0, .ref 4), (1, .ref g), (2, .int (nI s)), (3, .int e), (4, .int (b ||| ((nI 1) <<< ((nI k) &&& 31)))), (5, .int (nI (k + 1)))]) hX dX3_thingsFrom_36 (by decide) 5 rfl (nI_add k 1) rfl ?_
          refine g_goto (tgt := 6) hX dX3_thingsFrom_39 (by decide) ?_
          exact ih (b ||| ((nI 1) <<< ((nI k) &&& 31))) (k + 1) (by first | assumption | omega) (by first | exact bits_t hb h24 | exact bits_f' hb h24) (by omega)
  exact cut6 _ (nI 0) 0 (by first | assumption | omega) rfl (Nat.lt_succ_self _)

theorem c_X3_isDoubled (l : Launch) {nw sp : Nat} {I : xM} {g T S F W : Nat} {f : Nat → Int32} {k : Nat} {e : Int32} (hg : xG g) (hG : GX I g f T S F W) (hW : WF f T S F W) (hk : k < S) : xC l 3 0 0 yX3_isDoubled cX3_isDoubled 6 (some .boolean) 319 [.ref 4, .ref g, .int (nI k), .int e] I (xRL nw sp) (xpI (xb (dbP (I 5) f F W e k)) 319 I (xRL nw sp)) := by
  refine xC_of (by decide) (Nat.le_of_ble_eq_true rfl) (fun X hXl hX hR => ?_)
  have hX : xOK X RX3 cX3_isDoubled 6 3 0 0 := hX
  show G X 319 0 0 I (xRL nw sp) 0 [(0, .ref 4), (1, .ref g), (2, .int (nI k)), (3, .int e)] []
  have hg8 := xG_8 hg
  have hT6 := hW.T6
  have hS6 := hW.S6
  have hts9 := hW.ts9 hk
  obtain ⟨a, b, la, lb, a0, a20, b0, b20, hl⟩ := hG.la.at
  refine g_aload_n hX dX3_isDoubled_0 rfl 0 rfl ?_
  refine g_aload_n hX dX3_isDoubled_1 rfl 1 rfl ?_
  refine g_iload_n hX dX3_isDoubled_2 rfl 2 rfl ?_
  refine g_iconst (v := nI 0) hX dX3_isDoubled_3 (by decide) ?_
  refine g_iload_n hX dX3_isDoubled_4 rfl 3 rfl ?_
  refine g_callVi hX (as := [.ref g, .int (nI k), .int (nI 0), .int e]) (fun l => c_X3_isSeen l (I := I) (g := g) (T := T) (S := S) (F := F) (W := W) (f := f) (k := k) (s := 0) (e := e) (hg := hg) (hG := (by first | assumption | omega)) (hW := (by first | assumption | omega)) (hk := (by first | assumption | omega)) (hs := (by first | assumption | omega))) mX3_isSeen vX3_isSeen lX3_72 (by decide) (by decide) xCl3 rfl rfl dX3_isDoubled_5 rfl (by decide) (Nat.le_of_ble_eq_true rfl) (by decide) (by decide) ?_
  refine g_cb_ne (tgt := 13) hX dX3_isDoubled_8 (by decide) (fun h8 => ?_) (fun h8 => ?_)
  · refine g_aload_n hX dX3_isDoubled_13 rfl 1 rfl ?_
    refine g_getR (j := g + 7) hX (xG_n (j := 0) hg (by decide)) (xG_K0 hg) xCl0 10 (by decide) (by decide) kX3_58 dX3_isDoubled_14 (xRL_g10 hg) ?_
    refine g_iload_n hX dX3_isDoubled_17 rfl 2 rfl ?_
    refine g_iald (v := nI (tsF f k)) hX (xG_n (j := 7) hg (by decide)) (xG_K7 hg) k rfl (by rw [(xG_N7 hg)]; omega) dX3_isDoubled_18 ((hG.s0 (by omega)).trans (hW.ts (by omega))) ?_
    refine g_istore (L' := [(0, .ref 4), (1, .ref g), (2, .int (nI k)), (3, .int e), (4, .int (nI (tsF f k)))]) hX dX3_isDoubled_19 (by decide) rfl ?_
    refine g_iconst (v := nI 1) hX dX3_isDoubled_21 (by decide) ?_
    refine g_aload_n hX dX3_isDoubled_22 rfl 1 rfl ?_
    refine g_getI (v := zI a) hX (xG_n (j := 0) hg (by decide)) (xG_K0 hg) xCl0 1 (by decide) (by decide) kX3_76 dX3_isDoubled_23 la ?_
    refine g_imax (v := nI ((max 1 a).toNat)) hX jmX3_52 jmax_s jm_i jmax_c (by decide) (Nat.le_of_ble_eq_true rfl) (by decide) (by decide) dX3_isDoubled_26 (max1z a0 a20) ?_
    refine g_istore (L' := [(0, .ref 4), (1, .ref g), (2, .int (nI k)), (3, .int e), (4, .int (nI (tsF f k))), (5, .int (nI ((max 1 a).toNat)))]) hX dX3_isDoubled_29 (by decide) rfl ?_
    have cut31 : ∀ (fuel : Nat) (n : Nat) (hm : (max 1 a).toNat ≤ n) (hm2 : n ≤ 22) (hno : ∀ m, (max 1 a).toNat ≤ m → m < n → ¬ (0 < m ∧ m < tsF f k ∧ frP (I 5) 0 (f (6 + 0) + e) m (f (6 + m)) ∧ frP (I 5) m (f (6 + m)) (tsF f k) (tpF f k))), 40 - n < fuel → G X 319 0 0 I (xRL nw sp) 31 [(0, .ref 4), (1, .ref g), (2, .int (nI k)), (3, .int e), (4, .int (nI (tsF f k))), (5, .int (nI n))] [] := by
      intro fuel
      induction fuel with
      | zero => intro n hm hm2 hno hfuel; omega
      | succ fuel ih =>
        intro n hm hm2 hno hfuel
        refine g_iload hX dX3_isDoubled_31 5 rfl ?_
        refine g_aload_n hX dX3_isDoubled_33 rfl 1 rfl ?_
        refine g_getI (v := zI b) hX (xG_n (j := 0) hg (by decide)) (xG_K0 hg) xCl0 2 (by decide) (by decide) kX3_79 dX3_isDoubled_34 lb ?_
        refine g_ci_gt (a := ((n : Nat) : Int)) (b := (b : Int)) (tgt := 103) hX dX3_isDoubled_37 (by decide) (nI_toInt (by omega)) (zI_toInt (by omega) (by omega)) (fun h37 => ?_) (fun h37 => ?_)
        · refine g_iconst (v := nI 0) hX dX3_isDoubled_103 (by decide) ?_
          exact g_zret hX hR dX3_isDoubled_104 (by decide) (by decide) (by decide) ⟨congrArg (fun z => some (Value.int z)) (xb_n0 (by rintro ⟨⟨m, h1, h2, h3⟩, _⟩; have h4 := (hl m (by omega)).mpr ⟨h1, by omega⟩; exact (Nat.lt_or_ge m n).elim (fun h5 => hno m (by omega) h5 h3) (fun h5 => by have h6 := h3.2.1; omega))), rfl, rfl, rfl⟩
        · refine g_iload hX dX3_isDoubled_40 5 rfl ?_
          refine g_iload hX dX3_isDoubled_42 4 rfl ?_
          refine g_ci_ge (a := ((n : Nat) : Int)) (b := ((tsF f k : Nat) : Int)) (tgt := 103) hX dX3_isDoubled_44 (by decide) (nI_toInt (by omega)) (nI_toInt (by omega)) (fun h44 => ?_) (fun h44 => ?_)
          · refine g_iconst (v := nI 0) hX dX3_isDoubled_103 (by decide) ?_
            exact g_zret hX hR dX3_isDoubled_104 (by decide) (by decide) (by decide) ⟨congrArg (fun z => some (Value.int z)) (xb_n0 (by rintro ⟨⟨m, h1, h2, h3⟩, _⟩; have h4 := (hl m (by omega)).mpr ⟨h1, by omega⟩; exact (Nat.lt_or_ge m n).elim (fun h5 => hno m (by omega) h5 h3) (fun h5 => by have h6 := h3.2.1; omega))), rfl, rfl, rfl⟩
          · refine g_aload_n hX dX3_isDoubled_47 rfl 0 rfl ?_
            refine g_aload_n hX dX3_isDoubled_48 rfl 1 rfl ?_
            refine g_getR (j := g + 1) hX (xG_n (j := 0) hg (by decide)) (xG_K0 hg) xCl0 0 (by decide) (by decide) kX3_29 dX3_isDoubled_49 (xRL_g0 hg) ?_
            refine g_iconst (v := nI 0) hX dX3_isDoubled_52 (by decide) ?_
            refine g_iald (v := f (6 + 0)) hX (xG_n (j := 1) hg (by decide)) (xG_K1 hg) 0 rfl (by rw [(xG_N1 hg)]; decide) dX3_isDoubled_53 (hG.gr (by decide)) ?_
            refine g_iload_n hX dX3_isDoubled_54 rfl 3 rfl ?_
            refine g_iadd (v := (f (6 + 0)) + e) hX dX3_isDoubled_55 rfl ?_
            refine g_iconst (v := nI 0) hX dX3_isDoubled_56 (by decide) ?_
            refine g_aload_n hX dX3_isDoubled_57 rfl 1 rfl ?_
            refine g_getR (j := g + 1) hX (xG_n (j := 0) hg (by decide)) (xG_K0 hg) xCl0 0 (by decide) (by decide) kX3_29 dX3_isDoubled_58 (xRL_g0 hg) ?_
            refine g_iload hX dX3_isDoubled_61 5 rfl ?_
            refine g_iald (v := f (6 + n)) hX (xG_n (j := 1) hg (by decide)) (xG_K1 hg) n rfl (by rw [(xG_N1 hg)]; omega) dX3_isDoubled_63 (hG.gr (by omega)) ?_
            refine g_iload hX dX3_isDoubled_64 5 rfl ?_
            refine g_callVi hX (as := [.int ((f (6 + 0)) + e), .int (nI 0), .int (f (6 + n)), .int (nI n)]) (fun l => c_X3_isFree l (I := I) (a := 0) (c := n) (x := ((f (6 + 0)) + e)) (y := (f (6 + n))) (ha := (by first | assumption | omega)) (hc := (by first | assumption | omega))) mX3_isFree vX3_isFree lX3_65 (by decide) (by decide) xCl3 rfl rfl dX3_isDoubled_66 rfl (by decide) (Nat.le_of_ble_eq_true rfl) (by decide) (by decide) ?_
            refine g_cb_eq (tgt := 97) hX dX3_isDoubled_69 (by decide) (fun h69 => ?_) (fun h69 => ?_)
            · refine g_iinc (v := nI (n + 1)) (L' := [(0, .ref 4), (1, .ref g), (2, .int (nI k)), (3, .int e), (4, .int (nI (tsF f k))), (5, .int (nI (n + 1)))]) hX dX3_isDoubled_97 (by decide) 5 rfl (nI_add n 1) rfl ?_
              refine g_goto (tgt := 31) hX dX3_isDoubled_100 (by decide) ?_
              exact ih (n + 1) (by first | assumption | omega) (by first | assumption | omega) (fun m h1 h2 => (Nat.lt_succ_iff_lt_or_eq.mp h2).elim (fun h => hno m h1 h) (fun h => by subst h; first | exact fun q => h69 q.2.2.1 | exact fun q => h92 q.2.2.2)) (by omega)
            · refine g_aload_n hX dX3_isDoubled_72 rfl 0 rfl ?_
              refine g_aload_n hX dX3_isDoubled_73 rfl 1 rfl ?_
              refine g_getR (j := g + 1) hX (xG_n (j := 0) hg (by decide)) (xG_K0 hg) xCl0 0 (by decide) (by decide) kX3_29 dX3_isDoubled_74 (xRL_g0 hg) ?_
              refine g_iload hX dX3_isDoubled_77 5 rfl ?_
              refine g_iald (v := f (6 + n)) hX (xG_n (j := 1) hg (by decide)) (xG_K1 hg) n rfl (by rw [(xG_N1 hg)]; omega) dX3_isDoubled_79 (hG.gr (by omega)) ?_
              refine g_iload hX dX3_isDoubled_80 5 rfl ?_
              refine g_aload_n hX dX3_isDoubled_82 rfl 1 rfl ?_
              refine g_iload_n hX dX3_isDoubled_83 rfl 2 rfl ?_
              refine g_callVi hX (as := [.int (nI k)]) (fun l => c_X0_topOf l (I := I) (g := g) (T := T) (S := S) (F := F) (W := W) (f := f) (k := k) (hg := hg) (hG := (by first | assumption | omega)) (hW := (by first | assumption | omega)) (hk := (by first | assumption | omega))) mX0_topOf vX0_topOf lX3_61 (xG_n (j := 0) hg (by decide)) (xG_K0 hg) xCl0 rfl rfl dX3_isDoubled_84 rfl (by decide) (Nat.le_of_ble_eq_true rfl) (by decide) (by decide) ?_
              refine g_iload hX dX3_isDoubled_87 4 rfl ?_
              refine g_callVi hX (as := [.int (f (6 + n)), .int (nI n), .int (tpF f k), .int (nI (tsF f k))]) (fun l => c_X3_isFree l (I := I) (a := n) (c := (tsF f k)) (x := (f (6 + n))) (y := (tpF f k)) (ha := (by first | assumption | omega)) (hc := (by first | assumption | omega))) mX3_isFree vX3_isFree lX3_65 (by decide) (by decide) xCl3 rfl rfl dX3_isDoubled_89 rfl (by decide) (Nat.le_of_ble_eq_true rfl) (by decide) (by decide) ?_
              refine g_cb_eq (tgt := 97) hX dX3_isDoubled_92 (by decide) (fun h92 => ?_) (fun h92 => ?_)
              · refine g_iinc (v := nI (n + 1)) (L' := [(0, .ref 4), (1, .ref g), (2, .int (nI k)), (3, .int e), (4, .int (nI (tsF f k))), (5, .int (nI (n + 1)))]) hX dX3_isDoubled_97 (by decide) 5 rfl (nI_add n 1) rfl ?_
                refine g_goto (tgt := 31) hX dX3_isDoubled_100 (by decide) ?_
                exact ih (n + 1) (by first | assumption | omega) (by first | assumption | omega) (fun m h1 h2 => (Nat.lt_succ_iff_lt_or_eq.mp h2).elim (fun h => hno m h1 h) (fun h => by subst h; first | exact fun q => h69 q.2.2.1 | exact fun q => h92 q.2.2.2)) (by omega)
              · refine g_iconst (v := nI 1) hX dX3_isDoubled_95 (by decide) ?_
                exact g_zret hX hR dX3_isDoubled_96 (by decide) (by decide) (by decide) ⟨congrArg (fun z => some (Value.int z)) (xb_n1 (by exact ⟨⟨n, ((hl n (by omega)).mp ⟨by omega, by omega⟩).1, by have := ((hl n (by omega)).mp ⟨by omega, by omega⟩).2; omega, by omega, by omega, h69, h92⟩, h8⟩)), rfl, rfl, rfl⟩
    exact cut31 _ ((max 1 a).toNat) (by first | assumption | omega) (by first | assumption | omega) (fun m h1 h2 => absurd h1 (by omega)) (Nat.lt_succ_self _)
  · refine g_iconst (v := nI 0) hX dX3_isDoubled_11 (by decide) ?_
    exact g_zret hX hR dX3_isDoubled_12 (by decide) (by decide) (by decide) ⟨congrArg (fun z => some (Value.int z)) (xb_n0 (by exact fun q => h8 q.2)), rfl, rfl, rfl⟩

theorem c_X3_wantsAreMet (l : Launch) {nw sp : Nat} {I : xM} {g T S F W : Nat} {f : Nat → Int32} {e : Int32} (hg : xG g) (hG : GX I g f T S F W) (hW : WF f T S F W) : xC l 3 0 0 yX3_wantsAreMet cX3_wantsAreMet 4 (some .boolean) 319 [.ref 4, .ref g, .int e] I (xRL nw sp) (xpI (xb (mtP (I 5) f S e)) 319 I (xRL nw sp)) := by
  refine xC_of (by decide) (Nat.le_of_ble_eq_true rfl) (fun X hXl hX hR => ?_)
  have hX : xOK X RX3 cX3_wantsAreMet 4 3 0 0 := hX
  show G X 319 0 0 I (xRL nw sp) 0 [(0, .ref 4), (1, .ref g), (2, .int e)] []
  have hg8 := xG_8 hg
  have hT6 := hW.T6
  have hS6 := hW.S6
  refine g_iconst (v := nI 0) hX dX3_wantsAreMet_0 (by decide) ?_
  refine g_istore_n (L' := [(0, .ref 4), (1, .ref g), (2, .int e), (3, .int (nI 0))]) hX dX3_wantsAreMet_1 rfl (by decide) rfl ?_
  have cut2 : ∀ (fuel : Nat) (k : Nat) (hk : k ≤ S) (hall : ∀ u, u < k → (snP (I 5) f 0 e u ↔ (f (56 + 3 * u + 2)).toInt = 1)), S - k < fuel → G X 319 0 0 I (xRL nw sp) 2 [(0, .ref 4), (1, .ref g), (2, .int e), (3, .int (nI k))] [] := by
    intro fuel
    induction fuel with
    | zero => intro k hk hall hfuel; omega
    | succ fuel ih =>
      intro k hk hall hfuel
      refine g_iload_n hX dX3_wantsAreMet_2 rfl 3 rfl ?_
      refine g_aload_n hX dX3_wantsAreMet_3 rfl 1 rfl ?_
      refine g_getI (v := nI S) hX (xG_n (j := 0) hg (by decide)) (xG_K0 hg) xCl0 9 (by decide) (by decide) kX3_69 dX3_wantsAreMet_4 hG.th ?_
      refine g_ci_ge (a := ((k : Nat) : Int)) (b := ((S : Nat) : Int)) (tgt := 35) hX dX3_wantsAreMet_7 (by decide) (nI_toInt (by omega)) (nI_toInt (by omega)) (fun h7 => ?_) (fun h7 => ?_)
      · refine g_iconst (v := nI 1) hX dX3_wantsAreMet_35 (by decide) ?_
        exact g_zret hX hR dX3_wantsAreMet_36 (by decide) (by decide) (by decide) ⟨congrArg (fun z => some (Value.int z)) (xb_n1 (by exact fun u hu => hall u (by omega))), rfl, rfl, rfl⟩
      · have hsh := hW.sh (k := k) (by omega)
        refine g_aload_n hX dX3_wantsAreMet_10 rfl 0 rfl ?_
        refine g_aload_n hX dX3_wantsAreMet_11 rfl 1 rfl ?_
        refine g_iload_n hX dX3_wantsAreMet_12 rfl 3 rfl ?_
        refine g_iconst (v := nI 0) hX dX3_wantsAreMet_13 (by decide) ?_
        refine g_iload_n hX dX3_wantsAreMet_14 rfl 2 rfl ?_
        refine g_callVi hX (as := [.ref g, .int (nI k), .int (nI 0), .int e]) (fun l => c_X3_isSeen l (I := I) (g := g) (T := T) (S := S) (F := F) (W := W) (f := f) (k := k) (s := 0) (e := e) (hg := hg) (hG := (by first | assumption | omega)) (hW := (by first | assumption | omega)) (hk := (by first | assumption | omega)) (hs := (by first | assumption | omega))) mX3_isSeen vX3_isSeen lX3_72 (by decide) (by decide) xCl3 rfl rfl dX3_wantsAreMet_15 rfl (by decide) (Nat.le_of_ble_eq_true rfl) (by decide) (by decide) ?_
        rcases Classical.em (snP (I 5) f 0 e k) with hs15 | hs15
        · refine g_top (y := nI 1) (xb_n1 hs15).symm ?_
          refine g_aload_n hX dX3_wantsAreMet_18 rfl 1 rfl ?_
          refine g_getR (j := g + 9) hX (xG_n (j := 0) hg (by decide)) (xG_K0 hg) xCl0 12 (by decide) (by decide) kX3_82 dX3_wantsAreMet_19 (xRL_g12 hg) ?_
          refine g_iload_n hX dX3_wantsAreMet_22 rfl 3 rfl ?_
          refine g_zald (v := f (56 + 3 * k + 2)) hX (xG_n (j := 9) hg (by decide)) (xG_K9 hg) k rfl (by rw [(xG_N9 hg)]; omega) dX3_wantsAreMet_23 (hG.s2 (by omega)) ?_
          refine g_ci_eq (a := (1 : Int)) (b := (f (56 + 3 * k + 2)).toInt) (tgt := 29) hX dX3_wantsAreMet_24 (by decide) (by decide) rfl (fun h24 => ?_) (fun h24 => ?_)
          · refine g_iinc (v := nI (k + 1)) (L' := [(0, .ref 4), (1, .ref g), (2, .int e), (3, .int (nI (k + 1)))]) hX dX3_wantsAreMet_29 (by decide) 3 rfl (nI_add k 1) rfl ?_
            refine g_goto (tgt := 2) hX dX3_wantsAreMet_32 (by decide) ?_
            exact ih (k + 1) (by first | assumption | omega) (lt_succ_or hall (by first | exact ⟨fun _ => by omega, fun _ => hs15⟩ | exact ⟨fun q => absurd q hs15, fun q => absurd q (by omega)⟩)) (by omega)
          · refine g_iconst (v := nI 0) hX dX3_wantsAreMet_27 (by decide) ?_
            exact g_zret hX hR dX3_wantsAreMet_28 (by decide) (by decide) (by decide) ⟨congrArg (fun z => some (Value.int z)) (xb_n0 (by intro q; have q2 := q k (by omega); first | exact absurd (q2.mp hs15) (by omega) | exact hs15 (q2.mpr (by omega)))), rfl, rfl, rfl⟩
        · refine g_top (y := nI 0) (xb_n0 hs15).symm ?_
          refine g_aload_n hX dX3_wantsAreMet_18 rfl 1 rfl ?_
          refine g_getR (j := g + 9) hX (xG_n (j := 0) hg (by decide)) (xG_K0 hg) xCl0 12 (by decide) (by decide) kX3_82 dX3_wantsAreMet_19 (xRL_g12 hg) ?_
          refine g_iload_n hX dX3_wantsAreMet_22 rfl 3 rfl ?_
          refine g_zald (v := f (56 + 3 * k + 2)) hX (xG_n (j := 9) hg (by decide)) (xG_K9 hg) k rfl (by rw [(xG_N9 hg)]; omega) dX3_wantsAreMet_23 (hG.s2 (by omega)) ?_
          refine g_ci_eq (a := (0 : Int)) (b := (f (56 + 3 * k + 2)).toInt) (tgt := 29) hX dX3_wantsAreMet_24 (by decide) (by decide) rfl (fun h24 => ?_) (fun h24 => ?_)
          · refine g_iinc (v := nI (k + 1)) (L' := [(0, .ref 4), (1, .ref g), (2, .int e), (3, .int (nI (k + 1)))]) hX dX3_wantsAreMet_29 (by decide) 3 rfl (nI_add k 1) rfl ?_
            refine g_goto (tgt := 2) hX dX3_wantsAreMet_32 (by decide) ?_
            exact ih (k + 1) (by first | assumption | omega) (lt_succ_or hall (by first | exact ⟨fun _ => by omega, fun _ => hs15⟩ | exact ⟨fun q => absurd q hs15, fun q => absurd q (by omega)⟩)) (by omega)
          · refine g_iconst (v := nI 0) hX dX3_wantsAreMet_27 (by decide) ?_
            exact g_zret hX hR dX3_wantsAreMet_28 (by decide) (by decide) (by decide) ⟨congrArg (fun z => some (Value.int z)) (xb_n0 (by intro q; have q2 := q k (by omega); first | exact absurd (q2.mp hs15) (by omega) | exact hs15 (q2.mpr (by omega)))), rfl, rfl, rfl⟩
  exact cut2 _ 0 (by first | assumption | omega) (fun u hu => absurd hu (Nat.not_lt_zero u)) (Nat.lt_succ_self _)

theorem c_X5_isIn (l : Launch) {nw sp : Nat} {I : xM} {x : Int32} {k : Nat}  : xC l 1 0 0 yX5_isIn cX5_isIn 2 (some .boolean) 319 [.int x, .int (nI k)] I (xRL nw sp) (xpI (xb (inP x k)) 319 I (xRL nw sp)) := by
  refine xC_of (by decide) (Nat.le_of_ble_eq_true rfl) (fun X hXl hX hR => ?_)
  have hX : xOK X RX5 cX5_isIn 2 1 0 0 := hX
  show G X 319 0 0 I (xRL nw sp) 0 [(0, .int x), (1, .int (nI k))] []
  have h1 := and1 (x >>> (nI k &&& 31))
  refine g_iload_n hX dX5_isIn_0 rfl 0 rfl ?_
  refine g_iload_n hX dX5_isIn_1 rfl 1 rfl ?_
  refine g_ishr (v := x >>> ((nI k) &&& 31)) hX dX5_isIn_2 rfl ?_
  refine g_iconst (v := nI 1) hX dX5_isIn_3 (by decide) ?_
  refine g_iand (v := (x >>> ((nI k) &&& 31)) &&& (nI 1)) hX dX5_isIn_4 rfl ?_
  refine g_cz_eq (a := ((x >>> ((nI k) &&& 31)) &&& (nI 1)).toInt) (tgt := 12) hX dX5_isIn_5 (by decide) rfl (fun h5 => ?_) (fun h5 => ?_)
  · refine g_iconst (v := nI 0) hX dX5_isIn_12 (by decide) ?_
    exact g_zret hX hR dX5_isIn_13 (by decide) (by decide) (by decide) ⟨congrArg (fun z => some (Value.int z)) (xb_n0 (by unfold inP; omega)), rfl, rfl, rfl⟩
  · refine g_iconst (v := nI 1) hX dX5_isIn_8 (by decide) ?_
    refine g_goto (tgt := 13) hX dX5_isIn_9 (by decide) ?_
    exact g_zret hX hR dX5_isIn_13 (by decide) (by decide) (by decide) ⟨congrArg (fun z => some (Value.int z)) (xb_n1 (by unfold inP; omega)), rfl, rfl, rfl⟩

theorem c_X3_wantsAreMetForAll (l : Launch) {nw sp : Nat} {I : xM} {g T S F W : Nat} {f : Nat → Int32} {x : Int32} (hg : xG g) (hG : GX I g f T S F W) (hW : WF f T S F W) : xC l 4 0 0 yX3_wantsAreMetForAll cX3_wantsAreMetForAll 4 (some .boolean) 319 [.ref 4, .ref g, .int x] I (xRL nw sp) (xpI (xb (∀ e, e < 31 → inP x e → mtP (I 5) f S (nI e))) 319 I (xRL nw sp)) := by
  refine xC_of (by decide) (Nat.le_of_ble_eq_true rfl) (fun X hXl hX hR => ?_)
  have hX : xOK X RX3 cX3_wantsAreMetForAll 4 4 0 0 := hX
  show G X 319 0 0 I (xRL nw sp) 0 [(0, .ref 4), (1, .ref g), (2, .int x)] []
  have hg8 := xG_8 hg
  have hT6 := hW.T6
  have hS6 := hW.S6
  refine g_iconst (v := nI 0) hX dX3_wantsAreMetForAll_0 (by decide) ?_
  refine g_istore_n (L' := [(0, .ref 4), (1, .ref g), (2, .int x), (3, .int (nI 0))]) hX dX3_wantsAreMetForAll_1 rfl (by decide) rfl ?_
  have cut2 : ∀ (fuel : Nat) (e : Nat) (he : e ≤ 31) (hall : ∀ u, u < e → inP x u → mtP (I 5) f S (nI u)), 31 - e < fuel → G X 319 0 0 I (xRL nw sp) 2 [(0, .ref 4), (1, .ref g), (2, .int x), (3, .int (nI e))] [] := by
    intro fuel
    induction fuel with
    | zero => intro e he hall hfuel; omega
    | succ fuel ih =>
      intro e he hall hfuel
      refine g_iload_n hX dX3_wantsAreMetForAll_2 rfl 3 rfl ?_
      refine g_bipush (v := nI 31) hX dX3_wantsAreMetForAll_3 (by decide) ?_
      refine g_ci_ge (a := ((e : Nat) : Int)) (b := (31 : Int)) (tgt := 33) hX dX3_wantsAreMetForAll_5 (by decide) (nI_toInt (by omega)) (by decide) (fun h5 => ?_) (fun h5 => ?_)
      · refine g_iconst (v := nI 1) hX dX3_wantsAreMetForAll_33 (by decide) ?_
        exact g_zret hX hR dX3_wantsAreMetForAll_34 (by decide) (by decide) (by decide) ⟨congrArg (fun z => some (Value.int z)) (xb_n1 (by exact fun u hu => hall u (by omega))), rfl, rfl, rfl⟩
      · refine g_iload_n hX dX3_wantsAreMetForAll_8 rfl 2 rfl ?_
        refine g_iload_n hX dX3_wantsAreMetForAll_9 rfl 3 rfl ?_
        refine g_callSi hX (as := [.int x, .int (nI e)]) (fun l => c_X5_isIn l (I := I) (x := x) (k := e) ) mX5_isIn sX5_isIn lX3_86 rfl dX3_wantsAreMetForAll_10 rfl (by decide) (Nat.le_of_ble_eq_true rfl) (by decide) (by decide) ?_
        refine g_cb_eq (tgt := 27) hX dX3_wantsAreMetForAll_13 (by decide) (fun h13 => ?_) (fun h13 => ?_)
        · refine g_iinc (v := nI (e + 1)) (L' := [(0, .ref 4), (1, .ref g), (2, .int x), (3, .int (nI (e + 1)))]) hX dX3_wantsAreMetForAll_27 (by decide) 3 rfl (nI_add e 1) rfl ?_
          refine g_goto (tgt := 2) hX dX3_wantsAreMetForAll_30 (by decide) ?_
          exact ih (e + 1) (by first | assumption | omega) (lt_succ_or hall (by first | exact fun _ => h22 | exact fun q => absurd q h13)) (by omega)
        · refine g_aload_n hX dX3_wantsAreMetForAll_16 rfl 0 rfl ?_
          refine g_aload_n hX dX3_wantsAreMetForAll_17 rfl 1 rfl ?_
          refine g_iload_n hX dX3_wantsAreMetForAll_18 rfl 3 rfl ?_
          refine g_callVi hX (as := [.ref g, .int (nI e)]) (fun l => c_X3_wantsAreMet l (I := I) (g := g) (T := T) (S := S) (F := F) (W := W) (f := f) (e := (nI e)) (hg := hg) (hG := (by first | assumption | omega)) (hW := (by first | assumption | omega))) mX3_wantsAreMet vX3_wantsAreMet lX3_90 (by decide) (by decide) xCl3 rfl rfl dX3_wantsAreMetForAll_19 rfl (by decide) (Nat.le_of_ble_eq_true rfl) (by decide) (by decide) ?_
          refine g_cb_ne (tgt := 27) hX dX3_wantsAreMetForAll_22 (by decide) (fun h22 => ?_) (fun h22 => ?_)
          · refine g_iinc (v := nI (e + 1)) (L' := [(0, .ref 4), (1, .ref g), (2, .int x), (3, .int (nI (e + 1)))]) hX dX3_wantsAreMetForAll_27 (by decide) 3 rfl (nI_add e 1) rfl ?_
            refine g_goto (tgt := 2) hX dX3_wantsAreMetForAll_30 (by decide) ?_
            exact ih (e + 1) (by first | assumption | omega) (lt_succ_or hall (by first | exact fun _ => h22 | exact fun q => absurd q h13)) (by omega)
          · refine g_iconst (v := nI 0) hX dX3_wantsAreMetForAll_25 (by decide) ?_
            exact g_zret hX hR dX3_wantsAreMetForAll_26 (by decide) (by decide) (by decide) ⟨congrArg (fun z => some (Value.int z)) (xb_n0 (by exact fun q => h22 (q e (by omega) h13))), rfl, rfl, rfl⟩
  exact cut2 _ 0 (by first | assumption | omega) (fun u hu => absurd hu (Nat.not_lt_zero u)) (Nat.lt_succ_self _)
