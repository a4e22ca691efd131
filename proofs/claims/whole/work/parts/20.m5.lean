theorem c_X6_of (l : Launch) {nw sp : Nat} {I : xM} {t w : Nat} (ht : 26 + 5 * t + w < 74) : xC l 1 0 0 yX6_of cX6_of 3 (some .int) 319 [.ref 307, .int (nI t), .int (nI w)] I (xRL nw sp) (xpI (I 311 (26 + 5 * t + w)) 319 I (xRL nw sp)) := by
  refine xC_of (by decide) (Nat.le_of_ble_eq_true rfl) (fun X hXl hX hR => ?_)
  have hX : xOK X RX6 cX6_of 3 1 0 0 := hX
  show G X 319 0 0 I (xRL nw sp) 0 [(0, .ref 307), (1, .int (nI t)), (2, .int (nI w))] []
  refine g_aload_n hX dX6_of_0 rfl 0 rfl ?_
  refine g_getR (j := 311) hX (by decide) (by decide) xCl6 5 (by decide) (by decide) kX6_19 dX6_of_1 rfl ?_
  refine g_bipush (v := nI 26) hX dX6_of_4 (by decide) ?_
  refine g_iconst (v := nI 5) hX dX6_of_6 (by decide) ?_
  refine g_iload_n hX dX6_of_7 rfl 1 rfl ?_
  refine g_imul (v := nI (5 * t)) hX dX6_of_8 (nI_mul 5 t) ?_
  refine g_iadd (v := nI (26 + (5 * t))) hX dX6_of_9 (nI_add 26 (5 * t)) ?_
  refine g_iload_n hX dX6_of_10 rfl 2 rfl ?_
  refine g_iadd (v := nI ((26 + (5 * t)) + w)) hX dX6_of_11 (nI_add (26 + (5 * t)) w) ?_
  refine g_iald (v := I 311 ((26 + (5 * t)) + w)) hX (by decide) (by decide) ((26 + (5 * t)) + w) rfl (by rw [(show xN 311 = 74 by decide)]; omega) dX6_of_12 rfl ?_
  exact g_iret hX hR dX6_of_13 (by decide) (by decide) ⟨congrArg (fun z => some (Value.int z)) rfl, rfl, rfl, rfl⟩

theorem c_X6_ground (l : Launch) {nw sp : Nat} {I : xM} {q : Nat} (hq : q < 20) : xC l 1 0 0 yX6_ground cX6_ground 2 (some .int) 319 [.ref 307, .int (nI q)] I (xRL nw sp) (xpI (I 311 (6 + q)) 319 I (xRL nw sp)) := by
  refine xC_of (by decide) (Nat.le_of_ble_eq_true rfl) (fun X hXl hX hR => ?_)
  have hX : xOK X RX6 cX6_ground 2 1 0 0 := hX
  show G X 319 0 0 I (xRL nw sp) 0 [(0, .ref 307), (1, .int (nI q))] []
  refine g_aload_n hX dX6_ground_0 rfl 0 rfl ?_
  refine g_getR (j := 311) hX (by decide) (by decide) xCl6 5 (by decide) (by decide) kX6_19 dX6_ground_1 rfl ?_
  refine g_bipush (v := nI 6) hX dX6_ground_4 (by decide) ?_
  refine g_iload_n hX dX6_ground_6 rfl 1 rfl ?_
  refine g_iadd (v := nI (6 + q)) hX dX6_ground_7 (nI_add 6 q) ?_
  refine g_iald (v := I 311 (6 + q)) hX (by decide) (by decide) (6 + q) rfl (by rw [(show xN 311 = 74 by decide)]; omega) dX6_ground_8 rfl ?_
  exact g_iret hX hR dX6_ground_9 (by decide) (by decide) ⟨congrArg (fun z => some (Value.int z)) rfl, rfl, rfl, rfl⟩

theorem c_X6_isTree (l : Launch) {nw sp : Nat} {I : xM} {T : Nat} {x : Int32} (hT : I 311 0 = nI T) (hT6 : T ≤ 6) : xC l 2 0 0 yX6_isTree cX6_isTree 2 (some .boolean) 319 [.ref 307, .int x] I (xRL nw sp) (xpI (xb (0 ≤ x.toInt ∧ x.toInt < T)) 319 I (xRL nw sp)) := by
  refine xC_of (by decide) (Nat.le_of_ble_eq_true rfl) (fun X hXl hX hR => ?_)
  have hX : xOK X RX6 cX6_isTree 2 2 0 0 := hX
  show G X 319 0 0 I (xRL nw sp) 0 [(0, .ref 307), (1, .int x)] []
  refine g_iload_n hX dX6_isTree_0 rfl 1 rfl ?_
  refine g_i2l (v := x.toInt64) hX dX6_isTree_1 rfl ?_
  refine g_lconst (v := 0) hX dX6_isTree_2 (by decide) ?_
  refine g_aload_n hX dX6_isTree_3 rfl 0 rfl ?_
  refine g_getR (j := 311) hX (by decide) (by decide) xCl6 5 (by decide) (by decide) kX6_19 dX6_isTree_4 rfl ?_
  refine g_iconst (v := nI 0) hX dX6_isTree_7 (by decide) ?_
  refine g_iald (v := nI T) hX (by decide) (by decide) 0 rfl (by rw [(show xN 311 = 74 by decide)]; decide) dX6_isTree_8 hT ?_
  refine g_iconst (v := nI 1) hX dX6_isTree_9 (by decide) ?_
  refine g_isub (v := zI (((T : Nat) : Int) - ((1 : Nat) : Int))) hX dX6_isTree_10 (zI_sub (((T : Nat) : Int)) (((1 : Nat) : Int))) ?_
  refine g_i2l (v := (zI (((T : Nat) : Int) - ((1 : Nat) : Int))).toInt64) hX dX6_isTree_11 rfl ?_
  refine g_callSi (as := [.long x.toInt64, .long 0, .long ((zI (((T : Nat) : Int) - ((1 : Nat) : Int))).toInt64)]) hX (fun l => c_X6_in l) mX6_in sX6_in lX6_54 rfl dX6_isTree_12 rfl (by decide) (Nat.le_of_ble_eq_true rfl) (by decide) (by decide) ?_
  refine g_top (y := xb ((0 : Int) ≤ x.toInt ∧ x.toInt ≤ (((T : Nat) : Int) - ((1 : Nat) : Int) : Int))) (xb_iffI ((i64_of _).trans rfl) (by decide) ((i64_of _).trans (zI_toInt (by omega) (by omega)))) ?_
  exact g_zret hX hR dX6_isTree_15 xb_nar (by decide) (by decide) ⟨congrArg (fun z => some (Value.int z)) (xb_iff (by omega)), rfl, rfl, rfl⟩

theorem c_X6_mayBeCut (l : Launch) {nw sp : Nat} {I : xM} {t : Nat} (ht : t < 7) : xC l 2 0 0 yX6_mayBeCut cX6_mayBeCut 2 (some .boolean) 319 [.ref 307, .int (nI t)] I (xRL nw sp) (xpI (xb ((I 311 (26 + 5 * t + 0)).toInt ≠ 3 ∧ (I 311 (26 + 5 * t + 0)).toInt ≠ 5)) 319 I (xRL nw sp)) := by
  refine xC_of (by decide) (Nat.le_of_ble_eq_true rfl) (fun X hXl hX hR => ?_)
  have hX : xOK X RX6 cX6_mayBeCut 2 2 0 0 := hX
  show G X 319 0 0 I (xRL nw sp) 0 [(0, .ref 307), (1, .int (nI t))] []
  refine g_aload_n hX dX6_mayBeCut_0 rfl 0 rfl ?_
  refine g_iload_n hX dX6_mayBeCut_1 rfl 1 rfl ?_
  refine g_iconst (v := nI 0) hX dX6_mayBeCut_2 (by decide) ?_
  refine g_callVi hX (as := [.int (nI t), .int (nI 0)]) (fun l => c_X6_of l (I := I) (t := t) (w := 0) (ht := (by first | assumption | omega))) mX6_of vX6_of lX6_193 (by decide) (by decide) xCl6 rfl rfl dX6_mayBeCut_3 rfl (by decide) (Nat.le_of_ble_eq_true rfl) (by decide) (by decide) ?_
  refine g_iconst (v := nI 3) hX dX6_mayBeCut_6 (by decide) ?_
  refine g_ci_eq (a := (I 311 (26 + 5 * t + 0)).toInt) (b := (3 : Int)) (tgt := 24) hX dX6_mayBeCut_7 (by decide) rfl (by decide) (fun h7 => ?_) (fun h7 => ?_)
  · refine g_iconst (v := nI 0) hX dX6_mayBeCut_24 (by decide) ?_
    exact g_zret hX hR dX6_mayBeCut_25 (by decide) (by decide) (by decide) ⟨congrArg (fun z => some (Value.int z)) (xb_n0 (by omega)), rfl, rfl, rfl⟩
  · refine g_aload_n hX dX6_mayBeCut_10 rfl 0 rfl ?_
    refine g_iload_n hX dX6_mayBeCut_11 rfl 1 rfl ?_
    refine g_iconst (v := nI 0) hX dX6_mayBeCut_12 (by decide) ?_
    refine g_callVi hX (as := [.int (nI t), .int (nI 0)]) (fun l => c_X6_of l (I := I) (t := t) (w := 0) (ht := (by first | assumption | omega))) mX6_of vX6_of lX6_193 (by decide) (by decide) xCl6 rfl rfl dX6_mayBeCut_13 rfl (by decide) (Nat.le_of_ble_eq_true rfl) (by decide) (by decide) ?_
    refine g_iconst (v := nI 5) hX dX6_mayBeCut_16 (by decide) ?_
    refine g_ci_eq (a := (I 311 (26 + 5 * t + 0)).toInt) (b := (5 : Int)) (tgt := 24) hX dX6_mayBeCut_17 (by decide) rfl (by decide) (fun h17 => ?_) (fun h17 => ?_)
    · refine g_iconst (v := nI 0) hX dX6_mayBeCut_24 (by decide) ?_
      exact g_zret hX hR dX6_mayBeCut_25 (by decide) (by decide) (by decide) ⟨congrArg (fun z => some (Value.int z)) (xb_n0 (by omega)), rfl, rfl, rfl⟩
    · refine g_iconst (v := nI 1) hX dX6_mayBeCut_20 (by decide) ?_
      refine g_goto (tgt := 25) hX dX6_mayBeCut_21 (by decide) ?_
      exact g_zret hX hR dX6_mayBeCut_25 (by decide) (by decide) (by decide) ⟨congrArg (fun z => some (Value.int z)) (xb_n1 (by omega)), rfl, rfl, rfl⟩

theorem c_X6_treeAt (l : Launch) {nw sp : Nat} {I : xM} {T : Nat} {x : Int32} (hT : I 311 0 = nI T) (hT6 : T ≤ 6) : xC l 2 0 0 yX6_treeAt cX6_treeAt 3 (some .int) 319 [.ref 307, .int x] I (xRL nw sp) (xpI (oI (taF (I 311) T x)) 319 I (xRL nw sp)) := by
  refine xC_of (by decide) (Nat.le_of_ble_eq_true rfl) (fun X hXl hX hR => ?_)
  have hX : xOK X RX6 cX6_treeAt 3 2 0 0 := hX
  show G X 319 0 0 I (xRL nw sp) 0 [(0, .ref 307), (1, .int x)] []
  refine g_iconst (v := nI 0) hX dX6_treeAt_0 (by decide) ?_
  refine g_istore_n (L' := [(0, .ref 307), (1, .int x), (2, .int (nI 0))]) hX dX6_treeAt_1 rfl (by decide) rfl ?_
  have cut2 : ∀ (fuel : Nat) (i : Nat) (hi : i ≤ T) (hno : ∀ u, u < i → ¬ I 311 (26 + 5 * u + 1) = x), T - i < fuel → G X 319 0 0 I (xRL nw sp) 2 [(0, .ref 307), (1, .int x), (2, .int (nI i))] [] := by
    intro fuel
    induction fuel with
    | zero => intro i hi hno hfuel; omega
    | succ fuel ih =>
      intro i hi hno hfuel
      refine g_iload_n hX dX6_treeAt_2 rfl 2 rfl ?_
      refine g_aload_n hX dX6_treeAt_3 rfl 0 rfl ?_
      refine g_getR (j := 311) hX (by decide) (by decide) xCl6 5 (by decide) (by decide) kX6_19 dX6_treeAt_4 rfl ?_
      refine g_iconst (v := nI 0) hX dX6_treeAt_7 (by decide) ?_
      refine g_iald (v := nI T) hX (by decide) (by decide) 0 rfl (by rw [(show xN 311 = 74 by decide)]; decide) dX6_treeAt_8 hT ?_
      refine g_ci_ge (a := ((i : Nat) : Int)) (b := ((T : Nat) : Int)) (tgt := 30) hX dX6_treeAt_9 (by decide) (nI_toInt (by omega)) (nI_toInt (by omega)) (fun h9 => ?_) (fun h9 => ?_)
      · refine g_ldc (v := -1000000) hX cX6_80 dX6_treeAt_30 ?_
        exact g_iret hX hR dX6_treeAt_32 (by decide) (by decide) ⟨congrArg (fun z => some (Value.int z)) (by rw [taF, xfind_none (fun u hu => hno u (by omega))]; rfl), rfl, rfl, rfl⟩
      · refine g_aload_n hX dX6_treeAt_12 rfl 0 rfl ?_
        refine g_iload_n hX dX6_treeAt_13 rfl 2 rfl ?_
        refine g_iconst (v := nI 1) hX dX6_treeAt_14 (by decide) ?_
        refine g_callVi hX (as := [.int (nI i), .int (nI 1)]) (fun l => c_X6_of l (I := I) (t := i) (w := 1) (ht := (by first | assumption | omega))) mX6_of vX6_of lX6_193 (by decide) (by decide) xCl6 rfl rfl dX6_treeAt_15 rfl (by decide) (Nat.le_of_ble_eq_true rfl) (by decide) (by decide) ?_
        refine g_iload_n hX dX6_treeAt_18 rfl 1 rfl ?_
        refine g_ci_ne (a := (I 311 (26 + 5 * i + 1)).toInt) (b := x.toInt) (tgt := 24) hX dX6_treeAt_19 (by decide) rfl rfl (fun h19 => ?_) (fun h19 => ?_)
        · refine g_iinc (v := nI (i + 1)) (L' := [(0, .ref 307), (1, .int x), (2, .int (nI (i + 1)))]) hX dX6_treeAt_24 (by decide) 2 rfl (nI_add i 1) rfl ?_
          refine g_goto (tgt := 2) hX dX6_treeAt_27 (by decide) ?_
          exact ih (i + 1) (by first | assumption | omega) (lt_succ_or hno (fun e => h19 (congrArg Int32.toInt e))) (by omega)
        · refine g_iload_n hX dX6_treeAt_22 rfl 2 rfl ?_
          exact g_iret hX hR dX6_treeAt_23 (by decide) (by decide) ⟨congrArg (fun z => some (Value.int z)) (by rw [taF, xfind_some (i := i) (Int32.toInt_inj.mp h19) hno (by omega)]; rfl), rfl, rfl, rfl⟩
  exact cut2 _ 0 (by first | assumption | omega) (fun u hu => absurd hu (Nat.not_lt_zero u)) (Nat.lt_succ_self _)

theorem c_X6_height (l : Launch) {nw sp : Nat} {I : xM} {t : Nat} (ht : t < 7) : xC l 2 0 0 yX6_height cX6_height 4 (some .int) 319 [.ref 307, .int (nI t)] I (xRL nw sp) (xpI (hgF (I 311) (I 315) t) 319 I (xRL nw sp)) := by
  refine xC_of (by decide) (Nat.le_of_ble_eq_true rfl) (fun X hXl hX hR => ?_)
  have hX : xOK X RX6 cX6_height 4 2 0 0 := hX
  show G X 319 0 0 I (xRL nw sp) 0 [(0, .ref 307), (1, .int (nI t))] []
  refine g_aload_n hX dX6_height_0 rfl 0 rfl ?_
  refine g_iload_n hX dX6_height_1 rfl 1 rfl ?_
  refine g_iconst (v := nI 0) hX dX6_height_2 (by decide) ?_
  refine g_callVi hX (as := [.int (nI t), .int (nI 0)]) (fun l => c_X6_of l (I := I) (t := t) (w := 0) (ht := (by first | assumption | omega))) mX6_of vX6_of lX6_193 (by decide) (by decide) xCl6 rfl rfl dX6_height_3 rfl (by decide) (Nat.le_of_ble_eq_true rfl) (by decide) (by decide) ?_
  refine g_istore_n (L' := [(0, .ref 307), (1, .int (nI t)), (2, .int (I 311 (26 + 5 * t + 0)))]) hX dX6_height_6 rfl (by decide) rfl ?_
  refine g_iload_n hX dX6_height_7 rfl 2 rfl ?_
  refine g_iconst (v := nI 1) hX dX6_height_8 (by decide) ?_
  refine g_ci_ne (a := (I 311 (26 + 5 * t + 0)).toInt) (b := (1 : Int)) (tgt := 24) hX dX6_height_9 (by decide) rfl (by decide) (fun h9 => ?_) (fun h9 => ?_)
  · have cut24 : ∀  (hnb : ¬ ((I 311 (26 + 5 * t + 0)).toInt = 1 ∧ (I 311 3).toInt = 1)), G X 319 0 0 I (xRL nw sp) 24 [(0, .ref 307), (1, .int (nI t)), (2, .int (I 311 (26 + 5 * t + 0)))] [] := by
      intro hnb
      refine g_aload_n hX dX6_height_24 rfl 0 rfl ?_
      refine g_iload_n hX dX6_height_25 rfl 1 rfl ?_
      refine g_iconst (v := nI 2) hX dX6_height_26 (by decide) ?_
      refine g_callVi hX (as := [.int (nI t), .int (nI 2)]) (fun l => c_X6_of l (I := I) (t := t) (w := 2) (ht := (by first | assumption | omega))) mX6_of vX6_of lX6_193 (by decide) (by decide) xCl6 rfl rfl dX6_height_27 rfl (by decide) (Nat.le_of_ble_eq_true rfl) (by decide) (by decide) ?_
      refine g_iload_n hX dX6_height_30 rfl 2 rfl ?_
      refine g_iconst (v := nI 4) hX dX6_height_31 (by decide) ?_
      refine g_ci_ge (a := (I 311 (26 + 5 * t + 0)).toInt) (b := (4 : Int)) (tgt := 51) hX dX6_height_32 (by decide) rfl (by decide) (fun h32 => ?_) (fun h32 => ?_)
      · refine g_iconst (v := nI 0) hX dX6_height_51 (by decide) ?_
        have cut52 : ∀ (v : Int32) (hv : v = if (I 311 (26 + 5 * t + 0)).toInt < 4 then I 311 (26 + 5 * t + 3) * I 311 2 else 0), G X 319 0 0 I (xRL nw sp) 52 [(0, .ref 307), (1, .int (nI t))] [.int v, .int (I 311 (26 + 5 * t + 2))] := by
          intro v hv
          refine g_iadd (v := (I 311 (26 + 5 * t + 2)) + v) hX dX6_height_52 rfl ?_
          refine g_istore_n (L' := [(0, .ref 307), (1, .int (nI t)), (3, .int ((I 311 (26 + 5 * t + 2)) + v))]) hX dX6_height_53 rfl (by decide) rfl ?_
          refine g_iload_n hX dX6_height_54 rfl 2 rfl ?_
          refine g_bipush (v := nI 99) hX dX6_height_55 (by decide) ?_
          refine g_ci_le (a := ((I 311 (26 + 5 * t + 2)) + v).toInt) (b := (99 : Int)) (tgt := 65) hX dX6_height_57 (by decide) rfl (by decide) (fun h57 => ?_) (fun h57 => ?_)
          · refine g_iload_n hX dX6_height_65 rfl 2 rfl ?_
            have cut66 : ∀ (v u : Int32) (hu : u = if (hgS (I 311 (26 + 5 * t + 0)) (I 311 (26 + 5 * t + 2)) (I 311 (26 + 5 * t + 3)) (I 311 2)).toInt ≤ 99 then hgS (I 311 (26 + 5 * t + 0)) (I 311 (26 + 5 * t + 2)) (I 311 (26 + 5 * t + 3)) (I 311 2) else 99), G X 319 0 0 I (xRL nw sp) 66 [(0, .ref 307), (1, .int (nI t))] [.int u] := by
              intro v u hu
              refine g_aload_n hX dX6_height_66 rfl 0 rfl ?_
              refine g_iload_n hX dX6_height_67 rfl 1 rfl ?_
              refine g_iconst (v := nI 4) hX dX6_height_68 (by decide) ?_
              refine g_callVi hX (as := [.int (nI t), .int (nI 4)]) (fun l => c_X6_of l (I := I) (t := t) (w := 4) (ht := (by first | assumption | omega))) mX6_of vX6_of lX6_193 (by decide) (by decide) xCl6 rfl rfl dX6_height_69 rfl (by decide) (Nat.le_of_ble_eq_true rfl) (by decide) (by decide) ?_
              refine g_isub (v := u - (I 311 (26 + 5 * t + 4))) hX dX6_height_72 rfl ?_
              refine g_istore_n (L' := [(0, .ref 307), (1, .int (nI t)), (3, .int (u - (I 311 (26 + 5 * t + 4))))]) hX dX6_height_73 rfl (by decide) rfl ?_
              refine g_iload_n hX dX6_height_74 rfl 2 rfl ?_
              refine g_cz_ge (a := (u - (I 311 (26 + 5 * t + 4))).toInt) (tgt := 82) hX dX6_height_75 (by decide) rfl (fun h75 => ?_) (fun h75 => ?_)
              · refine g_iload_n hX dX6_height_82 rfl 2 rfl ?_
                have cut83 : ∀ (z : Int32) (hz : z = hgT (hgS (I 311 (26 + 5 * t + 0)) (I 311 (26 + 5 * t + 2)) (I 311 (26 + 5 * t + 3)) (I 311 2)) (I 311 (26 + 5 * t + 4))), G X 319 0 0 I (xRL nw sp) 83 [(0, .ref 307), (1, .int (nI t))] [.int z] := by
                  intro z hz
                  refine g_aload_n hX dX6_height_83 rfl 0 rfl ?_
                  refine g_getR (j := 315) hX (by decide) (by decide) xCl6 20 (by decide) (by decide) kX6_31 dX6_height_84 rfl ?_
                  refine g_iload_n hX dX6_height_87 rfl 1 rfl ?_
                  refine g_iald (v := I 315 t) hX (by decide) (by decide) t rfl (by rw [(show xN 315 = 7 by decide)]; omega) dX6_height_88 rfl ?_
                  refine g_iadd (v := z + (I 315 t)) hX dX6_height_89 rfl ?_
                  exact g_iret hX hR dX6_height_90 (by decide) (by decide) ⟨congrArg (fun z => some (Value.int z)) (by rw [hgF, hgM, if_neg hnb, ← hz]), rfl, rfl, rfl⟩
                refine g_loc [0, 1] rfl ?_
                exact cut83 (u - (I 311 (26 + 5 * t + 4))) (by rw [hgT, ← hu, hgZ, if_pos (by omega)])
              · refine g_iconst (v := nI 0) hX dX6_height_78 (by decide) ?_
                refine g_goto (tgt := 83) hX dX6_height_79 (by decide) ?_
                have cut83 : ∀ (z : Int32) (hz : z = hgT (hgS (I 311 (26 + 5 * t + 0)) (I 311 (26 + 5 * t + 2)) (I 311 (26 + 5 * t + 3)) (I 311 2)) (I 311 (26 + 5 * t + 4))), G X 319 0 0 I (xRL nw sp) 83 [(0, .ref 307), (1, .int (nI t))] [.int z] := by
                  intro z hz
                  refine g_aload_n hX dX6_height_83 rfl 0 rfl ?_
                  refine g_getR (j := 315) hX (by decide) (by decide) xCl6 20 (by decide) (by decide) kX6_31 dX6_height_84 rfl ?_
                  refine g_iload_n hX dX6_height_87 rfl 1 rfl ?_
                  refine g_iald (v := I 315 t) hX (by decide) (by decide) t rfl (by rw [(show xN 315 = 7 by decide)]; omega) dX6_height_88 rfl ?_
                  refine g_iadd (v := z + (I 315 t)) hX dX6_height_89 rfl ?_
                  exact g_iret hX hR dX6_height_90 (by decide) (by decide) ⟨congrArg (fun z => some (Value.int z)) (by rw [hgF, hgM, if_neg hnb, ← hz]), rfl, rfl, rfl⟩
                refine g_loc [0, 1] rfl ?_
                exact cut83 (nI 0) (by rw [hgT, ← hu, hgZ, if_neg (by omega)]; rfl)
            refine g_loc [0, 1] rfl ?_
            exact cut66 v ((I 311 (26 + 5 * t + 2)) + v) (by rw [if_pos (by rw [hgS, ← hv]; omega), hgS, ← hv])
          · refine g_bipush (v := nI 99) hX dX6_height_60 (by decide) ?_
            refine g_goto (tgt := 66) hX dX6_height_62 (by decide) ?_
            have cut66 : ∀ (v u : Int32) (hu : u = if (hgS (I 311 (26 + 5 * t + 0)) (I 311 (26 + 5 * t + 2)) (I 311 (26 + 5 * t + 3)) (I 311 2)).toInt ≤ 99 then hgS (I 311 (26 + 5 * t + 0)) (I 311 (26 + 5 * t + 2)) (I 311 (26 + 5 * t + 3)) (I 311 2) else 99), G X 319 0 0 I (xRL nw sp) 66 [(0, .ref 307), (1, .int (nI t))] [.int u] := by
              intro v u hu
              refine g_aload_n hX dX6_height_66 rfl 0 rfl ?_
              refine g_iload_n hX dX6_height_67 rfl 1 rfl ?_
              refine g_iconst (v := nI 4) hX dX6_height_68 (by decide) ?_
              refine g_callVi hX (as := [.int (nI t), .int (nI 4)]) (fun l => c_X6_of l (I := I) (t := t) (w := 4) (ht := (by first | assumption | omega))) mX6_of vX6_of lX6_193 (by decide) (by decide) xCl6 rfl rfl dX6_height_69 rfl (by decide) (Nat.le_of_ble_eq_true rfl) (by decide) (by decide) ?_
              refine g_isub (v := u - (I 311 (26 + 5 * t + 4))) hX dX6_height_72 rfl ?_
              refine g_istore_n (L' := [(0, .ref 307), (1, .int (nI t)), (3, .int (u - (I 311 (26 + 5 * t + 4))))]) hX dX6_height_73 rfl (by decide) rfl ?_
              refine g_iload_n hX dX6_height_74 rfl 2 rfl ?_
              refine g_cz_ge (a := (u - (I 311 (26 + 5 * t + 4))).toInt) (tgt := 82) hX dX6_height_75 (by decide) rfl (fun h75 => ?_) (fun h75 => ?_)
              · refine g_iload_n hX dX6_height_82 rfl 2 rfl ?_
                have cut83 : ∀ (z : Int32) (hz : z = hgT (hgS (I 311 (26 + 5 * t + 0)) (I 311 (26 + 5 * t + 2)) (I 311 (26 + 5 * t + 3)) (I 311 2)) (I 311 (26 + 5 * t + 4))), G X 319 0 0 I (xRL nw sp) 83 [(0, .ref 307), (1, .int (nI t))] [.int z] := by
                  intro z hz
                  refine g_aload_n hX dX6_height_83 rfl 0 rfl ?_
                  refine g_getR (j := 315) hX (by decide) (by decide) xCl6 20 (by decide) (by decide) kX6_31 dX6_height_84 rfl ?_
                  refine g_iload_n hX dX6_height_87 rfl 1 rfl ?_
                  refine g_iald (v := I 315 t) hX (by decide) (by decide) t rfl (by rw [(show xN 315 = 7 by decide)]; omega) dX6_height_88 rfl ?_
                  refine g_iadd (v := z + (I 315 t)) hX dX6_height_89 rfl ?_
                  exact g_iret hX hR dX6_height_90 (by decide) (by decide) ⟨congrArg (fun z => some (Value.int z)) (by rw [hgF, hgM, if_neg hnb, ← hz]), rfl, rfl, rfl⟩
                refine g_loc [0, 1] rfl ?_
                exact cut83 (u - (I 311 (26 + 5 * t + 4))) (by rw [hgT, ← hu, hgZ, if_pos (by omega)])
              · refine g_iconst (v := nI 0) hX dX6_height_78 (by decide) ?_
                refine g_goto (tgt := 83) hX dX6_height_79 (by decide) ?_
                have cut83 : ∀ (z : Int32) (hz : z = hgT (hgS (I 311 (26 + 5 * t + 0)) (I 311 (26 + 5 * t + 2)) (I 311 (26 + 5 * t + 3)) (I 311 2)) (I 311 (26 + 5 * t + 4))), G X 319 0 0 I (xRL nw sp) 83 [(0, .ref 307), (1, .int (nI t))] [.int z] := by
                  intro z hz
                  refine g_aload_n hX dX6_height_83 rfl 0 rfl ?_
                  refine g_getR (j := 315) hX (by decide) (by decide) xCl6 20 (by decide) (by decide) kX6_31 dX6_height_84 rfl ?_
                  refine g_iload_n hX dX6_height_87 rfl 1 rfl ?_
                  refine g_iald (v := I 315 t) hX (by decide) (by decide) t rfl (by rw [(show xN 315 = 7 by decide)]; omega) dX6_height_88 rfl ?_
                  refine g_iadd (v := z + (I 315 t)) hX dX6_height_89 rfl ?_
                  exact g_iret hX hR dX6_height_90 (by decide) (by decide) ⟨congrArg (fun z => some (Value.int z)) (by rw [hgF, hgM, if_neg hnb, ← hz]), rfl, rfl, rfl⟩
                refine g_loc [0, 1] rfl ?_
                exact cut83 (nI 0) (by rw [hgT, ← hu, hgZ, if_neg (by omega)]; rfl)
            refine g_loc [0, 1] rfl ?_
            exact cut66 v (nI 99) (by rw [if_neg (by rw [hgS, ← hv]; omega)]; rfl)
        refine g_loc [0, 1] rfl ?_
        exact cut52 (nI 0) (if_neg (by omega)).symm
      · refine g_aload_n hX dX6_height_35 rfl 0 rfl ?_
        refine g_iload_n hX dX6_height_36 rfl 1 rfl ?_
        refine g_iconst (v := nI 3) hX dX6_height_37 (by decide) ?_
        refine g_callVi hX (as := [.int (nI t), .int (nI 3)]) (fun l => c_X6_of l (I := I) (t := t) (w := 3) (ht := (by first | assumption | omega))) mX6_of vX6_of lX6_193 (by decide) (by decide) xCl6 rfl rfl dX6_height_38 rfl (by decide) (Nat.le_of_ble_eq_true rfl) (by decide) (by decide) ?_
        refine g_aload_n hX dX6_height_41 rfl 0 rfl ?_
        refine g_getR (j := 311) hX (by decide) (by decide) xCl6 5 (by decide) (by decide) kX6_19 dX6_height_42 rfl ?_
        refine g_iconst (v := nI 2) hX dX6_height_45 (by decide) ?_
        refine g_iald (v := I 311 2) hX (by decide) (by decide) 2 rfl (by rw [(show xN 311 = 74 by decide)]; decide) dX6_height_46 rfl ?_
        refine g_imul (v := (I 311 (26 + 5 * t + 3)) * (I 311 2)) hX dX6_height_47 rfl ?_
        refine g_goto (tgt := 52) hX dX6_height_48 (by decide) ?_
        have cut52 : ∀ (v : Int32) (hv : v = if (I 311 (26 + 5 * t + 0)).toInt < 4 then I 311 (26 + 5 * t + 3) * I 311 2 else 0), G X 319 0 0 I (xRL nw sp) 52 [(0, .ref 307), (1, .int (nI t))] [.int v, .int (I 311 (26 + 5 * t + 2))] := by
          intro v hv
          refine g_iadd (v := (I 311 (26 + 5 * t + 2)) + v) hX dX6_height_52 rfl ?_
          refine g_istore_n (L' := [(0, .ref 307), (1, .int (nI t)), (3, .int ((I 311 (26 + 5 * t + 2)) + v))]) hX dX6_height_53 rfl (by decide) rfl ?_
          refine g_iload_n hX dX6_height_54 rfl 2 rfl ?_
          refine g_bipush (v := nI 99) hX dX6_height_55 (by decide) ?_
          refine g_ci_le (a := ((I 311 (26 + 5 * t + 2)) + v).toInt) (b := (99 : Int)) (tgt := 65) hX dX6_height_57 (by decide) rfl (by decide) (fun h57 => ?_) (fun h57 => ?_)
          · refine g_iload_n hX dX6_height_65 rfl 2 rfl ?_
            have cut66 : ∀ (v u : Int32) (hu : u = if (hgS (I 311 (26 + 5 * t + 0)) (I 311 (26 + 5 * t + 2)) (I 311 (26 + 5 * t + 3)) (I 311 2)).toInt ≤ 99 then hgS (I 311 (26 + 5 * t + 0)) (I 311 (26 + 5 * t + 2)) (I 311 (26 + 5 * t + 3)) (I 311 2) else 99), G X 319 0 0 I (xRL nw sp) 66 [(0, .ref 307), (1, .int (nI t))] [.int u] := by
              intro v u hu
              refine g_aload_n hX dX6_height_66 rfl 0 rfl ?_
              refine g_iload_n hX dX6_height_67 rfl 1 rfl ?_
              refine g_iconst (v := nI 4) hX dX6_height_68 (by decide) ?_
              refine g_callVi hX (as := [.int (nI t), .int (nI 4)]) (fun l => c_X6_of l (I := I) (t := t) (w := 4) (ht := (by first | assumption | omega))) mX6_of vX6_of lX6_193 (by decide) (by decide) xCl6 rfl rfl dX6_height_69 rfl (by decide) (Nat.le_of_ble_eq_true rfl) (by decide) (by decide) ?_
              refine g_isub (v := u - (I 311 (26 + 5 * t + 4))) hX dX6_height_72 rfl ?_
              refine g_istore_n (L' := [(0, .ref 307), (1, .int (nI t)), (3, .int (u - (I 311 (26 + 5 * t + 4))))]) hX dX6_height_73 rfl (by decide) rfl ?_
              refine g_iload_n hX dX6_height_74 rfl 2 rfl ?_
              refine g_cz_ge (a := (u - (I 311 (26 + 5 * t + 4))).toInt) (tgt := 82) hX dX6_height_75 (by decide) rfl (fun h75 => ?_) (fun h75 => ?_)
              · refine g_iload_n hX dX6_height_82 rfl 2 rfl ?_
                have cut83 : ∀ (z : Int32) (hz : z = hgT (hgS (I 311 (26 + 5 * t + 0)) (I 311 (26 + 5 * t + 2)) (I 311 (26 + 5 * t + 3)) (I 311 2)) (I 311 (26 + 5 * t + 4))), G X 319 0 0 I (xRL nw sp) 83 [(0, .ref 307), (1, .int (nI t))] [.int z] := by
                  intro z hz
                  refine g_aload_n hX dX6_height_83 rfl 0 rfl ?_
                  refine g_getR (j := 315) hX (by decide) (by decide) xCl6 20 (by decide) (by decide) kX6_31 dX6_height_84 rfl ?_
                  refine g_iload_n hX dX6_height_87 rfl 1 rfl ?_
                  refine g_iald (v := I 315 t) hX (by decide) (by decide) t rfl (by rw [(show xN 315 = 7 by decide)]; omega) dX6_height_88 rfl ?_
                  refine g_iadd (v := z + (I 315 t)) hX dX6_height_89 rfl ?_
                  exact g_iret hX hR dX6_height_90 (by decide) (by decide) ⟨congrArg (fun z => some (Value.int z)) (by rw [hgF, hgM, if_neg hnb, ← hz]), rfl, rfl, rfl⟩
                refine g_loc [0, 1] rfl ?_
                exact cut83 (u - (I 311 (26 + 5 * t + 4))) (by rw [hgT, ← hu, hgZ, if_pos (by omega)])
              · refine g_iconst (v := nI 0) hX dX6_height_78 (by decide) ?_
                refine g_goto (tgt := 83) hX dX6_height_79 (by decide) ?_
                have cut83 : ∀ (z : Int32) (hz : z = hgT (hgS (I 311 (26 + 5 * t + 0)) (I 311 (26 + 5 * t + 2)) (I 311 (26 + 5 * t + 3)) (I 311 2)) (I 311 (26 + 5 * t + 4))), G X 319 0 0 I (xRL nw sp) 83 [(0, .ref 307), (1, .int (nI t))] [.int z] := by
                  intro z hz
                  refine g_aload_n hX dX6_height_83 rfl 0 rfl ?_
                  refine g_getR (j := 315) hX (by decide) (by decide) xCl6 20 (by decide) (by decide) kX6_31 dX6_height_84 rfl ?_
                  refine g_iload_n hX dX6_height_87 rfl 1 rfl ?_
                  refine g_iald (v := I 315 t) hX (by decide) (by decide) t rfl (by rw [(show xN 315 = 7 by decide)]; omega) dX6_height_88 rfl ?_
                  refine g_iadd (v := z + (I 315 t)) hX dX6_height_89 rfl ?_
                  exact g_iret hX hR dX6_height_90 (by decide) (by decide) ⟨congrArg (fun z => some (Value.int z)) (by rw [hgF, hgM, if_neg hnb, ← hz]), rfl, rfl, rfl⟩
                refine g_loc [0, 1] rfl ?_
                exact cut83 (nI 0) (by rw [hgT, ← hu, hgZ, if_neg (by omega)]; rfl)
            refine g_loc [0, 1] rfl ?_
            exact cut66 v ((I 311 (26 + 5 * t + 2)) + v) (by rw [if_pos (by rw [hgS, ← hv]; omega), hgS, ← hv])
          · refine g_bipush (v := nI 99) hX dX6_height_60 (by decide) ?_
            refine g_goto (tgt := 66) hX dX6_height_62 (by decide) ?_
            have cut66 : ∀ (v u : Int32) (hu : u = if (hgS (I 311 (26 + 5 * t + 0)) (I 311 (26 + 5 * t + 2)) (I 311 (26 + 5 * t + 3)) (I 311 2)).toInt ≤ 99 then hgS (I 311 (26 + 5 * t + 0)) (I 311 (26 + 5 * t + 2)) (I 311 (26 + 5 * t + 3)) (I 311 2) else 99), G X 319 0 0 I (xRL nw sp) 66 [(0, .ref 307), (1, .int (nI t))] [.int u] := by
              intro v u hu
              refine g_aload_n hX dX6_height_66 rfl 0 rfl ?_
              refine g_iload_n hX dX6_height_67 rfl 1 rfl ?_
              refine g_iconst (v := nI 4) hX dX6_height_68 (by decide) ?_
              refine g_callVi hX (as := [.int (nI t), .int (nI 4)]) (fun l => c_X6_of l (I := I) (t := t) (w := 4) (ht := (by first | assumption | omega))) mX6_of vX6_of lX6_193 (by decide) (by decide) xCl6 rfl rfl dX6_height_69 rfl (by decide) (Nat.le_of_ble_eq_true rfl) (by decide) (by decide) ?_
              refine g_isub (v := u - (I 311 (26 + 5 * t + 4))) hX dX6_height_72 rfl ?_
              refine g_istore_n (L' := [(0, .ref 307), (1, .int (nI t)), (3, .int (u - (I 311 (26 + 5 * t + 4))))]) hX dX6_height_73 rfl (by decide) rfl ?_
              refine g_iload_n hX dX6_height_74 rfl 2 rfl ?_
              refine g_cz_ge (a := (u - (I 311 (26 + 5 * t + 4))).toInt) (tgt := 82) hX dX6_height_75 (by decide) rfl (fun h75 => ?_) (fun h75 => ?_)
              · refine g_iload_n hX dX6_height_82 rfl 2 rfl ?_
                have cut83 : ∀ (z : Int32) (hz : z = hgT (hgS (I 311 (26 + 5 * t + 0)) (I 311 (26 + 5 * t + 2)) (I 311 (26 + 5 * t + 3)) (I 311 2)) (I 311 (26 + 5 * t + 4))), G X 319 0 0 I (xRL nw sp) 83 [(0, .ref 307), (1, .int (nI t))] [.int z] := by
                  intro z hz
                  refine g_aload_n hX dX6_height_83 rfl 0 rfl ?_
                  refine g_getR (j := 315) hX (by decide) (by decide) xCl6 20 (by decide) (by decide) kX6_31 dX6_height_84 rfl ?_
                  refine g_iload_n hX dX6_height_87 rfl 1 rfl ?_
                  refine g_iald (v := I 315 t) hX (by decide) (by decide) t rfl (by rw [(show xN 315 = 7 by decide)]; omega) dX6_height_88 rfl ?_
                  refine g_iadd (v := z + (I 315 t)) hX dX6_height_89 rfl ?_
                  exact g_iret hX hR dX6_height_90 (by decide) (by decide) ⟨congrArg (fun z => some (Value.int z)) (by rw [hgF, hgM, if_neg hnb, ← hz]), rfl, rfl, rfl⟩
                refine g_loc [0, 1] rfl ?_
                exact cut83 (u - (I 311 (26 + 5 * t + 4))) (by rw [hgT, ← hu, hgZ, if_pos (by omega)])
              · refine g_iconst (v := nI 0) hX dX6_height_78 (by decide) ?_
                refine g_goto (tgt := 83) hX dX6_height_79 (by decide) ?_
                have cut83 : ∀ (z : Int32) (hz : z = hgT (hgS (I 311 (26 + 5 * t + 0)) (I 311 (26 + 5 * t + 2)) (I 311 (26 + 5 * t + 3)) (I 311 2)) (I 311 (26 + 5 * t + 4))), G X 319 0 0 I (xRL nw sp) 83 [(0, .ref 307), (1, .int (nI t))] [.int z] := by
                  intro z hz
                  refine g_aload_n hX dX6_height_83 rfl 0 rfl ?_
                  refine g_getR (j := 315) hX (by decide) (by decide) xCl6 20 (by decide) (by decide) kX6_31 dX6_height_84 rfl ?_
                  refine g_iload_n hX dX6_height_87 rfl 1 rfl ?_
                  refine g_iald (v := I 315 t) hX (by decide) (by decide) t rfl (by rw [(show xN 315 = 7 by decide)]; omega) dX6_height_88 rfl ?_
                  refine g_iadd (v := z + (I 315 t)) hX dX6_height_89 rfl ?_
                  exact g_iret hX hR dX6_height_90 (by decide) (by decide) ⟨congrArg (fun z => some (Value.int z)) (by rw [hgF, hgM, if_neg hnb, ← hz]), rfl, rfl, rfl⟩
                refine g_loc [0, 1] rfl ?_
                exact cut83 (nI 0) (by rw [hgT, ← hu, hgZ, if_neg (by omega)]; rfl)
            refine g_loc [0, 1] rfl ?_
            exact cut66 v (nI 99) (by rw [if_neg (by rw [hgS, ← hv]; omega)]; rfl)
        refine g_loc [0, 1] rfl ?_
        exact cut52 ((I 311 (26 + 5 * t + 3)) * (I 311 2)) (if_pos h32).symm
    exact cut24 (fun q => h9 q.1)
  · refine g_aload_n hX dX6_height_12 rfl 0 rfl ?_
    refine g_getR (j := 311) hX (by decide) (by decide) xCl6 5 (by decide) (by decide) kX6_19 dX6_height_13 rfl ?_
    refine g_iconst (v := nI 3) hX dX6_height_16 (by decide) ?_
    refine g_iald (v := I 311 3) hX (by decide) (by decide) 3 rfl (by rw [(show xN 311 = 74 by decide)]; decide) dX6_height_17 rfl ?_
    refine g_iconst (v := nI 1) hX dX6_height_18 (by decide) ?_
    refine g_ci_ne (a := (I 311 3).toInt) (b := (1 : Int)) (tgt := 24) hX dX6_height_19 (by decide) rfl (by decide) (fun h19 => ?_) (fun h19 => ?_)
    · have cut24 : ∀  (hnb : ¬ ((I 311 (26 + 5 * t + 0)).toInt = 1 ∧ (I 311 3).toInt = 1)), G X 319 0 0 I (xRL nw sp) 24 [(0, .ref 307), (1, .int (nI t)), (2, .int (I 311 (26 + 5 * t + 0)))] [] := by
        intro hnb
        refine g_aload_n hX dX6_height_24 rfl 0 rfl ?_
        refine g_iload_n hX dX6_height_25 rfl 1 rfl ?_
        refine g_iconst (v := nI 2) hX dX6_height_26 (by decide) ?_
        refine g_callVi hX (as := [.int (nI t), .int (nI 2)]) (fun l => c_X6_of l (I := I) (t := t) (w := 2) (ht := (by first | assumption | omega))) mX6_of vX6_of lX6_193 (by decide) (by decide) xCl6 rfl rfl dX6_height_27 rfl (by decide) (Nat.le_of_ble_eq_true rfl) (by decide) (by decide) ?_
        refine g_iload_n hX dX6_height_30 rfl 2 rfl ?_
        refine g_iconst (v := nI 4) hX dX6_height_31 (by decide) ?_
        refine g_ci_ge (a := (I 311 (26 + 5 * t + 0)).toInt) (b := (4 : Int)) (tgt := 51) hX dX6_height_32 (by decide) rfl (by decide) (fun h32 => ?_) (fun h32 => ?_)
        · refine g_iconst (v := nI 0) hX dX6_height_51 (by decide) ?_
          have cut52 : ∀ (v : Int32) (hv : v = if (I 311 (26 + 5 * t + 0)).toInt < 4 then I 311 (26 + 5 * t + 3) * I 311 2 else 0), G X 319 0 0 I (xRL nw sp) 52 [(0, .ref 307), (1, .int (nI t))] [.int v, .int (I 311 (26 + 5 * t + 2))] := by
            intro v hv
            refine g_iadd (v := (I 311 (26 + 5 * t + 2)) + v) hX dX6_height_52 rfl ?_
            refine g_istore_n (L' := [(0, .ref 307), (1, .int (nI t)), (3, .int ((I 311 (26 + 5 * t + 2)) + v))]) hX dX6_height_53 rfl (by decide) rfl ?_
            refine g_iload_n hX dX6_height_54 rfl 2 rfl ?_
            refine g_bipush (v := nI 99) hX dX6_height_55 (by decide) ?_
            refine g_ci_le (a := ((I 311 (26 + 5 * t + 2)) + v).toInt) (b := (99 : Int)) (tgt := 65) hX dX6_height_57 (by decide) rfl (by decide) (fun h57 => ?_) (fun h57 => ?_)
            · refine g_iload_n hX dX6_height_65 rfl 2 rfl ?_
              have cut66 : ∀ (v u : Int32) (hu : u = if (hgS (I 311 (26 + 5 * t + 0)) (I 311 (26 + 5 * t + 2)) (I 311 (26 + 5 * t + 3)) (I 311 2)).toInt ≤ 99 then hgS (I 311 (26 + 5 * t + 0)) (I 311 (26 + 5 * t + 2)) (I 311 (26 + 5 * t + 3)) (I 311 2) else 99), G X 319 0 0 I (xRL nw sp) 66 [(0, .ref 307), (1, .int (nI t))] [.int u] := by
                intro v u hu
                refine g_aload_n hX dX6_height_66 rfl 0 rfl ?_
                refine g_iload_n hX dX6_height_67 rfl 1 rfl ?_
                refine g_iconst (v := nI 4) hX dX6_height_68 (by decide) ?_
                refine g_callVi hX (as := [.int (nI t), .int (nI 4)]) (fun l => c_X6_of l (I := I) (t := t) (w := 4) (ht := (by first | assumption | omega))) mX6_of vX6_of lX6_193 (by decide) (by decide) xCl6 rfl rfl dX6_height_69 rfl (by decide) (Nat.le_of_ble_eq_true rfl) (by decide) (by decide) ?_
                refine g_isub (v := u - (I 311 (26 + 5 * t + 4))) hX dX6_height_72 rfl ?_
                refine g_istore_n (L' := [(0, .ref 307), (1, .int (nI t)), (3, .int (u - (I 311 (26 + 5 * t + 4))))]) hX dX6_height_73 rfl (by decide) rfl ?_
                refine g_iload_n hX dX6_height_74 rfl 2 rfl ?_
                refine g_cz_ge (a := (u - (I 311 (26 + 5 * t + 4))).toInt) (tgt := 82) hX dX6_height_75 (by decide) rfl (fun h75 => ?_) (fun h75 => ?_)
                · refine g_iload_n hX dX6_height_82 rfl 2 rfl ?_
                  have cut83 : ∀ (z : Int32) (hz : z = hgT (hgS (I 311 (26 + 5 * t + 0)) (I 311 (26 + 5 * t + 2)) (I 311 (26 + 5 * t + 3)) (I 311 2)) (I 311 (26 + 5 * t + 4))), G X 319 0 0 I (xRL nw sp) 83 [(0, .ref 307), (1, .int (nI t))] [.int z] := by
                    intro z hz
                    refine g_aload_n hX dX6_height_83 rfl 0 rfl ?_
                    refine g_getR (j := 315) hX (by decide) (by decide) xCl6 20 (by decide) (by decide) kX6_31 dX6_height_84 rfl ?_
                    refine g_iload_n hX dX6_height_87 rfl 1 rfl ?_
                    refine g_iald (v := I 315 t) hX (by decide) (by decide) t rfl (by rw [(show xN 315 = 7 by decide)]; omega) dX6_height_88 rfl ?_
                    refine g_iadd (v := z + (I 315 t)) hX dX6_height_89 rfl ?_
                    exact g_iret hX hR dX6_height_90 (by decide) (by decide) ⟨congrArg (fun z => some (Value.int z)) (by rw [hgF, hgM, if_neg hnb, ← hz]), rfl, rfl, rfl⟩
                  refine g_loc [0, 1] rfl ?_
                  exact cut83 (u - (I 311 (26 + 5 * t + 4))) (by rw [hgT, ← hu, hgZ, if_pos (by omega)])
                · refine g_iconst (v := nI 0) hX dX6_height_78 (by decide) ?_
                  refine g_goto (tgt := 83) hX dX6_height_79 (by decide) ?_
                  have cut83 : ∀ (z : Int32) (hz : z = hgT (hgS (I 311 (26 + 5 * t + 0)) (I 311 (26 + 5 * t + 2)) (I 311 (26 + 5 * t + 3)) (I 311 2)) (I 311 (26 + 5 * t + 4))), G X 319 0 0 I (xRL nw sp) 83 [(0, .ref 307), (1, .int (nI t))] [.int z] := by
                    intro z hz
                    refine g_aload_n hX dX6_height_83 rfl 0 rfl ?_
                    refine g_getR (j := 315) hX (by decide) (by decide) xCl6 20 (by decide) (by decide) kX6_31 dX6_height_84 rfl ?_
                    refine g_iload_n hX dX6_height_87 rfl 1 rfl ?_
                    refine g_iald (v := I 315 t) hX (by decide) (by decide) t rfl (by rw [(show xN 315 = 7 by decide)]; omega) dX6_height_88 rfl ?_
                    refine g_iadd (v := z + (I 315 t)) hX dX6_height_89 rfl ?_
                    exact g_iret hX hR dX6_height_90 (by decide) (by decide) ⟨congrArg (fun z => some (Value.int z)) (by rw [hgF, hgM, if_neg hnb, ← hz]), rfl, rfl, rfl⟩
                  refine g_loc [0, 1] rfl ?_
                  exact cut83 (nI 0) (by rw [hgT, ← hu, hgZ, if_neg (by omega)]; rfl)
              refine g_loc [0, 1] rfl ?_
              exact cut66 v ((I 311 (26 + 5 * t + 2)) + v) (by rw [if_pos (by rw [hgS, ← hv]; omega), hgS, ← hv])
            · refine g_bipush (v := nI 99) hX dX6_height_60 (by decide) ?_
              refine g_goto (tgt := 66) hX dX6_height_62 (by decide) ?_
              have cut66 : ∀ (v u : Int32) (hu : u = if (hgS (I 311 (26 + 5 * t + 0)) (I 311 (26 + 5 * t + 2)) (I 311 (26 + 5 * t + 3)) (I 311 2)).toInt ≤ 99 then hgS (I 311 (26 + 5 * t + 0)) (I 311 (26 + 5 * t + 2)) (I 311 (26 + 5 * t + 3)) (I 311 2) else 99), G X 319 0 0 I (xRL nw sp) 66 [(0, .ref 307), (1, .int (nI t))] [.int u] := by
                intro v u hu
                refine g_aload_n hX dX6_height_66 rfl 0 rfl ?_
                refine g_iload_n hX dX6_height_67 rfl 1 rfl ?_
                refine g_iconst (v := nI 4) hX dX6_height_68 (by decide) ?_
                refine g_callVi hX (as := [.int (nI t), .int (nI 4)]) (fun l => c_X6_of l (I := I) (t := t) (w := 4) (ht := (by first | assumption | omega))) mX6_of vX6_of lX6_193 (by decide) (by decide) xCl6 rfl rfl dX6_height_69 rfl (by decide) (Nat.le_of_ble_eq_true rfl) (by decide) (by decide) ?_
                refine g_isub (v := u - (I 311 (26 + 5 * t + 4))) hX dX6_height_72 rfl ?_
                refine g_istore_n (L' := [(0, .ref 307), (1, .int (nI t)), (3, .int (u - (I 311 (26 + 5 * t + 4))))]) hX dX6_height_73 rfl (by decide) rfl ?_
                refine g_iload_n hX dX6_height_74 rfl 2 rfl ?_
                refine g_cz_ge (a := (u - (I 311 (26 + 5 * t + 4))).toInt) (tgt := 82) hX dX6_height_75 (by decide) rfl (fun h75 => ?_) (fun h75 => ?_)
                · refine g_iload_n hX dX6_height_82 rfl 2 rfl ?_
                  have cut83 : ∀ (z : Int32) (hz : z = hgT (hgS (I 311 (26 + 5 * t + 0)) (I 311 (26 + 5 * t + 2)) (I 311 (26 + 5 * t + 3)) (I 311 2)) (I 311 (26 + 5 * t + 4))), G X 319 0 0 I (xRL nw sp) 83 [(0, .ref 307), (1, .int (nI t))] [.int z] := by
                    intro z hz
                    refine g_aload_n hX dX6_height_83 rfl 0 rfl ?_
                    refine g_getR (j := 315) hX (by decide) (by decide) xCl6 20 (by decide) (by decide) kX6_31 dX6_height_84 rfl ?_
                    refine g_iload_n hX dX6_height_87 rfl 1 rfl ?_
                    refine g_iald (v := I 315 t) hX (by decide) (by decide) t rfl (by rw [(show xN 315 = 7 by decide)]; omega) dX6_height_88 rfl ?_
                    refine g_iadd (v := z + (I 315 t)) hX dX6_height_89 rfl ?_
                    exact g_iret hX hR dX6_height_90 (by decide) (by decide) ⟨congrArg (fun z => some (Value.int z)) (by rw [hgF, hgM, if_neg hnb, ← hz]), rfl, rfl, rfl⟩
                  refine g_loc [0, 1] rfl ?_
                  exact cut83 (u - (I 311 (26 + 5 * t + 4))) (by rw [hgT, ← hu, hgZ, if_pos (by omega)])
                · refine g_iconst (v := nI 0) hX dX6_height_78 (by decide) ?_
                  refine g_goto (tgt := 83) hX dX6_height_79 (by decide) ?_
                  have cut83 : ∀ (z : Int32) (hz : z = hgT (hgS (I 311 (26 + 5 * t + 0)) (I 311 (26 + 5 * t + 2)) (I 311 (26 + 5 * t + 3)) (I 311 2)) (I 311 (26 + 5 * t + 4))), G X 319 0 0 I (xRL nw sp) 83 [(0, .ref 307), (1, .int (nI t))] [.int z] := by
                    intro z hz
                    refine g_aload_n hX dX6_height_83 rfl 0 rfl ?_
                    refine g_getR (j := 315) hX (by decide) (by decide) xCl6 20 (by decide) (by decide) kX6_31 dX6_height_84 rfl ?_
                    refine g_iload_n hX dX6_height_87 rfl 1 rfl ?_
                    refine g_iald (v := I 315 t) hX (by decide) (by decide) t rfl (by rw [(show xN 315 = 7 by decide)]; omega) dX6_height_88 rfl ?_
                    refine g_iadd (v := z + (I 315 t)) hX dX6_height_89 rfl ?_
                    exact g_iret hX hR dX6_height_90 (by decide) (by decide) ⟨congrArg (fun z => some (Value.int z)) (by rw [hgF, hgM, if_neg hnb, ← hz]), rfl, rfl, rfl⟩
                  refine g_loc [0, 1] rfl ?_
                  exact cut83 (nI 0) (by rw [hgT, ← hu, hgZ, if_neg (by omega)]; rfl)
              refine g_loc [0, 1] rfl ?_
              exact cut66 v (nI 99) (by rw [if_neg (by rw [hgS, ← hv]; omega)]; rfl)
          refine g_loc [0, 1] rfl ?_
          exact cut52 (nI 0) (if_neg (by omega)).symm
        · refine g_aload_n hX dX6_height_35 rfl 0 rfl ?_
          refine g_iload_n hX dX6_height_36 rfl 1 rfl ?_
          refine g_iconst (v := nI 3) hX dX6_height_37 (by decide) ?_
          refine g_callVi hX (as := [.int (nI t), .int (nI 3)]) (fun l => c_X6_of l (I := I) (t := t) (w := 3) (ht := (by first | assumption | omega))) mX6_of vX6_of lX6_193 (by decide) (by decide) xCl6 rfl rfl dX6_height_38 rfl (by decide) (Nat.le_of_ble_eq_true rfl) (by decide) (by decide) ?_
          refine g_aload_n hX dX6_height_41 rfl 0 rfl ?_
          refine g_getR (j := 311) hX (by decide) (by decide) xCl6 5 (by decide) (by decide) kX6_19 dX6_height_42 rfl ?_
          refine g_iconst (v := nI 2) hX dX6_height_45 (by decide) ?_
          refine g_iald (v := I 311 2) hX (by decide) (by decide) 2 rfl (by rw [(show xN 311 = 74 by decide)]; decide) dX6_height_46 rfl ?_
          refine g_imul (v := (I 311 (26 + 5 * t + 3)) * (I 311 2)) hX dX6_height_47 rfl ?_
          refine g_goto (tgt := 52) hX dX6_height_48 (by decide) ?_
          have cut52 : ∀ (v : Int32) (hv : v = if (I 311 (26 + 5 * t + 0)).toInt < 4 then I 311 (26 + 5 * t + 3) * I 311 2 else 0), G X 319 0 0 I (xRL nw sp) 52 [(0, .ref 307), (1, .int (nI t))] [.int v, .int (I 311 (26 + 5 * t + 2))] := by
            intro v hv
            refine g_iadd (v := (I 311 (26 + 5 * t + 2)) + v) hX dX6_height_52 rfl ?_
            refine g_istore_n (L' := [(0, .ref 307), (1, .int (nI t)), (3, .int ((I 311 (26 + 5 * t + 2)) + v))]) hX dX6_height_53 rfl (by decide) rfl ?_
            refine g_iload_n hX dX6_height_54 rfl 2 rfl ?_
            refine g_bipush (v := nI 99) hX dX6_height_55 (by decide) ?_
            refine g_ci_le (a := ((I 311 (26 + 5 * t + 2)) + v).toInt) (b := (99 : Int)) (tgt := 65) hX dX6_height_57 (by decide) rfl (by decide) (fun h57 => ?_) (fun h57 => ?_)
            · refine g_iload_n hX dX6_height_65 rfl 2 rfl ?_
              have cut66 : ∀ (v u : Int32) (hu : u = if (hgS (I 311 (26 + 5 * t + 0)) (I 311 (26 + 5 * t + 2)) (I 311 (26 + 5 * t + 3)) (I 311 2)).toInt ≤ 99 then hgS (I 311 (26 + 5 * t + 0)) (I 311 (26 + 5 * t + 2)) (I 311 (26 + 5 * t + 3)) (I 311 2) else 99), G X 319 0 0 I (xRL nw sp) 66 [(0, .ref 307), (1, .int (nI t))] [.int u] := by
                intro v u hu
                refine g_aload_n hX dX6_height_66 rfl 0 rfl ?_
                refine g_iload_n hX dX6_height_67 rfl 1 rfl ?_
                refine g_iconst (v := nI 4) hX dX6_height_68 (by decide) ?_
                refine g_callVi hX (as := [.int (nI t), .int (nI 4)]) (fun l => c_X6_of l (I := I) (t := t) (w := 4) (ht := (by first | assumption | omega))) mX6_of vX6_of lX6_193 (by decide) (by decide) xCl6 rfl rfl dX6_height_69 rfl (by decide) (Nat.le_of_ble_eq_true rfl) (by decide) (by decide) ?_
                refine g_isub (v := u - (I 311 (26 + 5 * t + 4))) hX dX6_height_72 rfl ?_
                refine g_istore_n (L' := [(0, .ref 307), (1, .int (nI t)), (3, .int (u - (I 311 (26 + 5 * t + 4))))]) hX dX6_height_73 rfl (by decide) rfl ?_
                refine g_iload_n hX dX6_height_74 rfl 2 rfl ?_
                refine g_cz_ge (a := (u - (I 311 (26 + 5 * t + 4))).toInt) (tgt := 82) hX dX6_height_75 (by decide) rfl (fun h75 => ?_) (fun h75 => ?_)
                · refine g_iload_n hX dX6_height_82 rfl 2 rfl ?_
                  have cut83 : ∀ (z : Int32) (hz : z = hgT (hgS (I 311 (26 + 5 * t + 0)) (I 311 (26 + 5 * t + 2)) (I 311 (26 + 5 * t + 3)) (I 311 2)) (I 311 (26 + 5 * t + 4))), G X 319 0 0 I (xRL nw sp) 83 [(0, .ref 307), (1, .int (nI t))] [.int z] := by
                    intro z hz
                    refine g_aload_n hX dX6_height_83 rfl 0 rfl ?_
                    refine g_getR (j := 315) hX (by decide) (by decide) xCl6 20 (by decide) (by decide) kX6_31 dX6_height_84 rfl ?_
                    refine g_iload_n hX dX6_height_87 rfl 1 rfl ?_
                    refine g_iald (v := I 315 t) hX (by decide) (by decide) t rfl (by rw [(show xN 315 = 7 by decide)]; omega) dX6_height_88 rfl ?_
                    refine g_iadd (v := z + (I 315 t)) hX dX6_height_89 rfl ?_
                    exact g_iret hX hR dX6_height_90 (by decide) (by decide) ⟨congrArg (fun z => some (Value.int z)) (by rw [hgF, hgM, if_neg hnb, ← hz]), rfl, rfl, rfl⟩
                  refine g_loc [0, 1] rfl ?_
                  exact cut83 (u - (I 311 (26 + 5 * t + 4))) (by rw [hgT, ← hu, hgZ, if_pos (by omega)])
                · refine g_iconst (v := nI 0) hX dX6_height_78 (by decide) ?_
                  refine g_goto (tgt := 83) hX dX6_height_79 (by decide) ?_
                  have cut83 : ∀ (z : Int32) (hz : z = hgT (hgS (I 311 (26 + 5 * t + 0)) (I 311 (26 + 5 * t + 2)) (I 311 (26 + 5 * t + 3)) (I 311 2)) (I 311 (26 + 5 * t + 4))), G X 319 0 0 I (xRL nw sp) 83 [(0, .ref 307), (1, .int (nI t))] [.int z] := by
                    intro z hz
                    refine g_aload_n hX dX6_height_83 rfl 0 rfl ?_
                    refine g_getR (j := 315) hX (by decide) (by decide) xCl6 20 (by decide) (by decide) kX6_31 dX6_height_84 rfl ?_
                    refine g_iload_n hX dX6_height_87 rfl 1 rfl ?_
                    refine g_iald (v := I 315 t) hX (by decide) (by decide) t rfl (by rw [(show xN 315 = 7 by decide)]; omega) dX6_height_88 rfl ?_
                    refine g_iadd (v := z + (I 315 t)) hX dX6_height_89 rfl ?_
                    exact g_iret hX hR dX6_height_90 (by decide) (by decide) ⟨congrArg (fun z => some (Value.int z)) (by rw [hgF, hgM, if_neg hnb, ← hz]), rfl, rfl, rfl⟩
                  refine g_loc [0, 1] rfl ?_
                  exact cut83 (nI 0) (by rw [hgT, ← hu, hgZ, if_neg (by omega)]; rfl)
              refine g_loc [0, 1] rfl ?_
              exact cut66 v ((I 311 (26 + 5 * t + 2)) + v) (by rw [if_pos (by rw [hgS, ← hv]; omega), hgS, ← hv])
            · refine g_bipush (v := nI 99) hX dX6_height_60 (by decide) ?_
              refine g_goto (tgt := 66) hX dX6_height_62 (by decide) ?_
              have cut66 : ∀ (v u : Int32) (hu : u = if (hgS (I 311 (26 + 5 * t + 0)) (I 311 (26 + 5 * t + 2)) (I 311 (26 + 5 * t + 3)) (I 311 2)).toInt ≤ 99 then hgS (I 311 (26 + 5 * t + 0)) (I 311 (26 + 5 * t + 2)) (I 311 (26 + 5 * t + 3)) (I 311 2) else 99), G X 319 0 0 I (xRL nw sp) 66 [(0, .ref 307), (1, .int (nI t))] [.int u] := by
                intro v u hu
                refine g_aload_n hX dX6_height_66 rfl 0 rfl ?_
                refine g_iload_n hX dX6_height_67 rfl 1 rfl ?_
                refine g_iconst (v := nI 4) hX dX6_height_68 (by decide) ?_
                refine g_callVi hX (as := [.int (nI t), .int (nI 4)]) (fun l => c_X6_of l (I := I) (t := t) (w := 4) (ht := (by first | assumption | omega))) mX6_of vX6_of lX6_193 (by decide) (by decide) xCl6 rfl rfl dX6_height_69 rfl (by decide) (Nat.le_of_ble_eq_true rfl) (by decide) (by decide) ?_
                refine g_isub (v := u - (I 311 (26 + 5 * t + 4))) hX dX6_height_72 rfl ?_
                refine g_istore_n (L' := [(0, .ref 307), (1, .int (nI t)), (3, .int (u - (I 311 (26 + 5 * t + 4))))]) hX dX6_height_73 rfl (by decide) rfl ?_
                refine g_iload_n hX dX6_height_74 rfl 2 rfl ?_
                refine g_cz_ge (a := (u - (I 311 (26 + 5 * t + 4))).toInt) (tgt := 82) hX dX6_height_75 (by decide) rfl (fun h75 => ?_) (fun h75 => ?_)
                · refine g_iload_n hX dX6_height_82 rfl 2 rfl ?_
                  have cut83 : ∀ (z : Int32) (hz : z = hgT (hgS (I 311 (26 + 5 * t + 0)) (I 311 (26 + 5 * t + 2)) (I 311 (26 + 5 * t + 3)) (I 311 2)) (I 311 (26 + 5 * t + 4))), G X 319 0 0 I (xRL nw sp) 83 [(0, .ref 307), (1, .int (nI t))] [.int z] := by
                    intro z hz
                    refine g_aload_n hX dX6_height_83 rfl 0 rfl ?_
                    refine g_getR (j := 315) hX (by decide) (by decide) xCl6 20 (by decide) (by decide) kX6_31 dX6_height_84 rfl ?_
                    refine g_iload_n hX dX6_height_87 rfl 1 rfl ?_
                    refine g_iald (v := I 315 t) hX (by decide) (by decide) t rfl (by rw [(show xN 315 = 7 by decide)]; omega) dX6_height_88 rfl ?_
                    refine g_iadd (v := z + (I 315 t)) hX dX6_height_89 rfl ?_
                    exact g_iret hX hR dX6_height_90 (by decide) (by decide) ⟨congrArg (fun z => some (Value.int z)) (by rw [hgF, hgM, if_neg hnb, ← hz]), rfl, rfl, rfl⟩
                  refine g_loc [0, 1] rfl ?_
                  exact cut83 (u - (I 311 (26 + 5 * t + 4))) (by rw [hgT, ← hu, hgZ, if_pos (by omega)])
                · refine g_iconst (v := nI 0) hX dX6_height_78 (by decide) ?_
                  refine g_goto (tgt := 83) hX dX6_height_79 (by decide) ?_
                  have cut83 : ∀ (z : Int32) (hz : z = hgT (hgS (I 311 (26 + 5 * t + 0)) (I 311 (26 + 5 * t + 2)) (I 311 (26 + 5 * t + 3)) (I 311 2)) (I 311 (26 + 5 * t + 4))), G X 319 0 0 I (xRL nw sp) 83 [(0, .ref 307), (1, .int (nI t))] [.int z] := by
                    intro z hz
                    refine g_aload_n hX dX6_height_83 rfl 0 rfl ?_
                    refine g_getR (j := 315) hX (by decide) (by decide) xCl6 20 (by decide) (by decide) kX6_31 dX6_height_84 rfl ?_
                    refine g_iload_n hX dX6_height_87 rfl 1 rfl ?_
                    refine g_iald (v := I 315 t) hX (by decide) (by decide) t rfl (by rw [(show xN 315 = 7 by decide)]; omega) dX6_height_88 rfl ?_
                    refine g_iadd (v := z + (I 315 t)) hX dX6_height_89 rfl ?_
                    exact g_iret hX hR dX6_height_90 (by decide) (by decide) ⟨congrArg (fun z => some (Value.int z)) (by rw [hgF, hgM, if_neg hnb, ← hz]), rfl, rfl, rfl⟩
                  refine g_loc [0, 1] rfl ?_
                  exact cut83 (nI 0) (by rw [hgT, ← hu, hgZ, if_neg (by omega)]; rfl)
              refine g_loc [0, 1] rfl ?_
              exact cut66 v (nI 99) (by rw [if_neg (by rw [hgS, ← hv]; omega)]; rfl)
          refine g_loc [0, 1] rfl ?_
          exact cut52 ((I 311 (26 + 5 * t + 3)) * (I 311 2)) (if_pos h32).symm
      exact cut24 (fun q => h19 q.2)
    · refine g_iconst (v := nI 0) hX dX6_height_22 (by decide) ?_
      exact g_iret hX hR dX6_height_23 (by decide) (by decide) ⟨congrArg (fun z => some (Value.int z)) (by rw [hgF, hgM, if_pos ⟨h9, h19⟩]; rfl), rfl, rfl, rfl⟩

theorem c_X6_bar (l : Launch) {nw sp : Nat} {I : xM} {q T : Nat} (hT : I 311 0 = nI T) (hT6 : T ≤ 6) (hq : q < 20) : xC l 3 0 0 yX6_bar cX6_bar 3 (some .int) 319 [.ref 307, .int (nI q)] I (xRL nw sp) (xpI (brF (I 311) (I 315) T q) 319 I (xRL nw sp)) := by
  refine xC_of (by decide) (Nat.le_of_ble_eq_true rfl) (fun X hXl hX hR => ?_)
  have hX : xOK X RX6 cX6_bar 3 3 0 0 := hX
  show G X 319 0 0 I (xRL nw sp) 0 [(0, .ref 307), (1, .int (nI q))] []
  refine g_aload_n hX dX6_bar_0 rfl 0 rfl ?_
  refine g_iload_n hX dX6_bar_1 rfl 1 rfl ?_
  refine g_callVi hX (as := [.int (nI q)]) (fun l => c_X6_treeAt l (I := I) (T := T) (x := (nI q)) (hT := (by first | assumption | omega)) (hT6 := (by first | assumption | omega))) mX6_treeAt vX6_treeAt lX6_196 (by decide) (by decide) xCl6 rfl rfl dX6_bar_2 rfl (by decide) (Nat.le_of_ble_eq_true rfl) (by decide) (by decide) ?_
  rcases Option.eq_none_or_eq_some (taF (I 311) T (nI q)) with ho | ⟨t, ho⟩
  · refine g_top (y := (-1000000)) (by rw [ho]; rfl) ?_
    refine g_istore_n (L' := [(0, .ref 307), (1, .int (nI q)), (2, .int (-1000000))]) hX dX6_bar_5 rfl (by decide) rfl ?_
    refine g_aload_n hX dX6_bar_6 rfl 0 rfl ?_
    refine g_iload_n hX dX6_bar_7 rfl 1 rfl ?_
    refine g_callVi hX (as := [.int (nI q)]) (fun l => c_X6_ground l (I := I) (q := q) (hq := (by first | assumption | omega))) mX6_ground vX6_ground lX6_199 (by decide) (by decide) xCl6 rfl rfl dX6_bar_8 rfl (by decide) (Nat.le_of_ble_eq_true rfl) (by decide) (by decide) ?_
    refine g_iload_n hX dX6_bar_11 rfl 2 rfl ?_
    refine g_ldc (v := -1000000) hX cX6_80 dX6_bar_12 ?_
    refine g_ci_ne (a := (-1000000 : Int)) (b := (-1000000 : Int)) (tgt := 21) hX dX6_bar_14 (by decide) (by decide) (by decide) (fun q => absurd q (by decide)) (fun _ => ?_)
    refine g_iconst (v := nI 0) hX dX6_bar_17 (by decide) ?_
    refine g_goto (tgt := 26) hX dX6_bar_18 (by decide) ?_
    refine g_iadd (v := (I 311 (6 + q)) + (nI 0)) hX dX6_bar_26 rfl ?_
    exact g_iret hX hR dX6_bar_27 (by decide) (by decide) ⟨congrArg (fun z => some (Value.int z)) (by first | (rw [brF, ho]; done) | (rw [brF, ho]; rfl)), rfl, rfl, rfl⟩
  · refine g_top (y := nI t) (by rw [ho]; rfl) ?_
    have hs := (xfind_spec ho).1
    refine g_istore_n (L' := [(0, .ref 307), (1, .int (nI q)), (2, .int (nI t))]) hX dX6_bar_5 rfl (by decide) rfl ?_
    refine g_aload_n hX dX6_bar_6 rfl 0 rfl ?_
    refine g_iload_n hX dX6_bar_7 rfl 1 rfl ?_
    refine g_callVi hX (as := [.int (nI q)]) (fun l => c_X6_ground l (I := I) (q := q) (hq := (by first | assumption | omega))) mX6_ground vX6_ground lX6_199 (by decide) (by decide) xCl6 rfl rfl dX6_bar_8 rfl (by decide) (Nat.le_of_ble_eq_true rfl) (by decide) (by decide) ?_
    refine g_iload_n hX dX6_bar_11 rfl 2 rfl ?_
    refine g_ldc (v := -1000000) hX cX6_80 dX6_bar_12 ?_
    refine g_ci_ne (a := ((t : Nat) : Int)) (b := (-1000000 : Int)) (tgt := 21) hX dX6_bar_14 (by decide) (nI_toInt (by omega)) (by decide) (fun _ => ?_) (fun q => absurd q (by omega))
    refine g_aload_n hX dX6_bar_21 rfl 0 rfl ?_
    refine g_iload_n hX dX6_bar_22 rfl 2 rfl ?_
    refine g_callVi hX (as := [.int (nI t)]) (fun l => c_X6_height l (I := I) (t := t) (ht := (by first | assumption | omega))) mX6_height vX6_height lX6_202 (by decide) (by decide) xCl6 rfl rfl dX6_bar_23 rfl (by decide) (Nat.le_of_ble_eq_true rfl) (by decide) (by decide) ?_
    refine g_iadd (v := (I 311 (6 + q)) + (hgF (I 311) (I 315) t)) hX dX6_bar_26 rfl ?_
    exact g_iret hX hR dX6_bar_27 (by decide) (by decide) ⟨congrArg (fun z => some (Value.int z)) (by first | (rw [brF, ho]; done) | (rw [brF, ho]; rfl)), rfl, rfl, rfl⟩

theorem c_X6_isFree (l : Launch) {nw sp : Nat} {I : xM} {a c T : Nat} {x y : Int32} (hT : I 311 0 = nI T) (hT6 : T ≤ 6) (ha : a < 20) (hc : c ≤ 20) : xC l 4 0 0 yX6_isFree cX6_isFree 6 (some .boolean) 319 [.ref 307, .int (nI a), .int x, .int (nI c), .int y] I (xRL nw sp) (xpI (xb (frP (brF (I 311) (I 315) T) a x c y)) 319 I (xRL nw sp)) := by
  refine xC_of (by decide) (Nat.le_of_ble_eq_true rfl) (fun X hXl hX hR => ?_)
  have hX : xOK X RX6 cX6_isFree 6 4 0 0 := hX
  show G X 319 0 0 I (xRL nw sp) 0 [(0, .ref 307), (1, .int (nI a)), (2, .int x), (3, .int (nI c)), (4, .int y)] []
  refine g_iload_n hX dX6_isFree_0 rfl 1 rfl ?_
  refine g_iconst (v := nI 1) hX dX6_isFree_1 (by decide) ?_
  refine g_iadd (v := nI (a + 1)) hX dX6_isFree_2 (nI_add a 1) ?_
  refine g_istore (L' := [(0, .ref 307), (1, .int (nI a)), (2, .int x), (3, .int (nI c)), (4, .int y), (5, .int (nI (a + 1)))]) hX dX6_isFree_3 (by decide) rfl ?_
  have cut5 : ∀ (fuel : Nat) (q : Nat) (hq : a < q) (hq2 : q ≤ 21) (hall : ∀ p, p < q → p < c → a < p → (brF (I 311) (I 315) T p * zI (((c : Nat) : Int) - ((a : Nat) : Int))).toInt < (frL x y a c p).toInt), c - q < fuel → G X 319 0 0 I (xRL nw sp) 5 [(0, .ref 307), (1, .int (nI a)), (2, .int x), (3, .int (nI c)), (4, .int y), (5, .int (nI q))] [] := by
    intro fuel
    induction fuel with
    | zero => intro q hq hq2 hall hfuel; omega
    | succ fuel ih =>
      intro q hq hq2 hall hfuel
      refine g_iload hX dX6_isFree_5 5 rfl ?_
      refine g_iload_n hX dX6_isFree_7 rfl 3 rfl ?_
      refine g_ci_ge (a := ((q : Nat) : Int)) (b := ((c : Nat) : Int)) (tgt := 47) hX dX6_isFree_8 (by decide) (nI_toInt (by omega)) (nI_toInt (by omega)) (fun h8 => ?_) (fun h8 => ?_)
      · refine g_iconst (v := nI 1) hX dX6_isFree_47 (by decide) ?_
        exact g_zret hX hR dX6_isFree_48 (by decide) (by decide) (by decide) ⟨congrArg (fun z => some (Value.int z)) (xb_n1 (by exact fun p h1 h2 => hall p (by omega) h1 h2)), rfl, rfl, rfl⟩
      · refine g_iload hX dX6_isFree_11 4 rfl ?_
        refine g_iload_n hX dX6_isFree_13 rfl 2 rfl ?_
        refine g_isub (v := y - x) hX dX6_isFree_14 rfl ?_
        refine g_iload hX dX6_isFree_15 5 rfl ?_
        refine g_iload_n hX dX6_isFree_17 rfl 1 rfl ?_
        refine g_isub (v := zI (((q : Nat) : Int) - ((a : Nat) : Int))) hX dX6_isFree_18 (zI_sub (((q : Nat) : Int)) (((a : Nat) : Int))) ?_
        refine g_imul (v := (y - x) * (zI (((q : Nat) : Int) - ((a : Nat) : Int)))) hX dX6_isFree_19 rfl ?_
        refine g_iload_n hX dX6_isFree_20 rfl 2 rfl ?_
        refine g_iload_n hX dX6_isFree_21 rfl 3 rfl ?_
        refine g_iload_n hX dX6_isFree_22 rfl 1 rfl ?_
        refine g_isub (v := zI (((c : Nat) : Int) - ((a : Nat) : Int))) hX dX6_isFree_23 (zI_sub (((c : Nat) : Int)) (((a : Nat) : Int))) ?_
        refine g_imul (v := x * (zI (((c : Nat) : Int) - ((a : Nat) : Int)))) hX dX6_isFree_24 rfl ?_
        refine g_iadd (v := ((y - x) * (zI (((q : Nat) : Int) - ((a : Nat) : Int)))) + (x * (zI (((c : Nat) : Int) - ((a : Nat) : Int))))) hX dX6_isFree_25 rfl ?_
        refine g_aload_n hX dX6_isFree_26 rfl 0 rfl ?_
        refine g_iload hX dX6_isFree_27 5 rfl ?_
        refine g_callVi hX (as := [.int (nI q)]) (fun l => c_X6_bar l (I := I) (q := q) (T := T) (hT := (by first | assumption | omega)) (hT6 := (by first | assumption | omega)) (hq := (by first | assumption | omega))) mX6_bar vX6_bar lX6_227 (by decide) (by decide) xCl6 rfl rfl dX6_isFree_29 rfl (by decide) (Nat.le_of_ble_eq_true rfl) (by decide) (by decide) ?_
        refine g_iload_n hX dX6_isFree_32 rfl 3 rfl ?_
        refine g_iload_n hX dX6_isFree_33 rfl 1 rfl ?_
        refine g_isub (v := zI (((c : Nat) : Int) - ((a : Nat) : Int))) hX dX6_isFree_34 (zI_sub (((c : Nat) : Int)) (((a : Nat) : Int))) ?_
        refine g_imul (v := (brF (I 311) (I 315) T q) * (zI (((c : Nat) : Int) - ((a : Nat) : Int)))) hX dX6_isFree_35 rfl ?_
        refine g_ci_gt (a := (((y - x) * (zI (((q : Nat) : Int) - ((a : Nat) : Int)))) + (x * (zI (((c : Nat) : Int) - ((a : Nat) : Int))))).toInt) (b := ((brF (I 311) (I 315) T q) * (zI (((c : Nat) : Int) - ((a : Nat) : Int)))).toInt) (tgt := 41) hX dX6_isFree_36 (by decide) rfl rfl (fun h36 => ?_) (fun h36 => ?_)
        · refine g_iinc (v := nI (q + 1)) (L' := [(0, .ref 307), (1, .int (nI a)), (2, .int x), (3, .int (nI c)), (4, .int y), (5, .int (nI (q + 1)))]) hX dX6_isFree_41 (by decide) 5 rfl (nI_add q 1) rfl ?_
          refine g_goto (tgt := 5) hX dX6_isFree_44 (by decide) ?_
          exact ih (q + 1) (by first | assumption | omega) (by first | assumption | omega) (lt_succ_or hall (fun _ _ => h36)) (by omega)
        · refine g_iconst (v := nI 0) hX dX6_isFree_39 (by decide) ?_
          exact g_zret hX hR dX6_isFree_40 (by decide) (by decide) (by decide) ⟨congrArg (fun z => some (Value.int z)) (xb_n0 (by intro hf; exact absurd (hf q (by omega) hq) (Int.not_lt.mpr h36))), rfl, rfl, rfl⟩
  exact cut5 _ (a + 1) (by first | assumption | omega) (by first | assumption | omega) (fun p h1 h2 h3 => absurd h1 (by omega)) (Nat.lt_succ_self _)

theorem c_X6_top (l : Launch) {nw sp : Nat} {I : xM} {k : Nat} (hk : k < 6) (hts : I 311 (56 + 3 * k) = nI (tsF (I 311) k)) (hts2 : tsF (I 311) k ≤ 19) : xC l 2 0 0 yX6_top cX6_top 2 (some .int) 319 [.ref 307, .int (nI k)] I (xRL nw sp) (xpI (tpF (I 311) k) 319 I (xRL nw sp)) := by
  refine xC_of (by decide) (Nat.le_of_ble_eq_true rfl) (fun X hXl hX hR => ?_)
  have hX : xOK X RX6 cX6_top 2 2 0 0 := hX
  show G X 319 0 0 I (xRL nw sp) 0 [(0, .ref 307), (1, .int (nI k))] []
  refine g_aload_n hX dX6_top_0 rfl 0 rfl ?_
  refine g_aload_n hX dX6_top_1 rfl 0 rfl ?_
  refine g_getR (j := 311) hX (by decide) (by decide) xCl6 5 (by decide) (by decide) kX6_19 dX6_top_2 rfl ?_
  refine g_bipush (v := nI 56) hX dX6_top_5 (by decide) ?_
  refine g_iconst (v := nI 3) hX dX6_top_7 (by decide) ?_
  refine g_iload_n hX dX6_top_8 rfl 1 rfl ?_
  refine g_imul (v := nI (3 * k)) hX dX6_top_9 (nI_mul 3 k) ?_
  refine g_iadd (v := nI (56 + (3 * k))) hX dX6_top_10 (nI_add 56 (3 * k)) ?_
  refine g_iald (v := nI (tsF (I 311) k)) hX (by decide) (by decide) (56 + (3 * k)) rfl (by rw [(show xN 311 = 74 by decide)]; omega) dX6_top_11 hts ?_
  refine g_callVi hX (as := [.int (nI (tsF (I 311) k))]) (fun l => c_X6_ground l (I := I) (q := (tsF (I 311) k)) (hq := (by first | assumption | omega))) mX6_ground vX6_ground lX6_199 (by decide) (by decide) xCl6 rfl rfl dX6_top_12 rfl (by decide) (Nat.le_of_ble_eq_true rfl) (by decide) (by decide) ?_
  refine g_aload_n hX dX6_top_15 rfl 0 rfl ?_
  refine g_getR (j := 311) hX (by decide) (by decide) xCl6 5 (by decide) (by decide) kX6_19 dX6_top_16 rfl ?_
  refine g_bipush (v := nI 56) hX dX6_top_19 (by decide) ?_
  refine g_iconst (v := nI 3) hX dX6_top_21 (by decide) ?_
  refine g_iload_n hX dX6_top_22 rfl 1 rfl ?_
  refine g_imul (v := nI (3 * k)) hX dX6_top_23 (nI_mul 3 k) ?_
  refine g_iadd (v := nI (56 + (3 * k))) hX dX6_top_24 (nI_add 56 (3 * k)) ?_
  refine g_iconst (v := nI 1) hX dX6_top_25 (by decide) ?_
  refine g_iadd (v := nI ((56 + (3 * k)) + 1)) hX dX6_top_26 (nI_add (56 + (3 * k)) 1) ?_
  refine g_iald (v := I 311 ((56 + (3 * k)) + 1)) hX (by decide) (by decide) ((56 + (3 * k)) + 1) rfl (by rw [(show xN 311 = 74 by decide)]; omega) dX6_top_27 rfl ?_
  refine g_iadd (v := (I 311 (6 + (tsF (I 311) k))) + (I 311 ((56 + (3 * k)) + 1))) hX dX6_top_28 rfl ?_
  exact g_iret hX hR dX6_top_29 (by decide) (by decide) ⟨congrArg (fun z => some (Value.int z)) rfl, rfl, rfl, rfl⟩

theorem c_X6_isSeen (l : Launch) {nw sp : Nat} {I : xM} {s k T S : Nat} {e : Int32} (hT : I 311 0 = nI T) (hT6 : T ≤ 6) (hS : I 311 1 = nI S) (hS6 : S ≤ 6) (hth : thP (I 311) S) (hs : s < 20) (hk : k < S) : xC l 5 0 0 yX6_isSeen cX6_isSeen 5 (some .boolean) 319 [.ref 307, .int (nI s), .int e, .int (nI k)] I (xRL nw sp) (xpI (xb (snP (brF (I 311) (I 315) T) (I 311) s e k)) 319 I (xRL nw sp)) := by
  refine xC_of (by decide) (Nat.le_of_ble_eq_true rfl) (fun X hXl hX hR => ?_)
  have hX : xOK X RX6 cX6_isSeen 5 5 0 0 := hX
  show G X 319 0 0 I (xRL nw sp) 0 [(0, .ref 307), (1, .int (nI s)), (2, .int e), (3, .int (nI k))] []
  have hts := (hth k hk).1
  have hts2 := (hth k hk).2
  refine g_aload_n hX dX6_isSeen_0 rfl 0 rfl ?_
  refine g_getR (j := 311) hX (by decide) (by decide) xCl6 5 (by decide) (by decide) kX6_19 dX6_isSeen_1 rfl ?_
  refine g_bipush (v := nI 56) hX dX6_isSeen_4 (by decide) ?_
  refine g_iconst (v := nI 3) hX dX6_isSeen_6 (by decide) ?_
  refine g_iload_n hX dX6_isSeen_7 rfl 3 rfl ?_
  refine g_imul (v := nI (3 * k)) hX dX6_isSeen_8 (nI_mul 3 k) ?_
  refine g_iadd (v := nI (56 + (3 * k))) hX dX6_isSeen_9 (nI_add 56 (3 * k)) ?_
  refine g_iald (v := nI (tsF (I 311) k)) hX (by decide) (by decide) (56 + (3 * k)) rfl (by rw [(show xN 311 = 74 by decide)]; omega) dX6_isSeen_10 hts ?_
  refine g_istore (L' := [(0, .ref 307), (1, .int (nI s)), (2, .int e), (3, .int (nI k)), (4, .int (nI (tsF (I 311) k)))]) hX dX6_isSeen_11 (by decide) rfl ?_
  refine g_iload_n hX dX6_isSeen_13 rfl 1 rfl ?_
  refine g_iload hX dX6_isSeen_14 4 rfl ?_
  refine g_ci_ge (a := ((s : Nat) : Int)) (b := ((tsF (I 311) k : Nat) : Int)) (tgt := 45) hX dX6_isSeen_16 (by decide) (nI_toInt (by omega)) (nI_toInt (by omega)) (fun h16 => ?_) (fun h16 => ?_)
  · refine g_iconst (v := nI 0) hX dX6_isSeen_45 (by decide) ?_
    exact g_zret hX hR dX6_isSeen_46 (by decide) (by decide) (by decide) ⟨congrArg (fun z => some (Value.int z)) (xb_n0 (by first | exact fun q => absurd q.1 (by omega) | exact fun q => absurd q.2 h38 | exact ⟨by omega, h38⟩)), rfl, rfl, rfl⟩
  · refine g_aload_n hX dX6_isSeen_19 rfl 0 rfl ?_
    refine g_iload_n hX dX6_isSeen_20 rfl 1 rfl ?_
    refine g_aload_n hX dX6_isSeen_21 rfl 0 rfl ?_
    refine g_iload_n hX dX6_isSeen_22 rfl 1 rfl ?_
    refine g_callVi hX (as := [.int (nI s)]) (fun l => c_X6_ground l (I := I) (q := s) (hq := (by first | assumption | omega))) mX6_ground vX6_ground lX6_199 (by decide) (by decide) xCl6 rfl rfl dX6_isSeen_23 rfl (by decide) (Nat.le_of_ble_eq_true rfl) (by decide) (by decide) ?_
    refine g_iload_n hX dX6_isSeen_26 rfl 2 rfl ?_
    refine g_iadd (v := (I 311 (6 + s)) + e) hX dX6_isSeen_27 rfl ?_
    refine g_iload hX dX6_isSeen_28 4 rfl ?_
    refine g_aload_n hX dX6_isSeen_30 rfl 0 rfl ?_
    refine g_iload_n hX dX6_isSeen_31 rfl 3 rfl ?_
    refine g_callVi hX (as := [.int (nI k)]) (fun l => c_X6_top l (I := I) (k := k) (hk := (by first | assumption | omega)) (hts := (by first | assumption | omega)) (hts2 := (by first | assumption | omega))) mX6_top vX6_top lX6_230 (by decide) (by decide) xCl6 rfl rfl dX6_isSeen_32 rfl (by decide) (Nat.le_of_ble_eq_true rfl) (by decide) (by decide) ?_
    refine g_callVi hX (as := [.int (nI s), .int ((I 311 (6 + s)) + e), .int (nI (tsF (I 311) k)), .int (tpF (I 311) k)]) (fun l => c_X6_isFree l (I := I) (a := s) (c := (tsF (I 311) k)) (T := T) (x := ((I 311 (6 + s)) + e)) (y := (tpF (I 311) k)) (hT := (by first | assumption | omega)) (hT6 := (by first | assumption | omega)) (ha := (by first | assumption | omega)) (hc := (by first | assumption | omega))) mX6_isFree vX6_isFree lX6_233 (by decide) (by decide) xCl6 rfl rfl dX6_isSeen_35 rfl (by decide) (Nat.le_of_ble_eq_true rfl) (by decide) (by decide) ?_
    refine g_cb_eq (tgt := 45) hX dX6_isSeen_38 (by decide) (fun h38 => ?_) (fun h38 => ?_)
    · refine g_iconst (v := nI 0) hX dX6_isSeen_45 (by decide) ?_
      exact g_zret hX hR dX6_isSeen_46 (by decide) (by decide) (by decide) ⟨congrArg (fun z => some (Value.int z)) (xb_n0 (by first | exact fun q => absurd q.1 (by omega) | exact fun q => absurd q.2 h38 | exact ⟨by omega, h38⟩)), rfl, rfl, rfl⟩
    · refine g_iconst (v := nI 1) hX dX6_isSeen_41 (by decide) ?_
      refine g_goto (tgt := 46) hX dX6_isSeen_42 (by decide) ?_
      exact g_zret hX hR dX6_isSeen_46 (by decide) (by decide) (by decide) ⟨congrArg (fun z => some (Value.int z)) (xb_n1 (by first | exact fun q => absurd q.1 (by omega) | exact fun q => absurd q.2 h38 | exact ⟨by omega, h38⟩)), rfl, rfl, rfl⟩

theorem c_X6_seenFrom (l : Launch) {nw sp : Nat} {I : xM} {s T S : Nat} {e : Int32} (hT : I 311 0 = nI T) (hT6 : T ≤ 6) (hS : I 311 1 = nI S) (hS6 : S ≤ 6) (hth : thP (I 311) S) (hs : s < 20) : xC l 6 0 0 yX6_seenFrom cX6_seenFrom 5 (some .int) 319 [.ref 307, .int (nI s), .int e] I (xRL nw sp) (xpI (bitsI (snP (brF (I 311) (I 315) T) (I 311) s e) S) 319 I (xRL nw sp)) := by
  refine xC_of (by decide) (Nat.le_of_ble_eq_true rfl) (fun X hXl hX hR => ?_)
  have hX : xOK X RX6 cX6_seenFrom 5 6 0 0 := hX
  show G X 319 0 0 I (xRL nw sp) 0 [(0, .ref 307), (1, .int (nI s)), (2, .int e)] []
  refine g_iconst (v := nI 0) hX dX6_seenFrom_0 (by decide) ?_
  refine g_istore_n (L' := [(0, .ref 307), (1, .int (nI s)), (2, .int e), (3, .int (nI 0))]) hX dX6_seenFrom_1 rfl (by decide) rfl ?_
  refine g_iconst (v := nI 0) hX dX6_seenFrom_2 (by decide) ?_
  refine g_istore (L' := [(0, .ref 307), (1, .int (nI s)), (2, .int e), (3, .int (nI 0)), (4, .int (nI 0))]) hX dX6_seenFrom_3 (by decide) rfl ?_
  have cut5 : ∀ (fuel : Nat) (b : Int32) (k : Nat) (hk : k ≤ S) (hb : b = bitsI (snP (brF (I 311) (I 315) T) (I 311) s e) k), S - k < fuel → G X 319 0 0 I (xRL nw sp) 5 [(0, .ref 307), (1, .int (nI s)), (2, .int e), (3, .int b), (4, .int (nI k))] [] := by
    intro fuel
    induction fuel with
    | zero => intro b k hk hb hfuel; omega
    | succ fuel ih =>
      intro b k hk hb hfuel
      refine g_iload hX dX6_seenFrom_5 4 rfl ?_
      refine g_aload_n hX dX6_seenFrom_7 rfl 0 rfl ?_
      refine g_getR (j := 311) hX (by decide) (by decide) xCl6 5 (by decide) (by decide) kX6_19 dX6_seenFrom_8 rfl ?_
      refine g_iconst (v := nI 1) hX dX6_seenFrom_11 (by decide) ?_
      refine g_iald (v := nI S) hX (by decide) (by decide) 1 rfl (by rw [(show xN 311 = 74 by decide)]; decide) dX6_seenFrom_12 hS ?_
      refine g_ci_ge (a := ((k : Nat) : Int)) (b := ((S : Nat) : Int)) (tgt := 44) hX dX6_seenFrom_13 (by decide) (nI_toInt (by omega)) (nI_toInt (by omega)) (fun h13 => ?_) (fun h13 => ?_)
      · refine g_iload_n hX dX6_seenFrom_44 rfl 3 rfl ?_
        exact g_iret hX hR dX6_seenFrom_45 (by decide) (by decide) ⟨congrArg (fun z => some (Value.int z)) (by rw [hb, show k = S by omega]), rfl, rfl, rfl⟩
      · refine g_iload_n hX dX6_seenFrom_16 rfl 3 rfl ?_
        refine g_aload_n hX dX6_seenFrom_17 rfl 0 rfl ?_
        refine g_iload_n hX dX6_seenFrom_18 rfl 1 rfl ?_
        refine g_iload_n hX dX6_seenFrom_19 rfl 2 rfl ?_
        refine g_iload hX dX6_seenFrom_20 4 rfl ?_
        refine g_callVi hX (as := [.int (nI s), .int e, .int (nI k)]) (fun l => c_X6_isSeen l (I := I) (s := s) (k := k) (T := T) (S := S) (e := e) (hT := (by first | assumption | omega)) (hT6 := (by first | assumption | omega)) (hS := (by first | assumption | omega)) (hS6 := (by first | assumption | omega)) (hth := (by first | assumption | omega)) (hs := (by first | assumption | omega)) (hk := (by first | assumption | omega))) mX6_isSeen vX6_isSeen lX6_237 (by decide) (by decide) xCl6 rfl rfl dX6_seenFrom_22 rfl (by decide) (Nat.le_of_ble_eq_true rfl) (by decide) (by decide) ?_
        refine g_cb_eq (tgt := 35) hX dX6_seenFrom_25 (by decide) (fun h25 => ?_) (fun h25 => ?_)
        · refine g_iconst (v := nI 0) hX dX6_seenFrom_35 (by decide) ?_
          refine g_ior (v := b ||| (nI 0)) hX dX6_seenFrom_36 rfl ?_
          refine g_istore_n (L' := [(0, .ref 307), (1, .int (nI s)), (2, .int e), (3, .int (b ||| (nI 0))), (4, .int (nI k))]) hX dX6_seenFrom_37 rfl (by decide) rfl ?_
          refine g_iinc (v := nI (k + 1)) (L' := [(0, .ref 307), (1, .int (nI s)), (2, .int e), (3, .int (b ||| (nI 0))), (4, .int (nI (k + 1)))]) hX dX6_seenFrom_38 (by decide) 4 rfl (nI_add k 1) rfl ?_
          refine g_goto (tgt := 5) hX dX6_seenFrom_41 (by decide) ?_
          exact ih (b ||| (nI 0)) (k + 1) (by first | assumption | omega) (by first | exact bits_t hb h25 | exact bits_f hb h25) (by omega)
        · refine g_iconst (v := nI 1) hX dX6_seenFrom_28 (by decide) ?_
          refine g_iload hX dX6_seenFrom_29 4 rfl ?_
          refine g_ishl (v := (nI 1) <<< ((nI k) &&& 31)) hX dX6_seenFrom_31 rfl ?_
          refine g_goto (tgt := 36) hX dX6_seenFrom_32 (by decide) ?_
          refine g_ior (v := b ||| ((nI 1) <<< ((nI k) &&& 31))) hX dX6_seenFrom_36 rfl ?_
          refine g_istore_n (L' := [(0, .ref 307), (1, .int (nI s)), (2, .int e), (3, .int (b ||| ((nI 1) <<< ((nI k) &&& 31)))), (4, .int (nI k))]) hX dX6_seenFrom_37 rfl (by decide) rfl ?_
          refine g_iinc (v := nI (k + 1)) (L' := [(0, .ref 307), (1, .int (nI s)), (2, .int e), (3, .int (b ||| ((nI 1) <<< ((nI k) &&& 31)))), (4, .int (nI (k + 1)))]) hX dX6_seenFrom_38 (by decide) 4 rfl (nI_add k 1) rfl ?_
          refine g_goto (tgt := 5) hX dX6_seenFrom_41 (by decide) ?_
          exact ih (b ||| ((nI 1) <<< ((nI k) &&& 31))) (k + 1) (by first | assumption | omega) (by first | exact bits_t hb h25 | exact bits_f hb h25) (by omega)
  exact cut5 _ (nI 0) 0 (by first | assumption | omega) rfl (Nat.lt_succ_self _)
