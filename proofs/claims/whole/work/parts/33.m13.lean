theorem c_X6_cut_bad1 (l : Launch) {nw sp : Nat} {I : xM} {T : Nat} {E x y w : Int32} (hT : I 311 0 = nI T) (hT6 : T ≤ 6) (hb : ¬ (0 ≤ E.toInt ∧ (0 ≤ x.toInt ∧ x.toInt < T) ∧ (0 ≤ y.toInt ∧ y.toInt < T) ∧ x.toInt ≠ y.toInt)) : xC l 3 0 0 yX6_cut cX6_cut 11 (some .int) 319 [.ref 307, .int E, .int x, .int y, .int w] I (xRL nw sp) (xpI (-1000001) 319 (xput I 307 0 (nI 0)) (xRL nw sp)) := by
  refine xC_of (by decide) (Nat.le_of_ble_eq_true rfl) (fun X hXl hX hR => ?_)
  have hX : xOK X RX6 cX6_cut 11 3 0 0 := hX
  show G X 319 0 0 I (xRL nw sp) 0 [(0, .ref 307), (1, .int E), (2, .int x), (3, .int y), (4, .int w)] []
  refine g_aload_n hX dX6_cut_0 rfl 0 rfl ?_
  refine g_iconst (v := nI 0) hX dX6_cut_1 (by decide) ?_
  refine g_putI hX (by decide) (by decide) xCl6 0 (by decide) (by decide) (by decide) kX6_44 dX6_cut_2 rfl rfl ?_
  refine g_iload_n hX dX6_cut_5 rfl 1 rfl ?_
  refine g_cz_lt (a := E.toInt) (tgt := 57) hX dX6_cut_6 (by decide) rfl (fun h6 => ?_) (fun h6 => ?_)
  · refine g_ldc (v := -1000001) hX cX6_64 dX6_cut_57 ?_
    exact g_iret hX hR dX6_cut_59 (by decide) (by decide) ⟨congrArg (fun z => some (Value.int z)) rfl, rfl, rfl, rfl⟩
  · refine g_aload_n hX dX6_cut_9 rfl 0 rfl ?_
    refine g_iload_n hX dX6_cut_10 rfl 2 rfl ?_
    refine g_callVi hX (as := [.int x]) (fun l => c_X6_isTree l (I := (xput I 307 0 (nI 0))) (T := T) (x := x) (hT := (by first | assumption | omega)) (hT6 := (by first | assumption | omega))) mX6_isTree vX6_isTree lX6_211 (by decide) (by decide) xCl6 rfl rfl dX6_cut_11 rfl (by decide) (Nat.le_of_ble_eq_true rfl) (by decide) (by decide) ?_
    refine g_cb_eq (tgt := 57) hX dX6_cut_14 (by decide) (fun h14 => ?_) (fun h14 => ?_)
    · refine g_ldc (v := -1000001) hX cX6_64 dX6_cut_57 ?_
      exact g_iret hX hR dX6_cut_59 (by decide) (by decide) ⟨congrArg (fun z => some (Value.int z)) rfl, rfl, rfl, rfl⟩
    · refine g_aload_n hX dX6_cut_17 rfl 0 rfl ?_
      refine g_iload_n hX dX6_cut_18 rfl 3 rfl ?_
      refine g_callVi hX (as := [.int y]) (fun l => c_X6_isTree l (I := (xput I 307 0 (nI 0))) (T := T) (x := y) (hT := (by first | assumption | omega)) (hT6 := (by first | assumption | omega))) mX6_isTree vX6_isTree lX6_211 (by decide) (by decide) xCl6 rfl rfl dX6_cut_19 rfl (by decide) (Nat.le_of_ble_eq_true rfl) (by decide) (by decide) ?_
      refine g_cb_eq (tgt := 57) hX dX6_cut_22 (by decide) (fun h22 => ?_) (fun h22 => ?_)
      · refine g_ldc (v := -1000001) hX cX6_64 dX6_cut_57 ?_
        exact g_iret hX hR dX6_cut_59 (by decide) (by decide) ⟨congrArg (fun z => some (Value.int z)) rfl, rfl, rfl, rfl⟩
      · refine g_iload_n hX dX6_cut_25 rfl 2 rfl ?_
        refine g_iload_n hX dX6_cut_26 rfl 3 rfl ?_
        refine g_ci_eq (a := x.toInt) (b := y.toInt) (tgt := 57) hX dX6_cut_27 (by decide) rfl rfl (fun h27 => ?_) (fun h27 => ?_)
        · refine g_ldc (v := -1000001) hX cX6_64 dX6_cut_57 ?_
          exact g_iret hX hR dX6_cut_59 (by decide) (by decide) ⟨congrArg (fun z => some (Value.int z)) rfl, rfl, rfl, rfl⟩
        · exfalso; omega

theorem c_X6_cut_bad2 (l : Launch) {nw sp : Nat} {I : xM} {T a b : Nat} {E w : Int32} (hT : I 311 0 = nI T) (hT6 : T ≤ 6) (ha : a < T) (hb_ : b < T) (hb : ¬ (((I 311 (26 + 5 * a + 0)).toInt ≠ 3 ∧ (I 311 (26 + 5 * a + 0)).toInt ≠ 5) ∧ ((I 311 (26 + 5 * b + 0)).toInt ≠ 3 ∧ (I 311 (26 + 5 * b + 0)).toInt ≠ 5) ∧ 0 ≤ w.toInt ∧ w.toInt ≤ 1)) : xC l 3 0 0 yX6_cut cX6_cut 11 (some .int) 319 [.ref 307, .int E, .int (nI a), .int (nI b), .int w] I (xRL nw sp) (xpI (-1000001) 319 (xput I 307 0 (nI 0)) (xRL nw sp)) := by
  refine xC_of (by decide) (Nat.le_of_ble_eq_true rfl) (fun X hXl hX hR => ?_)
  have hX : xOK X RX6 cX6_cut 11 3 0 0 := hX
  show G X 319 0 0 I (xRL nw sp) 0 [(0, .ref 307), (1, .int E), (2, .int (nI a)), (3, .int (nI b)), (4, .int w)] []
  refine g_aload_n hX dX6_cut_0 rfl 0 rfl ?_
  refine g_iconst (v := nI 0) hX dX6_cut_1 (by decide) ?_
  refine g_putI hX (by decide) (by decide) xCl6 0 (by decide) (by decide) (by decide) kX6_44 dX6_cut_2 rfl rfl ?_
  refine g_iload_n hX dX6_cut_5 rfl 1 rfl ?_
  refine g_cz_lt (a := E.toInt) (tgt := 57) hX dX6_cut_6 (by decide) rfl (fun h6 => ?_) (fun h6 => ?_)
  · refine g_ldc (v := -1000001) hX cX6_64 dX6_cut_57 ?_
    exact g_iret hX hR dX6_cut_59 (by decide) (by decide) ⟨congrArg (fun z => some (Value.int z)) rfl, rfl, rfl, rfl⟩
  · refine g_aload_n hX dX6_cut_9 rfl 0 rfl ?_
    refine g_iload_n hX dX6_cut_10 rfl 2 rfl ?_
    refine g_callVi hX (as := [.int (nI a)]) (fun l => c_X6_isTree l (I := (xput I 307 0 (nI 0))) (T := T) (x := (nI a)) (hT := (by first | assumption | omega)) (hT6 := (by first | assumption | omega))) mX6_isTree vX6_isTree lX6_211 (by decide) (by decide) xCl6 rfl rfl dX6_cut_11 rfl (by decide) (Nat.le_of_ble_eq_true rfl) (by decide) (by decide) ?_
    refine g_top (y := xb (0 ≤ ((a : Nat) : Int) ∧ ((a : Nat) : Int) < T)) (by rw [nI_toInt (n := a) (by omega)]) ?_
    refine g_cb_eq (tgt := 57) hX dX6_cut_14 (by decide) (fun h14 => ?_) (fun h14 => ?_)
    · refine g_ldc (v := -1000001) hX cX6_64 dX6_cut_57 ?_
      exact g_iret hX hR dX6_cut_59 (by decide) (by decide) ⟨congrArg (fun z => some (Value.int z)) rfl, rfl, rfl, rfl⟩
    · refine g_aload_n hX dX6_cut_17 rfl 0 rfl ?_
      refine g_iload_n hX dX6_cut_18 rfl 3 rfl ?_
      refine g_callVi hX (as := [.int (nI b)]) (fun l => c_X6_isTree l (I := (xput I 307 0 (nI 0))) (T := T) (x := (nI b)) (hT := (by first | assumption | omega)) (hT6 := (by first | assumption | omega))) mX6_isTree vX6_isTree lX6_211 (by decide) (by decide) xCl6 rfl rfl dX6_cut_19 rfl (by decide) (Nat.le_of_ble_eq_true rfl) (by decide) (by decide) ?_
      refine g_top (y := xb (0 ≤ ((b : Nat) : Int) ∧ ((b : Nat) : Int) < T)) (by rw [nI_toInt (n := b) (by omega)]) ?_
      refine g_cb_eq (tgt := 57) hX dX6_cut_22 (by decide) (fun h22 => ?_) (fun h22 => ?_)
      · refine g_ldc (v := -1000001) hX cX6_64 dX6_cut_57 ?_
        exact g_iret hX hR dX6_cut_59 (by decide) (by decide) ⟨congrArg (fun z => some (Value.int z)) rfl, rfl, rfl, rfl⟩
      · refine g_iload_n hX dX6_cut_25 rfl 2 rfl ?_
        refine g_iload_n hX dX6_cut_26 rfl 3 rfl ?_
        refine g_ci_eq (a := ((a : Nat) : Int)) (b := ((b : Nat) : Int)) (tgt := 57) hX dX6_cut_27 (by decide) (nI_toInt (by omega)) (nI_toInt (by omega)) (fun h27 => ?_) (fun h27 => ?_)
        · refine g_ldc (v := -1000001) hX cX6_64 dX6_cut_57 ?_
          exact g_iret hX hR dX6_cut_59 (by decide) (by decide) ⟨congrArg (fun z => some (Value.int z)) rfl, rfl, rfl, rfl⟩
        · refine g_aload_n hX dX6_cut_30 rfl 0 rfl ?_
          refine g_iload_n hX dX6_cut_31 rfl 2 rfl ?_
          refine g_callVi hX (as := [.int (nI a)]) (fun l => c_X6_mayBeCut l (I := (xput I 307 0 (nI 0))) (t := a) (ht := (by first | assumption | omega))) mX6_mayBeCut vX6_mayBeCut lX6_214 (by decide) (by decide) xCl6 rfl rfl dX6_cut_32 rfl (by decide) (Nat.le_of_ble_eq_true rfl) (by decide) (by decide) ?_
          refine g_cb_eq (tgt := 57) hX dX6_cut_35 (by decide) (fun h35 => ?_) (fun h35 => ?_)
          · refine g_ldc (v := -1000001) hX cX6_64 dX6_cut_57 ?_
            exact g_iret hX hR dX6_cut_59 (by decide) (by decide) ⟨congrArg (fun z => some (Value.int z)) rfl, rfl, rfl, rfl⟩
          · refine g_aload_n hX dX6_cut_38 rfl 0 rfl ?_
            refine g_iload_n hX dX6_cut_39 rfl 3 rfl ?_
            refine g_callVi hX (as := [.int (nI b)]) (fun l => c_X6_mayBeCut l (I := (xput I 307 0 (nI 0))) (t := b) (ht := (by first | assumption | omega))) mX6_mayBeCut vX6_mayBeCut lX6_214 (by decide) (by decide) xCl6 rfl rfl dX6_cut_40 rfl (by decide) (Nat.le_of_ble_eq_true rfl) (by decide) (by decide) ?_
            refine g_cb_eq (tgt := 57) hX dX6_cut_43 (by decide) (fun h43 => ?_) (fun h43 => ?_)
            · refine g_ldc (v := -1000001) hX cX6_64 dX6_cut_57 ?_
              exact g_iret hX hR dX6_cut_59 (by decide) (by decide) ⟨congrArg (fun z => some (Value.int z)) rfl, rfl, rfl, rfl⟩
            · refine g_iload hX dX6_cut_46 4 rfl ?_
              refine g_i2l (v := w.toInt64) hX dX6_cut_48 rfl ?_
              refine g_lconst (v := 0) hX dX6_cut_49 (by decide) ?_
              refine g_lconst (v := 1) hX dX6_cut_50 (by decide) ?_
              refine g_callSi (as := [.long w.toInt64, .long 0, .long 1]) hX (fun l => c_X6_in l) mX6_in sX6_in lX6_54 rfl dX6_cut_51 rfl (by decide) (Nat.le_of_ble_eq_true rfl) (by decide) (by decide) ?_
              refine g_top (y := xb ((0 : Int) ≤ w.toInt ∧ w.toInt ≤ (1 : Int))) (xb_iffI ((i64_of _).trans rfl) (by decide) (by decide)) ?_
              refine g_cb_ne (tgt := 60) hX dX6_cut_54 (by decide) (fun h54 => ?_) (fun h54 => ?_)
              · exact absurd ⟨h35, h43, h54⟩ hb
              · refine g_ldc (v := -1000001) hX cX6_64 dX6_cut_57 ?_
                exact g_iret hX hR dX6_cut_59 (by decide) (by decide) ⟨congrArg (fun z => some (Value.int z)) rfl, rfl, rfl, rfl⟩

theorem c_X6_cut_ok0 (l : Launch) {nw sp : Nat} {I : xM} {T S a b H K U V : Nat} {E : Int32} (hT : I 311 0 = nI T) (hT6 : T ≤ 6) (hS : I 311 1 = nI S) (hS6 : S ≤ 6) (hth : thP (I 311) S) (hx : 0 ≤ E.toInt) (ha : a < T) (hb : b < T) (hab : a ≠ b) (hka : (I 311 (26 + 5 * a + 0)).toInt ≠ 3 ∧ (I 311 (26 + 5 * a + 0)).toInt ≠ 5) (hkb : (I 311 (26 + 5 * b + 0)).toInt ≠ 3 ∧ (I 311 (26 + 5 * b + 0)).toInt ≠ 5) (hha : hgF (I 311) (I 315) a = nI H) (hhb : hgF (I 311) (I 315) b = nI K) (hH : H ≤ 99) (hK : K ≤ 99) (hU : U ≤ H) (hV : V ≤ K) (hm : allM (brF (I 311) (cuA (I 315) a b (-((U : Nat) : Int)) (-((V : Nat) : Int))) T) (I 311) S E) (hmin : ∀ x y : Nat, x ≤ H → y ≤ K → allM (brF (I 311) (cuA (I 315) a b (-((x : Nat) : Int)) (-((y : Nat) : Int))) T) (I 311) S E → U ≤ x ∧ V ≤ y) : xC l 8 0 0 yX6_cut cX6_cut 11 (some .int) 319 [.ref 307, .int E, .int (nI a), .int (nI b), .int (nI 0)] I (xRL nw sp) (xpI (nI (U + V)) 319 (xput (xput (xput I 307 0 (nI 0)) 315 a (nI 0)) 315 b (nI 0)) (xRL nw sp)) := by
  refine xC_of (by decide) (Nat.le_of_ble_eq_true rfl) (fun X hXl hX hR => ?_)
  have hX : xOK X RX6 cX6_cut 11 8 0 0 := hX
  show G X 319 0 0 I (xRL nw sp) 0 [(0, .ref 307), (1, .int E), (2, .int (nI a)), (3, .int (nI b)), (4, .int (nI 0))] []
  refine g_aload_n hX dX6_cut_0 rfl 0 rfl ?_
  refine g_iconst (v := nI 0) hX dX6_cut_1 (by decide) ?_
  refine g_putI hX (by decide) (by decide) xCl6 0 (by decide) (by decide) (by decide) kX6_44 dX6_cut_2 rfl rfl ?_
  refine g_iload_n hX dX6_cut_5 rfl 1 rfl ?_
  refine g_cz_lt (a := E.toInt) (tgt := 57) hX dX6_cut_6 (by decide) rfl (fun h6 => ?_) (fun h6 => ?_)
  · exfalso; omega
  · refine g_aload_n hX dX6_cut_9 rfl 0 rfl ?_
    refine g_iload_n hX dX6_cut_10 rfl 2 rfl ?_
    refine g_callVi hX (as := [.int (nI a)]) (fun l => c_X6_isTree l (I := (xput I 307 0 (nI 0))) (T := T) (x := (nI a)) (hT := (by first | assumption | omega)) (hT6 := (by first | assumption | omega))) mX6_isTree vX6_isTree lX6_211 (by decide) (by decide) xCl6 rfl rfl dX6_cut_11 rfl (by decide) (Nat.le_of_ble_eq_true rfl) (by decide) (by decide) ?_
    refine g_top (y := xb (0 ≤ ((a : Nat) : Int) ∧ ((a : Nat) : Int) < T)) (by rw [nI_toInt (n := a) (by omega)]) ?_
    refine g_cb_eq (tgt := 57) hX dX6_cut_14 (by decide) (fun h14 => ?_) (fun h14 => ?_)
    · exfalso; omega
    · refine g_aload_n hX dX6_cut_17 rfl 0 rfl ?_
      refine g_iload_n hX dX6_cut_18 rfl 3 rfl ?_
      refine g_callVi hX (as := [.int (nI b)]) (fun l => c_X6_isTree l (I := (xput I 307 0 (nI 0))) (T := T) (x := (nI b)) (hT := (by first | assumption | omega)) (hT6 := (by first | assumption | omega))) mX6_isTree vX6_isTree lX6_211 (by decide) (by decide) xCl6 rfl rfl dX6_cut_19 rfl (by decide) (Nat.le_of_ble_eq_true rfl) (by decide) (by decide) ?_
      refine g_top (y := xb (0 ≤ ((b : Nat) : Int) ∧ ((b : Nat) : Int) < T)) (by rw [nI_toInt (n := b) (by omega)]) ?_
      refine g_cb_eq (tgt := 57) hX dX6_cut_22 (by decide) (fun h22 => ?_) (fun h22 => ?_)
      · exfalso; omega
      · refine g_iload_n hX dX6_cut_25 rfl 2 rfl ?_
        refine g_iload_n hX dX6_cut_26 rfl 3 rfl ?_
        refine g_ci_eq (a := ((a : Nat) : Int)) (b := ((b : Nat) : Int)) (tgt := 57) hX dX6_cut_27 (by decide) (nI_toInt (by omega)) (nI_toInt (by omega)) (fun h27 => ?_) (fun h27 => ?_)
        · exfalso; omega
        · refine g_aload_n hX dX6_cut_30 rfl 0 rfl ?_
          refine g_iload_n hX dX6_cut_31 rfl 2 rfl ?_
          refine g_callVi hX (as := [.int (nI a)]) (fun l => c_X6_mayBeCut l (I := (xput I 307 0 (nI 0))) (t := a) (ht := (by first | assumption | omega))) mX6_mayBeCut vX6_mayBeCut lX6_214 (by decide) (by decide) xCl6 rfl rfl dX6_cut_32 rfl (by decide) (Nat.le_of_ble_eq_true rfl) (by decide) (by decide) ?_
          refine g_cb_eq (tgt := 57) hX dX6_cut_35 (by decide) (fun h35 => ?_) (fun h35 => ?_)
          · exact absurd hka h35
          · refine g_aload_n hX dX6_cut_38 rfl 0 rfl ?_
            refine g_iload_n hX dX6_cut_39 rfl 3 rfl ?_
            refine g_callVi hX (as := [.int (nI b)]) (fun l => c_X6_mayBeCut l (I := (xput I 307 0 (nI 0))) (t := b) (ht := (by first | assumption | omega))) mX6_mayBeCut vX6_mayBeCut lX6_214 (by decide) (by decide) xCl6 rfl rfl dX6_cut_40 rfl (by decide) (Nat.le_of_ble_eq_true rfl) (by decide) (by decide) ?_
            refine g_cb_eq (tgt := 57) hX dX6_cut_43 (by decide) (fun h43 => ?_) (fun h43 => ?_)
            · exact absurd hkb h43
            · refine g_iload hX dX6_cut_46 4 rfl ?_
              refine g_i2l (v := (nI 0).toInt64) hX dX6_cut_48 rfl ?_
              refine g_lconst (v := 0) hX dX6_cut_49 (by decide) ?_
              refine g_lconst (v := 1) hX dX6_cut_50 (by decide) ?_
              refine g_callSi (as := [.long ((nI 0).toInt64), .long 0, .long 1]) hX (fun l => c_X6_in l) mX6_in sX6_in lX6_54 rfl dX6_cut_51 rfl (by decide) (Nat.le_of_ble_eq_true rfl) (by decide) (by decide) ?_
              refine g_top (y := xb ((0 : Int) ≤ (0 : Int) ∧ (0 : Int) ≤ (1 : Int))) (xb_iffI ((i64_of _).trans (by decide)) (by decide) (by decide)) ?_
              refine g_cb_ne (tgt := 60) hX dX6_cut_54 (by decide) (fun h54 => ?_) (fun h54 => ?_)
              · refine g_aload_n hX dX6_cut_60 rfl 0 rfl ?_
                refine g_iload_n hX dX6_cut_61 rfl 2 rfl ?_
                refine g_callVi hX (as := [.int (nI a)]) (fun l => c_X6_height l (I := (xput I 307 0 (nI 0))) (t := a) (ht := (by first | assumption | omega))) mX6_height vX6_height lX6_202 (by decide) (by decide) xCl6 rfl rfl dX6_cut_62 rfl (by decide) (Nat.le_of_ble_eq_true rfl) (by decide) (by decide) ?_
                refine g_top (y := nI H) hha ?_
                refine g_istore (L' := [(0, .ref 307), (1, .int E), (2, .int (nI a)), (3, .int (nI b)), (4, .int (nI 0)), (5, .int (nI H))]) hX dX6_cut_65 (by decide) rfl ?_
                refine g_aload_n hX dX6_cut_67 rfl 0 rfl ?_
                refine g_iload_n hX dX6_cut_68 rfl 3 rfl ?_
                refine g_callVi hX (as := [.int (nI b)]) (fun l => c_X6_height l (I := (xput I 307 0 (nI 0))) (t := b) (ht := (by first | assumption | omega))) mX6_height vX6_height lX6_202 (by decide) (by decide) xCl6 rfl rfl dX6_cut_69 rfl (by decide) (Nat.le_of_ble_eq_true rfl) (by decide) (by decide) ?_
                refine g_top (y := nI K) hhb ?_
                refine g_istore (L' := [(0, .ref 307), (1, .int E), (2, .int (nI a)), (3, .int (nI b)), (4, .int (nI 0)), (5, .int (nI H)), (6, .int (nI K))]) hX dX6_cut_72 (by decide) rfl ?_
                refine g_ldc (v := -1000000) hX cX6_80 dX6_cut_74 ?_
                refine g_istore (L' := [(0, .ref 307), (1, .int E), (2, .int (nI a)), (3, .int (nI b)), (4, .int (nI 0)), (5, .int (nI H)), (6, .int (nI K)), (7, .int (-1000000))]) hX dX6_cut_76 (by decide) rfl ?_
                refine g_ldc (v := -1000000) hX cX6_80 dX6_cut_78 ?_
                refine g_istore (L' := [(0, .ref 307), (1, .int E), (2, .int (nI a)), (3, .int (nI b)), (4, .int (nI 0)), (5, .int (nI H)), (6, .int (nI K)), (7, .int (-1000000)), (8, .int (-1000000))]) hX dX6_cut_80 (by decide) rfl ?_
                refine g_iconst (v := nI 0) hX dX6_cut_82 (by decide) ?_
                refine g_istore (L' := [(0, .ref 307), (1, .int E), (2, .int (nI a)), (3, .int (nI b)), (4, .int (nI 0)), (5, .int (nI H)), (6, .int (nI K)), (7, .int (-1000000)), (8, .int (-1000000)), (9, .int (nI 0))]) hX dX6_cut_83 (by decide) rfl ?_
                have cut85 : ∀ (fuel : Nat) (v7 v8 : Int32) (sm : Nat) (J : xM) (hsm : sm ≤ 199) (hs : (v7.toInt = -1000000 ∧ sm ≤ U + V) ∨ (v7 = nI U ∧ v8 = nI (U + V))) (hJ : ∃ u v, J = xput (xput (xput I 307 0 (nI 0)) 315 a u) 315 b v), 200 - sm < fuel → G X 319 0 0 J (xRL nw sp) 85 [(0, .ref 307), (1, .int E), (2, .int (nI a)), (3, .int (nI b)), (4, .int (nI 0)), (5, .int (nI H)), (6, .int (nI K)), (7, .int v7), (8, .int v8), (9, .int (nI sm))] [] := by
                  intro fuel
                  induction fuel with
                  | zero => intro v7 v8 sm J hsm hs hJ hfuel; omega
                  | succ fuel ih =>
                    intro v7 v8 sm J hsm hs hJ hfuel
                    refine g_iload hX dX6_cut_85 9 rfl ?_
                    refine g_iload hX dX6_cut_87 5 rfl ?_
                    refine g_iload hX dX6_cut_89 6 rfl ?_
                    refine g_iadd (v := nI (H + K)) hX dX6_cut_91 (nI_add H K) ?_
                    refine g_ci_gt (a := ((sm : Nat) : Int)) (b := ((H + K : Nat) : Int)) (tgt := 202) hX dX6_cut_92 (by decide) (nI_toInt (by omega)) (nI_toInt (by omega)) (fun h92 => ?_) (fun h92 => ?_)
                    · refine g_aload_n hX dX6_cut_202 rfl 0 rfl ?_
                      refine g_getR (j := 315) hX (by decide) (by decide) xCl6 20 (by decide) (by decide) kX6_31 dX6_cut_203 rfl ?_
                      refine g_iload_n hX dX6_cut_206 rfl 2 rfl ?_
                      refine g_iconst (v := nI 0) hX dX6_cut_207 (by decide) ?_
                      refine g_iast hX (by decide) (by decide) a rfl (by rw [(show xN 315 = 7 by decide)]; omega) dX6_cut_208 ?_
                      refine g_aload_n hX dX6_cut_209 rfl 0 rfl ?_
                      refine g_getR (j := 315) hX (by decide) (by decide) xCl6 20 (by decide) (by decide) kX6_31 dX6_cut_210 rfl ?_
                      refine g_iload_n hX dX6_cut_213 rfl 3 rfl ?_
                      refine g_iconst (v := nI 0) hX dX6_cut_214 (by decide) ?_
                      refine g_iast hX (by decide) (by decide) b rfl (by rw [(show xN 315 = 7 by decide)]; omega) dX6_cut_215 ?_
                      refine g_iload hX dX6_cut_216 4 rfl ?_
                      refine g_cz_ne (a := (0 : Int)) (tgt := 226) hX dX6_cut_218 (by decide) (by decide) (fun q => absurd q (by decide)) (fun _ => ?_)
                      refine g_iload hX dX6_cut_221 8 rfl ?_
                      refine g_goto (tgt := 228) hX dX6_cut_223 (by decide) ?_
                      exact g_iret hX hR dX6_cut_228 (by decide) (by decide) ⟨congrArg (fun z => some (Value.int z)) (by rcases hs with q | q; exfalso; omega; exact q.2), rfl, (by obtain ⟨u, v, rfl⟩ := hJ; exact cu_over hab), rfl⟩
                    · refine g_iload hX dX6_cut_95 7 rfl ?_
                      refine g_ldc (v := -1000000) hX cX6_80 dX6_cut_97 ?_
                      refine g_ci_ne (a := v7.toInt) (b := (-1000000 : Int)) (tgt := 202) hX dX6_cut_99 (by decide) rfl (by decide) (fun h99 => ?_) (fun h99 => ?_)
                      · refine g_aload_n hX dX6_cut_202 rfl 0 rfl ?_
                        refine g_getR (j := 315) hX (by decide) (by decide) xCl6 20 (by decide) (by decide) kX6_31 dX6_cut_203 rfl ?_
                        refine g_iload_n hX dX6_cut_206 rfl 2 rfl ?_
                        refine g_iconst (v := nI 0) hX dX6_cut_207 (by decide) ?_
                        refine g_iast hX (by decide) (by decide) a rfl (by rw [(show xN 315 = 7 by decide)]; omega) dX6_cut_208 ?_
                        refine g_aload_n hX dX6_cut_209 rfl 0 rfl ?_
                        refine g_getR (j := 315) hX (by decide) (by decide) xCl6 20 (by decide) (by decide) kX6_31 dX6_cut_210 rfl ?_
                        refine g_iload_n hX dX6_cut_213 rfl 3 rfl ?_
                        refine g_iconst (v := nI 0) hX dX6_cut_214 (by decide) ?_
                        refine g_iast hX (by decide) (by decide) b rfl (by rw [(show xN 315 = 7 by decide)]; omega) dX6_cut_215 ?_
                        refine g_iload hX dX6_cut_216 4 rfl ?_
                        refine g_cz_ne (a := (0 : Int)) (tgt := 226) hX dX6_cut_218 (by decide) (by decide) (fun q => absurd q (by decide)) (fun _ => ?_)
                        refine g_iload hX dX6_cut_221 8 rfl ?_
                        refine g_goto (tgt := 228) hX dX6_cut_223 (by decide) ?_
                        exact g_iret hX hR dX6_cut_228 (by decide) (by decide) ⟨congrArg (fun z => some (Value.int z)) (by rcases hs with q | q; exfalso; omega; exact q.2), rfl, (by obtain ⟨u, v, rfl⟩ := hJ; exact cu_over hab), rfl⟩
                      · refine g_iconst (v := nI 0) hX dX6_cut_102 (by decide) ?_
                        refine g_istore (L' := [(0, .ref 307), (1, .int E), (2, .int (nI a)), (3, .int (nI b)), (4, .int (nI 0)), (5, .int (nI H)), (6, .int (nI K)), (7, .int v7), (8, .int v8), (9, .int (nI sm)), (10, .int (nI 0))]) hX dX6_cut_103 (by decide) rfl ?_
                        have cut105 : ∀ (fuel105 : Nat) (v7 v8 : Int32) (x : Nat) (J : xM) (hx2 : x ≤ sm + 1) (hs2 : (v7.toInt = -1000000 ∧ sm ≤ U + V ∧ (sm = U + V → x ≤ U)) ∨ (v7 = nI U ∧ v8 = nI (U + V))) (hJ : ∃ u v, J = xput (xput (xput I 307 0 (nI 0)) 315 a u) 315 b v), sm + 2 - x < fuel105 → G X 319 0 0 J (xRL nw sp) 105 [(0, .ref 307), (1, .int E), (2, .int (nI a)), (3, .int (nI b)), (4, .int (nI 0)), (5, .int (nI H)), (6, .int (nI K)), (7, .int v7), (8, .int v8), (9, .int (nI sm)), (10, .int (nI x))] [] := by
                          intro fuel105
                          induction fuel105 with
                          | zero => intro v7 v8 x J hx2 hs2 hJ hfuel105; omega
                          | succ fuel105 ih105 =>
                            intro v7 v8 x J hx2 hs2 hJ hfuel105
                            refine g_iload hX dX6_cut_105 10 rfl ?_
                            refine g_iload hX dX6_cut_107 9 rfl ?_
                            refine g_ci_gt (a := ((x : Nat) : Int)) (b := ((sm : Nat) : Int)) (tgt := 196) hX dX6_cut_109 (by decide) (nI_toInt (by omega)) (nI_toInt (by omega)) (fun h109 => ?_) (fun h109 => ?_)
                            · refine g_iinc (v := nI (sm + 1)) (L' := [(0, .ref 307), (1, .int E), (2, .int (nI a)), (3, .int (nI b)), (4, .int (nI 0)), (5, .int (nI H)), (6, .int (nI K)), (7, .int v7), (8, .int v8), (9, .int (nI (sm + 1))), (10, .int (nI x))]) hX dX6_cut_196 (by decide) 9 rfl (nI_add sm 1) rfl ?_
                              refine g_goto (tgt := 85) hX dX6_cut_199 (by decide) ?_
                              refine g_loc [0, 1, 2, 3, 4, 5, 6, 7, 8, 9] rfl ?_
                              exact ih v7 v8 (sm + 1) J (by first | assumption | omega) (hs2.elim (fun q => Or.inl ⟨q.1, by omega⟩) Or.inr) (by first | assumption | omega) (by omega)
                            · refine g_iload hX dX6_cut_112 7 rfl ?_
                              refine g_ldc (v := -1000000) hX cX6_80 dX6_cut_114 ?_
                              refine g_ci_ne (a := v7.toInt) (b := (-1000000 : Int)) (tgt := 196) hX dX6_cut_116 (by decide) rfl (by decide) (fun h116 => ?_) (fun h116 => ?_)
                              · refine g_iinc (v := nI (sm + 1)) (L' := [(0, .ref 307), (1, .int E), (2, .int (nI a)), (3, .int (nI b)), (4, .int (nI 0)), (5, .int (nI H)), (6, .int (nI K)), (7, .int v7), (8, .int v8), (9, .int (nI (sm + 1))), (10, .int (nI x))]) hX dX6_cut_196 (by decide) 9 rfl (nI_add sm 1) rfl ?_
                                refine g_goto (tgt := 85) hX dX6_cut_199 (by decide) ?_
                                refine g_loc [0, 1, 2, 3, 4, 5, 6, 7, 8, 9] rfl ?_
                                exact ih v7 v8 (sm + 1) J (by first | assumption | omega) (hs2.elim (fun q => Or.inl ⟨q.1, by omega⟩) Or.inr) (by first | assumption | omega) (by omega)
                              · refine g_iload hX dX6_cut_119 10 rfl ?_
                                refine g_iload hX dX6_cut_121 5 rfl ?_
                                refine g_ci_gt (a := ((x : Nat) : Int)) (b := ((H : Nat) : Int)) (tgt := 190) hX dX6_cut_123 (by decide) (nI_toInt (by omega)) (nI_toInt (by omega)) (fun h123 => ?_) (fun h123 => ?_)
                                · refine g_iinc (v := nI (x + 1)) (L' := [(0, .ref 307), (1, .int E), (2, .int (nI a)), (3, .int (nI b)), (4, .int (nI 0)), (5, .int (nI H)), (6, .int (nI K)), (7, .int v7), (8, .int v8), (9, .int (nI sm)), (10, .int (nI (x + 1)))]) hX dX6_cut_190 (by decide) 10 rfl (nI_add x 1) rfl ?_
                                  refine g_goto (tgt := 105) hX dX6_cut_193 (by decide) ?_
                                  exact ih105 v7 v8 (x + 1) J (by first | assumption | omega) (by first | exact cut_hit (w := nI x) hU hH (by omega) hs2 (hmin x (sm - x) (by omega) (by omega) ((met_all hx).mp h162)) (by omega) | exact cut_mis hU hV hs2 (by omega) (by omega) | exact cut_mis2 (M := fun x y => allM (brF (I 311) (cuA (I 315) a b (-((x : Nat) : Int)) (-((y : Nat) : Int))) T) (I 311) S E) hm hU hH (by omega) hs2 (fun q => h162 ((met_all hx).mpr q)) (by decide)) (by first | exact hJ | (obtain ⟨u, v, rfl⟩ := hJ; exact ⟨_, _, cu_over hab⟩)) (by omega)
                                · refine g_iload hX dX6_cut_126 9 rfl ?_
                                  refine g_iload hX dX6_cut_128 10 rfl ?_
                                  refine g_isub (v := nI (sm - x)) hX dX6_cut_130 (nI_sub (show x ≤ sm by omega)) ?_
                                  refine g_iload hX dX6_cut_131 6 rfl ?_
                                  refine g_ci_gt (a := ((sm - x : Nat) : Int)) (b := ((K : Nat) : Int)) (tgt := 190) hX dX6_cut_133 (by decide) (nI_toInt (by omega)) (nI_toInt (by omega)) (fun h133 => ?_) (fun h133 => ?_)
                                  · refine g_iinc (v := nI (x + 1)) (L' := [(0, .ref 307), (1, .int E), (2, .int (nI a)), (3, .int (nI b)), (4, .int (nI 0)), (5, .int (nI H)), (6, .int (nI K)), (7, .int v7), (8, .int v8), (9, .int (nI sm)), (10, .int (nI (x + 1)))]) hX dX6_cut_190 (by decide) 10 rfl (nI_add x 1) rfl ?_
                                    refine g_goto (tgt := 105) hX dX6_cut_193 (by decide) ?_
                                    exact ih105 v7 v8 (x + 1) J (by first | assumption | omega) (by first | exact cut_hit (w := nI x) hU hH (by omega) hs2 (hmin x (sm - x) (by omega) (by omega) ((met_all hx).mp h162)) (by omega) | exact cut_mis hU hV hs2 (by omega) (by omega) | exact cut_mis2 (M := fun x y => allM (brF (I 311) (cuA (I 315) a b (-((x : Nat) : Int)) (-((y : Nat) : Int))) T) (I 311) S E) hm hU hH (by omega) hs2 (fun q => h162 ((met_all hx).mpr q)) (by decide)) (by first | exact hJ | (obtain ⟨u, v, rfl⟩ := hJ; exact ⟨_, _, cu_over hab⟩)) (by omega)
                                  · refine g_aload_n hX dX6_cut_136 rfl 0 rfl ?_
                                    refine g_getR (j := 315) hX (by decide) (by decide) xCl6 20 (by decide) (by decide) kX6_31 dX6_cut_137 rfl ?_
                                    refine g_iload_n hX dX6_cut_140 rfl 2 rfl ?_
                                    refine g_iload hX dX6_cut_141 10 rfl ?_
                                    refine g_ineg (v := zI (-((x : Nat) : Int))) hX dX6_cut_143 (zI_neg ((x : Nat) : Int)) ?_
                                    refine g_iast hX (by decide) (by decide) a rfl (by rw [(show xN 315 = 7 by decide)]; omega) dX6_cut_144 ?_
                                    refine g_aload_n hX dX6_cut_145 rfl 0 rfl ?_
                                    refine g_getR (j := 315) hX (by decide) (by decide) xCl6 20 (by decide) (by decide) kX6_31 dX6_cut_146 rfl ?_
                                    refine g_iload_n hX dX6_cut_149 rfl 3 rfl ?_
                                    refine g_iload hX dX6_cut_150 10 rfl ?_
                                    refine g_iload hX dX6_cut_152 9 rfl ?_
                                    refine g_isub (v := zI (((x : Nat) : Int) - ((sm : Nat) : Int))) hX dX6_cut_154 (zI_sub (((x : Nat) : Int)) (((sm : Nat) : Int))) ?_
                                    refine g_iast hX (by decide) (by decide) b rfl (by rw [(show xN 315 = 7 by decide)]; omega) dX6_cut_155 ?_
                                    refine g_aload_n hX dX6_cut_156 rfl 0 rfl ?_
                                    refine g_iload_n hX dX6_cut_157 rfl 1 rfl ?_
                                    refine g_callVi hX (as := [.int E]) (fun l => c_X6_metBy l (I := (xput (xput J 315 a (zI (-((x : Nat) : Int)))) 315 b (zI (((x : Nat) : Int) - ((sm : Nat) : Int))))) (T := T) (S := S) (x := E) (hT := (by obtain ⟨u, v, rfl⟩ := hJ; exact hT)) (hT6 := (by first | assumption | omega)) (hS := (by obtain ⟨u, v, rfl⟩ := hJ; exact hS)) (hS6 := (by first | assumption | omega)) (hth := (by obtain ⟨u, v, rfl⟩ := hJ; exact hth))) mX6_metBy vX6_metBy lX6_256 (by decide) (by decide) xCl6 rfl rfl dX6_cut_158 rfl (by decide) (Nat.le_of_ble_eq_true rfl) (by decide) (by decide) ?_
                                    refine g_top (y := bitsI (fun e => inP E e ∧ mtP (brF (I 311) (cuA (I 315) a b (-((x : Nat) : Int)) (-((sm - x : Nat) : Int))) T) (I 311) S (nI e)) 31) (by obtain ⟨u, v, rfl⟩ := hJ; rw [cu_over hab, show zI (((x : Nat) : Int) - ((sm : Nat) : Int)) = zI (-((sm - x : Nat) : Int)) by congr 1; omega]; rfl) ?_
                                    refine g_iload_n hX dX6_cut_161 rfl 1 rfl ?_
                                    refine g_ci_ne (a := (bitsI (fun e => inP E e ∧ mtP (brF (I 311) (cuA (I 315) a b (-((x : Nat) : Int)) (-((sm - x : Nat) : Int))) T) (I 311) S (nI e)) 31).toInt) (b := E.toInt) (tgt := 170) hX dX6_cut_162 (by decide) rfl rfl (fun h162 => ?_) (fun h162 => ?_)
                                    · refine g_ldc (v := -1000000) hX cX6_80 dX6_cut_170 ?_
                                      refine g_istore (L' := [(0, .ref 307), (1, .int E), (2, .int (nI a)), (3, .int (nI b)), (4, .int (nI 0)), (5, .int (nI H)), (6, .int (nI K)), (7, .int (-1000000)), (8, .int v8), (9, .int (nI sm)), (10, .int (nI x))]) hX dX6_cut_172 (by decide) rfl ?_
                                      refine g_iload hX dX6_cut_174 7 rfl ?_
                                      refine g_ldc (v := -1000000) hX cX6_80 dX6_cut_176 ?_
                                      refine g_ci_ne (a := (-1000000 : Int)) (b := (-1000000 : Int)) (tgt := 186) hX dX6_cut_178 (by decide) (by decide) (by decide) (fun q => absurd q (by decide)) (fun _ => ?_)
                                      refine g_ldc (v := -1000000) hX cX6_80 dX6_cut_181 ?_
                                      refine g_goto (tgt := 188) hX dX6_cut_183 (by decide) ?_
                                      refine g_istore (L' := [(0, .ref 307), (1, .int E), (2, .int (nI a)), (3, .int (nI b)), (4, .int (nI 0)), (5, .int (nI H)), (6, .int (nI K)), (7, .int (-1000000)), (8, .int (-1000000)), (9, .int (nI sm)), (10, .int (nI x))]) hX dX6_cut_188 (by decide) rfl ?_
                                      refine g_iinc (v := nI (x + 1)) (L' := [(0, .ref 307), (1, .int E), (2, .int (nI a)), (3, .int (nI b)), (4, .int (nI 0)), (5, .int (nI H)), (6, .int (nI K)), (7, .int (-1000000)), (8, .int (-1000000)), (9, .int (nI sm)), (10, .int (nI (x + 1)))]) hX dX6_cut_190 (by decide) 10 rfl (nI_add x 1) rfl ?_
                                      refine g_goto (tgt := 105) hX dX6_cut_193 (by decide) ?_
                                      exact ih105 (-1000000) (-1000000) (x + 1) (xput (xput J 315 a (zI (-((x : Nat) : Int)))) 315 b (zI (((x : Nat) : Int) - ((sm : Nat) : Int)))) (by first | assumption | omega) (by first | exact cut_hit (w := nI x) hU hH (by omega) hs2 (hmin x (sm - x) (by omega) (by omega) ((met_all hx).mp h162)) (by omega) | exact cut_mis hU hV hs2 (by omega) (by omega) | exact cut_mis2 (M := fun x y => allM (brF (I 311) (cuA (I 315) a b (-((x : Nat) : Int)) (-((y : Nat) : Int))) T) (I 311) S E) hm hU hH (by omega) hs2 (fun q => h162 ((met_all hx).mpr q)) (by decide)) (by first | exact hJ | (obtain ⟨u, v, rfl⟩ := hJ; exact ⟨_, _, cu_over hab⟩)) (by omega)
                                    · refine g_iload hX dX6_cut_165 10 rfl ?_
                                      refine g_goto (tgt := 172) hX dX6_cut_167 (by decide) ?_
                                      refine g_istore (L' := [(0, .ref 307), (1, .int E), (2, .int (nI a)), (3, .int (nI b)), (4, .int (nI 0)), (5, .int (nI H)), (6, .int (nI K)), (7, .int (nI x)), (8, .int v8), (9, .int (nI sm)), (10, .int (nI x))]) hX dX6_cut_172 (by decide) rfl ?_
                                      refine g_iload hX dX6_cut_174 7 rfl ?_
                                      refine g_ldc (v := -1000000) hX cX6_80 dX6_cut_176 ?_
                                      refine g_ci_ne (a := ((x : Nat) : Int)) (b := (-1000000 : Int)) (tgt := 186) hX dX6_cut_178 (by decide) (nI_toInt (by omega)) (by decide) (fun _ => ?_) (fun q => absurd q (by omega))
                                      refine g_iload hX dX6_cut_186 9 rfl ?_
                                      refine g_istore (L' := [(0, .ref 307), (1, .int E), (2, .int (nI a)), (3, .int (nI b)), (4, .int (nI 0)), (5, .int (nI H)), (6, .int (nI K)), (7, .int (nI x)), (8, .int (nI sm)), (9, .int (nI sm)), (10, .int (nI x))]) hX dX6_cut_188 (by decide) rfl ?_
                                      refine g_iinc (v := nI (x + 1)) (L' := [(0, .ref 307), (1, .int E), (2, .int (nI a)), (3, .int (nI b)), (4, .int (nI 0)), (5, .int (nI H)), (6, .int (nI K)), (7, .int (nI x)), (8, .int (nI sm)), (9, .int (nI sm)), (10, .int (nI (x + 1)))]) hX dX6_cut_190 (by decide) 10 rfl (nI_add x 1) rfl ?_
                                      refine g_goto (tgt := 105) hX dX6_cut_193 (by decide) ?_
                                      exact ih105 (nI x) (nI sm) (x + 1) (xput (xput J 315 a (zI (-((x : Nat) : Int)))) 315 b (zI (((x : Nat) : Int) - ((sm : Nat) : Int)))) (by first | assumption | omega) (by first | exact cut_hit (w := nI x) hU hH (by omega) hs2 (hmin x (sm - x) (by omega) (by omega) ((met_all hx).mp h162)) (by omega) | exact cut_mis hU hV hs2 (by omega) (by omega) | exact cut_mis2 (M := fun x y => allM (brF (I 311) (cuA (I 315) a b (-((x : Nat) : Int)) (-((y : Nat) : Int))) T) (I 311) S E) hm hU hH (by omega) hs2 (fun q => h162 ((met_all hx).mpr q)) (by decide)) (by first | exact hJ | (obtain ⟨u, v, rfl⟩ := hJ; exact ⟨_, _, cu_over hab⟩)) (by omega)
                        exact cut105 _ v7 v8 0 J (by first | assumption | omega) (hs.elim (fun q => Or.inl ⟨q.1, q.2, fun _ => Nat.zero_le _⟩) Or.inr) (by first | assumption | omega) (Nat.lt_succ_self _)
                exact cut85 _ (-1000000) (-1000000) 0 (xput I 307 0 (nI 0)) (by first | assumption | omega) (Or.inl ⟨rfl, Nat.zero_le _⟩) ⟨_, _, ((xput_same rfl).trans (xput_same rfl)).symm⟩ (Nat.lt_succ_self _)
              · exfalso; omega

theorem c_X6_cut_no0 (l : Launch) {nw sp : Nat} {I : xM} {T S a b H K : Nat} {E : Int32} (hT : I 311 0 = nI T) (hT6 : T ≤ 6) (hS : I 311 1 = nI S) (hS6 : S ≤ 6) (hth : thP (I 311) S) (hx : 0 ≤ E.toInt) (ha : a < T) (hb : b < T) (hab : a ≠ b) (hka : (I 311 (26 + 5 * a + 0)).toInt ≠ 3 ∧ (I 311 (26 + 5 * a + 0)).toInt ≠ 5) (hkb : (I 311 (26 + 5 * b + 0)).toInt ≠ 3 ∧ (I 311 (26 + 5 * b + 0)).toInt ≠ 5) (hha : hgF (I 311) (I 315) a = nI H) (hhb : hgF (I 311) (I 315) b = nI K) (hH : H ≤ 99) (hK : K ≤ 99) (hno : ∀ x y : Nat, x ≤ H → y ≤ K → ¬ allM (brF (I 311) (cuA (I 315) a b (-((x : Nat) : Int)) (-((y : Nat) : Int))) T) (I 311) S E) : xC l 8 0 0 yX6_cut cX6_cut 11 (some .int) 319 [.ref 307, .int E, .int (nI a), .int (nI b), .int (nI 0)] I (xRL nw sp) (xpI (-1000000) 319 (xput (xput (xput I 307 0 (nI 0)) 315 a (nI 0)) 315 b (nI 0)) (xRL nw sp)) := by
  refine xC_of (by decide) (Nat.le_of_ble_eq_true rfl) (fun X hXl hX hR => ?_)
  have hX : xOK X RX6 cX6_cut 11 8 0 0 := hX
  show G X 319 0 0 I (xRL nw sp) 0 [(0, .ref 307), (1, .int E), (2, .int (nI a)), (3, .int (nI b)), (4, .int (nI 0))] []
  refine g_aload_n hX dX6_cut_0 rfl 0 rfl ?_
  refine g_iconst (v := nI 0) hX dX6_cut_1 (by decide) ?_
  refine g_putI hX (by decide) (by decide) xCl6 0 (by decide) (by decide) (by decide) kX6_44 dX6_cut_2 rfl rfl ?_
  refine g_iload_n hX dX6_cut_5 rfl 1 rfl ?_
  refine g_cz_lt (a := E.toInt) (tgt := 57) hX dX6_cut_6 (by decide) rfl (fun h6 => ?_) (fun h6 => ?_)
  · exfalso; omega
  · refine g_aload_n hX dX6_cut_9 rfl 0 rfl ?_
    refine g_iload_n hX dX6_cut_10 rfl 2 rfl ?_
    refine g_callVi hX (as := [.int (nI a)]) (fun l => c_X6_isTree l (I := (xput I 307 0 (nI 0))) (T := T) (x := (nI a)) (hT := (by first | assumption | omega)) (hT6 := (by first | assumption | omega))) mX6_isTree vX6_isTree lX6_211 (by decide) (by decide) xCl6 rfl rfl dX6_cut_11 rfl (by decide) (Nat.le_of_ble_eq_true rfl) (by decide) (by decide) ?_
    refine g_top (y := xb (0 ≤ ((a : Nat) : Int) ∧ ((a : Nat) : Int) < T)) (by rw [nI_toInt (n := a) (by omega)]) ?_
    refine g_cb_eq (tgt := 57) hX dX6_cut_14 (by decide) (fun h14 => ?_) (fun h14 => ?_)
    · exfalso; omega
    · refine g_aload_n hX dX6_cut_17 rfl 0 rfl ?_
      refine g_iload_n hX dX6_cut_18 rfl 3 rfl ?_
      refine g_callVi hX (as := [.int (nI b)]) (fun l => c_X6_isTree l (I := (xput I 307 0 (nI 0))) (T := T) (x := (nI b)) (hT := (by first | assumption | omega)) (hT6 := (by first | assumption | omega))) mX6_isTree vX6_isTree lX6_211 (by decide) (by decide) xCl6 rfl rfl dX6_cut_19 rfl (by decide) (Nat.le_of_ble_eq_true rfl) (by decide) (by decide) ?_
      refine g_top (y := xb (0 ≤ ((b : Nat) : Int) ∧ ((b : Nat) : Int) < T)) (by rw [nI_toInt (n := b) (by omega)]) ?_
      refine g_cb_eq (tgt := 57) hX dX6_cut_22 (by decide) (fun h22 => ?_) (fun h22 => ?_)
      · exfalso; omega
      · refine g_iload_n hX dX6_cut_25 rfl 2 rfl ?_
        refine g_iload_n hX dX6_cut_26 rfl 3 rfl ?_
        refine g_ci_eq (a := ((a : Nat) : Int)) (b := ((b : Nat) : Int)) (tgt := 57) hX dX6_cut_27 (by decide) (nI_toInt (by omega)) (nI_toInt (by omega)) (fun h27 => ?_) (fun h27 => ?_)
        · exfalso; omega
        · refine g_aload_n hX dX6_cut_30 rfl 0 rfl ?_
          refine g_iload_n hX dX6_cut_31 rfl 2 rfl ?_
          refine g_callVi hX (as := [.int (nI a)]) (fun l => c_X6_mayBeCut l (I := (xput I 307 0 (nI 0))) (t := a) (ht := (by first | assumption | omega))) mX6_mayBeCut vX6_mayBeCut lX6_214 (by decide) (by decide) xCl6 rfl rfl dX6_cut_32 rfl (by decide) (Nat.le_of_ble_eq_true rfl) (by decide) (by decide) ?_
          refine g_cb_eq (tgt := 57) hX dX6_cut_35 (by decide) (fun h35 => ?_) (fun h35 => ?_)
          · exact absurd hka h35
          · refine g_aload_n hX dX6_cut_38 rfl 0 rfl ?_
            refine g_iload_n hX dX6_cut_39 rfl 3 rfl ?_
            refine g_callVi hX (as := [.int (nI b)]) (fun l => c_X6_mayBeCut l (I := (xput I 307 0 (nI 0))) (t := b) (ht := (by first | assumption | omega))) mX6_mayBeCut vX6_mayBeCut lX6_214 (by decide) (by decide) xCl6 rfl rfl dX6_cut_40 rfl (by decide) (Nat.le_of_ble_eq_true rfl) (by decide) (by decide) ?_
            refine g_cb_eq (tgt := 57) hX dX6_cut_43 (by decide) (fun h43 => ?_) (fun h43 => ?_)
            · exact absurd hkb h43
            · refine g_iload hX dX6_cut_46 4 rfl ?_
              refine g_i2l (v := (nI 0).toInt64) hX dX6_cut_48 rfl ?_
              refine g_lconst (v := 0) hX dX6_cut_49 (by decide) ?_
              refine g_lconst (v := 1) hX dX6_cut_50 (by decide) ?_
              refine g_callSi (as := [.long ((nI 0).toInt64), .long 0, .long 1]) hX (fun l => c_X6_in l) mX6_in sX6_in lX6_54 rfl dX6_cut_51 rfl (by decide) (Nat.le_of_ble_eq_true rfl) (by decide) (by decide) ?_
              refine g_top (y := xb ((0 : Int) ≤ (0 : Int) ∧ (0 : Int) ≤ (1 : Int))) (xb_iffI ((i64_of _).trans (by decide)) (by decide) (by decide)) ?_
              refine g_cb_ne (tgt := 60) hX dX6_cut_54 (by decide) (fun h54 => ?_) (fun h54 => ?_)
              · refine g_aload_n hX dX6_cut_60 rfl 0 rfl ?_
                refine g_iload_n hX dX6_cut_61 rfl 2 rfl ?_
                refine g_callVi hX (as := [.int (nI a)]) (fun l => c_X6_height l (I := (xput I 307 0 (nI 0))) (t := a) (ht := (by first | assumption | omega))) mX6_height vX6_height lX6_202 (by decide) (by decide) xCl6 rfl rfl dX6_cut_62 rfl (by decide) (Nat.le_of_ble_eq_true rfl) (by decide) (by decide) ?_
                refine g_top (y := nI H) hha ?_
                refine g_istore (L' := [(0, .ref 307), (1, .int E), (2, .int (nI a)), (3, .int (nI b)), (4, .int (nI 0)), (5, .int (nI H))]) hX dX6_cut_65 (by decide) rfl ?_
                refine g_aload_n hX dX6_cut_67 rfl 0 rfl ?_
                refine g_iload_n hX dX6_cut_68 rfl 3 rfl ?_
                refine g_callVi hX (as := [.int (nI b)]) (fun l => c_X6_height l (I := (xput I 307 0 (nI 0))) (t := b) (ht := (by first | assumption | omega))) mX6_height vX6_height lX6_202 (by decide) (by decide) xCl6 rfl rfl dX6_cut_69 rfl (by decide) (Nat.le_of_ble_eq_true rfl) (by decide) (by decide) ?_
                refine g_top (y := nI K) hhb ?_
                refine g_istore (L' := [(0, .ref 307), (1, .int E), (2, .int (nI a)), (3, .int (nI b)), (4, .int (nI 0)), (5, .int (nI H)), (6, .int (nI K))]) hX dX6_cut_72 (by decide) rfl ?_
                refine g_ldc (v := -1000000) hX cX6_80 dX6_cut_74 ?_
                refine g_istore (L' := [(0, .ref 307), (1, .int E), (2, .int (nI a)), (3, .int (nI b)), (4, .int (nI 0)), (5, .int (nI H)), (6, .int (nI K)), (7, .int (-1000000))]) hX dX6_cut_76 (by decide) rfl ?_
                refine g_ldc (v := -1000000) hX cX6_80 dX6_cut_78 ?_
                refine g_istore (L' := [(0, .ref 307), (1, .int E), (2, .int (nI a)), (3, .int (nI b)), (4, .int (nI 0)), (5, .int (nI H)), (6, .int (nI K)), (7, .int (-1000000)), (8, .int (-1000000))]) hX dX6_cut_80 (by decide) rfl ?_
                refine g_iconst (v := nI 0) hX dX6_cut_82 (by decide) ?_
                refine g_istore (L' := [(0, .ref 307), (1, .int E), (2, .int (nI a)), (3, .int (nI b)), (4, .int (nI 0)), (5, .int (nI H)), (6, .int (nI K)), (7, .int (-1000000)), (8, .int (-1000000)), (9, .int (nI 0))]) hX dX6_cut_83 (by decide) rfl ?_
                have cut85 : ∀ (fuel : Nat) (v7 v8 : Int32) (sm : Nat) (J : xM) (hsm : sm ≤ 199) (hs : v7.toInt = -1000000 ∧ v8 = -1000000) (hJ : ∃ u v, J = xput (xput (xput I 307 0 (nI 0)) 315 a u) 315 b v), 200 - sm < fuel → G X 319 0 0 J (xRL nw sp) 85 [(0, .ref 307), (1, .int E), (2, .int (nI a)), (3, .int (nI b)), (4, .int (nI 0)), (5, .int (nI H)), (6, .int (nI K)), (7, .int v7), (8, .int v8), (9, .int (nI sm))] [] := by
                  intro fuel
                  induction fuel with
                  | zero => intro v7 v8 sm J hsm hs hJ hfuel; omega
                  | succ fuel ih =>
                    intro v7 v8 sm J hsm hs hJ hfuel
                    refine g_iload hX dX6_cut_85 9 rfl ?_
                    refine g_iload hX dX6_cut_87 5 rfl ?_
                    refine g_iload hX dX6_cut_89 6 rfl ?_
                    refine g_iadd (v := nI (H + K)) hX dX6_cut_91 (nI_add H K) ?_
                    refine g_ci_gt (a := ((sm : Nat) : Int)) (b := ((H + K : Nat) : Int)) (tgt := 202) hX dX6_cut_92 (by decide) (nI_toInt (by omega)) (nI_toInt (by omega)) (fun h92 => ?_) (fun h92 => ?_)
                    · refine g_aload_n hX dX6_cut_202 rfl 0 rfl ?_
                      refine g_getR (j := 315) hX (by decide) (by decide) xCl6 20 (by decide) (by decide) kX6_31 dX6_cut_203 rfl ?_
                      refine g_iload_n hX dX6_cut_206 rfl 2 rfl ?_
                      refine g_iconst (v := nI 0) hX dX6_cut_207 (by decide) ?_
                      refine g_iast hX (by decide) (by decide) a rfl (by rw [(show xN 315 = 7 by decide)]; omega) dX6_cut_208 ?_
                      refine g_aload_n hX dX6_cut_209 rfl 0 rfl ?_
                      refine g_getR (j := 315) hX (by decide) (by decide) xCl6 20 (by decide) (by decide) kX6_31 dX6_cut_210 rfl ?_
                      refine g_iload_n hX dX6_cut_213 rfl 3 rfl ?_
                      refine g_iconst (v := nI 0) hX dX6_cut_214 (by decide) ?_
                      refine g_iast hX (by decide) (by decide) b rfl (by rw [(show xN 315 = 7 by decide)]; omega) dX6_cut_215 ?_
                      refine g_iload hX dX6_cut_216 4 rfl ?_
                      refine g_cz_ne (a := (0 : Int)) (tgt := 226) hX dX6_cut_218 (by decide) (by decide) (fun q => absurd q (by decide)) (fun _ => ?_)
                      refine g_iload hX dX6_cut_221 8 rfl ?_
                      refine g_goto (tgt := 228) hX dX6_cut_223 (by decide) ?_
                      exact g_iret hX hR dX6_cut_228 (by decide) (by decide) ⟨congrArg (fun z => some (Value.int z)) (by exact hs.2), rfl, (by obtain ⟨u, v, rfl⟩ := hJ; exact cu_over hab), rfl⟩
                    · refine g_iload hX dX6_cut_95 7 rfl ?_
                      refine g_ldc (v := -1000000) hX cX6_80 dX6_cut_97 ?_
                      refine g_ci_ne (a := v7.toInt) (b := (-1000000 : Int)) (tgt := 202) hX dX6_cut_99 (by decide) rfl (by decide) (fun h99 => ?_) (fun h99 => ?_)
                      · refine g_aload_n hX dX6_cut_202 rfl 0 rfl ?_
                        refine g_getR (j := 315) hX (by decide) (by decide) xCl6 20 (by decide) (by decide) kX6_31 dX6_cut_203 rfl ?_
                        refine g_iload_n hX dX6_cut_206 rfl 2 rfl ?_
                        refine g_iconst (v := nI 0) hX dX6_cut_207 (by decide) ?_
                        refine g_iast hX (by decide) (by decide) a rfl (by rw [(show xN 315 = 7 by decide)]; omega) dX6_cut_208 ?_
                        refine g_aload_n hX dX6_cut_209 rfl 0 rfl ?_
                        refine g_getR (j := 315) hX (by decide) (by decide) xCl6 20 (by decide) (by decide) kX6_31 dX6_cut_210 rfl ?_
                        refine g_iload_n hX dX6_cut_213 rfl 3 rfl ?_
                        refine g_iconst (v := nI 0) hX dX6_cut_214 (by decide) ?_
                        refine g_iast hX (by decide) (by decide) b rfl (by rw [(show xN 315 = 7 by decide)]; omega) dX6_cut_215 ?_
                        refine g_iload hX dX6_cut_216 4 rfl ?_
                        refine g_cz_ne (a := (0 : Int)) (tgt := 226) hX dX6_cut_218 (by decide) (by decide) (fun q => absurd q (by decide)) (fun _ => ?_)
                        refine g_iload hX dX6_cut_221 8 rfl ?_
                        refine g_goto (tgt := 228) hX dX6_cut_223 (by decide) ?_
                        exact g_iret hX hR dX6_cut_228 (by decide) (by decide) ⟨congrArg (fun z => some (Value.int z)) (by exact hs.2), rfl, (by obtain ⟨u, v, rfl⟩ := hJ; exact cu_over hab), rfl⟩
                      · refine g_iconst (v := nI 0) hX dX6_cut_102 (by decide) ?_
                        refine g_istore (L' := [(0, .ref 307), (1, .int E), (2, .int (nI a)), (3, .int (nI b)), (4, .int (nI 0)), (5, .int (nI H)), (6, .int (nI K)), (7, .int v7), (8, .int v8), (9, .int (nI sm)), (10, .int (nI 0))]) hX dX6_cut_103 (by decide) rfl ?_
                        have cut105 : ∀ (fuel105 : Nat) (v7 v8 : Int32) (x : Nat) (J : xM) (hx2 : x ≤ sm + 1) (hs2 : v7.toInt = -1000000 ∧ v8 = -1000000) (hJ : ∃ u v, J = xput (xput (xput I 307 0 (nI 0)) 315 a u) 315 b v), sm + 2 - x < fuel105 → G X 319 0 0 J (xRL nw sp) 105 [(0, .ref 307), (1, .int E), (2, .int (nI a)), (3, .int (nI b)), (4, .int (nI 0)), (5, .int (nI H)), (6, .int (nI K)), (7, .int v7), (8, .int v8), (9, .int (nI sm)), (10, .int (nI x))] [] := by
                          intro fuel105
                          induction fuel105 with
                          | zero => intro v7 v8 x J hx2 hs2 hJ hfuel105; omega
                          | succ fuel105 ih105 =>
                            intro v7 v8 x J hx2 hs2 hJ hfuel105
                            refine g_iload hX dX6_cut_105 10 rfl ?_
                            refine g_iload hX dX6_cut_107 9 rfl ?_
                            refine g_ci_gt (a := ((x : Nat) : Int)) (b := ((sm : Nat) : Int)) (tgt := 196) hX dX6_cut_109 (by decide) (nI_toInt (by omega)) (nI_toInt (by omega)) (fun h109 => ?_) (fun h109 => ?_)
                            · refine g_iinc (v := nI (sm + 1)) (L' := [(0, .ref 307), (1, .int E), (2, .int (nI a)), (3, .int (nI b)), (4, .int (nI 0)), (5, .int (nI H)), (6, .int (nI K)), (7, .int v7), (8, .int v8), (9, .int (nI (sm + 1))), (10, .int (nI x))]) hX dX6_cut_196 (by decide) 9 rfl (nI_add sm 1) rfl ?_
                              refine g_goto (tgt := 85) hX dX6_cut_199 (by decide) ?_
                              refine g_loc [0, 1, 2, 3, 4, 5, 6, 7, 8, 9] rfl ?_
                              exact ih v7 v8 (sm + 1) J (by first | assumption | omega) hs2 (by first | assumption | omega) (by omega)
                            · refine g_iload hX dX6_cut_112 7 rfl ?_
                              refine g_ldc (v := -1000000) hX cX6_80 dX6_cut_114 ?_
                              refine g_ci_ne (a := v7.toInt) (b := (-1000000 : Int)) (tgt := 196) hX dX6_cut_116 (by decide) rfl (by decide) (fun h116 => ?_) (fun h116 => ?_)
                              · refine g_iinc (v := nI (sm + 1)) (L' := [(0, .ref 307), (1, .int E), (2, .int (nI a)), (3, .int (nI b)), (4, .int (nI 0)), (5, .int (nI H)), (6, .int (nI K)), (7, .int v7), (8, .int v8), (9, .int (nI (sm + 1))), (10, .int (nI x))]) hX dX6_cut_196 (by decide) 9 rfl (nI_add sm 1) rfl ?_
                                refine g_goto (tgt := 85) hX dX6_cut_199 (by decide) ?_
                                refine g_loc [0, 1, 2, 3, 4, 5, 6, 7, 8, 9] rfl ?_
                                exact ih v7 v8 (sm + 1) J (by first | assumption | omega) hs2 (by first | assumption | omega) (by omega)
                              · refine g_iload hX dX6_cut_119 10 rfl ?_
                                refine g_iload hX dX6_cut_121 5 rfl ?_
                                refine g_ci_gt (a := ((x : Nat) : Int)) (b := ((H : Nat) : Int)) (tgt := 190) hX dX6_cut_123 (by decide) (nI_toInt (by omega)) (nI_toInt (by omega)) (fun h123 => ?_) (fun h123 => ?_)
                                · refine g_iinc (v := nI (x + 1)) (L' := [(0, .ref 307), (1, .int E), (2, .int (nI a)), (3, .int (nI b)), (4, .int (nI 0)), (5, .int (nI H)), (6, .int (nI K)), (7, .int v7), (8, .int v8), (9, .int (nI sm)), (10, .int (nI (x + 1)))]) hX dX6_cut_190 (by decide) 10 rfl (nI_add x 1) rfl ?_
                                  refine g_goto (tgt := 105) hX dX6_cut_193 (by decide) ?_
                                  exact ih105 v7 v8 (x + 1) J (by first | assumption | omega) (by first | exact hs2 | exact ⟨rfl, rfl⟩) (by first | exact hJ | (obtain ⟨u, v, rfl⟩ := hJ; exact ⟨_, _, cu_over hab⟩)) (by omega)
                                · refine g_iload hX dX6_cut_126 9 rfl ?_
                                  refine g_iload hX dX6_cut_128 10 rfl ?_
                                  refine g_isub (v := nI (sm - x)) hX dX6_cut_130 (nI_sub (show x ≤ sm by omega)) ?_
                                  refine g_iload hX dX6_cut_131 6 rfl ?_
                                  refine g_ci_gt (a := ((sm - x : Nat) : Int)) (b := ((K : Nat) : Int)) (tgt := 190) hX dX6_cut_133 (by decide) (nI_toInt (by omega)) (nI_toInt (by omega)) (fun h133 => ?_) (fun h133 => ?_)
                                  · refine g_iinc (v := nI (x + 1)) (L' := [(0, .ref 307), (1, .int E), (2, .int (nI a)), (3, .int (nI b)), (4, .int (nI 0)), (5, .int (nI H)), (6, .int (nI K)), (7, .int v7), (8, .int v8), (9, .int (nI sm)), (10, .int (nI (x + 1)))]) hX dX6_cut_190 (by decide) 10 rfl (nI_add x 1) rfl ?_
                                    refine g_goto (tgt := 105) hX dX6_cut_193 (by decide) ?_
                                    exact ih105 v7 v8 (x + 1) J (by first | assumption | omega) (by first | exact hs2 | exact ⟨rfl, rfl⟩) (by first | exact hJ | (obtain ⟨u, v, rfl⟩ := hJ; exact ⟨_, _, cu_over hab⟩)) (by omega)
                                  · refine g_aload_n hX dX6_cut_136 rfl 0 rfl ?_
                                    refine g_getR (j := 315) hX (by decide) (by decide) xCl6 20 (by decide) (by decide) kX6_31 dX6_cut_137 rfl ?_
                                    refine g_iload_n hX dX6_cut_140 rfl 2 rfl ?_
                                    refine g_iload hX dX6_cut_141 10 rfl ?_
                                    refine g_ineg (v := zI (-((x : Nat) : Int))) hX dX6_cut_143 (zI_neg ((x : Nat) : Int)) ?_
                                    refine g_iast hX (by decide) (by decide) a rfl (by rw [(show xN 315 = 7 by decide)]; omega) dX6_cut_144 ?_
                                    refine g_aload_n hX dX6_cut_145 rfl 0 rfl ?_
                                    refine g_getR (j := 315) hX (by decide) (by decide) xCl6 20 (by decide) (by decide) kX6_31 dX6_cut_146 rfl ?_
                                    refine g_iload_n hX dX6_cut_149 rfl 3 rfl ?_
                                    refine g_iload hX dX6_cut_150 10 rfl ?_
                                    refine g_iload hX dX6_cut_152 9 rfl ?_
                                    refine g_isub (v := zI (((x : Nat) : Int) - ((sm : Nat) : Int))) hX dX6_cut_154 (zI_sub (((x : Nat) : Int)) (((sm : Nat) : Int))) ?_
                                    refine g_iast hX (by decide) (by decide) b rfl (by rw [(show xN 315 = 7 by decide)]; omega) dX6_cut_155 ?_
                                    refine g_aload_n hX dX6_cut_156 rfl 0 rfl ?_
                                    refine g_iload_n hX dX6_cut_157 rfl 1 rfl ?_
                                    refine g_callVi hX (as := [.int E]) (fun l => c_X6_metBy l (I := (xput (xput J 315 a (zI (-((x : Nat) : Int)))) 315 b (zI (((x : Nat) : Int) - ((sm : Nat) : Int))))) (T := T) (S := S) (x := E) (hT := (by obtain ⟨u, v, rfl⟩ := hJ; exact hT)) (hT6 := (by first | assumption | omega)) (hS := (by obtain ⟨u, v, rfl⟩ := hJ; exact hS)) (hS6 := (by first | assumption | omega)) (hth := (by obtain ⟨u, v, rfl⟩ := hJ; exact hth))) mX6_metBy vX6_metBy lX6_256 (by decide) (by decide) xCl6 rfl rfl dX6_cut_158 rfl (by decide) (Nat.le_of_ble_eq_true rfl) (by decide) (by decide) ?_
                                    refine g_top (y := bitsI (fun e => inP E e ∧ mtP (brF (I 311) (cuA (I 315) a b (-((x : Nat) : Int)) (-((sm - x : Nat) : Int))) T) (I 311) S (nI e)) 31) (by obtain ⟨u, v, rfl⟩ := hJ; rw [cu_over hab, show zI (((x : Nat) : Int) - ((sm : Nat) : Int)) = zI (-((sm - x : Nat) : Int)) by congr 1; omega]; rfl) ?_
                                    refine g_iload_n hX dX6_cut_161 rfl 1 rfl ?_
                                    refine g_ci_ne (a := (bitsI (fun e => inP E e ∧ mtP (brF (I 311) (cuA (I 315) a b (-((x : Nat) : Int)) (-((sm - x : Nat) : Int))) T) (I 311) S (nI e)) 31).toInt) (b := E.toInt) (tgt := 170) hX dX6_cut_162 (by decide) rfl rfl (fun h162 => ?_) (fun h162 => ?_)
                                    · refine g_ldc (v := -1000000) hX cX6_80 dX6_cut_170 ?_
                                      refine g_istore (L' := [(0, .ref 307), (1, .int E), (2, .int (nI a)), (3, .int (nI b)), (4, .int (nI 0)), (5, .int (nI H)), (6, .int (nI K)), (7, .int (-1000000)), (8, .int v8), (9, .int (nI sm)), (10, .int (nI x))]) hX dX6_cut_172 (by decide) rfl ?_
                                      refine g_iload hX dX6_cut_174 7 rfl ?_
                                      refine g_ldc (v := -1000000) hX cX6_80 dX6_cut_176 ?_
                                      refine g_ci_ne (a := (-1000000 : Int)) (b := (-1000000 : Int)) (tgt := 186) hX dX6_cut_178 (by decide) (by decide) (by decide) (fun q => absurd q (by decide)) (fun _ => ?_)
                                      refine g_ldc (v := -1000000) hX cX6_80 dX6_cut_181 ?_
                                      refine g_goto (tgt := 188) hX dX6_cut_183 (by decide) ?_
                                      refine g_istore (L' := [(0, .ref 307), (1, .int E), (2, .int (nI a)), (3, .int (nI b)), (4, .int (nI 0)), (5, .int (nI H)), (6, .int (nI K)), (7, .int (-1000000)), (8, .int (-1000000)), (9, .int (nI sm)), (10, .int (nI x))]) hX dX6_cut_188 (by decide) rfl ?_
                                      refine g_iinc (v := nI (x + 1)) (L' := [(0, .ref 307), (1, .int E), (2, .int (nI a)), (3, .int (nI b)), (4, .int (nI 0)), (5, .int (nI H)), (6, .int (nI K)), (7, .int (-1000000)), (8, .int (-1000000)), (9, .int (nI sm)), (10, .int (nI (x + 1)))]) hX dX6_cut_190 (by decide) 10 rfl (nI_add x 1) rfl ?_
                                      refine g_goto (tgt := 105) hX dX6_cut_193 (by decide) ?_
                                      exact ih105 (-1000000) (-1000000) (x + 1) (xput (xput J 315 a (zI (-((x : Nat) : Int)))) 315 b (zI (((x : Nat) : Int) - ((sm : Nat) : Int)))) (by first | assumption | omega) (by first | exact hs2 | exact ⟨rfl, rfl⟩) (by first | exact hJ | (obtain ⟨u, v, rfl⟩ := hJ; exact ⟨_, _, cu_over hab⟩)) (by omega)
                                    · exact absurd ((met_all hx).mp h162) (hno x (sm - x) (by omega) (by omega))
                        exact cut105 _ v7 v8 0 J (by first | assumption | omega) hs (by first | assumption | omega) (Nat.lt_succ_self _)
                exact cut85 _ (-1000000) (-1000000) 0 (xput I 307 0 (nI 0)) (by first | assumption | omega) ⟨rfl, rfl⟩ ⟨_, _, ((xput_same rfl).trans (xput_same rfl)).symm⟩ (Nat.lt_succ_self _)
              · exfalso; omega

theorem c_X6_cut_ok1 (l : Launch) {nw sp : Nat} {I : xM} {T S a b H K U V : Nat} {E : Int32} (hT : I 311 0 = nI T) (hT6 : T ≤ 6) (hS : I 311 1 = nI S) (hS6 : S ≤ 6) (hth : thP (I 311) S) (hx : 0 ≤ E.toInt) (ha : a < T) (hb : b < T) (hab : a ≠ b) (hka : (I 311 (26 + 5 * a + 0)).toInt ≠ 3 ∧ (I 311 (26 + 5 * a + 0)).toInt ≠ 5) (hkb : (I 311 (26 + 5 * b + 0)).toInt ≠ 3 ∧ (I 311 (26 + 5 * b + 0)).toInt ≠ 5) (hha : hgF (I 311) (I 315) a = nI H) (hhb : hgF (I 311) (I 315) b = nI K) (hH : H ≤ 99) (hK : K ≤ 99) (hU : U ≤ H) (hV : V ≤ K) (hm : allM (brF (I 311) (cuA (I 315) a b (-((U : Nat) : Int)) (-((V : Nat) : Int))) T) (I 311) S E) (hmin : ∀ x y : Nat, x ≤ H → y ≤ K → allM (brF (I 311) (cuA (I 315) a b (-((x : Nat) : Int)) (-((y : Nat) : Int))) T) (I 311) S E → U ≤ x ∧ V ≤ y) : xC l 8 0 0 yX6_cut cX6_cut 11 (some .int) 319 [.ref 307, .int E, .int (nI a), .int (nI b), .int (nI 1)] I (xRL nw sp) (xpI (nI U) 319 (xput (xput (xput I 307 0 (nI 0)) 315 a (nI 0)) 315 b (nI 0)) (xRL nw sp)) := by
  refine xC_of (by decide) (Nat.le_of_ble_eq_true rfl) (fun X hXl hX hR => ?_)
  have hX : xOK X RX6 cX6_cut 11 8 0 0 := hX
  show G X 319 0 0 I (xRL nw sp) 0 [(0, .ref 307), (1, .int E), (2, .int (nI a)), (3, .int (nI b)), (4, .int (nI 1))] []
  refine g_aload_n hX dX6_cut_0 rfl 0 rfl ?_
  refine g_iconst (v := nI 0) hX dX6_cut_1 (by decide) ?_
  refine g_putI hX (by decide) (by decide) xCl6 0 (by decide) (by decide) (by decide) kX6_44 dX6_cut_2 rfl rfl ?_
  refine g_iload_n hX dX6_cut_5 rfl 1 rfl ?_
  refine g_cz_lt (a := E.toInt) (tgt := 57) hX dX6_cut_6 (by decide) rfl (fun h6 => ?_) (fun h6 => ?_)
  · exfalso; omega
  · refine g_aload_n hX dX6_cut_9 rfl 0 rfl ?_
    refine g_iload_n hX dX6_cut_10 rfl 2 rfl ?_
    refine g_callVi hX (as := [.int (nI a)]) (fun l => c_X6_isTree l (I := (xput I 307 0 (nI 0))) (T := T) (x := (nI a)) (hT := (by first | assumption | omega)) (hT6 := (by first | assumption | omega))) mX6_isTree vX6_isTree lX6_211 (by decide) (by decide) xCl6 rfl rfl dX6_cut_11 rfl (by decide) (Nat.le_of_ble_eq_true rfl) (by decide) (by decide) ?_
    refine g_top (y := xb (0 ≤ ((a : Nat) : Int) ∧ ((a : Nat) : Int) < T)) (by rw [nI_toInt (n := a) (by omega)]) ?_
    refine g_cb_eq (tgt := 57) hX dX6_cut_14 (by decide) (fun h14 => ?_) (fun h14 => ?_)
    · exfalso; omega
    · refine g_aload_n hX dX6_cut_17 rfl 0 rfl ?_
      refine g_iload_n hX dX6_cut_18 rfl 3 rfl ?_
      refine g_callVi hX (as := [.int (nI b)]) (fun l => c_X6_isTree l (I := (xput I 307 0 (nI 0))) (T := T) (x := (nI b)) (hT := (by first | assumption | omega)) (hT6 := (by first | assumption | omega))) mX6_isTree vX6_isTree lX6_211 (by decide) (by decide) xCl6 rfl rfl dX6_cut_19 rfl (by decide) (Nat.le_of_ble_eq_true rfl) (by decide) (by decide) ?_
      refine g_top (y := xb (0 ≤ ((b : Nat) : Int) ∧ ((b : Nat) : Int) < T)) (by rw [nI_toInt (n := b) (by omega)]) ?_
      refine g_cb_eq (tgt := 57) hX dX6_cut_22 (by decide) (fun h22 => ?_) (fun h22 => ?_)
      · exfalso; omega
      · refine g_iload_n hX dX6_cut_25 rfl 2 rfl ?_
        refine g_iload_n hX dX6_cut_26 rfl 3 rfl ?_
        refine g_ci_eq (a := ((a : Nat) : Int)) (b := ((b : Nat) : Int)) (tgt := 57) hX dX6_cut_27 (by decide) (nI_toInt (by omega)) (nI_toInt (by omega)) (fun h27 => ?_) (fun h27 => ?_)
        · exfalso; omega
        · refine g_aload_n hX dX6_cut_30 rfl 0 rfl ?_
          refine g_iload_n hX dX6_cut_31 rfl 2 rfl ?_
          refine g_callVi hX (as := [.int (nI a)]) (fun l => c_X6_mayBeCut l (I := (xput I 307 0 (nI 0))) (t := a) (ht := (by first | assumption | omega))) mX6_mayBeCut vX6_mayBeCut lX6_214 (by decide) (by decide) xCl6 rfl rfl dX6_cut_32 rfl (by decide) (Nat.le_of_ble_eq_true rfl) (by decide) (by decide) ?_
          refine g_cb_eq (tgt := 57) hX dX6_cut_35 (by decide) (fun h35 => ?_) (fun h35 => ?_)
          · exact absurd hka h35
          · refine g_aload_n hX dX6_cut_38 rfl 0 rfl ?_
            refine g_iload_n hX dX6_cut_39 rfl 3 rfl ?_
            refine g_callVi hX (as := [.int (nI b)]) (fun l => c_X6_mayBeCut l (I := (xput I 307 0 (nI 0))) (t := b) (ht := (by first | assumption | omega))) mX6_mayBeCut vX6_mayBeCut lX6_214 (by decide) (by decide) xCl6 rfl rfl dX6_cut_40 rfl (by decide) (Nat.le_of_ble_eq_true rfl) (by decide) (by decide) ?_
            refine g_cb_eq (tgt := 57) hX dX6_cut_43 (by decide) (fun h43 => ?_) (fun h43 => ?_)
            · exact absurd hkb h43
            · refine g_iload hX dX6_cut_46 4 rfl ?_
              refine g_i2l (v := (nI 1).toInt64) hX dX6_cut_48 rfl ?_
              refine g_lconst (v := 0) hX dX6_cut_49 (by decide) ?_
              refine g_lconst (v := 1) hX dX6_cut_50 (by decide) ?_
              refine g_callSi (as := [.long ((nI 1).toInt64), .long 0, .long 1]) hX (fun l => c_X6_in l) mX6_in sX6_in lX6_54 rfl dX6_cut_51 rfl (by decide) (Nat.le_of_ble_eq_true rfl) (by decide) (by decide) ?_
              refine g_top (y := xb ((0 : Int) ≤ (1 : Int) ∧ (1 : Int) ≤ (1 : Int))) (xb_iffI ((i64_of _).trans (by decide)) (by decide) (by decide)) ?_
              refine g_cb_ne (tgt := 60) hX dX6_cut_54 (by decide) (fun h54 => ?_) (fun h54 => ?_)
              · refine g_aload_n hX dX6_cut_60 rfl 0 rfl ?_
                refine g_iload_n hX dX6_cut_61 rfl 2 rfl ?_
                refine g_callVi hX (as := [.int (nI a)]) (fun l => c_X6_height l (I := (xput I 307 0 (nI 0))) (t := a) (ht := (by first | assumption | omega))) mX6_height vX6_height lX6_202 (by decide) (by decide) xCl6 rfl rfl dX6_cut_62 rfl (by decide) (Nat.le_of_ble_eq_true rfl) (by decide) (by decide) ?_
                refine g_top (y := nI H) hha ?_
                refine g_istore (L' := [(0, .ref 307), (1, .int E), (2, .int (nI a)), (3, .int (nI b)), (4, .int (nI 1)), (5, .int (nI H))]) hX dX6_cut_65 (by decide) rfl ?_
                refine g_aload_n hX dX6_cut_67 rfl 0 rfl ?_
                refine g_iload_n hX dX6_cut_68 rfl 3 rfl ?_
                refine g_callVi hX (as := [.int (nI b)]) (fun l => c_X6_height l (I := (xput I 307 0 (nI 0))) (t := b) (ht := (by first | assumption | omega))) mX6_height vX6_height lX6_202 (by decide) (by decide) xCl6 rfl rfl dX6_cut_69 rfl (by decide) (Nat.le_of_ble_eq_true rfl) (by decide) (by decide) ?_
                refine g_top (y := nI K) hhb ?_
                refine g_istore (L' := [(0, .ref 307), (1, .int E), (2, .int (nI a)), (3, .int (nI b)), (4, .int (nI 1)), (5, .int (nI H)), (6, .int (nI K))]) hX dX6_cut_72 (by decide) rfl ?_
                refine g_ldc (v := -1000000) hX cX6_80 dX6_cut_74 ?_
                refine g_istore (L' := [(0, .ref 307), (1, .int E), (2, .int (nI a)), (3, .int (nI b)), (4, .int (nI 1)), (5, .int (nI H)), (6, .int (nI K)), (7, .int (-1000000))]) hX dX6_cut_76 (by decide) rfl ?_
                refine g_ldc (v := -1000000) hX cX6_80 dX6_cut_78 ?_
                refine g_istore (L' := [(0, .ref 307), (1, .int E), (2, .int (nI a)), (3, .int (nI b)), (4, .int (nI 1)), (5, .int (nI H)), (6, .int (nI K)), (7, .int (-1000000)), (8, .int (-1000000))]) hX dX6_cut_80 (by decide) rfl ?_
                refine g_iconst (v := nI 0) hX dX6_cut_82 (by decide) ?_
                refine g_istore (L' := [(0, .ref 307), (1, .int E), (2, .int (nI a)), (3, .int (nI b)), (4, .int (nI 1)), (5, .int (nI H)), (6, .int (nI K)), (7, .int (-1000000)), (8, .int (-1000000)), (9, .int (nI 0))]) hX dX6_cut_83 (by decide) rfl ?_
                have cut85 : ∀ (fuel : Nat) (v7 v8 : Int32) (sm : Nat) (J : xM) (hsm : sm ≤ 199) (hs : (v7.toInt = -1000000 ∧ sm ≤ U + V) ∨ (v7 = nI U ∧ v8 = nI (U + V))) (hJ : ∃ u v, J = xput (xput (xput I 307 0 (nI 0)) 315 a u) 315 b v), 200 - sm < fuel → G X 319 0 0 J (xRL nw sp) 85 [(0, .ref 307), (1, .int E), (2, .int (nI a)), (3, .int (nI b)), (4, .int (nI 1)), (5, .int (nI H)), (6, .int (nI K)), (7, .int v7), (8, .int v8), (9, .int (nI sm))] [] := by
                  intro fuel
                  induction fuel with
                  | zero => intro v7 v8 sm J hsm hs hJ hfuel; omega
                  | succ fuel ih =>
                    intro v7 v8 sm J hsm hs hJ hfuel
                    refine g_iload hX dX6_cut_85 9 rfl ?_
                    refine g_iload hX dX6_cut_87 5 rfl ?_
                    refine g_iload hX dX6_cut_89 6 rfl ?_
                    refine g_iadd (v := nI (H + K)) hX dX6_cut_91 (nI_add H K) ?_
                    refine g_ci_gt (a := ((sm : Nat) : Int)) (b := ((H + K : Nat) : Int)) (tgt := 202) hX dX6_cut_92 (by decide) (nI_toInt (by omega)) (nI_toInt (by omega)) (fun h92 => ?_) (fun h92 => ?_)
                    · refine g_aload_n hX dX6_cut_202 rfl 0 rfl ?_
                      refine g_getR (j := 315) hX (by decide) (by decide) xCl6 20 (by decide) (by decide) kX6_31 dX6_cut_203 rfl ?_
                      refine g_iload_n hX dX6_cut_206 rfl 2 rfl ?_
                      refine g_iconst (v := nI 0) hX dX6_cut_207 (by decide) ?_
                      refine g_iast hX (by decide) (by decide) a rfl (by rw [(show xN 315 = 7 by decide)]; omega) dX6_cut_208 ?_
                      refine g_aload_n hX dX6_cut_209 rfl 0 rfl ?_
                      refine g_getR (j := 315) hX (by decide) (by decide) xCl6 20 (by decide) (by decide) kX6_31 dX6_cut_210 rfl ?_
                      refine g_iload_n hX dX6_cut_213 rfl 3 rfl ?_
                      refine g_iconst (v := nI 0) hX dX6_cut_214 (by decide) ?_
                      refine g_iast hX (by decide) (by decide) b rfl (by rw [(show xN 315 = 7 by decide)]; omega) dX6_cut_215 ?_
                      refine g_iload hX dX6_cut_216 4 rfl ?_
                      refine g_cz_ne (a := (1 : Int)) (tgt := 226) hX dX6_cut_218 (by decide) (by decide) (fun _ => ?_) (fun q => absurd q (by decide))
                      refine g_iload hX dX6_cut_226 7 rfl ?_
                      exact g_iret hX hR dX6_cut_228 (by decide) (by decide) ⟨congrArg (fun z => some (Value.int z)) (by rcases hs with q | q; exfalso; omega; exact q.1), rfl, (by obtain ⟨u, v, rfl⟩ := hJ; exact cu_over hab), rfl⟩
                    · refine g_iload hX dX6_cut_95 7 rfl ?_
                      refine g_ldc (v := -1000000) hX cX6_80 dX6_cut_97 ?_
                      refine g_ci_ne (a := v7.toInt) (b := (-1000000 : Int)) (tgt := 202) hX dX6_cut_99 (by decide) rfl (by decide) (fun h99 => ?_) (fun h99 => ?_)
                      · refine g_aload_n hX dX6_cut_202 rfl 0 rfl ?_
                        refine g_getR (j := 315) hX (by decide) (by decide) xCl6 20 (by decide) (by decide) kX6_31 dX6_cut_203 rfl ?_
                        refine g_iload_n hX dX6_cut_206 rfl 2 rfl ?_
                        refine g_iconst (v := nI 0) hX dX6_cut_207 (by decide) ?_
                        refine g_iast hX (by decide) (by decide) a rfl (by rw [(show xN 315 = 7 by decide)]; omega) dX6_cut_208 ?_
                        refine g_aload_n hX dX6_cut_209 rfl 0 rfl ?_
                        refine g_getR (j := 315) hX (by decide) (by decide) xCl6 20 (by decide) (by decide) kX6_31 dX6_cut_210 rfl ?_
                        refine g_iload_n hX dX6_cut_213 rfl 3 rfl ?_
                        refine g_iconst (v := nI 0) hX dX6_cut_214 (by decide) ?_
                        refine g_iast hX (by decide) (by decide) b rfl (by rw [(show xN 315 = 7 by decide)]; omega) dX6_cut_215 ?_
                        refine g_iload hX dX6_cut_216 4 rfl ?_
                        refine g_cz_ne (a := (1 : Int)) (tgt := 226) hX dX6_cut_218 (by decide) (by decide) (fun _ => ?_) (fun q => absurd q (by decide))
                        refine g_iload hX dX6_cut_226 7 rfl ?_
                        exact g_iret hX hR dX6_cut_228 (by decide) (by decide) ⟨congrArg (fun z => some (Value.int z)) (by rcases hs with q | q; exfalso; omega; exact q.1), rfl, (by obtain ⟨u, v, rfl⟩ := hJ; exact cu_over hab), rfl⟩
                      · refine g_iconst (v := nI 0) hX dX6_cut_102 (by decide) ?_
                        refine g_istore (L' := [(0, .ref 307), (1, .int E), (2, .int (nI a)), (3, .int (nI b)), (4, .int (nI 1)), (5, .int (nI H)), (6, .int (nI K)), (7, .int v7), (8, .int v8), (9, .int (nI sm)), (10, .int (nI 0))]) hX dX6_cut_103 (by decide) rfl ?_
                        have cut105 : ∀ (fuel105 : Nat) (v7 v8 : Int32) (x : Nat) (J : xM) (hx2 : x ≤ sm + 1) (hs2 : (v7.toInt = -1000000 ∧ sm ≤ U + V ∧ (sm = U + V → x ≤ U)) ∨ (v7 = nI U ∧ v8 = nI (U + V))) (hJ : ∃ u v, J = xput (xput (xput I 307 0 (nI 0)) 315 a u) 315 b v), sm + 2 - x < fuel105 → G X 319 0 0 J (xRL nw sp) 105 [(0, .ref 307), (1, .int E), (2, .int (nI a)), (3, .int (nI b)), (4, .int (nI 1)), (5, .int (nI H)), (6, .int (nI K)), (7, .int v7), (8, .int v8), (9, .int (nI sm)), (10, .int (nI x))] [] := by
                          intro fuel105
                          induction fuel105 with
                          | zero => intro v7 v8 x J hx2 hs2 hJ hfuel105; omega
                          | succ fuel105 ih105 =>
                            intro v7 v8 x J hx2 hs2 hJ hfuel105
                            refine g_iload hX dX6_cut_105 10 rfl ?_
                            refine g_iload hX dX6_cut_107 9 rfl ?_
                            refine g_ci_gt (a := ((x : Nat) : Int)) (b := ((sm : Nat) : Int)) (tgt := 196) hX dX6_cut_109 (by decide) (nI_toInt (by omega)) (nI_toInt (by omega)) (fun h109 => ?_) (fun h109 => ?_)
                            · refine g_iinc (v := nI (sm + 1)) (L' := [(0, .ref 307), (1, .int E), (2, .int (nI a)), (3, .int (nI b)), (4, .int (nI 1)), (5, .int (nI H)), (6, .int (nI K)), (7, .int v7), (8, .int v8), (9, .int (nI (sm + 1))), (10, .int (nI x))]) hX dX6_cut_196 (by decide) 9 rfl (nI_add sm 1) rfl ?_
                              refine g_goto (tgt := 85) hX dX6_cut_199 (by decide) ?_
                              refine g_loc [0, 1, 2, 3, 4, 5, 6, 7, 8, 9] rfl ?_
                              exact ih v7 v8 (sm + 1) J (by first | assumption | omega) (hs2.elim (fun q => Or.inl ⟨q.1, by omega⟩) Or.inr) (by first | assumption | omega) (by omega)
                            · refine g_iload hX dX6_cut_112 7 rfl ?_
                              refine g_ldc (v := -1000000) hX cX6_80 dX6_cut_114 ?_
                              refine g_ci_ne (a := v7.toInt) (b := (-1000000 : Int)) (tgt := 196) hX dX6_cut_116 (by decide) rfl (by decide) (fun h116 => ?_) (fun h116 => ?_)
                              · refine g_iinc (v := nI (sm + 1)) (L' := [(0, .ref 307), (1, .int E), (2, .int (nI a)), (3, .int (nI b)), (4, .int (nI 1)), (5, .int (nI H)), (6, .int (nI K)), (7, .int v7), (8, .int v8), (9, .int (nI (sm + 1))), (10, .int (nI x))]) hX dX6_cut_196 (by decide) 9 rfl (nI_add sm 1) rfl ?_
                                refine g_goto (tgt := 85) hX dX6_cut_199 (by decide) ?_
                                refine g_loc [0, 1, 2, 3, 4, 5, 6, 7, 8, 9] rfl ?_
                                exact ih v7 v8 (sm + 1) J (by first | assumption | omega) (hs2.elim (fun q => Or.inl ⟨q.1, by omega⟩) Or.inr) (by first | assumption | omega) (by omega)
                              · refine g_iload hX dX6_cut_119 10 rfl ?_
                                refine g_iload hX dX6_cut_121 5 rfl ?_
                                refine g_ci_gt (a := ((x : Nat) : Int)) (b := ((H : Nat) : Int)) (tgt := 190) hX dX6_cut_123 (by decide) (nI_toInt (by omega)) (nI_toInt (by omega)) (fun h123 => ?_) (fun h123 => ?_)
                                · refine g_iinc (v := nI (x + 1)) (L' := [(0, .ref 307), (1, .int E), (2, .int (nI a)), (3, .int (nI b)), (4, .int (nI 1)), (5, .int (nI H)), (6, .int (nI K)), (7, .int v7), (8, .int v8), (9, .int (nI sm)), (10, .int (nI (x + 1)))]) hX dX6_cut_190 (by decide) 10 rfl (nI_add x 1) rfl ?_
                                  refine g_goto (tgt := 105) hX dX6_cut_193 (by decide) ?_
                                  exact ih105 v7 v8 (x + 1) J (by first | assumption | omega) (by first | exact cut_hit (w := nI x) hU hH (by omega) hs2 (hmin x (sm - x) (by omega) (by omega) ((met_all hx).mp h162)) (by omega) | exact cut_mis hU hV hs2 (by omega) (by omega) | exact cut_mis2 (M := fun x y => allM (brF (I 311) (cuA (I 315) a b (-((x : Nat) : Int)) (-((y : Nat) : Int))) T) (I 311) S E) hm hU hH (by omega) hs2 (fun q => h162 ((met_all hx).mpr q)) (by decide)) (by first | exact hJ | (obtain ⟨u, v, rfl⟩ := hJ; exact ⟨_, _, cu_over hab⟩)) (by omega)
                                · refine g_iload hX dX6_cut_126 9 rfl ?_
                                  refine g_iload hX dX6_cut_128 10 rfl ?_
                                  refine g_isub (v := nI (sm - x)) hX dX6_cut_130 (nI_sub (show x ≤ sm by omega)) ?_
                                  refine g_iload hX dX6_cut_131 6 rfl ?_
                                  refine g_ci_gt (a := ((sm - x : Nat) : Int)) (b := ((K : Nat) : Int)) (tgt := 190) hX dX6_cut_133 (by decide) (nI_toInt (by omega)) (nI_toInt (by omega)) (fun h133 => ?_) (fun h133 => ?_)
                                  · refine g_iinc (v := nI (x + 1)) (L' := [(0, .ref 307), (1, .int E), (2, .int (nI a)), (3, .int (nI b)), (4, .int (nI 1)), (5, .int (nI H)), (6, .int (nI K)), (7, .int v7), (8, .int v8), (9, .int (nI sm)), (10, .int (nI (x + 1)))]) hX dX6_cut_190 (by decide) 10 rfl (nI_add x 1) rfl ?_
                                    refine g_goto (tgt := 105) hX dX6_cut_193 (by decide) ?_
                                    exact ih105 v7 v8 (x + 1) J (by first | assumption | omega) (by first | exact cut_hit (w := nI x) hU hH (by omega) hs2 (hmin x (sm - x) (by omega) (by omega) ((met_all hx).mp h162)) (by omega) | exact cut_mis hU hV hs2 (by omega) (by omega) | exact cut_mis2 (M := fun x y => allM (brF (I 311) (cuA (I 315) a b (-((x : Nat) : Int)) (-((y : Nat) : Int))) T) (I 311) S E) hm hU hH (by omega) hs2 (fun q => h162 ((met_all hx).mpr q)) (by decide)) (by first | exact hJ | (obtain ⟨u, v, rfl⟩ := hJ; exact ⟨_, _, cu_over hab⟩)) (by omega)
                                  · refine g_aload_n hX dX6_cut_136 rfl 0 rfl ?_
                                    refine g_getR (j := 315) hX (by decide) (by decide) xCl6 20 (by decide) (by decide) kX6_31 dX6_cut_137 rfl ?_
                                    refine g_iload_n hX dX6_cut_140 rfl 2 rfl ?_
                                    refine g_iload hX dX6_cut_141 10 rfl ?_
                                    refine g_ineg (v := zI (-((x : Nat) : Int))) hX dX6_cut_143 (zI_neg ((x : Nat) : Int)) ?_
                                    refine g_iast hX (by decide) (by decide) a rfl (by rw [(show xN 315 = 7 by decide)]; omega) dX6_cut_144 ?_
                                    refine g_aload_n hX dX6_cut_145 rfl 0 rfl ?_
                                    refine g_getR (j := 315) hX (by decide) (by decide) xCl6 20 (by decide) (by decide) kX6_31 dX6_cut_146 rfl ?_
                                    refine g_iload_n hX dX6_cut_149 rfl 3 rfl ?_
                                    refine g_iload hX dX6_cut_150 10 rfl ?_
                                    refine g_iload hX dX6_cut_152 9 rfl ?_
                                    refine g_isub (v := zI (((x : Nat) : Int) - ((sm : Nat) : Int))) hX dX6_cut_154 (zI_sub (((x : Nat) : Int)) (((sm : Nat) : Int))) ?_
                                    refine g_iast hX (by decide) (by decide) b rfl (by rw [(show xN 315 = 7 by decide)]; omega) dX6_cut_155 ?_
                                    refine g_aload_n hX dX6_cut_156 rfl 0 rfl ?_
                                    refine g_iload_n hX dX6_cut_157 rfl 1 rfl ?_
                                    refine g_callVi hX (as := [.int E]) (fun l => c_X6_metBy l (I := (xput (xput J 315 a (zI (-((x : Nat) : Int)))) 315 b (zI (((x : Nat) : Int) - ((sm : Nat) : Int))))) (T := T) (S := S) (x := E) (hT := (by obtain ⟨u, v, rfl⟩ := hJ; exact hT)) (hT6 := (by first | assumption | omega)) (hS := (by obtain ⟨u, v, rfl⟩ := hJ; exact hS)) (hS6 := (by first | assumption | omega)) (hth := (by obtain ⟨u, v, rfl⟩ := hJ; exact hth))) mX6_metBy vX6_metBy lX6_256 (by decide) (by decide) xCl6 rfl rfl dX6_cut_158 rfl (by decide) (Nat.le_of_ble_eq_true rfl) (by decide) (by decide) ?_
                                    refine g_top (y := bitsI (fun e => inP E e ∧ mtP (brF (I 311) (cuA (I 315) a b (-((x : Nat) : Int)) (-((sm - x : Nat) : Int))) T) (I 311) S (nI e)) 31) (by obtain ⟨u, v, rfl⟩ := hJ; rw [cu_over hab, show zI (((x : Nat) : Int) - ((sm : Nat) : Int)) = zI (-((sm - x : Nat) : Int)) by congr 1; omega]; rfl) ?_
                                    refine g_iload_n hX dX6_cut_161 rfl 1 rfl ?_
                                    refine g_ci_ne (a := (bitsI (fun e => inP E e ∧ mtP (brF (I 311) (cuA (I 315) a b (-((x : Nat) : Int)) (-((sm - x : Nat) : Int))) T) (I 311) S (nI e)) 31).toInt) (b := E.toInt) (tgt := 170) hX dX6_cut_162 (by decide) rfl rfl (fun h162 => ?_) (fun h162 => ?_)
                                    · refine g_ldc (v := -1000000) hX cX6_80 dX6_cut_170 ?_
                                      refine g_istore (L' := [(0, .ref 307), (1, .int E), (2, .int (nI a)), (3, .int (nI b)), (4, .int (nI 1)), (5, .int (nI H)), (6, .int (nI K)), (7, .int (-1000000)), (8, .int v8), (9, .int (nI sm)), (10, .int (nI x))]) hX dX6_cut_172 (by decide) rfl ?_
                                      refine g_iload hX dX6_cut_174 7 rfl ?_
                                      refine g_ldc (v := -1000000) hX cX6_80 dX6_cut_176 ?_
                                      refine g_ci_ne (a := (-1000000 : Int)) (b := (-1000000 : Int)) (tgt := 186) hX dX6_cut_178 (by decide) (by decide) (by decide) (fun q => absurd q (by decide)) (fun _ => ?_)
                                      refine g_ldc (v := -1000000) hX cX6_80 dX6_cut_181 ?_
                                      refine g_goto (tgt := 188) hX dX6_cut_183 (by decide) ?_
                                      refine g_istore (L' := [(0, .ref 307), (1, .int E), (2, .int (nI a)), (3, .int (nI b)), (4, .int (nI 1)), (5, .int (nI H)), (6, .int (nI K)), (7, .int (-1000000)), (8, .int (-1000000)), (9, .int (nI sm)), (10, .int (nI x))]) hX dX6_cut_188 (by decide) rfl ?_
                                      refine g_iinc (v := nI (x + 1)) (L' := [(0, .ref 307), (1, .int E), (2, .int (nI a)), (3, .int (nI b)), (4, .int (nI 1)), (5, .int (nI H)), (6, .int (nI K)), (7, .int (-1000000)), (8, .int (-1000000)), (9, .int (nI sm)), (10, .int (nI (x + 1)))]) hX dX6_cut_190 (by decide) 10 rfl (nI_add x 1) rfl ?_
                                      refine g_goto (tgt := 105) hX dX6_cut_193 (by decide) ?_
                                      exact ih105 (-1000000) (-1000000) (x + 1) (xput (xput J 315 a (zI (-((x : Nat) : Int)))) 315 b (zI (((x : Nat) : Int) - ((sm : Nat) : Int)))) (by first | assumption | omega) (by first | exact cut_hit (w := nI x) hU hH (by omega) hs2 (hmin x (sm - x) (by omega) (by omega) ((met_all hx).mp h162)) (by omega) | exact cut_mis hU hV hs2 (by omega) (by omega) | exact cut_mis2 (M := fun x y => allM (brF (I 311) (cuA (I 315) a b (-((x : Nat) : Int)) (-((y : Nat) : Int))) T) (I 311) S E) hm hU hH (by omega) hs2 (fun q => h162 ((met_all hx).mpr q)) (by decide)) (by first | exact hJ | (obtain ⟨u, v, rfl⟩ := hJ; exact ⟨_, _, cu_over hab⟩)) (by omega)
                                    · refine g_iload hX dX6_cut_165 10 rfl ?_
                                      refine g_goto (tgt := 172) hX dX6_cut_167 (by decide) ?_
                                      refine g_istore (L' := [(0, .ref 307), (1, .int E), (2, .int (nI a)), (3, .int (nI b)), (4, .int (nI 1)), (5, .int (nI H)), (6, .int (nI K)), (7, .int (nI x)), (8, .int v8), (9, .int (nI sm)), (10, .int (nI x))]) hX dX6_cut_172 (by decide) rfl ?_
                                      refine g_iload hX dX6_cut_174 7 rfl ?_
                                      refine g_ldc (v := -1000000) hX cX6_80 dX6_cut_176 ?_
                                      refine g_ci_ne (a := ((x : Nat) : Int)) (b := (-1000000 : Int)) (tgt := 186) hX dX6_cut_178 (by decide) (nI_toInt (by omega)) (by decide) (fun _ => ?_) (fun q => absurd q (by omega))
                                      refine g_iload hX dX6_cut_186 9 rfl ?_
                                      refine g_istore (L' := [(0, .ref 307), (1, .int E), (2, .int (nI a)), (3, .int (nI b)), (4, .int (nI 1)), (5, .int (nI H)), (6, .int (nI K)), (7, .int (nI x)), (8, .int (nI sm)), (9, .int (nI sm)), (10, .int (nI x))]) hX dX6_cut_188 (by decide) rfl ?_
                                      refine g_iinc (v := nI (x + 1)) (L' := [(0, .ref 307), (1, .int E), (2, .int (nI a)), (3, .int (nI b)), (4, .int (nI 1)), (5, .int (nI H)), (6, .int (nI K)), (7, .int (nI x)), (8, .int (nI sm)), (9, .int (nI sm)), (10, .int (nI (x + 1)))]) hX dX6_cut_190 (by decide) 10 rfl (nI_add x 1) rfl ?_
                                      refine g_goto (tgt := 105) hX dX6_cut_193 (by decide) ?_
                                      exact ih105 (nI x) (nI sm) (x + 1) (xput (xput J 315 a (zI (-((x : Nat) : Int)))) 315 b (zI (((x : Nat) : Int) - ((sm : Nat) : Int)))) (by first | assumption | omega) (by first | exact cut_hit (w := nI x) hU hH (by omega) hs2 (hmin x (sm - x) (by omega) (by omega) ((met_all hx).mp h162)) (by omega) | exact cut_mis hU hV hs2 (by omega) (by omega) | exact cut_mis2 (M := fun x y => allM (brF (I 311) (cuA (I 315) a b (-((x : Nat) : Int)) (-((y : Nat) : Int))) T) (I 311) S E) hm hU hH (by omega) hs2 (fun q => h162 ((met_all hx).mpr q)) (by decide)) (by first | exact hJ | (obtain ⟨u, v, rfl⟩ := hJ; exact ⟨_, _, cu_over hab⟩)) (by omega)
                        exact cut105 _ v7 v8 0 J (by first | assumption | omega) (hs.elim (fun q => Or.inl ⟨q.1, q.2, fun _ => Nat.zero_le _⟩) Or.inr) (by first | assumption | omega) (Nat.lt_succ_self _)
                exact cut85 _ (-1000000) (-1000000) 0 (xput I 307 0 (nI 0)) (by first | assumption | omega) (Or.inl ⟨rfl, Nat.zero_le _⟩) ⟨_, _, ((xput_same rfl).trans (xput_same rfl)).symm⟩ (Nat.lt_succ_self _)
              · exfalso; omega

theorem c_X6_cut_no1 (l : Launch) {nw sp : Nat} {I : xM} {T S a b H K : Nat} {E : Int32} (hT : I 311 0 = nI T) (hT6 : T ≤ 6) (hS : I 311 1 = nI S) (hS6 : S ≤ 6) (hth : thP (I 311) S) (hx : 0 ≤ E.toInt) (ha : a < T) (hb : b < T) (hab : a ≠ b) (hka : (I 311 (26 + 5 * a + 0)).toInt ≠ 3 ∧ (I 311 (26 + 5 * a + 0)).toInt ≠ 5) (hkb : (I 311 (26 + 5 * b + 0)).toInt ≠ 3 ∧ (I 311 (26 + 5 * b + 0)).toInt ≠ 5) (hha : hgF (I 311) (I 315) a = nI H) (hhb : hgF (I 311) (I 315) b = nI K) (hH : H ≤ 99) (hK : K ≤ 99) (hno : ∀ x y : Nat, x ≤ H → y ≤ K → ¬ allM (brF (I 311) (cuA (I 315) a b (-((x : Nat) : Int)) (-((y : Nat) : Int))) T) (I 311) S E) : xC l 8 0 0 yX6_cut cX6_cut 11 (some .int) 319 [.ref 307, .int E, .int (nI a), .int (nI b), .int (nI 1)] I (xRL nw sp) (xpI (-1000000) 319 (xput (xput (xput I 307 0 (nI 0)) 315 a (nI 0)) 315 b (nI 0)) (xRL nw sp)) := by
  refine xC_of (by decide) (Nat.le_of_ble_eq_true rfl) (fun X hXl hX hR => ?_)
  have hX : xOK X RX6 cX6_cut 11 8 0 0 := hX
  show G X 319 0 0 I (xRL nw sp) 0 [(0, .ref 307), (1, .int E), (2, .int (nI a)), (3, .int (nI b)), (4, .int (nI 1))] []
  refine g_aload_n hX dX6_cut_0 rfl 0 rfl ?_
  refine g_iconst (v := nI 0) hX dX6_cut_1 (by decide) ?_
  refine g_putI hX (by decide) (by decide) xCl6 0 (by decide) (by decide) (by decide) kX6_44 dX6_cut_2 rfl rfl ?_
  refine g_iload_n hX dX6_cut_5 rfl 1 rfl ?_
  refine g_cz_lt (a := E.toInt) (tgt := 57) hX dX6_cut_6 (by decide) rfl (fun h6 => ?_) (fun h6 => ?_)
  · exfalso; omega
  · refine g_aload_n hX dX6_cut_9 rfl 0 rfl ?_
    refine g_iload_n hX dX6_cut_10 rfl 2 rfl ?_
    refine g_callVi hX (as := [.int (nI a)]) (fun l => c_X6_isTree l (I := (xput I 307 0 (nI 0))) (T := T) (x := (nI a)) (hT := (by first | assumption | omega)) (hT6 := (by first | assumption | omega))) mX6_isTree vX6_isTree lX6_211 (by decide) (by decide) xCl6 rfl rfl dX6_cut_11 rfl (by decide) (Nat.le_of_ble_eq_true rfl) (by decide) (by decide) ?_
    refine g_top (y := xb (0 ≤ ((a : Nat) : Int) ∧ ((a : Nat) : Int) < T)) (by rw [nI_toInt (n := a) (by omega)]) ?_
    refine g_cb_eq (tgt := 57) hX dX6_cut_14 (by decide) (fun h14 => ?_) (fun h14 => ?_)
    · exfalso; omega
    · refine g_aload_n hX dX6_cut_17 rfl 0 rfl ?_
      refine g_iload_n hX dX6_cut_18 rfl 3 rfl ?_
      refine g_callVi hX (as := [.int (nI b)]) (fun l => c_X6_isTree l (I := (xput I 307 0 (nI 0))) (T := T) (x := (nI b)) (hT := (by first | assumption | omega)) (hT6 := (by first | assumption | omega))) mX6_isTree vX6_isTree lX6_211 (by decide) (by decide) xCl6 rfl rfl dX6_cut_19 rfl (by decide) (Nat.le_of_ble_eq_true rfl) (by decide) (by decide) ?_
      refine g_top (y := xb (0 ≤ ((b : Nat) : Int) ∧ ((b : Nat) : Int) < T)) (by rw [nI_toInt (n := b) (by omega)]) ?_
      refine g_cb_eq (tgt := 57) hX dX6_cut_22 (by decide) (fun h22 => ?_) (fun h22 => ?_)
      · exfalso; omega
      · refine g_iload_n hX dX6_cut_25 rfl 2 rfl ?_
        refine g_iload_n hX dX6_cut_26 rfl 3 rfl ?_
        refine g_ci_eq (a := ((a : Nat) : Int)) (b := ((b : Nat) : Int)) (tgt := 57) hX dX6_cut_27 (by decide) (nI_toInt (by omega)) (nI_toInt (by omega)) (fun h27 => ?_) (fun h27 => ?_)
        · exfalso; omega
        · refine g_aload_n hX dX6_cut_30 rfl 0 rfl ?_
          refine g_iload_n hX dX6_cut_31 rfl 2 rfl ?_
          refine g_callVi hX (as := [.int (nI a)]) (fun l => c_X6_mayBeCut l (I := (xput I 307 0 (nI 0))) (t := a) (ht := (by first | assumption | omega))) mX6_mayBeCut vX6_mayBeCut lX6_214 (by decide) (by decide) xCl6 rfl rfl dX6_cut_32 rfl (by decide) (Nat.le_of_ble_eq_true rfl) (by decide) (by decide) ?_
          refine g_cb_eq (tgt := 57) hX dX6_cut_35 (by decide) (fun h35 => ?_) (fun h35 => ?_)
          · exact absurd hka h35
          · refine g_aload_n hX dX6_cut_38 rfl 0 rfl ?_
            refine g_iload_n hX dX6_cut_39 rfl 3 rfl ?_
            refine g_callVi hX (as := [.int (nI b)]) (fun l => c_X6_mayBeCut l (I := (xput I 307 0 (nI 0))) (t := b) (ht := (by first | assumption | omega))) mX6_mayBeCut vX6_mayBeCut lX6_214 (by decide) (by decide) xCl6 rfl rfl dX6_cut_40 rfl (by decide) (Nat.le_of_ble_eq_true rfl) (by decide) (by decide) ?_
            refine g_cb_eq (tgt := 57) hX dX6_cut_43 (by decide) (fun h43 => ?_) (fun h43 => ?_)
            · exact absurd hkb h43
            · refine g_iload hX dX6_cut_46 4 rfl ?_
              refine g_i2l (v := (nI 1).toInt64) hX dX6_cut_48 rfl ?_
              refine g_lconst (v := 0) hX dX6_cut_49 (by decide) ?_
              refine g_lconst (v := 1) hX dX6_cut_50 (by decide) ?_
              refine g_callSi (as := [.long ((nI 1).toInt64), .long 0, .long 1]) hX (fun l => c_X6_in l) mX6_in sX6_in lX6_54 rfl dX6_cut_51 rfl (by decide) (Nat.le_of_ble_eq_true rfl) (by decide) (by decide) ?_
              refine g_top (y := xb ((0 : Int) ≤ (1 : Int) ∧ (1 : Int) ≤ (1 : Int))) (xb_iffI ((i64_of _).trans (by decide)) (by decide) (by decide)) ?_
              refine g_cb_ne (tgt := 60) hX dX6_cut_54 (by decide) (fun h54 => ?_) (fun h54 => ?_)
              · refine g_aload_n hX dX6_cut_60 rfl 0 rfl ?_
                refine g_iload_n hX dX6_cut_61 rfl 2 rfl ?_
                refine g_callVi hX (as := [.int (nI a)]) (fun l => c_X6_height l (I := (xput I 307 0 (nI 0))) (t := a) (ht := (by first | assumption | omega))) mX6_height vX6_height lX6_202 (by decide) (by decide) xCl6 rfl rfl dX6_cut_62 rfl (by decide) (Nat.le_of_ble_eq_true rfl) (by decide) (by decide) ?_
                refine g_top (y := nI H) hha ?_
                refine g_istore (L' := [(0, .ref 307), (1, .int E), (2, .int (nI a)), (3, .int (nI b)), (4, .int (nI 1)), (5, .int (nI H))]) hX dX6_cut_65 (by decide) rfl ?_
                refine g_aload_n hX dX6_cut_67 rfl 0 rfl ?_
                refine g_iload_n hX dX6_cut_68 rfl 3 rfl ?_
                refine g_callVi hX (as := [.int (nI b)]) (fun l => c_X6_height l (I := (xput I 307 0 (nI 0))) (t := b) (ht := (by first | assumption | omega))) mX6_height vX6_height lX6_202 (by decide) (by decide) xCl6 rfl rfl dX6_cut_69 rfl (by decide) (Nat.le_of_ble_eq_true rfl) (by decide) (by decide) ?_
                refine g_top (y := nI K) hhb ?_
                refine g_istore (L' := [(0, .ref 307), (1, .int E), (2, .int (nI a)), (3, .int (nI b)), (4, .int (nI 1)), (5, .int (nI H)), (6, .int (nI K))]) hX dX6_cut_72 (by decide) rfl ?_
                refine g_ldc (v := -1000000) hX cX6_80 dX6_cut_74 ?_
                refine g_istore (L' := [(0, .ref 307), (1, .int E), (2, .int (nI a)), (3, .int (nI b)), (4, .int (nI 1)), (5, .int (nI H)), (6, .int (nI K)), (7, .int (-1000000))]) hX dX6_cut_76 (by decide) rfl ?_
                refine g_ldc (v := -1000000) hX cX6_80 dX6_cut_78 ?_
                refine g_istore (L' := [(0, .ref 307), (1, .int E), (2, .int (nI a)), (3, .int (nI b)), (4, .int (nI 1)), (5, .int (nI H)), (6, .int (nI K)), (7, .int (-1000000)), (8, .int (-1000000))]) hX dX6_cut_80 (by decide) rfl ?_
                refine g_iconst (v := nI 0) hX dX6_cut_82 (by decide) ?_
                refine g_istore (L' := [(0, .ref 307), (1, .int E), (2, .int (nI a)), (3, .int (nI b)), (4, .int (nI 1)), (5, .int (nI H)), (6, .int (nI K)), (7, .int (-1000000)), (8, .int (-1000000)), (9, .int (nI 0))]) hX dX6_cut_83 (by decide) rfl ?_
                have cut85 : ∀ (fuel : Nat) (v7 v8 : Int32) (sm : Nat) (J : xM) (hsm : sm ≤ 199) (hs : v7.toInt = -1000000 ∧ v8 = -1000000) (hJ : ∃ u v, J = xput (xput (xput I 307 0 (nI 0)) 315 a u) 315 b v), 200 - sm < fuel → G X 319 0 0 J (xRL nw sp) 85 [(0, .ref 307), (1, .int E), (2, .int (nI a)), (3, .int (nI b)), (4, .int (nI 1)), (5, .int (nI H)), (6, .int (nI K)), (7, .int v7), (8, .int v8), (9, .int (nI sm))] [] := by
                  intro fuel
                  induction fuel with
                  | zero => intro v7 v8 sm J hsm hs hJ hfuel; omega
                  | succ fuel ih =>
                    intro v7 v8 sm J hsm hs hJ hfuel
                    refine g_iload hX dX6_cut_85 9 rfl ?_
                    refine g_iload hX dX6_cut_87 5 rfl ?_
                    refine g_iload hX dX6_cut_89 6 rfl ?_
                    refine g_iadd (v := nI (H + K)) hX dX6_cut_91 (nI_add H K) ?_
                    refine g_ci_gt (a := ((sm : Nat) : Int)) (b := ((H + K : Nat) : Int)) (tgt := 202) hX dX6_cut_92 (by decide) (nI_toInt (by omega)) (nI_toInt (by omega)) (fun h92 => ?_) (fun h92 => ?_)
                    · refine g_aload_n hX dX6_cut_202 rfl 0 rfl ?_
                      refine g_getR (j := 315) hX (by decide) (by decide) xCl6 20 (by decide) (by decide) kX6_31 dX6_cut_203 rfl ?_
                      refine g_iload_n hX dX6_cut_206 rfl 2 rfl ?_
                      refine g_iconst (v := nI 0) hX dX6_cut_207 (by decide) ?_
                      refine g_iast hX (by decide) (by decide) a rfl (by rw [(show xN 315 = 7 by decide)]; omega) dX6_cut_208 ?_
                      refine g_aload_n hX dX6_cut_209 rfl 0 rfl ?_
                      refine g_getR (j := 315) hX (by decide) (by decide) xCl6 20 (by decide) (by decide) kX6_31 dX6_cut_210 rfl ?_
                      refine g_iload_n hX dX6_cut_213 rfl 3 rfl ?_
                      refine g_iconst (v := nI 0) hX dX6_cut_214 (by decide) ?_
                      refine g_iast hX (by decide) (by decide) b rfl (by rw [(show xN 315 = 7 by decide)]; omega) dX6_cut_215 ?_
                      refine g_iload hX dX6_cut_216 4 rfl ?_
                      refine g_cz_ne (a := (1 : Int)) (tgt := 226) hX dX6_cut_218 (by decide) (by decide) (fun _ => ?_) (fun q => absurd q (by decide))
                      refine g_iload hX dX6_cut_226 7 rfl ?_
                      exact g_iret hX hR dX6_cut_228 (by decide) (by decide) ⟨congrArg (fun z => some (Value.int z)) (by exact toInt_eq.mpr hs.1), rfl, (by obtain ⟨u, v, rfl⟩ := hJ; exact cu_over hab), rfl⟩
                    · refine g_iload hX dX6_cut_95 7 rfl ?_
                      refine g_ldc (v := -1000000) hX cX6_80 dX6_cut_97 ?_
                      refine g_ci_ne (a := v7.toInt) (b := (-1000000 : Int)) (tgt := 202) hX dX6_cut_99 (by decide) rfl (by decide) (fun h99 => ?_) (fun h99 => ?_)
                      · refine g_aload_n hX dX6_cut_202 rfl 0 rfl ?_
                        refine g_getR (j := 315) hX (by decide) (by decide) xCl6 20 (by decide) (by decide) kX6_31 dX6_cut_203 rfl ?_
                        refine g_iload_n hX dX6_cut_206 rfl 2 rfl ?_
                        refine g_iconst (v := nI 0) hX dX6_cut_207 (by decide) ?_
                        refine g_iast hX (by decide) (by decide) a rfl (by rw [(show xN 315 = 7 by decide)]; omega) dX6_cut_208 ?_
                        refine g_aload_n hX dX6_cut_209 rfl 0 rfl ?_
                        refine g_getR (j := 315) hX (by decide) (by decide) xCl6 20 (by decide) (by decide) kX6_31 dX6_cut_210 rfl ?_
                        refine g_iload_n hX dX6_cut_213 rfl 3 rfl ?_
                        refine g_iconst (v := nI 0) hX dX6_cut_214 (by decide) ?_
                        refine g_iast hX (by decide) (by decide) b rfl (by rw [(show xN 315 = 7 by decide)]; omega) dX6_cut_215 ?_
                        refine g_iload hX dX6_cut_216 4 rfl ?_
                        refine g_cz_ne (a := (1 : Int)) (tgt := 226) hX dX6_cut_218 (by decide) (by decide) (fun _ => ?_) (fun q => absurd q (by decide))
                        refine g_iload hX dX6_cut_226 7 rfl ?_
                        exact g_iret hX hR dX6_cut_228 (by decide) (by decide) ⟨congrArg (fun z => some (Value.int z)) (by exact toInt_eq.mpr hs.1), rfl, (by obtain ⟨u, v, rfl⟩ := hJ; exact cu_over hab), rfl⟩
                      · refine g_iconst (v := nI 0) hX dX6_cut_102 (by decide) ?_
                        refine g_istore (L' := [(0, .ref 307), (1, .int E), (2, .int (nI a)), (3, .int (nI b)), (4, .int (nI 1)), (5, .int (nI H)), (6, .int (nI K)), (7, .int v7), (8, .int v8), (9, .int (nI sm)), (10, .int (nI 0))]) hX dX6_cut_103 (by decide) rfl ?_
                        have cut105 : ∀ (fuel105 : Nat) (v7 v8 : Int32) (x : Nat) (J : xM) (hx2 : x ≤ sm + 1) (hs2 : v7.toInt = -1000000 ∧ v8 = -1000000) (hJ : ∃ u v, J = xput (xput (xput I 307 0 (nI 0)) 315 a u) 315 b v), sm + 2 - x < fuel105 → G X 319 0 0 J (xRL nw sp) 105 [(0, .ref 307), (1, .int E), (2, .int (nI a)), (3, .int (nI b)), (4, .int (nI 1)), (5, .int (nI H)), (6, .int (nI K)), (7, .int v7), (8, .int v8), (9, .int (nI sm)), (10, .int (nI x))] [] := by
                          intro fuel105
                          induction fuel105 with
                          | zero => intro v7 v8 x J hx2 hs2 hJ hfuel105; omega
                          | succ fuel105 ih105 =>
                            intro v7 v8 x J hx2 hs2 hJ hfuel105
                            refine g_iload hX dX6_cut_105 10 rfl ?_
                            refine g_iload hX dX6_cut_107 9 rfl ?_
                            refine g_ci_gt (a := ((x : Nat) : Int)) (b := ((sm : Nat) : Int)) (tgt := 196) hX dX6_cut_109 (by decide) (nI_toInt (by omega)) (nI_toInt (by omega)) (fun h109 => ?_) (fun h109 => ?_)
                            · refine g_iinc (v := nI (sm + 1)) (L' := [(0, .ref 307), (1, .int E), (2, .int (nI a)), (3, .int (nI b)), (4, .int (nI 1)), (5, .int (nI H)), (6, .int (nI K)), (7, .int v7), (8, .int v8), (9, .int (nI (sm + 1))), (10, .int (nI x))]) hX dX6_cut_196 (by decide) 9 rfl (nI_add sm 1) rfl ?_
                              refine g_goto (tgt := 85) hX dX6_cut_199 (by decide) ?_
                              refine g_loc [0, 1, 2, 3, 4, 5, 6, 7, 8, 9] rfl ?_
                              exact ih v7 v8 (sm + 1) J (by first | assumption | omega) hs2 (by first | assumption | omega) (by omega)
                            · refine g_iload hX dX6_cut_112 7 rfl ?_
                              refine g_ldc (v := -1000000) hX cX6_80 dX6_cut_114 ?_
                              refine g_ci_ne (a := v7.toInt) (b := (-1000000 : Int)) (tgt := 196) hX dX6_cut_116 (by decide) rfl (by decide) (fun h116 => ?_) (fun h116 => ?_)
                              · refine g_iinc (v := nI (sm + 1)) (L' := [(0, .ref 307), (1, .int E), (2, .int (nI a)), (3, .int (nI b)), (4, .int (nI 1)), (5, .int (nI H)), (6, .int (nI K)), (7, .int v7), (8, .int v8), (9, .int (nI (sm + 1))), (10, .int (nI x))]) hX dX6_cut_196 (by decide) 9 rfl (nI_add sm 1) rfl ?_
                                refine g_goto (tgt := 85) hX dX6_cut_199 (by decide) ?_
                                refine g_loc [0, 1, 2, 3, 4, 5, 6, 7, 8, 9] rfl ?_
                                exact ih v7 v8 (sm + 1) J (by first | assumption | omega) hs2 (by first | assumption | omega) (by omega)
                              · refine g_iload hX dX6_cut_119 10 rfl ?_
                                refine g_iload hX dX6_cut_121 5 rfl ?_
                                refine g_ci_gt (a := ((x : Nat) : Int)) (b := ((H : Nat) : Int)) (tgt := 190) hX dX6_cut_123 (by decide) (nI_toInt (by omega)) (nI_toInt (by omega)) (fun h123 => ?_) (fun h123 => ?_)
                                · refine g_iinc (v := nI (x + 1)) (L' := [(0, .ref 307), (1, .int E), (2, .int (nI a)), (3, .int (nI b)), (4, .int (nI 1)), (5, .int (nI H)), (6, .int (nI K)), (7, .int v7), (8, .int v8), (9, .int (nI sm)), (10, .int (nI (x + 1)))]) hX dX6_cut_190 (by decide) 10 rfl (nI_add x 1) rfl ?_
                                  refine g_goto (tgt := 105) hX dX6_cut_193 (by decide) ?_
                                  exact ih105 v7 v8 (x + 1) J (by first | assumption | omega) (by first | exact hs2 | exact ⟨rfl, rfl⟩) (by first | exact hJ | (obtain ⟨u, v, rfl⟩ := hJ; exact ⟨_, _, cu_over hab⟩)) (by omega)
                                · refine g_iload hX dX6_cut_126 9 rfl ?_
                                  refine g_iload hX dX6_cut_128 10 rfl ?_
                                  refine g_isub (v := nI (sm - x)) hX dX6_cut_130 (nI_sub (show x ≤ sm by omega)) ?_
                                  refine g_iload hX dX6_cut_131 6 rfl ?_
                                  refine g_ci_gt (a := ((sm - x : Nat) : Int)) (b := ((K : Nat) : Int)) (tgt := 190) hX dX6_cut_133 (by decide) (nI_toInt (by omega)) (nI_toInt (by omega)) (fun h133 => ?_) (fun h133 => ?_)
                                  · refine g_iinc (v := nI (x + 1)) (L' := [(0, .ref 307), (1, .int E), (2, .int (nI a)), (3, .int (nI b)), (4, .int (nI 1)), (5, .int (nI H)), (6, .int (nI K)), (7, .int v7), (8, .int v8), (9, .int (nI sm)), (10, .int (nI (x + 1)))]) hX dX6_cut_190 (by decide) 10 rfl (nI_add x 1) rfl ?_
                                    refine g_goto (tgt := 105) hX dX6_cut_193 (by decide) ?_
                                    exact ih105 v7 v8 (x + 1) J (by first | assumption | omega) (by first | exact hs2 | exact ⟨rfl, rfl⟩) (by first | exact hJ | (obtain ⟨u, v, rfl⟩ := hJ; exact ⟨_, _, cu_over hab⟩)) (by omega)
                                  · refine g_aload_n hX dX6_cut_136 rfl 0 rfl ?_
                                    refine g_getR (j := 315) hX (by decide) (by decide) xCl6 20 (by decide) (by decide) kX6_31 dX6_cut_137 rfl ?_
                                    refine g_iload_n hX dX6_cut_140 rfl 2 rfl ?_
                                    refine g_iload hX dX6_cut_141 10 rfl ?_
                                    refine g_ineg (v := zI (-((x : Nat) : Int))) hX dX6_cut_143 (zI_neg ((x : Nat) : Int)) ?_
                                    refine g_iast hX (by decide) (by decide) a rfl (by rw [(show xN 315 = 7 by decide)]; omega) dX6_cut_144 ?_
                                    refine g_aload_n hX dX6_cut_145 rfl 0 rfl ?_
                                    refine g_getR (j := 315) hX (by decide) (by decide) xCl6 20 (by decide) (by decide) kX6_31 dX6_cut_146 rfl ?_
                                    refine g_iload_n hX dX6_cut_149 rfl 3 rfl ?_
                                    refine g_iload hX dX6_cut_150 10 rfl ?_
                                    refine g_iload hX dX6_cut_152 9 rfl ?_
                                    refine g_isub (v := zI (((x : Nat) : Int) - ((sm : Nat) : Int))) hX dX6_cut_154 (zI_sub (((x : Nat) : Int)) (((sm : Nat) : Int))) ?_
                                    refine g_iast hX (by decide) (by decide) b rfl (by rw [(show xN 315 = 7 by decide)]; omega) dX6_cut_155 ?_
                                    refine g_aload_n hX dX6_cut_156 rfl 0 rfl ?_
                                    refine g_iload_n hX dX6_cut_157 rfl 1 rfl ?_
                                    refine g_callVi hX (as := [.int E]) (fun l => c_X6_metBy l (I := (xput (xput J 315 a (zI (-((x : Nat) : Int)))) 315 b (zI (((x : Nat) : Int) - ((sm : Nat) : Int))))) (T := T) (S := S) (x := E) (hT := (by obtain ⟨u, v, rfl⟩ := hJ; exact hT)) (hT6 := (by first | assumption | omega)) (hS := (by obtain ⟨u, v, rfl⟩ := hJ; exact hS)) (hS6 := (by first | assumption | omega)) (hth := (by obtain ⟨u, v, rfl⟩ := hJ; exact hth))) mX6_metBy vX6_metBy lX6_256 (by decide) (by decide) xCl6 rfl rfl dX6_cut_158 rfl (by decide) (Nat.le_of_ble_eq_true rfl) (by decide) (by decide) ?_
                                    refine g_top (y := bitsI (fun e => inP E e ∧ mtP (brF (I 311) (cuA (I 315) a b (-((x : Nat) : Int)) (-((sm - x : Nat) : Int))) T) (I 311) S (nI e)) 31) (by obtain ⟨u, v, rfl⟩ := hJ; rw [cu_over hab, show zI (((x : Nat) : Int) - ((sm : Nat) : Int)) = zI (-((sm - x : Nat) : Int)) by congr 1; omega]; rfl) ?_
                                    refine g_iload_n hX dX6_cut_161 rfl 1 rfl ?_
                                    refine g_ci_ne (a := (bitsI (fun e => inP E e ∧ mtP (brF (I 311) (cuA (I 315) a b (-((x : Nat) : Int)) (-((sm - x : Nat) : Int))) T) (I 311) S (nI e)) 31).toInt) (b := E.toInt) (tgt := 170) hX dX6_cut_162 (by decide) rfl rfl (fun h162 => ?_) (fun h162 => ?_)
                                    · refine g_ldc (v := -1000000) hX cX6_80 dX6_cut_170 ?_
                                      refine g_istore (L' := [(0, .ref 307), (1, .int E), (2, .int (nI a)), (3, .int (nI b)), (4, .int (nI 1)), (5, .int (nI H)), (6, .int (nI K)), (7, .int (-1000000)), (8, .int v8), (9, .int (nI sm)), (10, .int (nI x))]) hX dX6_cut_172 (by decide) rfl ?_
                                      refine g_iload hX dX6_cut_174 7 rfl ?_
                                      refine g_ldc (v := -1000000) hX cX6_80 dX6_cut_176 ?_
                                      refine g_ci_ne (a := (-1000000 : Int)) (b := (-1000000 : Int)) (tgt := 186) hX dX6_cut_178 (by decide) (by decide) (by decide) (fun q => absurd q (by decide)) (fun _ => ?_)
                                      refine g_ldc (v := -1000000) hX cX6_80 dX6_cut_181 ?_
                                      refine g_goto (tgt := 188) hX dX6_cut_183 (by decide) ?_
                                      refine g_istore (L' := [(0, .ref 307), (1, .int E), (2, .int (nI a)), (3, .int (nI b)), (4, .int (nI 1)), (5, .int (nI H)), (6, .int (nI K)), (7, .int (-1000000)), (8, .int (-1000000)), (9, .int (nI sm)), (10, .int (nI x))]) hX dX6_cut_188 (by decide) rfl ?_
                                      refine g_iinc (v := nI (x + 1)) (L' := [(0, .ref 307), (1, .int E), (2, .int (nI a)), (3, .int (nI b)), (4, .int (nI 1)), (5, .int (nI H)), (6, .int (nI K)), (7, .int (-1000000)), (8, .int (-1000000)), (9, .int (nI sm)), (10, .int (nI (x + 1)))]) hX dX6_cut_190 (by decide) 10 rfl (nI_add x 1) rfl ?_
                                      refine g_goto (tgt := 105) hX dX6_cut_193 (by decide) ?_
                                      exact ih105 (-1000000) (-1000000) (x + 1) (xput (xput J 315 a (zI (-((x : Nat) : Int)))) 315 b (zI (((x : Nat) : Int) - ((sm : Nat) : Int)))) (by first | assumption | omega) (by first | exact hs2 | exact ⟨rfl, rfl⟩) (by first | exact hJ | (obtain ⟨u, v, rfl⟩ := hJ; exact ⟨_, _, cu_over hab⟩)) (by omega)
                                    · exact absurd ((met_all hx).mp h162) (hno x (sm - x) (by omega) (by omega))
                        exact cut105 _ v7 v8 0 J (by first | assumption | omega) hs (by first | assumption | omega) (Nat.lt_succ_self _)
                exact cut85 _ (-1000000) (-1000000) 0 (xput I 307 0 (nI 0)) (by first | assumption | omega) ⟨rfl, rfl⟩ ⟨_, _, ((xput_same rfl).trans (xput_same rfl)).symm⟩ (Nat.lt_succ_self _)
              · exfalso; omega

theorem c_X3_leastStop (l : Launch) {nw sp : Nat} {I : xM} {x y c q : Nat} (hc : 1 ≤ c) (hc2 : c ≤ 20) (hq : q ≤ c) (hx : x ≤ 1000) (hy : y ≤ 1000) : xC l 1 0 0 yX3_leastStop cX3_leastStop 4 (some .int) 319 [.int (nI x), .int (nI y), .int (nI c), .int (nI q)] I (xRL nw sp) (xpI (nI ((lnN x y c q + c - 1) / c)) 319 I (xRL nw sp)) := by
  refine xC_of (by decide) (Nat.le_of_ble_eq_true rfl) (fun X hXl hX hR => ?_)
  have hX : xOK X RX3 cX3_leastStop 4 1 0 0 := hX
  show G X 319 0 0 I (xRL nw sp) 0 [(0, .int (nI x)), (1, .int (nI y)), (2, .int (nI c)), (3, .int (nI q))] []
  have hln := lnN_le hx hy hc2 hq
  refine g_iload_n hX dX3_leastStop_0 rfl 2 rfl ?_
  refine g_iconst (v := nI 1) hX dX3_leastStop_1 (by decide) ?_
  refine g_ci_ge (a := ((c : Nat) : Int)) (b := (1 : Int)) (tgt := 7) hX dX3_leastStop_2 (by decide) (nI_toInt (by omega)) (by decide) (fun h2 => ?_) (fun h2 => ?_)
  · refine g_iload_n hX dX3_leastStop_7 rfl 1 rfl ?_
    refine g_iload_n hX dX3_leastStop_8 rfl 0 rfl ?_
    refine g_isub (v := zI (((y : Nat) : Int) - ((x : Nat) : Int))) hX dX3_leastStop_9 (zI_sub (((y : Nat) : Int)) (((x : Nat) : Int))) ?_
    refine g_iload_n hX dX3_leastStop_10 rfl 3 rfl ?_
    refine g_imul (v := zI ((((y : Nat) : Int) - ((x : Nat) : Int)) * ((q : Nat) : Int))) hX dX3_leastStop_11 (zI_mul ((((y : Nat) : Int) - ((x : Nat) : Int))) (((q : Nat) : Int))) ?_
    refine g_iload_n hX dX3_leastStop_12 rfl 0 rfl ?_
    refine g_iload_n hX dX3_leastStop_13 rfl 2 rfl ?_
    refine g_imul (v := nI (x * c)) hX dX3_leastStop_14 (nI_mul x c) ?_
    refine g_iadd (v := nI (lnN x y c q)) hX dX3_leastStop_15 (ln_z hq) ?_
    refine g_iload_n hX dX3_leastStop_16 rfl 2 rfl ?_
    refine g_iadd (v := nI ((lnN x y c q) + c)) hX dX3_leastStop_17 (nI_add (lnN x y c q) c) ?_
    refine g_iconst (v := nI 1) hX dX3_leastStop_18 (by decide) ?_
    refine g_isub (v := nI (((lnN x y c q) + c) - 1)) hX dX3_leastStop_19 (nI_sub (show 1 ≤ (lnN x y c q) + c by omega)) ?_
    refine g_iload_n hX dX3_leastStop_20 rfl 2 rfl ?_
    refine g_idiv (v := nI ((lnN x y c q + c - 1) / c)) hX dX3_leastStop_21 (nI_ne0 (by omega) (by omega)) (nI_div (by omega) (by omega)) ?_
    exact g_iret hX hR dX3_leastStop_22 (by decide) (by decide) ⟨congrArg (fun z => some (Value.int z)) rfl, rfl, rfl, rfl⟩
  · exfalso; omega

theorem c_X5_leastCut (l : Launch) {nw sp : Nat} {I : xM} {T S F W : Nat} {f : Nat → Int32} {a q : Nat} {E : Int32} {zf : Nat → Nat} (hnw : xG nw) (hG : GX I nw f T S F W) (hW : WF f T S F W) (hB : BD f T S) (ha : a < T) (ea : f (26 + 5 * a + 1) = nI q) (hq : q < 20) (hz : I 5 q = nI (zf q)) (hz2 : zf q ≤ 1000) : xC l 2 0 0 yX5_leastCut cX5_leastCut 9 (some .int) 319 [.ref 0, .int E, .int (nI a)] I (xRL nw sp) (xpR 319 (xRL nw sp) (fun r J => I = J ∧ ∃ v, r = nI v ∧ v ≤ 2000 ∧ ∀ x, v ≤ x ↔ lcP f zf S E q x)) := by
  refine xC_of (by decide) (Nat.le_of_ble_eq_true rfl) (fun X hXl hX hR => ?_)
  have hX : xOK X RX5 cX5_leastCut 9 2 0 0 := hX
  show G X 319 0 0 I (xRL nw sp) 0 [(0, .ref 0), (1, .int E), (2, .int (nI a))] []
  have hg8 := xG_8 hnw
  have hT6 := hW.T6
  have hS6 := hW.S6
  have hg0 := hB.gl (q := 0) (by decide)
  refine g_aload_n hX dX5_leastCut_0 rfl 0 rfl ?_
  refine g_getR (j := nw) hX (by decide) (by decide) xCl5 4 (by decide) (by decide) kX5_39 dX5_leastCut_1 rfl ?_
  refine g_getR (j := nw + 3) hX (xG_n (j := 0) hnw (by decide)) (xG_K0 hnw) xCl0 5 (by decide) (by decide) kX5_168 dX5_leastCut_4 (xRL_g5 hnw) ?_
  refine g_iload_n hX dX5_leastCut_7 rfl 2 rfl ?_
  refine g_iald (v := nI q) hX (xG_n (j := 3) hnw (by decide)) (xG_K3 hnw) a rfl (by rw [(xG_N3 hnw)]; omega) dX5_leastCut_8 ((hG.k1 ha).trans ea) ?_
  refine g_istore_n (L' := [(0, .ref 0), (1, .int E), (2, .int (nI a)), (3, .int (nI q))]) hX dX5_leastCut_9 rfl (by decide) rfl ?_
  refine g_iconst (v := nI 0) hX dX5_leastCut_10 (by decide) ?_
  refine g_istore (L' := [(0, .ref 0), (1, .int E), (2, .int (nI a)), (3, .int (nI q)), (4, .int (nI 0))]) hX dX5_leastCut_11 (by decide) rfl ?_
  refine g_iconst (v := nI 0) hX dX5_leastCut_13 (by decide) ?_
  refine g_istore (L' := [(0, .ref 0), (1, .int E), (2, .int (nI a)), (3, .int (nI q)), (4, .int (nI 0)), (5, .int (nI 0))]) hX dX5_leastCut_14 (by decide) rfl ?_
  have cut16 : ∀ (fuel : Nat) (v i : Nat) (hi : i ≤ S) (hv : v ≤ 2000) (hc : ∀ x, v ≤ x ↔ lcP f zf i E q x), S - i < fuel → G X 319 0 0 I (xRL nw sp) 16 [(0, .ref 0), (1, .int E), (2, .int (nI a)), (3, .int (nI q)), (4, .int (nI v)), (5, .int (nI i))] [] := by
    intro fuel
    induction fuel with
    | zero => intro v i hi hv hc hfuel; omega
    | succ fuel ih =>
      intro v i hi hv hc hfuel
      refine g_iload hX dX5_leastCut_16 5 rfl ?_
      refine g_aload_n hX dX5_leastCut_18 rfl 0 rfl ?_
      refine g_getR (j := nw) hX (by decide) (by decide) xCl5 4 (by decide) (by decide) kX5_39 dX5_leastCut_19 rfl ?_
      refine g_getI (v := nI S) hX (xG_n (j := 0) hnw (by decide)) (xG_K0 hnw) xCl0 9 (by decide) (by decide) kX5_194 dX5_leastCut_22 hG.th ?_
      refine g_ci_ge (a := ((i : Nat) : Int)) (b := ((S : Nat) : Int)) (tgt := 144) hX dX5_leastCut_25 (by decide) (nI_toInt (by omega)) (nI_toInt (by omega)) (fun h25 => ?_) (fun h25 => ?_)
      · refine g_iload hX dX5_leastCut_144 4 rfl ?_
        exact g_iret hX hR dX5_leastCut_146 (by decide) (by decide) ⟨_, rfl, rfl, ⟨rfl, v, rfl, hv, by rw [show S = i by omega]; exact hc⟩, rfl⟩
      · have hts9 := hW.ts9 (k := i) (by omega)
        have hsh := hW.sh (k := i) (by omega)
        have htp := hB.tp hW (k := i) (by omega)
        refine g_aload_n hX dX5_leastCut_28 rfl 0 rfl ?_
        refine g_getR (j := nw) hX (by decide) (by decide) xCl5 4 (by decide) (by decide) kX5_39 dX5_leastCut_29 rfl ?_
        refine g_getR (j := nw + 7) hX (xG_n (j := 0) hnw (by decide)) (xG_K0 hnw) xCl0 10 (by decide) (by decide) kX5_271 dX5_leastCut_32 (xRL_g10 hnw) ?_
        refine g_iload hX dX5_leastCut_35 5 rfl ?_
        refine g_iald (v := nI (tsF f i)) hX (xG_n (j := 7) hnw (by decide)) (xG_K7 hnw) i rfl (by rw [(xG_N7 hnw)]; omega) dX5_leastCut_37 ((hG.s0 (by omega)).trans (hW.ts (by omega))) ?_
        refine g_istore (L' := [(0, .ref 0), (1, .int E), (2, .int (nI a)), (3, .int (nI q)), (4, .int (nI v)), (5, .int (nI i)), (6, .int (nI (tsF f i)))]) hX dX5_leastCut_38 (by decide) rfl ?_
        refine g_aload_n hX dX5_leastCut_40 rfl 0 rfl ?_
        refine g_getR (j := nw) hX (by decide) (by decide) xCl5 4 (by decide) (by decide) kX5_39 dX5_leastCut_41 rfl ?_
        refine g_getR (j := nw + 9) hX (xG_n (j := 0) hnw (by decide)) (xG_K0 hnw) xCl0 12 (by decide) (by decide) kX5_274 dX5_leastCut_44 (xRL_g12 hnw) ?_
        refine g_iload hX dX5_leastCut_47 5 rfl ?_
        refine g_zald (v := f (56 + 3 * i + 2)) hX (xG_n (j := 9) hnw (by decide)) (xG_K9 hnw) i rfl (by rw [(xG_N9 hnw)]; omega) dX5_leastCut_49 (hG.s2 (by omega)) ?_
        refine g_cz_eq (a := (f (56 + 3 * i + 2)).toInt) (tgt := 138) hX dX5_leastCut_50 (by decide) rfl (fun h50 => ?_) (fun h50 => ?_)
        · refine g_iinc (v := nI (i + 1)) (L' := [(0, .ref 0), (1, .int E), (2, .int (nI a)), (3, .int (nI q)), (4, .int (nI v)), (5, .int (nI (i + 1))), (6, .int (nI (tsF f i)))]) hX dX5_leastCut_138 (by decide) 5 rfl (nI_add i 1) rfl ?_
          refine g_goto (tgt := 16) hX dX5_leastCut_141 (by decide) ?_
          refine g_loc [0, 1, 2, 3, 4, 5] rfl ?_
          exact ih v (i + 1) (by first | assumption | omega) (by first | assumption | omega) (by first | exact lc_no hc (by omega) | exact lcE_31 hc3 (by omega) (by omega) (by omega)) (by omega)
        · refine g_iload_n hX dX5_leastCut_53 rfl 3 rfl ?_
          refine g_cz_le (a := ((q : Nat) : Int)) (tgt := 138) hX dX5_leastCut_54 (by decide) (nI_toInt (by omega)) (fun h54 => ?_) (fun h54 => ?_)
          · refine g_iinc (v := nI (i + 1)) (L' := [(0, .ref 0), (1, .int E), (2, .int (nI a)), (3, .int (nI q)), (4, .int (nI v)), (5, .int (nI (i + 1))), (6, .int (nI (tsF f i)))]) hX dX5_leastCut_138 (by decide) 5 rfl (nI_add i 1) rfl ?_
            refine g_goto (tgt := 16) hX dX5_leastCut_141 (by decide) ?_
            refine g_loc [0, 1, 2, 3, 4, 5] rfl ?_
            exact ih v (i + 1) (by first | assumption | omega) (by first | assumption | omega) (by first | exact lc_no hc (by omega) | exact lcE_31 hc3 (by omega) (by omega) (by omega)) (by omega)
          · refine g_iload_n hX dX5_leastCut_57 rfl 3 rfl ?_
            refine g_iload hX dX5_leastCut_58 6 rfl ?_
            refine g_ci_ge (a := ((q : Nat) : Int)) (b := ((tsF f i : Nat) : Int)) (tgt := 138) hX dX5_leastCut_60 (by decide) (nI_toInt (by omega)) (nI_toInt (by omega)) (fun h60 => ?_) (fun h60 => ?_)
            · refine g_iinc (v := nI (i + 1)) (L' := [(0, .ref 0), (1, .int E), (2, .int (nI a)), (3, .int (nI q)), (4, .int (nI v)), (5, .int (nI (i + 1))), (6, .int (nI (tsF f i)))]) hX dX5_leastCut_138 (by decide) 5 rfl (nI_add i 1) rfl ?_
              refine g_goto (tgt := 16) hX dX5_leastCut_141 (by decide) ?_
              refine g_loc [0, 1, 2, 3, 4, 5] rfl ?_
              exact ih v (i + 1) (by first | assumption | omega) (by first | assumption | omega) (by first | exact lc_no hc (by omega) | exact lcE_31 hc3 (by omega) (by omega) (by omega)) (by omega)
            · refine g_iconst (v := nI 0) hX dX5_leastCut_63 (by decide) ?_
              refine g_istore (L' := [(0, .ref 0), (1, .int E), (2, .int (nI a)), (3, .int (nI q)), (4, .int (nI v)), (5, .int (nI i)), (6, .int (nI (tsF f i))), (7, .int (nI 0))]) hX dX5_leastCut_64 (by decide) rfl ?_
              have cut66 : ∀ (fuel66 : Nat) (v2 e : Nat) (he : e ≤ 31) (hv2 : v2 ≤ 2000) (hc2 : ∀ x, v2 ≤ x ↔ lcE f zf i E q e x), 31 - e < fuel66 → G X 319 0 0 I (xRL nw sp) 66 [(0, .ref 0), (1, .int E), (2, .int (nI a)), (3, .int (nI q)), (4, .int (nI v2)), (5, .int (nI i)), (6, .int (nI (tsF f i))), (7, .int (nI e))] [] := by
                intro fuel66
                induction fuel66 with
                | zero => intro v2 e he hv2 hc2 hfuel66; omega
                | succ fuel66 ih66 =>
                  intro v2 e he hv2 hc2 hfuel66
                  refine g_iload hX dX5_leastCut_66 7 rfl ?_
                  refine g_bipush (v := nI 31) hX dX5_leastCut_68 (by decide) ?_
                  refine g_ci_ge (a := ((e : Nat) : Int)) (b := (31 : Int)) (tgt := 138) hX dX5_leastCut_70 (by decide) (nI_toInt (by omega)) (by decide) (fun h70 => ?_) (fun h70 => ?_)
                  · have hc3 : ∀ x, v2 ≤ x ↔ lcE f zf i E q 31 x := by rw [show (31 : Nat) = e by omega]; exact hc2
                    refine g_iinc (v := nI (i + 1)) (L' := [(0, .ref 0), (1, .int E), (2, .int (nI a)), (3, .int (nI q)), (4, .int (nI v2)), (5, .int (nI (i + 1))), (6, .int (nI (tsF f i))), (7, .int (nI e))]) hX dX5_leastCut_138 (by decide) 5 rfl (nI_add i 1) rfl ?_
                    refine g_goto (tgt := 16) hX dX5_leastCut_141 (by decide) ?_
                    refine g_loc [0, 1, 2, 3, 4, 5] rfl ?_
                    exact ih v2 (i + 1) (by first | assumption | omega) (by first | assumption | omega) (by first | exact lc_no hc (by omega) | exact lcE_31 hc3 (by omega) (by omega) (by omega)) (by omega)
                  · refine g_iload_n hX dX5_leastCut_73 rfl 1 rfl ?_
                    refine g_iload hX dX5_leastCut_74 7 rfl ?_
                    refine g_callSi hX (as := [.int E, .int (nI e)]) (fun l => c_X5_isIn l (I := I) (x := E) (k := e) ) mX5_isIn sX5_isIn lX5_201 rfl dX5_leastCut_76 rfl (by decide) (Nat.le_of_ble_eq_true rfl) (by decide) (by decide) ?_
                    refine g_cb_eq (tgt := 132) hX dX5_leastCut_79 (by decide) (fun h79 => ?_) (fun h79 => ?_)
                    · refine g_iinc (v := nI (e + 1)) (L' := [(0, .ref 0), (1, .int E), (2, .int (nI a)), (3, .int (nI q)), (4, .int (nI v2)), (5, .int (nI i)), (6, .int (nI (tsF f i))), (7, .int (nI (e + 1)))]) hX dX5_leastCut_132 (by decide) 7 rfl (nI_add e 1) rfl ?_
                      refine g_goto (tgt := 66) hX dX5_leastCut_135 (by decide) ?_
                      exact ih66 v2 (e + 1) (by first | assumption | omega) (by first | assumption | omega) (by first | exact lcE_n hc2 h79 | exact lcE_y hc2 h79 (by omega)) (by omega)
                    · refine g_aload_n hX dX5_leastCut_82 rfl 0 rfl ?_
                      refine g_getR (j := nw) hX (by decide) (by decide) xCl5 4 (by decide) (by decide) kX5_39 dX5_leastCut_83 rfl ?_
                      refine g_getR (j := nw + 1) hX (xG_n (j := 0) hnw (by decide)) (xG_K0 hnw) xCl0 0 (by decide) (by decide) kX5_171 dX5_leastCut_86 (xRL_g0 hnw) ?_
                      refine g_iconst (v := nI 0) hX dX5_leastCut_89 (by decide) ?_
                      refine g_iald (v := nI (gN f 0)) hX (xG_n (j := 1) hnw (by decide)) (xG_K1 hnw) 0 rfl (by rw [(xG_N1 hnw)]; decide) dX5_leastCut_90 ((hG.gr (by decide)).trans (hB.gr (by decide))) ?_
                      refine g_iload hX dX5_leastCut_91 7 rfl ?_
                      refine g_iadd (v := nI ((gN f 0) + e)) hX dX5_leastCut_93 (nI_add (gN f 0) e) ?_
                      refine g_aload_n hX dX5_leastCut_94 rfl 0 rfl ?_
                      refine g_getR (j := nw) hX (by decide) (by decide) xCl5 4 (by decide) (by decide) kX5_39 dX5_leastCut_95 rfl ?_
                      refine g_iload hX dX5_leastCut_98 5 rfl ?_
                      refine g_callVi hX (as := [.int (nI i)]) (fun l => c_X0_topOf l (I := I) (g := nw) (T := T) (S := S) (F := F) (W := W) (f := f) (k := i) (hg := hnw) (hG := (by first | assumption | omega)) (hW := (by first | assumption | omega)) (hk := (by first | assumption | omega))) mX0_topOf vX0_topOf lX5_277 (xG_n (j := 0) hnw (by decide)) (xG_K0 hnw) xCl0 rfl rfl dX5_leastCut_100 rfl (by decide) (Nat.le_of_ble_eq_true rfl) (by decide) (by decide) ?_
                      refine g_top (y := nI (tpN f i)) htp.1 ?_
                      refine g_iload hX dX5_leastCut_103 6 rfl ?_
                      refine g_iload_n hX dX5_leastCut_105 rfl 3 rfl ?_
                      refine g_callSi hX (as := [.int (nI ((gN f 0) + e)), .int (nI (tpN f i)), .int (nI (tsF f i)), .int (nI q)]) (fun l => c_X3_leastStop l (I := I) (x := ((gN f 0) + e)) (y := (tpN f i)) (c := (tsF f i)) (q := q) (hc := (by first | assumption | omega)) (hc2 := (by first | assumption | omega)) (hq := (by first | assumption | omega)) (hx := (by first | assumption | omega)) (hy := (by first | assumption | omega))) mX3_leastStop sX3_leastStop lX5_280 rfl dX5_leastCut_106 rfl (by decide) (Nat.le_of_ble_eq_true rfl) (by decide) (by decide) ?_
                      have hdl := div_le (lnN_le (x := gN f 0 + e) (y := tpN f i) (c := tsF f i) (q := q) (by omega) (by omega) (by omega) (by omega)) (show tsF f i ≤ 20 by omega)
                      have hmx : max v2 (zf q + 1 - (lnN (gN f 0 + e) (tpN f i) (tsF f i) q + tsF f i - 1) / tsF f i) ≤ 2000 := Nat.max_le.mpr ⟨hv2, Nat.le_trans (Nat.sub_le _ _) (by omega)⟩
                      refine g_istore (L' := [(0, .ref 0), (1, .int E), (2, .int (nI a)), (3, .int (nI q)), (4, .int (nI v2)), (5, .int (nI i)), (6, .int (nI (tsF f i))), (7, .int (nI e)), (8, .int (nI ((lnN ((gN f 0) + e) (tpN f i) (tsF f i) q + (tsF f i) - 1) / (tsF f i))))]) hX dX5_leastCut_109 (by decide) rfl ?_
                      refine g_iload hX dX5_leastCut_111 4 rfl ?_
                      refine g_aload_n hX dX5_leastCut_113 rfl 0 rfl ?_
                      refine g_getR (j := 4) hX (by decide) (by decide) xCl5 2 (by decide) (by decide) kX5_25 dX5_leastCut_114 rfl ?_
                      refine g_getR (j := 5) hX (by decide) (by decide) xCl3 0 (by decide) (by decide) kX5_184 dX5_leastCut_117 rfl ?_
                      refine g_iload_n hX dX5_leastCut_120 rfl 3 rfl ?_
                      refine g_iald (v := nI (zf q)) hX (by decide) (by decide) q rfl (by rw [(show xN 5 = 20 by decide)]; omega) dX5_leastCut_121 hz ?_
                      refine g_iload hX dX5_leastCut_122 8 rfl ?_
                      refine g_isub (v := zI (((zf q : Nat) : Int) - (((lnN ((gN f 0) + e) (tpN f i) (tsF f i) q + (tsF f i) - 1) / (tsF f i) : Nat) : Int))) hX dX5_leastCut_124 (zI_sub (((zf q : Nat) : Int)) ((((lnN ((gN f 0) + e) (tpN f i) (tsF f i) q + (tsF f i) - 1) / (tsF f i) : Nat) : Int))) ?_
                      refine g_iconst (v := nI 1) hX dX5_leastCut_125 (by decide) ?_
                      refine g_iadd (v := zI ((((zf q : Nat) : Int) - (((lnN ((gN f 0) + e) (tpN f i) (tsF f i) q + (tsF f i) - 1) / (tsF f i) : Nat) : Int)) + ((1 : Nat) : Int))) hX dX5_leastCut_126 (zI_add ((((zf q : Nat) : Int) - (((lnN ((gN f 0) + e) (tpN f i) (tsF f i) q + (tsF f i) - 1) / (tsF f i) : Nat) : Int))) (((1 : Nat) : Int))) ?_
                      refine g_imax (v := nI (max v2 (zf q + 1 - (lnN (gN f 0 + e) (tpN f i) (tsF f i) q + tsF f i - 1) / tsF f i))) hX jmX5_284 jmax_s jm_i jmax_c (by decide) (Nat.le_of_ble_eq_true rfl) (by decide) (by decide) dX5_leastCut_127 (max_stop hv2 hz2 hdl) ?_
                      refine g_istore (L' := [(0, .ref 0), (1, .int E), (2, .int (nI a)), (3, .int (nI q)), (4, .int (nI (max v2 (zf q + 1 - (lnN (gN f 0 + e) (tpN f i) (tsF f i) q + tsF f i - 1) / tsF f i)))), (5, .int (nI i)), (6, .int (nI (tsF f i))), (7, .int (nI e)), (8, .int (nI ((lnN ((gN f 0) + e) (tpN f i) (tsF f i) q + (tsF f i) - 1) / (tsF f i))))]) hX dX5_leastCut_130 (by decide) rfl ?_
                      refine g_iinc (v := nI (e + 1)) (L' := [(0, .ref 0), (1, .int E), (2, .int (nI a)), (3, .int (nI q)), (4, .int (nI (max v2 (zf q + 1 - (lnN (gN f 0 + e) (tpN f i) (tsF f i) q + tsF f i - 1) / tsF f i)))), (5, .int (nI i)), (6, .int (nI (tsF f i))), (7, .int (nI (e + 1))), (8, .int (nI ((lnN ((gN f 0) + e) (tpN f i) (tsF f i) q + (tsF f i) - 1) / (tsF f i))))]) hX dX5_leastCut_132 (by decide) 7 rfl (nI_add e 1) rfl ?_
                      refine g_goto (tgt := 66) hX dX5_leastCut_135 (by decide) ?_
                      refine g_loc [0, 1, 2, 3, 4, 5, 6, 7] rfl ?_
                      exact ih66 (max v2 (zf q + 1 - (lnN (gN f 0 + e) (tpN f i) (tsF f i) q + tsF f i - 1) / tsF f i)) (e + 1) (by first | assumption | omega) (by first | assumption | omega) (by first | exact lcE_n hc2 h79 | exact lcE_y hc2 h79 (by omega)) (by omega)
              exact cut66 _ v 0 (by first | assumption | omega) (by first | assumption | omega) (lcE_0 hc) (Nat.lt_succ_self _)
  exact cut16 _ 0 0 (by first | assumption | omega) (by first | assumption | omega) (fun x => ⟨fun _ => lcP_0, fun _ => Nat.zero_le x⟩) (Nat.lt_succ_self _)

theorem c_X5_cut_bad1 (l : Launch) {nw sp : Nat} {I : xM} {E x y w : Int32} (hb : ¬ (0 ≤ E.toInt ∧ (0 ≤ w.toInt ∧ w.toInt ≤ 1) ∧ x.toInt ≠ y.toInt)) : xC l 1 0 0 yX5_cut cX5_cut 7 (some .int) 319 [.ref 0, .int E, .int x, .int y, .int w] I (xRL nw sp) (xpI (-1000001) 319 I (xRL nw sp)) := by
  refine xC_of (by decide) (Nat.le_of_ble_eq_true rfl) (fun X hXl hX hR => ?_)
  have hX : xOK X RX5 cX5_cut 7 1 0 0 := hX
  show G X 319 0 0 I (xRL nw sp) 0 [(0, .ref 0), (1, .int E), (2, .int x), (3, .int y), (4, .int w)] []
  refine g_iload_n hX dX5_cut_0 rfl 1 rfl ?_
  refine g_cz_lt (a := E.toInt) (tgt := 42) hX dX5_cut_1 (by decide) rfl (fun h1 => ?_) (fun h1 => ?_)
  · refine g_ldc (v := -1000001) hX cX5_79 dX5_cut_42 ?_
    exact g_iret hX hR dX5_cut_44 (by decide) (by decide) ⟨congrArg (fun z => some (Value.int z)) rfl, rfl, rfl, rfl⟩
  · refine g_iload hX dX5_cut_4 4 rfl ?_
    refine g_cz_lt (a := w.toInt) (tgt := 42) hX dX5_cut_6 (by decide) rfl (fun h6 => ?_) (fun h6 => ?_)
    · refine g_ldc (v := -1000001) hX cX5_79 dX5_cut_42 ?_
      exact g_iret hX hR dX5_cut_44 (by decide) (by decide) ⟨congrArg (fun z => some (Value.int z)) rfl, rfl, rfl, rfl⟩
    · refine g_iload hX dX5_cut_9 4 rfl ?_
      refine g_iconst (v := nI 1) hX dX5_cut_11 (by decide) ?_
      refine g_ci_gt (a := w.toInt) (b := (1 : Int)) (tgt := 42) hX dX5_cut_12 (by decide) rfl (by decide) (fun h12 => ?_) (fun h12 => ?_)
      · refine g_ldc (v := -1000001) hX cX5_79 dX5_cut_42 ?_
        exact g_iret hX hR dX5_cut_44 (by decide) (by decide) ⟨congrArg (fun z => some (Value.int z)) rfl, rfl, rfl, rfl⟩
      · refine g_iload_n hX dX5_cut_15 rfl 2 rfl ?_
        refine g_iload_n hX dX5_cut_16 rfl 3 rfl ?_
        refine g_ci_eq (a := x.toInt) (b := y.toInt) (tgt := 42) hX dX5_cut_17 (by decide) rfl rfl (fun h17 => ?_) (fun h17 => ?_)
        · refine g_ldc (v := -1000001) hX cX5_79 dX5_cut_42 ?_
          exact g_iret hX hR dX5_cut_44 (by decide) (by decide) ⟨congrArg (fun z => some (Value.int z)) rfl, rfl, rfl, rfl⟩
        · exfalso; omega

theorem c_X5_cut_bad2 (l : Launch) {nw sp : Nat} {I : xM} {T S F W : Nat} {f : Nat → Int32} {E x y w : Int32} (hnw : xG nw) (hG : GX I nw f T S F W) (hW : WF f T S F W) (hx : ¬ (0 ≤ x.toInt ∧ x.toInt < T)) : xC l 3 0 0 yX5_cut cX5_cut 7 (some .int) 319 [.ref 0, .int E, .int x, .int y, .int w] I (xRL nw sp) (xpI (-1000001) 319 I (xRL nw sp)) := by
  refine xC_of (by decide) (Nat.le_of_ble_eq_true rfl) (fun X hXl hX hR => ?_)
  have hX : xOK X RX5 cX5_cut 7 3 0 0 := hX
  show G X 319 0 0 I (xRL nw sp) 0 [(0, .ref 0), (1, .int E), (2, .int x), (3, .int y), (4, .int w)] []
  refine g_iload_n hX dX5_cut_0 rfl 1 rfl ?_
  refine g_cz_lt (a := E.toInt) (tgt := 42) hX dX5_cut_1 (by decide) rfl (fun h1 => ?_) (fun h1 => ?_)
  · refine g_ldc (v := -1000001) hX cX5_79 dX5_cut_42 ?_
    exact g_iret hX hR dX5_cut_44 (by decide) (by decide) ⟨congrArg (fun z => some (Value.int z)) rfl, rfl, rfl, rfl⟩
  · refine g_iload hX dX5_cut_4 4 rfl ?_
    refine g_cz_lt (a := w.toInt) (tgt := 42) hX dX5_cut_6 (by decide) rfl (fun h6 => ?_) (fun h6 => ?_)
    · refine g_ldc (v := -1000001) hX cX5_79 dX5_cut_42 ?_
      exact g_iret hX hR dX5_cut_44 (by decide) (by decide) ⟨congrArg (fun z => some (Value.int z)) rfl, rfl, rfl, rfl⟩
    · refine g_iload hX dX5_cut_9 4 rfl ?_
      refine g_iconst (v := nI 1) hX dX5_cut_11 (by decide) ?_
      refine g_ci_gt (a := w.toInt) (b := (1 : Int)) (tgt := 42) hX dX5_cut_12 (by decide) rfl (by decide) (fun h12 => ?_) (fun h12 => ?_)
      · refine g_ldc (v := -1000001) hX cX5_79 dX5_cut_42 ?_
        exact g_iret hX hR dX5_cut_44 (by decide) (by decide) ⟨congrArg (fun z => some (Value.int z)) rfl, rfl, rfl, rfl⟩
      · refine g_iload_n hX dX5_cut_15 rfl 2 rfl ?_
        refine g_iload_n hX dX5_cut_16 rfl 3 rfl ?_
        refine g_ci_eq (a := x.toInt) (b := y.toInt) (tgt := 42) hX dX5_cut_17 (by decide) rfl rfl (fun h17 => ?_) (fun h17 => ?_)
        · refine g_ldc (v := -1000001) hX cX5_79 dX5_cut_42 ?_
          exact g_iret hX hR dX5_cut_44 (by decide) (by decide) ⟨congrArg (fun z => some (Value.int z)) rfl, rfl, rfl, rfl⟩
        · refine g_aload_n hX dX5_cut_20 rfl 0 rfl ?_
          refine g_getR (j := nw) hX (by decide) (by decide) xCl5 4 (by decide) (by decide) kX5_39 dX5_cut_21 rfl ?_
          refine g_iload_n hX dX5_cut_24 rfl 2 rfl ?_
          refine g_callVi hX (as := [.int x]) (fun l => c_X0_mayBeCut_no l (I := I) (g := nw) (T := T) (S := S) (F := F) (W := W) (f := f) (x := x) (hg := hnw) (hG := (by first | assumption | omega)) (hW := (by first | assumption | omega)) (hx := (by first | assumption | omega))) mX0_mayBeCut vX0_mayBeCut lX5_152 (xG_n (j := 0) hnw (by decide)) (xG_K0 hnw) xCl0 rfl rfl dX5_cut_25 rfl (by decide) (Nat.le_of_ble_eq_true rfl) (by decide) (by decide) ?_
          refine g_cb_eq (tgt := 42) hX dX5_cut_28 (by decide) (fun h28 => ?_) (fun h28 => ?_)
          · refine g_ldc (v := -1000001) hX cX5_79 dX5_cut_42 ?_
            exact g_iret hX hR dX5_cut_44 (by decide) (by decide) ⟨congrArg (fun z => some (Value.int z)) rfl, rfl, rfl, rfl⟩
          · exact h28.elim

theorem c_X5_cut_bad3 (l : Launch) {nw sp : Nat} {I : xM} {T S F W : Nat} {f : Nat → Int32} {a : Nat} {E y w : Int32} (hnw : xG nw) (hG : GX I nw f T S F W) (hW : WF f T S F W) (ha : a < T) (hk : ¬ ((f (26 + 5 * a + 0)).toInt ≠ 3 ∧ (f (26 + 5 * a + 0)).toInt ≠ 5)) : xC l 3 0 0 yX5_cut cX5_cut 7 (some .int) 319 [.ref 0, .int E, .int (nI a), .int y, .int w] I (xRL nw sp) (xpI (-1000001) 319 I (xRL nw sp)) := by
  refine xC_of (by decide) (Nat.le_of_ble_eq_true rfl) (fun X hXl hX hR => ?_)
  have hX : xOK X RX5 cX5_cut 7 3 0 0 := hX
  show G X 319 0 0 I (xRL nw sp) 0 [(0, .ref 0), (1, .int E), (2, .int (nI a)), (3, .int y), (4, .int w)] []
  have hg8 := xG_8 hnw
  have hT6 := hW.T6
  have hS6 := hW.S6
  refine g_iload_n hX dX5_cut_0 rfl 1 rfl ?_
  refine g_cz_lt (a := E.toInt) (tgt := 42) hX dX5_cut_1 (by decide) rfl (fun h1 => ?_) (fun h1 => ?_)
  · refine g_ldc (v := -1000001) hX cX5_79 dX5_cut_42 ?_
    exact g_iret hX hR dX5_cut_44 (by decide) (by decide) ⟨congrArg (fun z => some (Value.int z)) rfl, rfl, rfl, rfl⟩
  · refine g_iload hX dX5_cut_4 4 rfl ?_
    refine g_cz_lt (a := w.toInt) (tgt := 42) hX dX5_cut_6 (by decide) rfl (fun h6 => ?_) (fun h6 => ?_)
    · refine g_ldc (v := -1000001) hX cX5_79 dX5_cut_42 ?_
      exact g_iret hX hR dX5_cut_44 (by decide) (by decide) ⟨congrArg (fun z => some (Value.int z)) rfl, rfl, rfl, rfl⟩
    · refine g_iload hX dX5_cut_9 4 rfl ?_
      refine g_iconst (v := nI 1) hX dX5_cut_11 (by decide) ?_
      refine g_ci_gt (a := w.toInt) (b := (1 : Int)) (tgt := 42) hX dX5_cut_12 (by decide) rfl (by decide) (fun h12 => ?_) (fun h12 => ?_)
      · refine g_ldc (v := -1000001) hX cX5_79 dX5_cut_42 ?_
        exact g_iret hX hR dX5_cut_44 (by decide) (by decide) ⟨congrArg (fun z => some (Value.int z)) rfl, rfl, rfl, rfl⟩
      · refine g_iload_n hX dX5_cut_15 rfl 2 rfl ?_
        refine g_iload_n hX dX5_cut_16 rfl 3 rfl ?_
        refine g_ci_eq (a := ((a : Nat) : Int)) (b := y.toInt) (tgt := 42) hX dX5_cut_17 (by decide) (nI_toInt (by omega)) rfl (fun h17 => ?_) (fun h17 => ?_)
        · refine g_ldc (v := -1000001) hX cX5_79 dX5_cut_42 ?_
          exact g_iret hX hR dX5_cut_44 (by decide) (by decide) ⟨congrArg (fun z => some (Value.int z)) rfl, rfl, rfl, rfl⟩
        · refine g_aload_n hX dX5_cut_20 rfl 0 rfl ?_
          refine g_getR (j := nw) hX (by decide) (by decide) xCl5 4 (by decide) (by decide) kX5_39 dX5_cut_21 rfl ?_
          refine g_iload_n hX dX5_cut_24 rfl 2 rfl ?_
          refine g_callVi hX (as := [.int (nI a)]) (fun l => c_X0_mayBeCut_t l (I := I) (g := nw) (T := T) (S := S) (F := F) (W := W) (f := f) (t := a) (hg := hnw) (hG := (by first | assumption | omega)) (hW := (by first | assumption | omega)) (ht := (by first | assumption | omega))) mX0_mayBeCut vX0_mayBeCut lX5_152 (xG_n (j := 0) hnw (by decide)) (xG_K0 hnw) xCl0 rfl rfl dX5_cut_25 rfl (by decide) (Nat.le_of_ble_eq_true rfl) (by decide) (by decide) ?_
          refine g_cb_eq (tgt := 42) hX dX5_cut_28 (by decide) (fun h28 => ?_) (fun h28 => ?_)
          · refine g_ldc (v := -1000001) hX cX5_79 dX5_cut_42 ?_
            exact g_iret hX hR dX5_cut_44 (by decide) (by decide) ⟨congrArg (fun z => some (Value.int z)) rfl, rfl, rfl, rfl⟩
          · exact absurd h28 hk

theorem c_X5_cut_bad4 (l : Launch) {nw sp : Nat} {I : xM} {T S F W : Nat} {f : Nat → Int32} {a : Nat} {E y w : Int32} (hnw : xG nw) (hG : GX I nw f T S F W) (hW : WF f T S F W) (ha : a < T) (hy : ¬ (0 ≤ y.toInt ∧ y.toInt < T)) : xC l 3 0 0 yX5_cut cX5_cut 7 (some .int) 319 [.ref 0, .int E, .int (nI a), .int y, .int w] I (xRL nw sp) (xpI (-1000001) 319 I (xRL nw sp)) := by
  refine xC_of (by decide) (Nat.le_of_ble_eq_true rfl) (fun X hXl hX hR => ?_)
  have hX : xOK X RX5 cX5_cut 7 3 0 0 := hX
  show G X 319 0 0 I (xRL nw sp) 0 [(0, .ref 0), (1, .int E), (2, .int (nI a)), (3, .int y), (4, .int w)] []
  have hg8 := xG_8 hnw
  have hT6 := hW.T6
  have hS6 := hW.S6
  refine g_iload_n hX dX5_cut_0 rfl 1 rfl ?_
  refine g_cz_lt (a := E.toInt) (tgt := 42) hX dX5_cut_1 (by decide) rfl (fun h1 => ?_) (fun h1 => ?_)
  · refine g_ldc (v := -1000001) hX cX5_79 dX5_cut_42 ?_
    exact g_iret hX hR dX5_cut_44 (by decide) (by decide) ⟨congrArg (fun z => some (Value.int z)) rfl, rfl, rfl, rfl⟩
  · refine g_iload hX dX5_cut_4 4 rfl ?_
    refine g_cz_lt (a := w.toInt) (tgt := 42) hX dX5_cut_6 (by decide) rfl (fun h6 => ?_) (fun h6 => ?_)
    · refine g_ldc (v := -1000001) hX cX5_79 dX5_cut_42 ?_
      exact g_iret hX hR dX5_cut_44 (by decide) (by decide) ⟨congrArg (fun z => some (Value.int z)) rfl, rfl, rfl, rfl⟩
    · refine g_iload hX dX5_cut_9 4 rfl ?_
      refine g_iconst (v := nI 1) hX dX5_cut_11 (by decide) ?_
      refine g_ci_gt (a := w.toInt) (b := (1 : Int)) (tgt := 42) hX dX5_cut_12 (by decide) rfl (by decide) (fun h12 => ?_) (fun h12 => ?_)
      · refine g_ldc (v := -1000001) hX cX5_79 dX5_cut_42 ?_
        exact g_iret hX hR dX5_cut_44 (by decide) (by decide) ⟨congrArg (fun z => some (Value.int z)) rfl, rfl, rfl, rfl⟩
      · refine g_iload_n hX dX5_cut_15 rfl 2 rfl ?_
        refine g_iload_n hX dX5_cut_16 rfl 3 rfl ?_
        refine g_ci_eq (a := ((a : Nat) : Int)) (b := y.toInt) (tgt := 42) hX dX5_cut_17 (by decide) (nI_toInt (by omega)) rfl (fun h17 => ?_) (fun h17 => ?_)
        · refine g_ldc (v := -1000001) hX cX5_79 dX5_cut_42 ?_
          exact g_iret hX hR dX5_cut_44 (by decide) (by decide) ⟨congrArg (fun z => some (Value.int z)) rfl, rfl, rfl, rfl⟩
        · refine g_aload_n hX dX5_cut_20 rfl 0 rfl ?_
          refine g_getR (j := nw) hX (by decide) (by decide) xCl5 4 (by decide) (by decide) kX5_39 dX5_cut_21 rfl ?_
          refine g_iload_n hX dX5_cut_24 rfl 2 rfl ?_
          refine g_callVi hX (as := [.int (nI a)]) (fun l => c_X0_mayBeCut_t l (I := I) (g := nw) (T := T) (S := S) (F := F) (W := W) (f := f) (t := a) (hg := hnw) (hG := (by first | assumption | omega)) (hW := (by first | assumption | omega)) (ht := (by first | assumption | omega))) mX0_mayBeCut vX0_mayBeCut lX5_152 (xG_n (j := 0) hnw (by decide)) (xG_K0 hnw) xCl0 rfl rfl dX5_cut_25 rfl (by decide) (Nat.le_of_ble_eq_true rfl) (by decide) (by decide) ?_
          refine g_cb_eq (tgt := 42) hX dX5_cut_28 (by decide) (fun h28 => ?_) (fun h28 => ?_)
          · refine g_ldc (v := -1000001) hX cX5_79 dX5_cut_42 ?_
            exact g_iret hX hR dX5_cut_44 (by decide) (by decide) ⟨congrArg (fun z => some (Value.int z)) rfl, rfl, rfl, rfl⟩
          · refine g_aload_n hX dX5_cut_31 rfl 0 rfl ?_
            refine g_getR (j := nw) hX (by decide) (by decide) xCl5 4 (by decide) (by decide) kX5_39 dX5_cut_32 rfl ?_
            refine g_iload_n hX dX5_cut_35 rfl 3 rfl ?_
            refine g_callVi hX (as := [.int y]) (fun l => c_X0_mayBeCut_no l (I := I) (g := nw) (T := T) (S := S) (F := F) (W := W) (f := f) (x := y) (hg := hnw) (hG := (by first | assumption | omega)) (hW := (by first | assumption | omega)) (hx := hy)) mX0_mayBeCut vX0_mayBeCut lX5_152 (xG_n (j := 0) hnw (by decide)) (xG_K0 hnw) xCl0 rfl rfl dX5_cut_36 rfl (by decide) (Nat.le_of_ble_eq_true rfl) (by decide) (by decide) ?_
            refine g_cb_ne (tgt := 45) hX dX5_cut_39 (by decide) (fun h39 => ?_) (fun h39 => ?_)
            · exact h39.elim
            · refine g_ldc (v := -1000001) hX cX5_79 dX5_cut_42 ?_
              exact g_iret hX hR dX5_cut_44 (by decide) (by decide) ⟨congrArg (fun z => some (Value.int z)) rfl, rfl, rfl, rfl⟩

theorem c_X5_cut_bad5 (l : Launch) {nw sp : Nat} {I : xM} {T S F W : Nat} {f : Nat → Int32} {a b : Nat} {E w : Int32} (hnw : xG nw) (hG : GX I nw f T S F W) (hW : WF f T S F W) (ha : a < T) (hb : b < T) (hk : ¬ ((f (26 + 5 * b + 0)).toInt ≠ 3 ∧ (f (26 + 5 * b + 0)).toInt ≠ 5)) : xC l 3 0 0 yX5_cut cX5_cut 7 (some .int) 319 [.ref 0, .int E, .int (nI a), .int (nI b), .int w] I (xRL nw sp) (xpI (-1000001) 319 I (xRL nw sp)) := by
  refine xC_of (by decide) (Nat.le_of_ble_eq_true rfl) (fun X hXl hX hR => ?_)
  have hX : xOK X RX5 cX5_cut 7 3 0 0 := hX
  show G X 319 0 0 I (xRL nw sp) 0 [(0, .ref 0), (1, .int E), (2, .int (nI a)), (3, .int (nI b)), (4, .int w)] []
  have hg8 := xG_8 hnw
  have hT6 := hW.T6
  have hS6 := hW.S6
  refine g_iload_n hX dX5_cut_0 rfl 1 rfl ?_
  refine g_cz_lt (a := E.toInt) (tgt := 42) hX dX5_cut_1 (by decide) rfl (fun h1 => ?_) (fun h1 => ?_)
  · refine g_ldc (v := -1000001) hX cX5_79 dX5_cut_42 ?_
    exact g_iret hX hR dX5_cut_44 (by decide) (by decide) ⟨congrArg (fun z => some (Value.int z)) rfl, rfl, rfl, rfl⟩
  · refine g_iload hX dX5_cut_4 4 rfl ?_
    refine g_cz_lt (a := w.toInt) (tgt := 42) hX dX5_cut_6 (by decide) rfl (fun h6 => ?_) (fun h6 => ?_)
    · refine g_ldc (v := -1000001) hX cX5_79 dX5_cut_42 ?_
      exact g_iret hX hR dX5_cut_44 (by decide) (by decide) ⟨congrArg (fun z => some (Value.int z)) rfl, rfl, rfl, rfl⟩
    · refine g_iload hX dX5_cut_9 4 rfl ?_
      refine g_iconst (v := nI 1) hX dX5_cut_11 (by decide) ?_
      refine g_ci_gt (a := w.toInt) (b := (1 : Int)) (tgt := 42) hX dX5_cut_12 (by decide) rfl (by decide) (fun h12 => ?_) (fun h12 => ?_)
      · refine g_ldc (v := -1000001) hX cX5_79 dX5_cut_42 ?_
        exact g_iret hX hR dX5_cut_44 (by decide) (by decide) ⟨congrArg (fun z => some (Value.int z)) rfl, rfl, rfl, rfl⟩
      · refine g_iload_n hX dX5_cut_15 rfl 2 rfl ?_
        refine g_iload_n hX dX5_cut_16 rfl 3 rfl ?_
        refine g_ci_eq (a := ((a : Nat) : Int)) (b := ((b : Nat) : Int)) (tgt := 42) hX dX5_cut_17 (by decide) (nI_toInt (by omega)) (nI_toInt (by omega)) (fun h17 => ?_) (fun h17 => ?_)
        · refine g_ldc (v := -1000001) hX cX5_79 dX5_cut_42 ?_
          exact g_iret hX hR dX5_cut_44 (by decide) (by decide) ⟨congrArg (fun z => some (Value.int z)) rfl, rfl, rfl, rfl⟩
        · refine g_aload_n hX dX5_cut_20 rfl 0 rfl ?_
          refine g_getR (j := nw) hX (by decide) (by decide) xCl5 4 (by decide) (by decide) kX5_39 dX5_cut_21 rfl ?_
          refine g_iload_n hX dX5_cut_24 rfl 2 rfl ?_
          refine g_callVi hX (as := [.int (nI a)]) (fun l => c_X0_mayBeCut_t l (I := I) (g := nw) (T := T) (S := S) (F := F) (W := W) (f := f) (t := a) (hg := hnw) (hG := (by first | assumption | omega)) (hW := (by first | assumption | omega)) (ht := (by first | assumption | omega))) mX0_mayBeCut vX0_mayBeCut lX5_152 (xG_n (j := 0) hnw (by decide)) (xG_K0 hnw) xCl0 rfl rfl dX5_cut_25 rfl (by decide) (Nat.le_of_ble_eq_true rfl) (by decide) (by decide) ?_
          refine g_cb_eq (tgt := 42) hX dX5_cut_28 (by decide) (fun h28 => ?_) (fun h28 => ?_)
          · refine g_ldc (v := -1000001) hX cX5_79 dX5_cut_42 ?_
            exact g_iret hX hR dX5_cut_44 (by decide) (by decide) ⟨congrArg (fun z => some (Value.int z)) rfl, rfl, rfl, rfl⟩
          · refine g_aload_n hX dX5_cut_31 rfl 0 rfl ?_
            refine g_getR (j := nw) hX (by decide) (by decide) xCl5 4 (by decide) (by decide) kX5_39 dX5_cut_32 rfl ?_
            refine g_iload_n hX dX5_cut_35 rfl 3 rfl ?_
            refine g_callVi hX (as := [.int (nI b)]) (fun l => c_X0_mayBeCut_t l (I := I) (g := nw) (T := T) (S := S) (F := F) (W := W) (f := f) (t := b) (hg := hnw) (hG := (by first | assumption | omega)) (hW := (by first | assumption | omega)) (ht := hb)) mX0_mayBeCut vX0_mayBeCut lX5_152 (xG_n (j := 0) hnw (by decide)) (xG_K0 hnw) xCl0 rfl rfl dX5_cut_36 rfl (by decide) (Nat.le_of_ble_eq_true rfl) (by decide) (by decide) ?_
            refine g_cb_ne (tgt := 45) hX dX5_cut_39 (by decide) (fun h39 => ?_) (fun h39 => ?_)
            · exact absurd h39 hk
            · refine g_ldc (v := -1000001) hX cX5_79 dX5_cut_42 ?_
              exact g_iret hX hR dX5_cut_44 (by decide) (by decide) ⟨congrArg (fun z => some (Value.int z)) rfl, rfl, rfl, rfl⟩

theorem c_X5_cut_ok0 (l : Launch) {nw sp : Nat} {I : xM} {T S F W : Nat} {f : Nat → Int32} {a b qa qb : Nat} {E : Int32} (hnw : xG nw) (hG : GX I nw f T S F W) (hW : WF f T S F W) (hB : BD f T S) (hx : 0 ≤ E.toInt) (ha : a < T) (hb : b < T) (hab : a ≠ b) (hka : (f (26 + 5 * a + 0)).toInt ≠ 3 ∧ (f (26 + 5 * a + 0)).toInt ≠ 5) (hkb : (f (26 + 5 * b + 0)).toInt ≠ 3 ∧ (f (26 + 5 * b + 0)).toInt ≠ 5) (ea : f (26 + 5 * a + 1) = nI qa) (eb : f (26 + 5 * b + 1) = nI qb) (hqa : qa < 20) (hqb : qb < 20) : xC l 5 0 0 yX5_cut cX5_cut 7 (some .int) 319 [.ref 0, .int E, .int (nI a), .int (nI b), .int (nI 0)] I (xRL nw sp) (xpR 319 (xRL nw sp) (fun r K => (∃ b, K = xrow I 5 b) ∧ ∃ U V, (∀ x, U ≤ x ↔ lcP f (bN f T) S E qa x) ∧ (∀ x, V ≤ x ↔ lcP f (bN f T) S E qb x) ∧ (((U ≤ hN f a ∧ V ≤ hN f b ∧ allM (bcZ (brY f T (f 2) (f 3)) qa qb (-((U : Nat) : Int)) (-((V : Nat) : Int))) f S E) ∧ r = nI (U + V)) ∨ (¬ (U ≤ hN f a ∧ V ≤ hN f b ∧ allM (bcZ (brY f T (f 2) (f 3)) qa qb (-((U : Nat) : Int)) (-((V : Nat) : Int))) f S E) ∧ r = -1000000)))) := by
  refine xC_of (by decide) (Nat.le_of_ble_eq_true rfl) (fun X hXl hX hR => ?_)
  have hX : xOK X RX5 cX5_cut 7 5 0 0 := hX
  show G X 319 0 0 I (xRL nw sp) 0 [(0, .ref 0), (1, .int E), (2, .int (nI a)), (3, .int (nI b)), (4, .int (nI 0))] []
  have hg8 := xG_8 hnw
  have hT6 := hW.T6
  have hS6 := hW.S6
  have hne : qa ≠ qb := fun e => hab (hW.ne ha hb (by rw [ea, eb, e]))
  refine g_iload_n hX dX5_cut_0 rfl 1 rfl ?_
  refine g_cz_lt (a := E.toInt) (tgt := 42) hX dX5_cut_1 (by decide) rfl (fun h1 => ?_) (fun h1 => ?_)
  · exfalso; omega
  · refine g_iload hX dX5_cut_4 4 rfl ?_
    refine g_cz_lt (a := (0 : Int)) (tgt := 42) hX dX5_cut_6 (by decide) (by decide) (fun q => absurd q (by decide)) (fun _ => ?_)
    refine g_iload hX dX5_cut_9 4 rfl ?_
    refine g_iconst (v := nI 1) hX dX5_cut_11 (by decide) ?_
    refine g_ci_gt (a := (0 : Int)) (b := (1 : Int)) (tgt := 42) hX dX5_cut_12 (by decide) (by decide) (by decide) (fun q => absurd q (by decide)) (fun _ => ?_)
    refine g_iload_n hX dX5_cut_15 rfl 2 rfl ?_
    refine g_iload_n hX dX5_cut_16 rfl 3 rfl ?_
    refine g_ci_eq (a := ((a : Nat) : Int)) (b := ((b : Nat) : Int)) (tgt := 42) hX dX5_cut_17 (by decide) (nI_toInt (by omega)) (nI_toInt (by omega)) (fun h17 => ?_) (fun h17 => ?_)
    · exfalso; omega
    · refine g_aload_n hX dX5_cut_20 rfl 0 rfl ?_
      refine g_getR (j := nw) hX (by decide) (by decide) xCl5 4 (by decide) (by decide) kX5_39 dX5_cut_21 rfl ?_
      refine g_iload_n hX dX5_cut_24 rfl 2 rfl ?_
      refine g_callVi hX (as := [.int (nI a)]) (fun l => c_X0_mayBeCut_t l (I := I) (g := nw) (T := T) (S := S) (F := F) (W := W) (f := f) (t := a) (hg := hnw) (hG := (by first | assumption | omega)) (hW := (by first | assumption | omega)) (ht := (by first | assumption | omega))) mX0_mayBeCut vX0_mayBeCut lX5_152 (xG_n (j := 0) hnw (by decide)) (xG_K0 hnw) xCl0 rfl rfl dX5_cut_25 rfl (by decide) (Nat.le_of_ble_eq_true rfl) (by decide) (by decide) ?_
      refine g_cb_eq (tgt := 42) hX dX5_cut_28 (by decide) (fun h28 => ?_) (fun h28 => ?_)
      · exact absurd hka h28
      · refine g_aload_n hX dX5_cut_31 rfl 0 rfl ?_
        refine g_getR (j := nw) hX (by decide) (by decide) xCl5 4 (by decide) (by decide) kX5_39 dX5_cut_32 rfl ?_
        refine g_iload_n hX dX5_cut_35 rfl 3 rfl ?_
        refine g_callVi hX (as := [.int (nI b)]) (fun l => c_X0_mayBeCut_t l (I := I) (g := nw) (T := T) (S := S) (F := F) (W := W) (f := f) (t := b) (hg := hnw) (hG := (by first | assumption | omega)) (hW := (by first | assumption | omega)) (ht := hb)) mX0_mayBeCut vX0_mayBeCut lX5_152 (xG_n (j := 0) hnw (by decide)) (xG_K0 hnw) xCl0 rfl rfl dX5_cut_36 rfl (by decide) (Nat.le_of_ble_eq_true rfl) (by decide) (by decide) ?_
        refine g_cb_ne (tgt := 45) hX dX5_cut_39 (by decide) (fun h39 => ?_) (fun h39 => ?_)
        · refine g_aload_n hX dX5_cut_45 rfl 0 rfl ?_
          refine g_getR (j := 4) hX (by decide) (by decide) xCl5 2 (by decide) (by decide) kX5_25 dX5_cut_46 rfl ?_
          refine g_aload_n hX dX5_cut_49 rfl 0 rfl ?_
          refine g_getR (j := nw) hX (by decide) (by decide) xCl5 4 (by decide) (by decide) kX5_39 dX5_cut_50 rfl ?_
          refine g_callVrv hX (as := [.ref nw]) (fun l => c_X3_lookNow l (I := I) (g := nw) (T := T) (S := S) (F := F) (W := W) (f := f) (hg := hnw) (hG := (by first | assumption | omega)) (hW := (by first | assumption | omega))) mX3_lookNow vX3_lookNow lX5_181 (by decide) (by decide) xCl3 rfl rfl dX5_cut_53 rfl (by decide) (Nat.le_of_ble_eq_true rfl) (by decide) (by decide) (fun J hJ0 => ?_)
          obtain ⟨b0, hJ, hb0⟩ := hJ0
          have hGJ : GX J nw f T S F W := by rw [hJ]; exact hG.ext (fun i h1 h2 => xrow_o (by omega))
          have hb5 : ∀ q, q < 20 → J 5 q = brY f T (f 2) (f 3) q := fun q hq => by rw [hJ, xrow_e]; exact hb0 q hq
          refine g_aload_n hX dX5_cut_56 rfl 0 rfl ?_
          refine g_iload_n hX dX5_cut_57 rfl 1 rfl ?_
          refine g_iload_n hX dX5_cut_58 rfl 2 rfl ?_
          refine g_callVr hX (as := [.int E, .int (nI a)]) (fun l => c_X5_leastCut l (I := J) (T := T) (S := S) (F := F) (W := W) (f := f) (a := a) (q := qa) (E := E) (zf := (bN f T)) (hnw := (by first | assumption | omega)) (hG := hGJ) (hW := (by first | assumption | omega)) (hB := (by first | assumption | omega)) (ha := (by first | assumption | omega)) (ea := ea) (hq := (by omega)) (hz := ((hb5 qa (by omega)).trans (hB.br (by omega)))) (hz2 := (Nat.le_trans (hB.bl (by omega)) (by decide)))) mX5_leastCut vX5_leastCut lX5_208 (by decide) (by decide) xCl5 rfl rfl dX5_cut_59 rfl (by decide) (Nat.le_of_ble_eq_true rfl) (by decide) (by decide) (fun rU JU hpU => ?_)
          obtain ⟨ejU, U, erU, hU9, hcU⟩ := hpU
          subst ejU
          subst erU
          refine g_istore (L' := [(0, .ref 0), (1, .int E), (2, .int (nI a)), (3, .int (nI b)), (4, .int (nI 0)), (5, .int (nI U))]) hX dX5_cut_62 (by decide) rfl ?_
          refine g_aload_n hX dX5_cut_64 rfl 0 rfl ?_
          refine g_iload_n hX dX5_cut_65 rfl 1 rfl ?_
          refine g_iload_n hX dX5_cut_66 rfl 3 rfl ?_
          refine g_callVr hX (as := [.int E, .int (nI b)]) (fun l => c_X5_leastCut l (I := J) (T := T) (S := S) (F := F) (W := W) (f := f) (a := b) (q := qb) (E := E) (zf := (bN f T)) (hnw := (by first | assumption | omega)) (hG := hGJ) (hW := (by first | assumption | omega)) (hB := (by first | assumption | omega)) (ha := (by first | assumption | omega)) (ea := eb) (hq := (by omega)) (hz := ((hb5 qb (by omega)).trans (hB.br (by omega)))) (hz2 := (Nat.le_trans (hB.bl (by omega)) (by decide)))) mX5_leastCut vX5_leastCut lX5_208 (by decide) (by decide) xCl5 rfl rfl dX5_cut_67 rfl (by decide) (Nat.le_of_ble_eq_true rfl) (by decide) (by decide) (fun rV JV hpV => ?_)
          obtain ⟨ejV, V, erV, hV9, hcV⟩ := hpV
          subst ejV
          subst erV
          refine g_istore (L' := [(0, .ref 0), (1, .int E), (2, .int (nI a)), (3, .int (nI b)), (4, .int (nI 0)), (5, .int (nI U)), (6, .int (nI V))]) hX dX5_cut_70 (by decide) rfl ?_
          refine g_iload hX dX5_cut_72 5 rfl ?_
          refine g_aload_n hX dX5_cut_74 rfl 0 rfl ?_
          refine g_getR (j := nw) hX (by decide) (by decide) xCl5 4 (by decide) (by decide) kX5_39 dX5_cut_75 rfl ?_
          refine g_iload_n hX dX5_cut_78 rfl 2 rfl ?_
          refine g_callVi hX (as := [.int (nI a)]) (fun l => c_X0_heightNow l (I := J) (g := nw) (T := T) (S := S) (F := F) (W := W) (f := f) (t := a) (hg := hnw) (hG := (by first | assumption | omega)) (hW := (by first | assumption | omega)) (ht := ha)) mX0_heightNow vX0_heightNow lX5_158 (xG_n (j := 0) hnw (by decide)) (xG_K0 hnw) xCl0 rfl rfl dX5_cut_79 rfl (by decide) (Nat.le_of_ble_eq_true rfl) (by decide) (by decide) ?_
          refine g_top (y := nI (hN f a)) (hB.hi ha) ?_
          have hha := hB.hl ha
          have hhb := hB.hl hb
          refine g_ci_gt (a := ((U : Nat) : Int)) (b := ((hN f a : Nat) : Int)) (tgt := 98) hX dX5_cut_82 (by decide) (nI_toInt (by omega)) (nI_toInt (by omega)) (fun h82 => ?_) (fun h82 => ?_)
          · refine g_ldc (v := -1000000) hX cX5_167 dX5_cut_98 ?_
            exact g_iret hX hR dX5_cut_100 (by decide) (by decide) ⟨_, rfl, rfl, ⟨⟨b0, hJ⟩, U, V, hcU, hcV, Or.inr ⟨fun q => by first | omega | exact h151 q.2.2, rfl⟩⟩, rfl⟩
          · refine g_iload hX dX5_cut_85 6 rfl ?_
            refine g_aload_n hX dX5_cut_87 rfl 0 rfl ?_
            refine g_getR (j := nw) hX (by decide) (by decide) xCl5 4 (by decide) (by decide) kX5_39 dX5_cut_88 rfl ?_
            refine g_iload_n hX dX5_cut_91 rfl 3 rfl ?_
            refine g_callVi hX (as := [.int (nI b)]) (fun l => c_X0_heightNow l (I := J) (g := nw) (T := T) (S := S) (F := F) (W := W) (f := f) (t := b) (hg := hnw) (hG := (by first | assumption | omega)) (hW := (by first | assumption | omega)) (ht := hb)) mX0_heightNow vX0_heightNow lX5_158 (xG_n (j := 0) hnw (by decide)) (xG_K0 hnw) xCl0 rfl rfl dX5_cut_92 rfl (by decide) (Nat.le_of_ble_eq_true rfl) (by decide) (by decide) ?_
            refine g_top (y := nI (hN f b)) (hB.hi hb) ?_
            refine g_ci_le (a := ((V : Nat) : Int)) (b := ((hN f b : Nat) : Int)) (tgt := 101) hX dX5_cut_95 (by decide) (nI_toInt (by omega)) (nI_toInt (by omega)) (fun h95 => ?_) (fun h95 => ?_)
            · refine g_aload_n hX dX5_cut_101 rfl 0 rfl ?_
              refine g_getR (j := 4) hX (by decide) (by decide) xCl5 2 (by decide) (by decide) kX5_25 dX5_cut_102 rfl ?_
              refine g_aload_n hX dX5_cut_105 rfl 0 rfl ?_
              refine g_getR (j := nw) hX (by decide) (by decide) xCl5 4 (by decide) (by decide) kX5_39 dX5_cut_106 rfl ?_
              refine g_getR (j := nw + 3) hX (xG_n (j := 0) hnw (by decide)) (xG_K0 hnw) xCl0 5 (by decide) (by decide) kX5_168 dX5_cut_109 (xRL_g5 hnw) ?_
              refine g_iload_n hX dX5_cut_112 rfl 2 rfl ?_
              refine g_iald (v := nI qa) hX (xG_n (j := 3) hnw (by decide)) (xG_K3 hnw) a rfl (by rw [(xG_N3 hnw)]; omega) dX5_cut_113 ((hGJ.k1 ha).trans ea) ?_
              refine g_iload hX dX5_cut_114 5 rfl ?_
              refine g_ineg (v := zI (-((U : Nat) : Int))) hX dX5_cut_116 (zI_neg ((U : Nat) : Int)) ?_
              refine g_callVv hX (as := [.int (nI qa), .int (zI (-((U : Nat) : Int)))]) (fun l => c_X3_raise l (I := J) (q := qa) (b := (zI (-((U : Nat) : Int)))) (hq := (by first | assumption | omega))) mX3_raise vX3_raise lX5_212 (by decide) (by decide) xCl3 rfl rfl dX5_cut_117 rfl (by decide) (Nat.le_of_ble_eq_true rfl) (by decide) (by decide) ?_
              refine g_aload_n hX dX5_cut_120 rfl 0 rfl ?_
              refine g_getR (j := 4) hX (by decide) (by decide) xCl5 2 (by decide) (by decide) kX5_25 dX5_cut_121 rfl ?_
              refine g_aload_n hX dX5_cut_124 rfl 0 rfl ?_
              refine g_getR (j := nw) hX (by decide) (by decide) xCl5 4 (by decide) (by decide) kX5_39 dX5_cut_125 rfl ?_
              refine g_getR (j := nw + 3) hX (xG_n (j := 0) hnw (by decide)) (xG_K0 hnw) xCl0 5 (by decide) (by decide) kX5_168 dX5_cut_128 (xRL_g5 hnw) ?_
              refine g_iload_n hX dX5_cut_131 rfl 3 rfl ?_
              refine g_iald (v := nI qb) hX (xG_n (j := 3) hnw (by decide)) (xG_K3 hnw) b rfl (by rw [(xG_N3 hnw)]; omega) dX5_cut_132 (xput_o (by omega) ((hGJ.k1 hb).trans eb)) ?_
              refine g_iload hX dX5_cut_133 6 rfl ?_
              refine g_ineg (v := zI (-((V : Nat) : Int))) hX dX5_cut_135 (zI_neg ((V : Nat) : Int)) ?_
              refine g_callVv hX (as := [.int (nI qb), .int (zI (-((V : Nat) : Int)))]) (fun l => c_X3_raise l (I := (xput J 5 qa (J 5 qa + (zI (-((U : Nat) : Int)))))) (q := qb) (b := (zI (-((V : Nat) : Int)))) (hq := (by first | assumption | omega))) mX3_raise vX3_raise lX5_212 (by decide) (by decide) xCl3 rfl rfl dX5_cut_136 rfl (by decide) (Nat.le_of_ble_eq_true rfl) (by decide) (by decide) ?_
              refine g_aload_n hX dX5_cut_139 rfl 0 rfl ?_
              refine g_getR (j := 4) hX (by decide) (by decide) xCl5 2 (by decide) (by decide) kX5_25 dX5_cut_140 rfl ?_
              refine g_aload_n hX dX5_cut_143 rfl 0 rfl ?_
              refine g_getR (j := nw) hX (by decide) (by decide) xCl5 4 (by decide) (by decide) kX5_39 dX5_cut_144 rfl ?_
              refine g_iload_n hX dX5_cut_147 rfl 1 rfl ?_
              refine g_callVi hX (as := [.ref nw, .int E]) (fun l => c_X3_wantsAreMetForAll l (I := (xput (xput J 5 qa (J 5 qa + (zI (-((U : Nat) : Int))))) 5 qb ((xput J 5 qa (J 5 qa + (zI (-((U : Nat) : Int))))) 5 qb + (zI (-((V : Nat) : Int)))))) (g := nw) (T := T) (S := S) (F := F) (W := W) (f := f) (x := E) (hg := hnw) (hG := (hGJ.ext (fun i h1 h2 => (xput_ne (by omega)).trans (xput_ne (by omega))))) (hW := (by first | assumption | omega))) mX3_wantsAreMetForAll vX3_wantsAreMetForAll lX5_215 (by decide) (by decide) xCl3 rfl rfl dX5_cut_148 rfl (by decide) (Nat.le_of_ble_eq_true rfl) (by decide) (by decide) ?_
              refine g_top (y := xb (allM (bcZ (brY f T (f 2) (f 3)) qa qb (-((U : Nat) : Int)) (-((V : Nat) : Int))) f S E)) (xb_iff (allM_congr (fun q hq => bc_mem hne hb5 hqa hqb hq) hW)) ?_
              refine g_cb_ne (tgt := 157) hX dX5_cut_151 (by decide) (fun h151 => ?_) (fun h151 => ?_)
              · refine g_iload hX dX5_cut_157 4 rfl ?_
                refine g_cz_ne (a := (0 : Int)) (tgt := 170) hX dX5_cut_159 (by decide) (by decide) (fun q => absurd q (by decide)) (fun _ => ?_)
                refine g_iload hX dX5_cut_162 5 rfl ?_
                refine g_iload hX dX5_cut_164 6 rfl ?_
                refine g_iadd (v := nI (U + V)) hX dX5_cut_166 (nI_add U V) ?_
                refine g_goto (tgt := 172) hX dX5_cut_167 (by decide) ?_
                exact g_iret hX hR dX5_cut_172 (by decide) (by decide) ⟨_, rfl, rfl, ⟨⟨_, (by rw [hJ, xput_row, xrow_e, xput_row])⟩, U, V, hcU, hcV, Or.inl ⟨⟨by omega, by omega, h151⟩, rfl⟩⟩, rfl⟩
              · refine g_ldc (v := -1000000) hX cX5_167 dX5_cut_154 ?_
                exact g_iret hX hR dX5_cut_156 (by decide) (by decide) ⟨_, rfl, rfl, ⟨⟨_, (by rw [hJ, xput_row, xrow_e, xput_row])⟩, U, V, hcU, hcV, Or.inr ⟨fun q => h151 q.2.2, rfl⟩⟩, rfl⟩
            · refine g_ldc (v := -1000000) hX cX5_167 dX5_cut_98 ?_
              exact g_iret hX hR dX5_cut_100 (by decide) (by decide) ⟨_, rfl, rfl, ⟨⟨b0, hJ⟩, U, V, hcU, hcV, Or.inr ⟨fun q => by first | omega | exact h151 q.2.2, rfl⟩⟩, rfl⟩
        · exact absurd hkb h39

theorem c_X5_cut_ok1 (l : Launch) {nw sp : Nat} {I : xM} {T S F W : Nat} {f : Nat → Int32} {a b qa qb : Nat} {E : Int32} (hnw : xG nw) (hG : GX I nw f T S F W) (hW : WF f T S F W) (hB : BD f T S) (hx : 0 ≤ E.toInt) (ha : a < T) (hb : b < T) (hab : a ≠ b) (hka : (f (26 + 5 * a + 0)).toInt ≠ 3 ∧ (f (26 + 5 * a + 0)).toInt ≠ 5) (hkb : (f (26 + 5 * b + 0)).toInt ≠ 3 ∧ (f (26 + 5 * b + 0)).toInt ≠ 5) (ea : f (26 + 5 * a + 1) = nI qa) (eb : f (26 + 5 * b + 1) = nI qb) (hqa : qa < 20) (hqb : qb < 20) : xC l 5 0 0 yX5_cut cX5_cut 7 (some .int) 319 [.ref 0, .int E, .int (nI a), .int (nI b), .int (nI 1)] I (xRL nw sp) (xpR 319 (xRL nw sp) (fun r K => (∃ b, K = xrow I 5 b) ∧ ∃ U V, (∀ x, U ≤ x ↔ lcP f (bN f T) S E qa x) ∧ (∀ x, V ≤ x ↔ lcP f (bN f T) S E qb x) ∧ (((U ≤ hN f a ∧ V ≤ hN f b ∧ allM (bcZ (brY f T (f 2) (f 3)) qa qb (-((U : Nat) : Int)) (-((V : Nat) : Int))) f S E) ∧ r = nI U) ∨ (¬ (U ≤ hN f a ∧ V ≤ hN f b ∧ allM (bcZ (brY f T (f 2) (f 3)) qa qb (-((U : Nat) : Int)) (-((V : Nat) : Int))) f S E) ∧ r = -1000000)))) := by
  refine xC_of (by decide) (Nat.le_of_ble_eq_true rfl) (fun X hXl hX hR => ?_)
  have hX : xOK X RX5 cX5_cut 7 5 0 0 := hX
  show G X 319 0 0 I (xRL nw sp) 0 [(0, .ref 0), (1, .int E), (2, .int (nI a)), (3, .int (nI b)), (4, .int (nI 1))] []
  have hg8 := xG_8 hnw
  have hT6 := hW.T6
  have hS6 := hW.S6
  have hne : qa ≠ qb := fun e => hab (hW.ne ha hb (by rw [ea, eb, e]))
  refine g_iload_n hX dX5_cut_0 rfl 1 rfl ?_
  refine g_cz_lt (a := E.toInt) (tgt := 42) hX dX5_cut_1 (by decide) rfl (fun h1 => ?_) (fun h1 => ?_)
  · exfalso; omega
  · refine g_iload hX dX5_cut_4 4 rfl ?_
    refine g_cz_lt (a := (1 : Int)) (tgt := 42) hX dX5_cut_6 (by decide) (by decide) (fun q => absurd q (by decide)) (fun _ => ?_)
    refine g_iload hX dX5_cut_9 4 rfl ?_
    refine g_iconst (v := nI 1) hX dX5_cut_11 (by decide) ?_
    refine g_ci_gt (a := (1 : Int)) (b := (1 : Int)) (tgt := 42) hX dX5_cut_12 (by decide) (by decide) (by decide) (fun q => absurd q (by decide)) (fun _ => ?_)
    refine g_iload_n hX dX5_cut_15 rfl 2 rfl ?_
    refine g_iload_n hX dX5_cut_16 rfl 3 rfl ?_
    refine g_ci_eq (a := ((a : Nat) : Int)) (b := ((b : Nat) : Int)) (tgt := 42) hX dX5_cut_17 (by decide) (nI_toInt (by omega)) (nI_toInt (by omega)) (fun h17 => ?_) (fun h17 => ?_)
    · exfalso; omega
    · refine g_aload_n hX dX5_cut_20 rfl 0 rfl ?_
      refine g_getR (j := nw) hX (by decide) (by decide) xCl5 4 (by decide) (by decide) kX5_39 dX5_cut_21 rfl ?_
      refine g_iload_n hX dX5_cut_24 rfl 2 rfl ?_
      refine g_callVi hX (as := [.int (nI a)]) (fun l => c_X0_mayBeCut_t l (I := I) (g := nw) (T := T) (S := S) (F := F) (W := W) (f := f) (t := a) (hg := hnw) (hG := (by first | assumption | omega)) (hW := (by first | assumption | omega)) (ht := (by first | assumption | omega))) mX0_mayBeCut vX0_mayBeCut lX5_152 (xG_n (j := 0) hnw (by decide)) (xG_K0 hnw) xCl0 rfl rfl dX5_cut_25 rfl (by decide) (Nat.le_of_ble_eq_true rfl) (by decide) (by decide) ?_
      refine g_cb_eq (tgt := 42) hX dX5_cut_28 (by decide) (fun h28 => ?_) (fun h28 => ?_)
      · exact absurd hka h28
      · refine g_aload_n hX dX5_cut_31 rfl 0 rfl ?_
        refine g_getR (j := nw) hX (by decide) (by decide) xCl5 4 (by decide) (by decide) kX5_39 dX5_cut_32 rfl ?_
        refine g_iload_n hX dX5_cut_35 rfl 3 rfl ?_
        refine g_callVi hX (as := [.int (nI b)]) (fun l => c_X0_mayBeCut_t l (I := I) (g := nw) (T := T) (S := S) (F := F) (W := W) (f := f) (t := b) (hg := hnw) (hG := (by first | assumption | omega)) (hW := (by first | assumption | omega)) (ht := hb)) mX0_mayBeCut vX0_mayBeCut lX5_152 (xG_n (j := 0) hnw (by decide)) (xG_K0 hnw) xCl0 rfl rfl dX5_cut_36 rfl (by decide) (Nat.le_of_ble_eq_true rfl) (by decide) (by decide) ?_
        refine g_cb_ne (tgt := 45) hX dX5_cut_39 (by decide) (fun h39 => ?_) (fun h39 => ?_)
        · refine g_aload_n hX dX5_cut_45 rfl 0 rfl ?_
          refine g_getR (j := 4) hX (by decide) (by decide) xCl5 2 (by decide) (by decide) kX5_25 dX5_cut_46 rfl ?_
          refine g_aload_n hX dX5_cut_49 rfl 0 rfl ?_
          refine g_getR (j := nw) hX (by decide) (by decide) xCl5 4 (by decide) (by decide) kX5_39 dX5_cut_50 rfl ?_
          refine g_callVrv hX (as := [.ref nw]) (fun l => c_X3_lookNow l (I := I) (g := nw) (T := T) (S := S) (F := F) (W := W) (f := f) (hg := hnw) (hG := (by first | assumption | omega)) (hW := (by first | assumption | omega))) mX3_lookNow vX3_lookNow lX5_181 (by decide) (by decide) xCl3 rfl rfl dX5_cut_53 rfl (by decide) (Nat.le_of_ble_eq_true rfl) (by decide) (by decide) (fun J hJ0 => ?_)
          obtain ⟨b0, hJ, hb0⟩ := hJ0
          have hGJ : GX J nw f T S F W := by rw [hJ]; exact hG.ext (fun i h1 h2 => xrow_o (by omega))
          have hb5 : ∀ q, q < 20 → J 5 q = brY f T (f 2) (f 3) q := fun q hq => by rw [hJ, xrow_e]; exact hb0 q hq
          refine g_aload_n hX dX5_cut_56 rfl 0 rfl ?_
          refine g_iload_n hX dX5_cut_57 rfl 1 rfl ?_
          refine g_iload_n hX dX5_cut_58 rfl 2 rfl ?_
          refine g_callVr hX (as := [.int E, .int (nI a)]) (fun l => c_X5_leastCut l (I := J) (T := T) (S := S) (F := F) (W := W) (f := f) (a := a) (q := qa) (E := E) (zf := (bN f T)) (hnw := (by first | assumption | omega)) (hG := hGJ) (hW := (by first | assumption | omega)) (hB := (by first | assumption | omega)) (ha := (by first | assumption | omega)) (ea := ea) (hq := (by omega)) (hz := ((hb5 qa (by omega)).trans (hB.br (by omega)))) (hz2 := (Nat.le_trans (hB.bl (by omega)) (by decide)))) mX5_leastCut vX5_leastCut lX5_208 (by decide) (by decide) xCl5 rfl rfl dX5_cut_59 rfl (by decide) (Nat.le_of_ble_eq_true rfl) (by decide) (by decide) (fun rU JU hpU => ?_)
          obtain ⟨ejU, U, erU, hU9, hcU⟩ := hpU
          subst ejU
          subst erU
          refine g_istore (L' := [(0, .ref 0), (1, .int E), (2, .int (nI a)), (3, .int (nI b)), (4, .int (nI 1)), (5, .int (nI U))]) hX dX5_cut_62 (by decide) rfl ?_
          refine g_aload_n hX dX5_cut_64 rfl 0 rfl ?_
          refine g_iload_n hX dX5_cut_65 rfl 1 rfl ?_
          refine g_iload_n hX dX5_cut_66 rfl 3 rfl ?_
          refine g_callVr hX (as := [.int E, .int (nI b)]) (fun l => c_X5_leastCut l (I := J) (T := T) (S := S) (F := F) (W := W) (f := f) (a := b) (q := qb) (E := E) (zf := (bN f T)) (hnw := (by first | assumption | omega)) (hG := hGJ) (hW := (by first | assumption | omega)) (hB := (by first | assumption | omega)) (ha := (by first | assumption | omega)) (ea := eb) (hq := (by omega)) (hz := ((hb5 qb (by omega)).trans (hB.br (by omega)))) (hz2 := (Nat.le_trans (hB.bl (by omega)) (by decide)))) mX5_leastCut vX5_leastCut lX5_208 (by decide) (by decide) xCl5 rfl rfl dX5_cut_67 rfl (by decide) (Nat.le_of_ble_eq_true rfl) (by decide) (by decide) (fun rV JV hpV => ?_)
          obtain ⟨ejV, V, erV, hV9, hcV⟩ := hpV
          subst ejV
          subst erV
          refine g_istore (L' := [(0, .ref 0), (1, .int E), (2, .int (nI a)), (3, .int (nI b)), (4, .int (nI 1)), (5, .int (nI U)), (6, .int (nI V))]) hX dX5_cut_70 (by decide) rfl ?_
          refine g_iload hX dX5_cut_72 5 rfl ?_
          refine g_aload_n hX dX5_cut_74 rfl 0 rfl ?_
          refine g_getR (j := nw) hX (by decide) (by decide) xCl5 4 (by decide) (by decide) kX5_39 dX5_cut_75 rfl ?_
          refine g_iload_n hX dX5_cut_78 rfl 2 rfl ?_
          refine g_callVi hX (as := [.int (nI a)]) (fun l => c_X0_heightNow l (I := J) (g := nw) (T := T) (S := S) (F := F) (W := W) (f := f) (t := a) (hg := hnw) (hG := (by first | assumption | omega)) (hW := (by first | assumption | omega)) (ht := ha)) mX0_heightNow vX0_heightNow lX5_158 (xG_n (j := 0) hnw (by decide)) (xG_K0 hnw) xCl0 rfl rfl dX5_cut_79 rfl (by decide) (Nat.le_of_ble_eq_true rfl) (by decide) (by decide) ?_
          refine g_top (y := nI (hN f a)) (hB.hi ha) ?_
          have hha := hB.hl ha
          have hhb := hB.hl hb
          refine g_ci_gt (a := ((U : Nat) : Int)) (b := ((hN f a : Nat) : Int)) (tgt := 98) hX dX5_cut_82 (by decide) (nI_toInt (by omega)) (nI_toInt (by omega)) (fun h82 => ?_) (fun h82 => ?_)
          · refine g_ldc (v := -1000000) hX cX5_167 dX5_cut_98 ?_
            exact g_iret hX hR dX5_cut_100 (by decide) (by decide) ⟨_, rfl, rfl, ⟨⟨b0, hJ⟩, U, V, hcU, hcV, Or.inr ⟨fun q => by first | omega | exact h151 q.2.2, rfl⟩⟩, rfl⟩
          · refine g_iload hX dX5_cut_85 6 rfl ?_
            refine g_aload_n hX dX5_cut_87 rfl 0 rfl ?_
            refine g_getR (j := nw) hX (by decide) (by decide) xCl5 4 (by decide) (by decide) kX5_39 dX5_cut_88 rfl ?_
            refine g_iload_n hX dX5_cut_91 rfl 3 rfl ?_
            refine g_callVi hX (as := [.int (nI b)]) (fun l => c_X0_heightNow l (I := J) (g := nw) (T := T) (S := S) (F := F) (W := W) (f := f) (t := b) (hg := hnw) (hG := (by first | assumption | omega)) (hW := (by first | assumption | omega)) (ht := hb)) mX0_heightNow vX0_heightNow lX5_158 (xG_n (j := 0) hnw (by decide)) (xG_K0 hnw) xCl0 rfl rfl dX5_cut_92 rfl (by decide) (Nat.le_of_ble_eq_true rfl) (by decide) (by decide) ?_
            refine g_top (y := nI (hN f b)) (hB.hi hb) ?_
            refine g_ci_le (a := ((V : Nat) : Int)) (b := ((hN f b : Nat) : Int)) (tgt := 101) hX dX5_cut_95 (by decide) (nI_toInt (by omega)) (nI_toInt (by omega)) (fun h95 => ?_) (fun h95 => ?_)
            · refine g_aload_n hX dX5_cut_101 rfl 0 rfl ?_
              refine g_getR (j := 4) hX (by decide) (by decide) xCl5 2 (by decide) (by decide) kX5_25 dX5_cut_102 rfl ?_
              refine g_aload_n hX dX5_cut_105 rfl 0 rfl ?_
              refine g_getR (j := nw) hX (by decide) (by decide) xCl5 4 (by decide) (by decide) kX5_39 dX5_cut_106 rfl ?_
              refine g_getR (j := nw + 3) hX (xG_n (j := 0) hnw (by decide)) (xG_K0 hnw) xCl0 5 (by decide) (by decide) kX5_168 dX5_cut_109 (xRL_g5 hnw) ?_
              refine g_iload_n hX dX5_cut_112 rfl 2 rfl ?_
              refine g_iald (v := nI qa) hX (xG_n (j := 3) hnw (by decide)) (xG_K3 hnw) a rfl (by rw [(xG_N3 hnw)]; omega) dX5_cut_113 ((hGJ.k1 ha).trans ea) ?_
              refine g_iload hX dX5_cut_114 5 rfl ?_
              refine g_ineg (v := zI (-((U : Nat) : Int))) hX dX5_cut_116 (zI_neg ((U : Nat) : Int)) ?_
              refine g_callVv hX (as := [.int (nI qa), .int (zI (-((U : Nat) : Int)))]) (fun l => c_X3_raise l (I := J) (q := qa) (b := (zI (-((U : Nat) : Int)))) (hq := (by first | assumption | omega))) mX3_raise vX3_raise lX5_212 (by decide) (by decide) xCl3 rfl rfl dX5_cut_117 rfl (by decide) (Nat.le_of_ble_eq_true rfl) (by decide) (by decide) ?_
              refine g_aload_n hX dX5_cut_120 rfl 0 rfl ?_
              refine g_getR (j := 4) hX (by decide) (by decide) xCl5 2 (by decide) (by decide) kX5_25 dX5_cut_121 rfl ?_
              refine g_aload_n hX dX5_cut_124 rfl 0 rfl ?_
              refine g_getR (j := nw) hX (by decide) (by decide) xCl5 4 (by decide) (by decide) kX5_39 dX5_cut_125 rfl ?_
              refine g_getR (j := nw + 3) hX (xG_n (j := 0) hnw (by decide)) (xG_K0 hnw) xCl0 5 (by decide) (by decide) kX5_168 dX5_cut_128 (xRL_g5 hnw) ?_
              refine g_iload_n hX dX5_cut_131 rfl 3 rfl ?_
              refine g_iald (v := nI qb) hX (xG_n (j := 3) hnw (by decide)) (xG_K3 hnw) b rfl (by rw [(xG_N3 hnw)]; omega) dX5_cut_132 (xput_o (by omega) ((hGJ.k1 hb).trans eb)) ?_
              refine g_iload hX dX5_cut_133 6 rfl ?_
              refine g_ineg (v := zI (-((V : Nat) : Int))) hX dX5_cut_135 (zI_neg ((V : Nat) : Int)) ?_
              refine g_callVv hX (as := [.int (nI qb), .int (zI (-((V : Nat) : Int)))]) (fun l => c_X3_raise l (I := (xput J 5 qa (J 5 qa + (zI (-((U : Nat) : Int)))))) (q := qb) (b := (zI (-((V : Nat) : Int)))) (hq := (by first | assumption | omega))) mX3_raise vX3_raise lX5_212 (by decide) (by decide) xCl3 rfl rfl dX5_cut_136 rfl (by decide) (Nat.le_of_ble_eq_true rfl) (by decide) (by decide) ?_
              refine g_aload_n hX dX5_cut_139 rfl 0 rfl ?_
              refine g_getR (j := 4) hX (by decide) (by decide) xCl5 2 (by decide) (by decide) kX5_25 dX5_cut_140 rfl ?_
              refine g_aload_n hX dX5_cut_143 rfl 0 rfl ?_
              refine g_getR (j := nw) hX (by decide) (by decide) xCl5 4 (by decide) (by decide) kX5_39 dX5_cut_144 rfl ?_
              refine g_iload_n hX dX5_cut_147 rfl 1 rfl ?_
              refine g_callVi hX (as := [.ref nw, .int E]) (fun l => c_X3_wantsAreMetForAll l (I := (xput (xput J 5 qa (J 5 qa + (zI (-((U : Nat) : Int))))) 5 qb ((xput J 5 qa (J 5 qa + (zI (-((U : Nat) : Int))))) 5 qb + (zI (-((V : Nat) : Int)))))) (g := nw) (T := T) (S := S) (F := F) (W := W) (f := f) (x := E) (hg := hnw) (hG := (hGJ.ext (fun i h1 h2 => (xput_ne (by omega)).trans (xput_ne (by omega))))) (hW := (by first | assumption | omega))) mX3_wantsAreMetForAll vX3_wantsAreMetForAll lX5_215 (by decide) (by decide) xCl3 rfl rfl dX5_cut_148 rfl (by decide) (Nat.le_of_ble_eq_true rfl) (by decide) (by decide) ?_
              refine g_top (y := xb (allM (bcZ (brY f T (f 2) (f 3)) qa qb (-((U : Nat) : Int)) (-((V : Nat) : Int))) f S E)) (xb_iff (allM_congr (fun q hq => bc_mem hne hb5 hqa hqb hq) hW)) ?_
              refine g_cb_ne (tgt := 157) hX dX5_cut_151 (by decide) (fun h151 => ?_) (fun h151 => ?_)
              · refine g_iload hX dX5_cut_157 4 rfl ?_
                refine g_cz_ne (a := (1 : Int)) (tgt := 170) hX dX5_cut_159 (by decide) (by decide) (fun _ => ?_) (fun q => absurd q (by decide))
                refine g_iload hX dX5_cut_170 5 rfl ?_
                exact g_iret hX hR dX5_cut_172 (by decide) (by decide) ⟨_, rfl, rfl, ⟨⟨_, (by rw [hJ, xput_row, xrow_e, xput_row])⟩, U, V, hcU, hcV, Or.inl ⟨⟨by omega, by omega, h151⟩, rfl⟩⟩, rfl⟩
              · refine g_ldc (v := -1000000) hX cX5_167 dX5_cut_154 ?_
                exact g_iret hX hR dX5_cut_156 (by decide) (by decide) ⟨_, rfl, rfl, ⟨⟨_, (by rw [hJ, xput_row, xrow_e, xput_row])⟩, U, V, hcU, hcV, Or.inr ⟨fun q => h151 q.2.2, rfl⟩⟩, rfl⟩
            · refine g_ldc (v := -1000000) hX cX5_167 dX5_cut_98 ?_
              exact g_iret hX hR dX5_cut_100 (by decide) (by decide) ⟨_, rfl, rfl, ⟨⟨b0, hJ⟩, U, V, hcU, hcV, Or.inr ⟨fun q => by first | omega | exact h151 q.2.2, rfl⟩⟩, rfl⟩
        · exact absurd hkb h39
