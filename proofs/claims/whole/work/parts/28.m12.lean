theorem c_X4_note (l : Launch) {nw sp : Nat} {I : xM} {n : Nat} {x : Int32} (hn : I 6 1 = nI n) (hn16 : n < 16) : xC l 1 0 0 yX4_note cX4_note 2 none 319 [.ref 6, .int x] I (xRL nw sp) (xpV 319 (xput (xput I 7 n x) 6 1 (nI (n + 1))) (xRL nw sp)) := by
  refine xC_of (by decide) (Nat.le_of_ble_eq_true rfl) (fun X hXl hX hR => ?_)
  have hX : xOK X RX4 cX4_note 2 1 0 0 := hX
  show G X 319 0 0 I (xRL nw sp) 0 [(0, .ref 6), (1, .int x)] []
  refine g_aload_n hX dX4_note_0 rfl 0 rfl ?_
  refine g_getI (v := nI n) hX (by decide) (by decide) xCl4 1 (by decide) (by decide) kX4_15 dX4_note_1 hn ?_
  refine g_bipush (v := nI 16) hX dX4_note_4 (by decide) ?_
  refine g_ci_ge (a := ((n : Nat) : Int)) (b := (16 : Int)) (tgt := 29) hX dX4_note_6 (by decide) (nI_toInt (by omega)) (by decide) (fun h6 => ?_) (fun h6 => ?_)
  · exfalso; omega
  · refine g_aload_n hX dX4_note_9 rfl 0 rfl ?_
    refine g_getR (j := 7) hX (by decide) (by decide) xCl4 0 (by decide) (by decide) kX4_9 dX4_note_10 rfl ?_
    refine g_aload_n hX dX4_note_13 rfl 0 rfl ?_
    refine g_getI (v := nI n) hX (by decide) (by decide) xCl4 1 (by decide) (by decide) kX4_15 dX4_note_14 hn ?_
    refine g_iload_n hX dX4_note_17 rfl 1 rfl ?_
    refine g_iast hX (by decide) (by decide) n rfl (by rw [(show xN 7 = 16 by decide)]; omega) dX4_note_18 ?_
    refine g_aload_n hX dX4_note_19 rfl 0 rfl ?_
    refine g_dup hX rfl dX4_note_20 ?_
    refine g_getI (v := nI n) hX (by decide) (by decide) xCl4 1 (by decide) (by decide) kX4_15 dX4_note_21 (xput_o (by decide) hn) ?_
    refine g_iconst (v := nI 1) hX dX4_note_24 (by decide) ?_
    refine g_iadd (v := nI (n + 1)) hX dX4_note_25 (nI_add n 1) ?_
    refine g_putI hX (by decide) (by decide) xCl4 1 (by decide) (by decide) (by decide) kX4_15 dX4_note_26 rfl rfl ?_
    exact g_vret hX hR dX4_note_29 (by decide) (by decide) ⟨rfl, rfl, rfl, rfl⟩

theorem c_X5_bodyOfSize_1 (l : Launch) {nw sp : Nat} {I : xM}   : xC l 1 0 0 yX5_bodyOfSize cX5_bodyOfSize 1 (some .int) 319 [.int (nI 1)] I (xRL nw sp) (xpI (nI 11) 319 I (xRL nw sp)) := by
  refine xC_of (by decide) (Nat.le_of_ble_eq_true rfl) (fun X hXl hX hR => ?_)
  have hX : xOK X RX5 cX5_bodyOfSize 1 1 0 0 := hX
  show G X 319 0 0 I (xRL nw sp) 0 [(0, .int (nI 1))] []
  refine g_iload_n hX dX5_bodyOfSize_0 rfl 0 rfl ?_
  refine g_tsI (a := (1 : Int)) (v := 1) (tgt := 36) hX dX5_bodyOfSize_1 (by decide) rfl (by decide) (by decide) rfl (by decide) ?_
  refine g_bipush (v := nI 11) hX dX5_bodyOfSize_36 (by decide) ?_
  exact g_iret hX hR dX5_bodyOfSize_38 (by decide) (by decide) ⟨congrArg (fun z => some (Value.int z)) rfl, rfl, rfl, rfl⟩

theorem c_X5_bodyOfSize_2 (l : Launch) {nw sp : Nat} {I : xM}   : xC l 1 0 0 yX5_bodyOfSize cX5_bodyOfSize 1 (some .int) 319 [.int (nI 2)] I (xRL nw sp) (xpI (nI 12) 319 I (xRL nw sp)) := by
  refine xC_of (by decide) (Nat.le_of_ble_eq_true rfl) (fun X hXl hX hR => ?_)
  have hX : xOK X RX5 cX5_bodyOfSize 1 1 0 0 := hX
  show G X 319 0 0 I (xRL nw sp) 0 [(0, .int (nI 2))] []
  refine g_iload_n hX dX5_bodyOfSize_0 rfl 0 rfl ?_
  refine g_tsI (a := (2 : Int)) (v := 2) (tgt := 39) hX dX5_bodyOfSize_1 (by decide) rfl (by decide) (by decide) rfl (by decide) ?_
  refine g_bipush (v := nI 12) hX dX5_bodyOfSize_39 (by decide) ?_
  exact g_iret hX hR dX5_bodyOfSize_41 (by decide) (by decide) ⟨congrArg (fun z => some (Value.int z)) rfl, rfl, rfl, rfl⟩

theorem c_X5_bodyOfSize_3 (l : Launch) {nw sp : Nat} {I : xM}   : xC l 1 0 0 yX5_bodyOfSize cX5_bodyOfSize 1 (some .int) 319 [.int (nI 3)] I (xRL nw sp) (xpI (nI 10) 319 I (xRL nw sp)) := by
  refine xC_of (by decide) (Nat.le_of_ble_eq_true rfl) (fun X hXl hX hR => ?_)
  have hX : xOK X RX5 cX5_bodyOfSize 1 1 0 0 := hX
  show G X 319 0 0 I (xRL nw sp) 0 [(0, .int (nI 3))] []
  refine g_iload_n hX dX5_bodyOfSize_0 rfl 0 rfl ?_
  refine g_tsI (a := (3 : Int)) (v := 3) (tgt := 48) hX dX5_bodyOfSize_1 (by decide) rfl (by decide) (by decide) rfl (by decide) ?_
  refine g_bipush (v := nI 10) hX dX5_bodyOfSize_48 (by decide) ?_
  exact g_iret hX hR dX5_bodyOfSize_50 (by decide) (by decide) ⟨congrArg (fun z => some (Value.int z)) rfl, rfl, rfl, rfl⟩

theorem c_X5_bodyOfSize_4 (l : Launch) {nw sp : Nat} {I : xM}   : xC l 1 0 0 yX5_bodyOfSize cX5_bodyOfSize 1 (some .int) 319 [.int (nI 4)] I (xRL nw sp) (xpI (nI 13) 319 I (xRL nw sp)) := by
  refine xC_of (by decide) (Nat.le_of_ble_eq_true rfl) (fun X hXl hX hR => ?_)
  have hX : xOK X RX5 cX5_bodyOfSize 1 1 0 0 := hX
  show G X 319 0 0 I (xRL nw sp) 0 [(0, .int (nI 4))] []
  refine g_iload_n hX dX5_bodyOfSize_0 rfl 0 rfl ?_
  refine g_tsI (a := (4 : Int)) (v := 4) (tgt := 42) hX dX5_bodyOfSize_1 (by decide) rfl (by decide) (by decide) rfl (by decide) ?_
  refine g_bipush (v := nI 13) hX dX5_bodyOfSize_42 (by decide) ?_
  exact g_iret hX hR dX5_bodyOfSize_44 (by decide) (by decide) ⟨congrArg (fun z => some (Value.int z)) rfl, rfl, rfl, rfl⟩

theorem c_X5_bodyOfSize_5 (l : Launch) {nw sp : Nat} {I : xM}   : xC l 1 0 0 yX5_bodyOfSize cX5_bodyOfSize 1 (some .int) 319 [.int (nI 5)] I (xRL nw sp) (xpI (nI 14) 319 I (xRL nw sp)) := by
  refine xC_of (by decide) (Nat.le_of_ble_eq_true rfl) (fun X hXl hX hR => ?_)
  have hX : xOK X RX5 cX5_bodyOfSize 1 1 0 0 := hX
  show G X 319 0 0 I (xRL nw sp) 0 [(0, .int (nI 5))] []
  refine g_iload_n hX dX5_bodyOfSize_0 rfl 0 rfl ?_
  refine g_tsI (a := (5 : Int)) (v := 5) (tgt := 45) hX dX5_bodyOfSize_1 (by decide) rfl (by decide) (by decide) rfl (by decide) ?_
  refine g_bipush (v := nI 14) hX dX5_bodyOfSize_45 (by decide) ?_
  exact g_iret hX hR dX5_bodyOfSize_47 (by decide) (by decide) ⟨congrArg (fun z => some (Value.int z)) rfl, rfl, rfl, rfl⟩

theorem c_X5_bodyOfMark_1 (l : Launch) {nw sp : Nat} {I : xM}   : xC l 1 0 0 yX5_bodyOfMark cX5_bodyOfMark 1 (some .int) 319 [.int (nI 1)] I (xRL nw sp) (xpI (nI 21) 319 I (xRL nw sp)) := by
  refine xC_of (by decide) (Nat.le_of_ble_eq_true rfl) (fun X hXl hX hR => ?_)
  have hX : xOK X RX5 cX5_bodyOfMark 1 1 0 0 := hX
  show G X 319 0 0 I (xRL nw sp) 0 [(0, .int (nI 1))] []
  refine g_iload_n hX dX5_bodyOfMark_0 rfl 0 rfl ?_
  refine g_tsI (a := (1 : Int)) (v := 1) (tgt := 36) hX dX5_bodyOfMark_1 (by decide) rfl (by decide) (by decide) rfl (by decide) ?_
  refine g_bipush (v := nI 21) hX dX5_bodyOfMark_36 (by decide) ?_
  exact g_iret hX hR dX5_bodyOfMark_38 (by decide) (by decide) ⟨congrArg (fun z => some (Value.int z)) rfl, rfl, rfl, rfl⟩

theorem c_X5_bodyOfMark_2 (l : Launch) {nw sp : Nat} {I : xM}   : xC l 1 0 0 yX5_bodyOfMark cX5_bodyOfMark 1 (some .int) 319 [.int (nI 2)] I (xRL nw sp) (xpI (nI 24) 319 I (xRL nw sp)) := by
  refine xC_of (by decide) (Nat.le_of_ble_eq_true rfl) (fun X hXl hX hR => ?_)
  have hX : xOK X RX5 cX5_bodyOfMark 1 1 0 0 := hX
  show G X 319 0 0 I (xRL nw sp) 0 [(0, .int (nI 2))] []
  refine g_iload_n hX dX5_bodyOfMark_0 rfl 0 rfl ?_
  refine g_tsI (a := (2 : Int)) (v := 2) (tgt := 39) hX dX5_bodyOfMark_1 (by decide) rfl (by decide) (by decide) rfl (by decide) ?_
  refine g_bipush (v := nI 24) hX dX5_bodyOfMark_39 (by decide) ?_
  exact g_iret hX hR dX5_bodyOfMark_41 (by decide) (by decide) ⟨congrArg (fun z => some (Value.int z)) rfl, rfl, rfl, rfl⟩

theorem c_X5_bodyOfMark_3 (l : Launch) {nw sp : Nat} {I : xM}   : xC l 1 0 0 yX5_bodyOfMark cX5_bodyOfMark 1 (some .int) 319 [.int (nI 3)] I (xRL nw sp) (xpI (nI 22) 319 I (xRL nw sp)) := by
  refine xC_of (by decide) (Nat.le_of_ble_eq_true rfl) (fun X hXl hX hR => ?_)
  have hX : xOK X RX5 cX5_bodyOfMark 1 1 0 0 := hX
  show G X 319 0 0 I (xRL nw sp) 0 [(0, .int (nI 3))] []
  refine g_iload_n hX dX5_bodyOfMark_0 rfl 0 rfl ?_
  refine g_tsI (a := (3 : Int)) (v := 3) (tgt := 42) hX dX5_bodyOfMark_1 (by decide) rfl (by decide) (by decide) rfl (by decide) ?_
  refine g_bipush (v := nI 22) hX dX5_bodyOfMark_42 (by decide) ?_
  exact g_iret hX hR dX5_bodyOfMark_44 (by decide) (by decide) ⟨congrArg (fun z => some (Value.int z)) rfl, rfl, rfl, rfl⟩

theorem c_X5_bodyOfMark_4 (l : Launch) {nw sp : Nat} {I : xM}   : xC l 1 0 0 yX5_bodyOfMark cX5_bodyOfMark 1 (some .int) 319 [.int (nI 4)] I (xRL nw sp) (xpI (nI 23) 319 I (xRL nw sp)) := by
  refine xC_of (by decide) (Nat.le_of_ble_eq_true rfl) (fun X hXl hX hR => ?_)
  have hX : xOK X RX5 cX5_bodyOfMark 1 1 0 0 := hX
  show G X 319 0 0 I (xRL nw sp) 0 [(0, .int (nI 4))] []
  refine g_iload_n hX dX5_bodyOfMark_0 rfl 0 rfl ?_
  refine g_tsI (a := (4 : Int)) (v := 4) (tgt := 45) hX dX5_bodyOfMark_1 (by decide) rfl (by decide) (by decide) rfl (by decide) ?_
  refine g_bipush (v := nI 23) hX dX5_bodyOfMark_45 (by decide) ?_
  exact g_iret hX hR dX5_bodyOfMark_47 (by decide) (by decide) ⟨congrArg (fun z => some (Value.int z)) rfl, rfl, rfl, rfl⟩

theorem c_X5_bodyOfMark_5 (l : Launch) {nw sp : Nat} {I : xM}   : xC l 1 0 0 yX5_bodyOfMark cX5_bodyOfMark 1 (some .int) 319 [.int (nI 5)] I (xRL nw sp) (xpI (nI 23) 319 I (xRL nw sp)) := by
  refine xC_of (by decide) (Nat.le_of_ble_eq_true rfl) (fun X hXl hX hR => ?_)
  have hX : xOK X RX5 cX5_bodyOfMark 1 1 0 0 := hX
  show G X 319 0 0 I (xRL nw sp) 0 [(0, .int (nI 5))] []
  refine g_iload_n hX dX5_bodyOfMark_0 rfl 0 rfl ?_
  refine g_tsI (a := (5 : Int)) (v := 5) (tgt := 45) hX dX5_bodyOfMark_1 (by decide) rfl (by decide) (by decide) rfl (by decide) ?_
  refine g_bipush (v := nI 23) hX dX5_bodyOfMark_45 (by decide) ?_
  exact g_iret hX hR dX5_bodyOfMark_47 (by decide) (by decide) ⟨congrArg (fun z => some (Value.int z)) rfl, rfl, rfl, rfl⟩

theorem c_X5_bodyGives_10_0 (l : Launch) {nw sp : Nat} {I : xM} {g T S F W : Nat} {f : Nat → Int32} {t d n : Nat} (hg : xG g) (hG : GX I g f T S F W) (hW : WF f T S F W) (ht : t < T) (hn : I 6 1 = nI n) (hn8 : n + 1 ≤ 16) (hd : d + 0 ≤ 8) : xC l 4 0 0 yX5_bodyGives cX5_bodyGives 6 (some .int) 319 [.ref g, .ref 6, .int (nI t), .int (nI 10), .int (nI d)] I (xRL nw sp) (xpI (hgF f (fun _ => 0) t) 319 (xput (xput I 7 (n) (nI 10)) 6 1 (nI (n + 1))) (xRL nw sp)) := by
  refine xC_of (by decide) (Nat.le_of_ble_eq_true rfl) (fun X hXl hX hR => ?_)
  have hX : xOK X RX5 cX5_bodyGives 6 4 0 0 := hX
  show G X 319 0 0 I (xRL nw sp) 0 [(0, .ref g), (1, .ref 6), (2, .int (nI t)), (3, .int (nI 10)), (4, .int (nI d))] []
  have hg8 := xG_8 hg
  have hT6 := hW.T6
  have hS6 := hW.S6
  refine g_iload hX dX5_bodyGives_0 4 rfl ?_
  refine g_bipush (v := nI 8) hX dX5_bodyGives_2 (by decide) ?_
  refine g_ci_gt (a := ((d : Nat) : Int)) (b := (8 : Int)) (tgt := 15) hX dX5_bodyGives_4 (by decide) (nI_toInt (by omega)) (by decide) (fun h4 => ?_) (fun h4 => ?_)
  · exfalso; omega
  · refine g_aload_n hX dX5_bodyGives_7 rfl 0 rfl ?_
    refine g_iload_n hX dX5_bodyGives_8 rfl 2 rfl ?_
    refine g_callVi hX (as := [.int (nI t)]) (fun l => c_X0_hasTree l (I := I) (g := g) (T := T) (S := S) (F := F) (W := W) (f := f) (x := (nI t)) (hg := hg) (hG := (by first | assumption | omega)) (hW := (by first | assumption | omega))) mX0_hasTree vX0_hasTree lX5_149 (xG_n (j := 0) hg (by decide)) (xG_K0 hg) xCl0 rfl rfl dX5_bodyGives_9 rfl (by decide) (Nat.le_of_ble_eq_true rfl) (by decide) (by decide) ?_
    refine g_top (y := xb (0 ≤ ((t : Nat) : Int) ∧ ((t : Nat) : Int) < T)) (by rw [nI_toInt (n := t) (by omega)]) ?_
    refine g_cb_ne (tgt := 17) hX dX5_bodyGives_12 (by decide) (fun h12 => ?_) (fun h12 => ?_)
    · refine g_aload_n hX dX5_bodyGives_17 rfl 1 rfl ?_
      refine g_iload_n hX dX5_bodyGives_18 rfl 3 rfl ?_
      refine g_callVv hX (as := [.int (nI 10)]) (fun l => c_X4_note l (I := I) (n := n) (x := (nI 10)) (hn := hn) (hn16 := (by first | assumption | omega))) mX4_note vX4_note lX5_287 (by decide) (by decide) xCl4 rfl rfl dX5_bodyGives_19 rfl (by decide) (Nat.le_of_ble_eq_true rfl) (by decide) (by decide) ?_
      refine g_iload hX dX5_bodyGives_22 4 rfl ?_
      refine g_iconst (v := nI 1) hX dX5_bodyGives_24 (by decide) ?_
      refine g_iadd (v := nI (d + 1)) hX dX5_bodyGives_25 (nI_add d 1) ?_
      refine g_istore (L' := [(0, .ref g), (1, .ref 6), (2, .int (nI t)), (3, .int (nI 10)), (4, .int (nI d)), (5, .int (nI (d + 1)))]) hX dX5_bodyGives_26 (by decide) rfl ?_
      refine g_iload_n hX dX5_bodyGives_28 rfl 3 rfl ?_
      refine g_tsI (a := (10 : Int)) (v := 10) (tgt := 104) hX dX5_bodyGives_29 (by decide) rfl (by decide) (by decide) rfl (by decide) ?_
      refine g_aload_n hX dX5_bodyGives_104 rfl 0 rfl ?_
      refine g_iload_n hX dX5_bodyGives_105 rfl 2 rfl ?_
      refine g_callVi hX (as := [.int (nI t)]) (fun l => c_X0_heightNow l (I := (xput (xput I 7 n (nI 10)) 6 1 (nI (n + 1)))) (g := g) (T := T) (S := S) (F := F) (W := W) (f := f) (t := t) (hg := hg) (hG := (hG.ext (fun i h1 h2 => ((xput_ne (by omega)).trans ((xput_ne (by omega)).trans rfl))))) (hW := (by first | assumption | omega)) (ht := (by first | assumption | omega))) mX0_heightNow vX0_heightNow lX5_158 (xG_n (j := 0) hg (by decide)) (xG_K0 hg) xCl0 rfl rfl dX5_bodyGives_106 rfl (by decide) (Nat.le_of_ble_eq_true rfl) (by decide) (by decide) ?_
      exact g_iret hX hR dX5_bodyGives_109 (by decide) (by decide) ⟨congrArg (fun z => some (Value.int z)) rfl, rfl, rfl, rfl⟩
    · exfalso; omega

theorem c_X5_bodyGives_20_0 (l : Launch) {nw sp : Nat} {I : xM} {g T S F W : Nat} {f : Nat → Int32} {t d n : Nat} (hg : xG g) (hG : GX I g f T S F W) (hW : WF f T S F W) (ht : t < T) (hn : I 6 1 = nI n) (hn8 : n + 1 ≤ 16) (hd : d + 0 ≤ 8) : xC l 2 0 0 yX5_bodyGives cX5_bodyGives 6 (some .int) 319 [.ref g, .ref 6, .int (nI t), .int (nI 20), .int (nI d)] I (xRL nw sp) (xpI (nI t) 319 (xput (xput I 7 (n) (nI 20)) 6 1 (nI (n + 1))) (xRL nw sp)) := by
  refine xC_of (by decide) (Nat.le_of_ble_eq_true rfl) (fun X hXl hX hR => ?_)
  have hX : xOK X RX5 cX5_bodyGives 6 2 0 0 := hX
  show G X 319 0 0 I (xRL nw sp) 0 [(0, .ref g), (1, .ref 6), (2, .int (nI t)), (3, .int (nI 20)), (4, .int (nI d))] []
  have hg8 := xG_8 hg
  have hT6 := hW.T6
  have hS6 := hW.S6
  refine g_iload hX dX5_bodyGives_0 4 rfl ?_
  refine g_bipush (v := nI 8) hX dX5_bodyGives_2 (by decide) ?_
  refine g_ci_gt (a := ((d : Nat) : Int)) (b := (8 : Int)) (tgt := 15) hX dX5_bodyGives_4 (by decide) (nI_toInt (by omega)) (by decide) (fun h4 => ?_) (fun h4 => ?_)
  · exfalso; omega
  · refine g_aload_n hX dX5_bodyGives_7 rfl 0 rfl ?_
    refine g_iload_n hX dX5_bodyGives_8 rfl 2 rfl ?_
    refine g_callVi hX (as := [.int (nI t)]) (fun l => c_X0_hasTree l (I := I) (g := g) (T := T) (S := S) (F := F) (W := W) (f := f) (x := (nI t)) (hg := hg) (hG := (by first | assumption | omega)) (hW := (by first | assumption | omega))) mX0_hasTree vX0_hasTree lX5_149 (xG_n (j := 0) hg (by decide)) (xG_K0 hg) xCl0 rfl rfl dX5_bodyGives_9 rfl (by decide) (Nat.le_of_ble_eq_true rfl) (by decide) (by decide) ?_
    refine g_top (y := xb (0 ≤ ((t : Nat) : Int) ∧ ((t : Nat) : Int) < T)) (by rw [nI_toInt (n := t) (by omega)]) ?_
    refine g_cb_ne (tgt := 17) hX dX5_bodyGives_12 (by decide) (fun h12 => ?_) (fun h12 => ?_)
    · refine g_aload_n hX dX5_bodyGives_17 rfl 1 rfl ?_
      refine g_iload_n hX dX5_bodyGives_18 rfl 3 rfl ?_
      refine g_callVv hX (as := [.int (nI 20)]) (fun l => c_X4_note l (I := I) (n := n) (x := (nI 20)) (hn := hn) (hn16 := (by first | assumption | omega))) mX4_note vX4_note lX5_287 (by decide) (by decide) xCl4 rfl rfl dX5_bodyGives_19 rfl (by decide) (Nat.le_of_ble_eq_true rfl) (by decide) (by decide) ?_
      refine g_iload hX dX5_bodyGives_22 4 rfl ?_
      refine g_iconst (v := nI 1) hX dX5_bodyGives_24 (by decide) ?_
      refine g_iadd (v := nI (d + 1)) hX dX5_bodyGives_25 (nI_add d 1) ?_
      refine g_istore (L' := [(0, .ref g), (1, .ref 6), (2, .int (nI t)), (3, .int (nI 20)), (4, .int (nI d)), (5, .int (nI (d + 1)))]) hX dX5_bodyGives_26 (by decide) rfl ?_
      refine g_iload_n hX dX5_bodyGives_28 rfl 3 rfl ?_
      refine g_tsI (a := (20 : Int)) (v := 20) (tgt := 178) hX dX5_bodyGives_29 (by decide) rfl (by decide) (by decide) rfl (by decide) ?_
      refine g_iload_n hX dX5_bodyGives_178 rfl 2 rfl ?_
      exact g_iret hX hR dX5_bodyGives_179 (by decide) (by decide) ⟨congrArg (fun z => some (Value.int z)) rfl, rfl, rfl, rfl⟩
    · exfalso; omega

theorem c_X5_bodyGives_21_0 (l : Launch) {nw sp : Nat} {I : xM} {g T S F W : Nat} {f : Nat → Int32} {t d n : Nat} (hg : xG g) (hG : GX I g f T S F W) (hW : WF f T S F W) (ht : t < T) (hn : I 6 1 = nI n) (hn8 : n + 2 ≤ 16) (hd : d + 1 ≤ 8) : xC l 3 0 0 yX5_bodyGives cX5_bodyGives 6 (some .int) 319 [.ref g, .ref 6, .int (nI t), .int (nI 21), .int (nI d)] I (xRL nw sp) (xpI (nI t + f (26 + 5 * t + 1)) 319 (xput (xput (xput (xput I 7 (n) (nI 21)) 6 1 (nI (n + 1))) 7 (n + 1) (nI 20)) 6 1 (nI (n + 1 + 1))) (xRL nw sp)) := by
  refine xC_of (by decide) (Nat.le_of_ble_eq_true rfl) (fun X hXl hX hR => ?_)
  have hX : xOK X RX5 cX5_bodyGives 6 3 0 0 := hX
  show G X 319 0 0 I (xRL nw sp) 0 [(0, .ref g), (1, .ref 6), (2, .int (nI t)), (3, .int (nI 21)), (4, .int (nI d))] []
  have hg8 := xG_8 hg
  have hT6 := hW.T6
  have hS6 := hW.S6
  refine g_iload hX dX5_bodyGives_0 4 rfl ?_
  refine g_bipush (v := nI 8) hX dX5_bodyGives_2 (by decide) ?_
  refine g_ci_gt (a := ((d : Nat) : Int)) (b := (8 : Int)) (tgt := 15) hX dX5_bodyGives_4 (by decide) (nI_toInt (by omega)) (by decide) (fun h4 => ?_) (fun h4 => ?_)
  · exfalso; omega
  · refine g_aload_n hX dX5_bodyGives_7 rfl 0 rfl ?_
    refine g_iload_n hX dX5_bodyGives_8 rfl 2 rfl ?_
    refine g_callVi hX (as := [.int (nI t)]) (fun l => c_X0_hasTree l (I := I) (g := g) (T := T) (S := S) (F := F) (W := W) (f := f) (x := (nI t)) (hg := hg) (hG := (by first | assumption | omega)) (hW := (by first | assumption | omega))) mX0_hasTree vX0_hasTree lX5_149 (xG_n (j := 0) hg (by decide)) (xG_K0 hg) xCl0 rfl rfl dX5_bodyGives_9 rfl (by decide) (Nat.le_of_ble_eq_true rfl) (by decide) (by decide) ?_
    refine g_top (y := xb (0 ≤ ((t : Nat) : Int) ∧ ((t : Nat) : Int) < T)) (by rw [nI_toInt (n := t) (by omega)]) ?_
    refine g_cb_ne (tgt := 17) hX dX5_bodyGives_12 (by decide) (fun h12 => ?_) (fun h12 => ?_)
    · refine g_aload_n hX dX5_bodyGives_17 rfl 1 rfl ?_
      refine g_iload_n hX dX5_bodyGives_18 rfl 3 rfl ?_
      refine g_callVv hX (as := [.int (nI 21)]) (fun l => c_X4_note l (I := I) (n := n) (x := (nI 21)) (hn := hn) (hn16 := (by first | assumption | omega))) mX4_note vX4_note lX5_287 (by decide) (by decide) xCl4 rfl rfl dX5_bodyGives_19 rfl (by decide) (Nat.le_of_ble_eq_true rfl) (by decide) (by decide) ?_
      refine g_iload hX dX5_bodyGives_22 4 rfl ?_
      refine g_iconst (v := nI 1) hX dX5_bodyGives_24 (by decide) ?_
      refine g_iadd (v := nI (d + 1)) hX dX5_bodyGives_25 (nI_add d 1) ?_
      refine g_istore (L' := [(0, .ref g), (1, .ref 6), (2, .int (nI t)), (3, .int (nI 21)), (4, .int (nI d)), (5, .int (nI (d + 1)))]) hX dX5_bodyGives_26 (by decide) rfl ?_
      refine g_iload_n hX dX5_bodyGives_28 rfl 3 rfl ?_
      refine g_tsI (a := (21 : Int)) (v := 21) (tgt := 180) hX dX5_bodyGives_29 (by decide) rfl (by decide) (by decide) rfl (by decide) ?_
      refine g_aload_n hX dX5_bodyGives_180 rfl 0 rfl ?_
      refine g_aload_n hX dX5_bodyGives_181 rfl 1 rfl ?_
      refine g_iload_n hX dX5_bodyGives_182 rfl 2 rfl ?_
      refine g_bipush (v := nI 20) hX dX5_bodyGives_183 (by decide) ?_
      refine g_iload hX dX5_bodyGives_185 5 rfl ?_
      refine g_callSi hX (as := [.ref g, .ref 6, .int (nI t), .int (nI 20), .int (nI (d + 1))]) (fun l => c_X5_bodyGives_20_0 l (I := (xput (xput I 7 n (nI 21)) 6 1 (nI (n + 1)))) (g := g) (T := T) (S := S) (F := F) (W := W) (f := f) (t := t) (d := (d + 1)) (n := (n + 1)) (hg := hg) (hG := (hG.ext (fun i h1 h2 => ((xput_ne (by omega)).trans ((xput_ne (by omega)).trans rfl))))) (hW := (by first | assumption | omega)) (ht := (by first | assumption | omega)) (hn := (by first | exact hn | exact xput_e)) (hn8 := (by first | assumption | omega)) (hd := (by first | assumption | omega))) mX5_bodyGives sX5_bodyGives lX5_259 rfl dX5_bodyGives_187 rfl (by decide) (Nat.le_of_ble_eq_true rfl) (by decide) (by decide) ?_
      refine g_aload_n hX dX5_bodyGives_190 rfl 0 rfl ?_
      refine g_getR (j := g + 3) hX (xG_n (j := 0) hg (by decide)) (xG_K0 hg) xCl0 5 (by decide) (by decide) kX5_168 dX5_bodyGives_191 (xRL_g5 hg) ?_
      refine g_iload_n hX dX5_bodyGives_194 rfl 2 rfl ?_
      refine g_iald (v := f (26 + 5 * t + 1)) hX (xG_n (j := 3) hg (by decide)) (xG_K3 hg) t rfl (by rw [(xG_N3 hg)]; omega) dX5_bodyGives_195 (xput_o (by omega) (xput_o (by omega) (xput_o (by omega) (xput_o (by omega) (hG.k1 (by omega)))))) ?_
      refine g_iadd (v := (nI t) + (f (26 + 5 * t + 1))) hX dX5_bodyGives_196 rfl ?_
      exact g_iret hX hR dX5_bodyGives_197 (by decide) (by decide) ⟨congrArg (fun z => some (Value.int z)) rfl, rfl, rfl, rfl⟩
    · exfalso; omega

theorem c_X5_bodyGives_23_0 (l : Launch) {nw sp : Nat} {I : xM} {g T S F W : Nat} {f : Nat → Int32} {t d n : Nat} (hg : xG g) (hG : GX I g f T S F W) (hW : WF f T S F W) (ht : t < T) (hn : I 6 1 = nI n) (hn8 : n + 2 ≤ 16) (hd : d + 1 ≤ 8) : xC l 3 0 0 yX5_bodyGives cX5_bodyGives 6 (some .int) 319 [.ref g, .ref 6, .int (nI t), .int (nI 23), .int (nI d)] I (xRL nw sp) (xpI (nI t + f (26 + 5 * t + 3)) 319 (xput (xput (xput (xput I 7 (n) (nI 23)) 6 1 (nI (n + 1))) 7 (n + 1) (nI 20)) 6 1 (nI (n + 1 + 1))) (xRL nw sp)) := by
  refine xC_of (by decide) (Nat.le_of_ble_eq_true rfl) (fun X hXl hX hR => ?_)
  have hX : xOK X RX5 cX5_bodyGives 6 3 0 0 := hX
  show G X 319 0 0 I (xRL nw sp) 0 [(0, .ref g), (1, .ref 6), (2, .int (nI t)), (3, .int (nI 23)), (4, .int (nI d))] []
  have hg8 := xG_8 hg
  have hT6 := hW.T6
  have hS6 := hW.S6
  refine g_iload hX dX5_bodyGives_0 4 rfl ?_
  refine g_bipush (v := nI 8) hX dX5_bodyGives_2 (by decide) ?_
  refine g_ci_gt (a := ((d : Nat) : Int)) (b := (8 : Int)) (tgt := 15) hX dX5_bodyGives_4 (by decide) (nI_toInt (by omega)) (by decide) (fun h4 => ?_) (fun h4 => ?_)
  · exfalso; omega
  · refine g_aload_n hX dX5_bodyGives_7 rfl 0 rfl ?_
    refine g_iload_n hX dX5_bodyGives_8 rfl 2 rfl ?_
    refine g_callVi hX (as := [.int (nI t)]) (fun l => c_X0_hasTree l (I := I) (g := g) (T := T) (S := S) (F := F) (W := W) (f := f) (x := (nI t)) (hg := hg) (hG := (by first | assumption | omega)) (hW := (by first | assumption | omega))) mX0_hasTree vX0_hasTree lX5_149 (xG_n (j := 0) hg (by decide)) (xG_K0 hg) xCl0 rfl rfl dX5_bodyGives_9 rfl (by decide) (Nat.le_of_ble_eq_true rfl) (by decide) (by decide) ?_
    refine g_top (y := xb (0 ≤ ((t : Nat) : Int) ∧ ((t : Nat) : Int) < T)) (by rw [nI_toInt (n := t) (by omega)]) ?_
    refine g_cb_ne (tgt := 17) hX dX5_bodyGives_12 (by decide) (fun h12 => ?_) (fun h12 => ?_)
    · refine g_aload_n hX dX5_bodyGives_17 rfl 1 rfl ?_
      refine g_iload_n hX dX5_bodyGives_18 rfl 3 rfl ?_
      refine g_callVv hX (as := [.int (nI 23)]) (fun l => c_X4_note l (I := I) (n := n) (x := (nI 23)) (hn := hn) (hn16 := (by first | assumption | omega))) mX4_note vX4_note lX5_287 (by decide) (by decide) xCl4 rfl rfl dX5_bodyGives_19 rfl (by decide) (Nat.le_of_ble_eq_true rfl) (by decide) (by decide) ?_
      refine g_iload hX dX5_bodyGives_22 4 rfl ?_
      refine g_iconst (v := nI 1) hX dX5_bodyGives_24 (by decide) ?_
      refine g_iadd (v := nI (d + 1)) hX dX5_bodyGives_25 (nI_add d 1) ?_
      refine g_istore (L' := [(0, .ref g), (1, .ref 6), (2, .int (nI t)), (3, .int (nI 23)), (4, .int (nI d)), (5, .int (nI (d + 1)))]) hX dX5_bodyGives_26 (by decide) rfl ?_
      refine g_iload_n hX dX5_bodyGives_28 rfl 3 rfl ?_
      refine g_tsI (a := (23 : Int)) (v := 23) (tgt := 227) hX dX5_bodyGives_29 (by decide) rfl (by decide) (by decide) rfl (by decide) ?_
      refine g_aload_n hX dX5_bodyGives_227 rfl 0 rfl ?_
      refine g_aload_n hX dX5_bodyGives_228 rfl 1 rfl ?_
      refine g_iload_n hX dX5_bodyGives_229 rfl 2 rfl ?_
      refine g_bipush (v := nI 20) hX dX5_bodyGives_230 (by decide) ?_
      refine g_iload hX dX5_bodyGives_232 5 rfl ?_
      refine g_callSi hX (as := [.ref g, .ref 6, .int (nI t), .int (nI 20), .int (nI (d + 1))]) (fun l => c_X5_bodyGives_20_0 l (I := (xput (xput I 7 n (nI 23)) 6 1 (nI (n + 1)))) (g := g) (T := T) (S := S) (F := F) (W := W) (f := f) (t := t) (d := (d + 1)) (n := (n + 1)) (hg := hg) (hG := (hG.ext (fun i h1 h2 => ((xput_ne (by omega)).trans ((xput_ne (by omega)).trans rfl))))) (hW := (by first | assumption | omega)) (ht := (by first | assumption | omega)) (hn := (by first | exact hn | exact xput_e)) (hn8 := (by first | assumption | omega)) (hd := (by first | assumption | omega))) mX5_bodyGives sX5_bodyGives lX5_259 rfl dX5_bodyGives_234 rfl (by decide) (Nat.le_of_ble_eq_true rfl) (by decide) (by decide) ?_
      refine g_aload_n hX dX5_bodyGives_237 rfl 0 rfl ?_
      refine g_getR (j := g + 5) hX (xG_n (j := 0) hg (by decide)) (xG_K0 hg) xCl0 7 (by decide) (by decide) kX5_178 dX5_bodyGives_238 (xRL_g7 hg) ?_
      refine g_iload_n hX dX5_bodyGives_241 rfl 2 rfl ?_
      refine g_iald (v := f (26 + 5 * t + 3)) hX (xG_n (j := 5) hg (by decide)) (xG_K5 hg) t rfl (by rw [(xG_N5 hg)]; omega) dX5_bodyGives_242 (xput_o (by omega) (xput_o (by omega) (xput_o (by omega) (xput_o (by omega) (hG.k3 (by omega)))))) ?_
      refine g_iadd (v := (nI t) + (f (26 + 5 * t + 3))) hX dX5_bodyGives_243 rfl ?_
      exact g_iret hX hR dX5_bodyGives_244 (by decide) (by decide) ⟨congrArg (fun z => some (Value.int z)) rfl, rfl, rfl, rfl⟩
    · exfalso; omega

theorem c_X5_bodyGives_24_0 (l : Launch) {nw sp : Nat} {I : xM} {g T S F W : Nat} {f : Nat → Int32} {t d n : Nat} (hg : xG g) (hG : GX I g f T S F W) (hW : WF f T S F W) (ht : t < T) (hn : I 6 1 = nI n) (hn8 : n + 3 ≤ 16) (hd : d + 2 ≤ 8) : xC l 4 0 0 yX5_bodyGives cX5_bodyGives 6 (some .int) 319 [.ref g, .ref 6, .int (nI t), .int (nI 24), .int (nI d)] I (xRL nw sp) (xpI (nI t + f (26 + 5 * t + 1) + nI 1000) 319 (xput (xput (xput (xput (xput (xput I 7 (n) (nI 24)) 6 1 (nI (n + 1))) 7 (n + 1) (nI 21)) 6 1 (nI (n + 1 + 1))) 7 (n + 1 + 1) (nI 20)) 6 1 (nI (n + 1 + 1 + 1))) (xRL nw sp)) := by
  refine xC_of (by decide) (Nat.le_of_ble_eq_true rfl) (fun X hXl hX hR => ?_)
  have hX : xOK X RX5 cX5_bodyGives 6 4 0 0 := hX
  show G X 319 0 0 I (xRL nw sp) 0 [(0, .ref g), (1, .ref 6), (2, .int (nI t)), (3, .int (nI 24)), (4, .int (nI d))] []
  have hg8 := xG_8 hg
  have hT6 := hW.T6
  have hS6 := hW.S6
  refine g_iload hX dX5_bodyGives_0 4 rfl ?_
  refine g_bipush (v := nI 8) hX dX5_bodyGives_2 (by decide) ?_
  refine g_ci_gt (a := ((d : Nat) : Int)) (b := (8 : Int)) (tgt := 15) hX dX5_bodyGives_4 (by decide) (nI_toInt (by omega)) (by decide) (fun h4 => ?_) (fun h4 => ?_)
  · exfalso; omega
  · refine g_aload_n hX dX5_bodyGives_7 rfl 0 rfl ?_
    refine g_iload_n hX dX5_bodyGives_8 rfl 2 rfl ?_
    refine g_callVi hX (as := [.int (nI t)]) (fun l => c_X0_hasTree l (I := I) (g := g) (T := T) (S := S) (F := F) (W := W) (f := f) (x := (nI t)) (hg := hg) (hG := (by first | assumption | omega)) (hW := (by first | assumption | omega))) mX0_hasTree vX0_hasTree lX5_149 (xG_n (j := 0) hg (by decide)) (xG_K0 hg) xCl0 rfl rfl dX5_bodyGives_9 rfl (by decide) (Nat.le_of_ble_eq_true rfl) (by decide) (by decide) ?_
    refine g_top (y := xb (0 ≤ ((t : Nat) : Int) ∧ ((t : Nat) : Int) < T)) (by rw [nI_toInt (n := t) (by omega)]) ?_
    refine g_cb_ne (tgt := 17) hX dX5_bodyGives_12 (by decide) (fun h12 => ?_) (fun h12 => ?_)
    · refine g_aload_n hX dX5_bodyGives_17 rfl 1 rfl ?_
      refine g_iload_n hX dX5_bodyGives_18 rfl 3 rfl ?_
      refine g_callVv hX (as := [.int (nI 24)]) (fun l => c_X4_note l (I := I) (n := n) (x := (nI 24)) (hn := hn) (hn16 := (by first | assumption | omega))) mX4_note vX4_note lX5_287 (by decide) (by decide) xCl4 rfl rfl dX5_bodyGives_19 rfl (by decide) (Nat.le_of_ble_eq_true rfl) (by decide) (by decide) ?_
      refine g_iload hX dX5_bodyGives_22 4 rfl ?_
      refine g_iconst (v := nI 1) hX dX5_bodyGives_24 (by decide) ?_
      refine g_iadd (v := nI (d + 1)) hX dX5_bodyGives_25 (nI_add d 1) ?_
      refine g_istore (L' := [(0, .ref g), (1, .ref 6), (2, .int (nI t)), (3, .int (nI 24)), (4, .int (nI d)), (5, .int (nI (d + 1)))]) hX dX5_bodyGives_26 (by decide) rfl ?_
      refine g_iload_n hX dX5_bodyGives_28 rfl 3 rfl ?_
      refine g_tsI (a := (24 : Int)) (v := 24) (tgt := 245) hX dX5_bodyGives_29 (by decide) rfl (by decide) (by decide) rfl (by decide) ?_
      refine g_aload_n hX dX5_bodyGives_245 rfl 0 rfl ?_
      refine g_aload_n hX dX5_bodyGives_246 rfl 1 rfl ?_
      refine g_iload_n hX dX5_bodyGives_247 rfl 2 rfl ?_
      refine g_bipush (v := nI 21) hX dX5_bodyGives_248 (by decide) ?_
      refine g_iload hX dX5_bodyGives_250 5 rfl ?_
      refine g_callSi hX (as := [.ref g, .ref 6, .int (nI t), .int (nI 21), .int (nI (d + 1))]) (fun l => c_X5_bodyGives_21_0 l (I := (xput (xput I 7 n (nI 24)) 6 1 (nI (n + 1)))) (g := g) (T := T) (S := S) (F := F) (W := W) (f := f) (t := t) (d := (d + 1)) (n := (n + 1)) (hg := hg) (hG := (hG.ext (fun i h1 h2 => ((xput_ne (by omega)).trans ((xput_ne (by omega)).trans rfl))))) (hW := (by first | assumption | omega)) (ht := (by first | assumption | omega)) (hn := (by first | exact hn | exact xput_e)) (hn8 := (by first | assumption | omega)) (hd := (by first | assumption | omega))) mX5_bodyGives sX5_bodyGives lX5_259 rfl dX5_bodyGives_252 rfl (by decide) (Nat.le_of_ble_eq_true rfl) (by decide) (by decide) ?_
      refine g_sipush (v := nI 1000) hX dX5_bodyGives_255 (by decide) ?_
      refine g_iadd (v := (nI t + f (26 + 5 * t + 1)) + (nI 1000)) hX dX5_bodyGives_258 rfl ?_
      exact g_iret hX hR dX5_bodyGives_259 (by decide) (by decide) ⟨congrArg (fun z => some (Value.int z)) rfl, rfl, rfl, rfl⟩
    · exfalso; omega

theorem c_X5_bodyGives_22_3 (l : Launch) {nw sp : Nat} {I : xM} {g T S F W : Nat} {f : Nat → Int32} {t d n : Nat} (hg : xG g) (hG : GX I g f T S F W) (hW : WF f T S F W) (ht : t < T) (hn : I 6 1 = nI n) (hn8 : n + 3 ≤ 16) (hd : d + 1 ≤ 8) (hk : f (26 + 5 * t + 0) = nI 3) : xC l 5 0 0 yX5_bodyGives cX5_bodyGives 6 (some .int) 319 [.ref g, .ref 6, .int (nI t), .int (nI 22), .int (nI d)] I (xRL nw sp) (xpI (nI t - hgF f (fun _ => 0) t) 319 (xput (xput (xput (xput (xput (xput I 7 (n) (nI 22)) 6 1 (nI (n + 1))) 7 (n + 1) (nI 20)) 6 1 (nI (n + 1 + 1))) 7 (n + 1 + 1) (nI 10)) 6 1 (nI (n + 1 + 1 + 1))) (xRL nw sp)) := by
  refine xC_of (by decide) (Nat.le_of_ble_eq_true rfl) (fun X hXl hX hR => ?_)
  have hX : xOK X RX5 cX5_bodyGives 6 5 0 0 := hX
  show G X 319 0 0 I (xRL nw sp) 0 [(0, .ref g), (1, .ref 6), (2, .int (nI t)), (3, .int (nI 22)), (4, .int (nI d))] []
  have hg8 := xG_8 hg
  have hT6 := hW.T6
  have hS6 := hW.S6
  refine g_iload hX dX5_bodyGives_0 4 rfl ?_
  refine g_bipush (v := nI 8) hX dX5_bodyGives_2 (by decide) ?_
  refine g_ci_gt (a := ((d : Nat) : Int)) (b := (8 : Int)) (tgt := 15) hX dX5_bodyGives_4 (by decide) (nI_toInt (by omega)) (by decide) (fun h4 => ?_) (fun h4 => ?_)
  · exfalso; omega
  · refine g_aload_n hX dX5_bodyGives_7 rfl 0 rfl ?_
    refine g_iload_n hX dX5_bodyGives_8 rfl 2 rfl ?_
    refine g_callVi hX (as := [.int (nI t)]) (fun l => c_X0_hasTree l (I := I) (g := g) (T := T) (S := S) (F := F) (W := W) (f := f) (x := (nI t)) (hg := hg) (hG := (by first | assumption | omega)) (hW := (by first | assumption | omega))) mX0_hasTree vX0_hasTree lX5_149 (xG_n (j := 0) hg (by decide)) (xG_K0 hg) xCl0 rfl rfl dX5_bodyGives_9 rfl (by decide) (Nat.le_of_ble_eq_true rfl) (by decide) (by decide) ?_
    refine g_top (y := xb (0 ≤ ((t : Nat) : Int) ∧ ((t : Nat) : Int) < T)) (by rw [nI_toInt (n := t) (by omega)]) ?_
    refine g_cb_ne (tgt := 17) hX dX5_bodyGives_12 (by decide) (fun h12 => ?_) (fun h12 => ?_)
    · refine g_aload_n hX dX5_bodyGives_17 rfl 1 rfl ?_
      refine g_iload_n hX dX5_bodyGives_18 rfl 3 rfl ?_
      refine g_callVv hX (as := [.int (nI 22)]) (fun l => c_X4_note l (I := I) (n := n) (x := (nI 22)) (hn := hn) (hn16 := (by first | assumption | omega))) mX4_note vX4_note lX5_287 (by decide) (by decide) xCl4 rfl rfl dX5_bodyGives_19 rfl (by decide) (Nat.le_of_ble_eq_true rfl) (by decide) (by decide) ?_
      refine g_iload hX dX5_bodyGives_22 4 rfl ?_
      refine g_iconst (v := nI 1) hX dX5_bodyGives_24 (by decide) ?_
      refine g_iadd (v := nI (d + 1)) hX dX5_bodyGives_25 (nI_add d 1) ?_
      refine g_istore (L' := [(0, .ref g), (1, .ref 6), (2, .int (nI t)), (3, .int (nI 22)), (4, .int (nI d)), (5, .int (nI (d + 1)))]) hX dX5_bodyGives_26 (by decide) rfl ?_
      refine g_iload_n hX dX5_bodyGives_28 rfl 3 rfl ?_
      refine g_tsI (a := (22 : Int)) (v := 22) (tgt := 198) hX dX5_bodyGives_29 (by decide) rfl (by decide) (by decide) rfl (by decide) ?_
      refine g_aload_n hX dX5_bodyGives_198 rfl 0 rfl ?_
      refine g_aload_n hX dX5_bodyGives_199 rfl 1 rfl ?_
      refine g_iload_n hX dX5_bodyGives_200 rfl 2 rfl ?_
      refine g_bipush (v := nI 20) hX dX5_bodyGives_201 (by decide) ?_
      refine g_iload hX dX5_bodyGives_203 5 rfl ?_
      refine g_callSi hX (as := [.ref g, .ref 6, .int (nI t), .int (nI 20), .int (nI (d + 1))]) (fun l => c_X5_bodyGives_20_0 l (I := (xput (xput I 7 n (nI 22)) 6 1 (nI (n + 1)))) (g := g) (T := T) (S := S) (F := F) (W := W) (f := f) (t := t) (d := (d + 1)) (n := (n + 1)) (hg := hg) (hG := (hG.ext (fun i h1 h2 => ((xput_ne (by omega)).trans ((xput_ne (by omega)).trans rfl))))) (hW := (by first | assumption | omega)) (ht := (by first | assumption | omega)) (hn := (by first | exact hn | exact xput_e)) (hn8 := (by first | assumption | omega)) (hd := (by first | assumption | omega))) mX5_bodyGives sX5_bodyGives lX5_259 rfl dX5_bodyGives_205 rfl (by decide) (Nat.le_of_ble_eq_true rfl) (by decide) (by decide) ?_
      refine g_aload_n hX dX5_bodyGives_208 rfl 0 rfl ?_
      refine g_aload_n hX dX5_bodyGives_209 rfl 1 rfl ?_
      refine g_iload_n hX dX5_bodyGives_210 rfl 2 rfl ?_
      refine g_aload_n hX dX5_bodyGives_211 rfl 0 rfl ?_
      refine g_getR (j := g + 2) hX (xG_n (j := 0) hg (by decide)) (xG_K0 hg) xCl0 4 (by decide) (by decide) kX5_244 dX5_bodyGives_212 (xRL_g4 hg) ?_
      refine g_iload_n hX dX5_bodyGives_215 rfl 2 rfl ?_
      refine g_iald (v := nI 3) hX (xG_n (j := 2) hg (by decide)) (xG_K2 hg) t rfl (by rw [(xG_N2 hg)]; omega) dX5_bodyGives_216 (xput_o (by omega) (xput_o (by omega) (xput_o (by omega) (xput_o (by omega) ((hG.k0 ht).trans hk))))) ?_
      refine g_callSi hX (as := [.int (nI 3)]) (fun l => c_X5_bodyOfSize_3 l (I := (xput (xput (xput (xput I 7 n (nI 22)) 6 1 (nI (n + 1))) 7 (n + 1) (nI 20)) 6 1 (nI ((n + 1) + 1)))) ) mX5_bodyOfSize sX5_bodyOfSize lX5_253 rfl dX5_bodyGives_217 rfl (by decide) (Nat.le_of_ble_eq_true rfl) (by decide) (by decide) ?_
      refine g_iload hX dX5_bodyGives_220 5 rfl ?_
      refine g_callSi hX (as := [.ref g, .ref 6, .int (nI t), .int (nI 10), .int (nI (d + 1))]) (fun l => c_X5_bodyGives_10_0 l (I := (xput (xput (xput (xput I 7 n (nI 22)) 6 1 (nI (n + 1))) 7 (n + 1) (nI 20)) 6 1 (nI ((n + 1) + 1)))) (g := g) (T := T) (S := S) (F := F) (W := W) (f := f) (t := t) (d := (d + 1)) (n := (n + 1 + 1)) (hg := hg) (hG := (hG.ext (fun i h1 h2 => ((xput_ne (by omega)).trans ((xput_ne (by omega)).trans ((xput_ne (by omega)).trans ((xput_ne (by omega)).trans rfl))))))) (hW := (by first | assumption | omega)) (ht := (by first | assumption | omega)) (hn := (by first | exact hn | exact xput_e)) (hn8 := (by first | assumption | omega)) (hd := (by first | assumption | omega))) mX5_bodyGives sX5_bodyGives lX5_259 rfl dX5_bodyGives_222 rfl (by decide) (Nat.le_of_ble_eq_true rfl) (by decide) (by decide) ?_
      refine g_isub (v := (nI t) - (hgF f (fun _ => 0) t)) hX dX5_bodyGives_225 rfl ?_
      exact g_iret hX hR dX5_bodyGives_226 (by decide) (by decide) ⟨congrArg (fun z => some (Value.int z)) rfl, rfl, rfl, rfl⟩
    · exfalso; omega

theorem c_X5_bodyGives_13_0 (l : Launch) {nw sp : Nat} {I : xM} {g T S F W : Nat} {f : Nat → Int32} {t d n : Nat} (hg : xG g) (hG : GX I g f T S F W) (hW : WF f T S F W) (ht : t < T) (hn : I 6 1 = nI n) (hn8 : n + 2 ≤ 16) (hd : d + 1 ≤ 8) : xC l 5 0 0 yX5_bodyGives cX5_bodyGives 6 (some .int) 319 [.ref g, .ref 6, .int (nI t), .int (nI 13), .int (nI d)] I (xRL nw sp) (xpI (hgF f (fun _ => 0) t - nI 100) 319 (xput (xput (xput (xput I 7 (n) (nI 13)) 6 1 (nI (n + 1))) 7 (n + 1) (nI 10)) 6 1 (nI (n + 1 + 1))) (xRL nw sp)) := by
  refine xC_of (by decide) (Nat.le_of_ble_eq_true rfl) (fun X hXl hX hR => ?_)
  have hX : xOK X RX5 cX5_bodyGives 6 5 0 0 := hX
  show G X 319 0 0 I (xRL nw sp) 0 [(0, .ref g), (1, .ref 6), (2, .int (nI t)), (3, .int (nI 13)), (4, .int (nI d))] []
  have hg8 := xG_8 hg
  have hT6 := hW.T6
  have hS6 := hW.S6
  refine g_iload hX dX5_bodyGives_0 4 rfl ?_
  refine g_bipush (v := nI 8) hX dX5_bodyGives_2 (by decide) ?_
  refine g_ci_gt (a := ((d : Nat) : Int)) (b := (8 : Int)) (tgt := 15) hX dX5_bodyGives_4 (by decide) (nI_toInt (by omega)) (by decide) (fun h4 => ?_) (fun h4 => ?_)
  · exfalso; omega
  · refine g_aload_n hX dX5_bodyGives_7 rfl 0 rfl ?_
    refine g_iload_n hX dX5_bodyGives_8 rfl 2 rfl ?_
    refine g_callVi hX (as := [.int (nI t)]) (fun l => c_X0_hasTree l (I := I) (g := g) (T := T) (S := S) (F := F) (W := W) (f := f) (x := (nI t)) (hg := hg) (hG := (by first | assumption | omega)) (hW := (by first | assumption | omega))) mX0_hasTree vX0_hasTree lX5_149 (xG_n (j := 0) hg (by decide)) (xG_K0 hg) xCl0 rfl rfl dX5_bodyGives_9 rfl (by decide) (Nat.le_of_ble_eq_true rfl) (by decide) (by decide) ?_
    refine g_top (y := xb (0 ≤ ((t : Nat) : Int) ∧ ((t : Nat) : Int) < T)) (by rw [nI_toInt (n := t) (by omega)]) ?_
    refine g_cb_ne (tgt := 17) hX dX5_bodyGives_12 (by decide) (fun h12 => ?_) (fun h12 => ?_)
    · refine g_aload_n hX dX5_bodyGives_17 rfl 1 rfl ?_
      refine g_iload_n hX dX5_bodyGives_18 rfl 3 rfl ?_
      refine g_callVv hX (as := [.int (nI 13)]) (fun l => c_X4_note l (I := I) (n := n) (x := (nI 13)) (hn := hn) (hn16 := (by first | assumption | omega))) mX4_note vX4_note lX5_287 (by decide) (by decide) xCl4 rfl rfl dX5_bodyGives_19 rfl (by decide) (Nat.le_of_ble_eq_true rfl) (by decide) (by decide) ?_
      refine g_iload hX dX5_bodyGives_22 4 rfl ?_
      refine g_iconst (v := nI 1) hX dX5_bodyGives_24 (by decide) ?_
      refine g_iadd (v := nI (d + 1)) hX dX5_bodyGives_25 (nI_add d 1) ?_
      refine g_istore (L' := [(0, .ref g), (1, .ref 6), (2, .int (nI t)), (3, .int (nI 13)), (4, .int (nI d)), (5, .int (nI (d + 1)))]) hX dX5_bodyGives_26 (by decide) rfl ?_
      refine g_iload_n hX dX5_bodyGives_28 rfl 3 rfl ?_
      refine g_tsI (a := (13 : Int)) (v := 13) (tgt := 151) hX dX5_bodyGives_29 (by decide) rfl (by decide) (by decide) rfl (by decide) ?_
      refine g_aload_n hX dX5_bodyGives_151 rfl 0 rfl ?_
      refine g_aload_n hX dX5_bodyGives_152 rfl 1 rfl ?_
      refine g_iload_n hX dX5_bodyGives_153 rfl 2 rfl ?_
      refine g_bipush (v := nI 10) hX dX5_bodyGives_154 (by decide) ?_
      refine g_iload hX dX5_bodyGives_156 5 rfl ?_
      refine g_callSi hX (as := [.ref g, .ref 6, .int (nI t), .int (nI 10), .int (nI (d + 1))]) (fun l => c_X5_bodyGives_10_0 l (I := (xput (xput I 7 n (nI 13)) 6 1 (nI (n + 1)))) (g := g) (T := T) (S := S) (F := F) (W := W) (f := f) (t := t) (d := (d + 1)) (n := (n + 1)) (hg := hg) (hG := (hG.ext (fun i h1 h2 => ((xput_ne (by omega)).trans ((xput_ne (by omega)).trans rfl))))) (hW := (by first | assumption | omega)) (ht := (by first | assumption | omega)) (hn := (by first | exact hn | exact xput_e)) (hn8 := (by first | assumption | omega)) (hd := (by first | assumption | omega))) mX5_bodyGives sX5_bodyGives lX5_259 rfl dX5_bodyGives_158 rfl (by decide) (Nat.le_of_ble_eq_true rfl) (by decide) (by decide) ?_
      refine g_bipush (v := nI 100) hX dX5_bodyGives_161 (by decide) ?_
      refine g_isub (v := (hgF f (fun _ => 0) t) - (nI 100)) hX dX5_bodyGives_163 rfl ?_
      exact g_iret hX hR dX5_bodyGives_164 (by decide) (by decide) ⟨congrArg (fun z => some (Value.int z)) rfl, rfl, rfl, rfl⟩
    · exfalso; omega

theorem c_X5_bodyGives_14_0 (l : Launch) {nw sp : Nat} {I : xM} {g T S F W : Nat} {f : Nat → Int32} {t d n : Nat} (hg : xG g) (hG : GX I g f T S F W) (hW : WF f T S F W) (ht : t < T) (hn : I 6 1 = nI n) (hn8 : n + 3 ≤ 16) (hd : d + 2 ≤ 8) : xC l 6 0 0 yX5_bodyGives cX5_bodyGives 6 (some .int) 319 [.ref g, .ref 6, .int (nI t), .int (nI 14), .int (nI d)] I (xRL nw sp) (xpI (nI 2 * (hgF f (fun _ => 0) t - nI 100)) 319 (xput (xput (xput (xput (xput (xput I 7 (n) (nI 14)) 6 1 (nI (n + 1))) 7 (n + 1) (nI 13)) 6 1 (nI (n + 1 + 1))) 7 (n + 1 + 1) (nI 10)) 6 1 (nI (n + 1 + 1 + 1))) (xRL nw sp)) := by
  refine xC_of (by decide) (Nat.le_of_ble_eq_true rfl) (fun X hXl hX hR => ?_)
  have hX : xOK X RX5 cX5_bodyGives 6 6 0 0 := hX
  show G X 319 0 0 I (xRL nw sp) 0 [(0, .ref g), (1, .ref 6), (2, .int (nI t)), (3, .int (nI 14)), (4, .int (nI d))] []
  have hg8 := xG_8 hg
  have hT6 := hW.T6
  have hS6 := hW.S6
  refine g_iload hX dX5_bodyGives_0 4 rfl ?_
  refine g_bipush (v := nI 8) hX dX5_bodyGives_2 (by decide) ?_
  refine g_ci_gt (a := ((d : Nat) : Int)) (b := (8 : Int)) (tgt := 15) hX dX5_bodyGives_4 (by decide) (nI_toInt (by omega)) (by decide) (fun h4 => ?_) (fun h4 => ?_)
  · exfalso; omega
  · refine g_aload_n hX dX5_bodyGives_7 rfl 0 rfl ?_
    refine g_iload_n hX dX5_bodyGives_8 rfl 2 rfl ?_
    refine g_callVi hX (as := [.int (nI t)]) (fun l => c_X0_hasTree l (I := I) (g := g) (T := T) (S := S) (F := F) (W := W) (f := f) (x := (nI t)) (hg := hg) (hG := (by first | assumption | omega)) (hW := (by first | assumption | omega))) mX0_hasTree vX0_hasTree lX5_149 (xG_n (j := 0) hg (by decide)) (xG_K0 hg) xCl0 rfl rfl dX5_bodyGives_9 rfl (by decide) (Nat.le_of_ble_eq_true rfl) (by decide) (by decide) ?_
    refine g_top (y := xb (0 ≤ ((t : Nat) : Int) ∧ ((t : Nat) : Int) < T)) (by rw [nI_toInt (n := t) (by omega)]) ?_
    refine g_cb_ne (tgt := 17) hX dX5_bodyGives_12 (by decide) (fun h12 => ?_) (fun h12 => ?_)
    · refine g_aload_n hX dX5_bodyGives_17 rfl 1 rfl ?_
      refine g_iload_n hX dX5_bodyGives_18 rfl 3 rfl ?_
      refine g_callVv hX (as := [.int (nI 14)]) (fun l => c_X4_note l (I := I) (n := n) (x := (nI 14)) (hn := hn) (hn16 := (by first | assumption | omega))) mX4_note vX4_note lX5_287 (by decide) (by decide) xCl4 rfl rfl dX5_bodyGives_19 rfl (by decide) (Nat.le_of_ble_eq_true rfl) (by decide) (by decide) ?_
      refine g_iload hX dX5_bodyGives_22 4 rfl ?_
      refine g_iconst (v := nI 1) hX dX5_bodyGives_24 (by decide) ?_
      refine g_iadd (v := nI (d + 1)) hX dX5_bodyGives_25 (nI_add d 1) ?_
      refine g_istore (L' := [(0, .ref g), (1, .ref 6), (2, .int (nI t)), (3, .int (nI 14)), (4, .int (nI d)), (5, .int (nI (d + 1)))]) hX dX5_bodyGives_26 (by decide) rfl ?_
      refine g_iload_n hX dX5_bodyGives_28 rfl 3 rfl ?_
      refine g_tsI (a := (14 : Int)) (v := 14) (tgt := 165) hX dX5_bodyGives_29 (by decide) rfl (by decide) (by decide) rfl (by decide) ?_
      refine g_iconst (v := nI 2) hX dX5_bodyGives_165 (by decide) ?_
      refine g_aload_n hX dX5_bodyGives_166 rfl 0 rfl ?_
      refine g_aload_n hX dX5_bodyGives_167 rfl 1 rfl ?_
      refine g_iload_n hX dX5_bodyGives_168 rfl 2 rfl ?_
      refine g_bipush (v := nI 13) hX dX5_bodyGives_169 (by decide) ?_
      refine g_iload hX dX5_bodyGives_171 5 rfl ?_
      refine g_callSi hX (as := [.ref g, .ref 6, .int (nI t), .int (nI 13), .int (nI (d + 1))]) (fun l => c_X5_bodyGives_13_0 l (I := (xput (xput I 7 n (nI 14)) 6 1 (nI (n + 1)))) (g := g) (T := T) (S := S) (F := F) (W := W) (f := f) (t := t) (d := (d + 1)) (n := (n + 1)) (hg := hg) (hG := (hG.ext (fun i h1 h2 => ((xput_ne (by omega)).trans ((xput_ne (by omega)).trans rfl))))) (hW := (by first | assumption | omega)) (ht := (by first | assumption | omega)) (hn := (by first | exact hn | exact xput_e)) (hn8 := (by first | assumption | omega)) (hd := (by first | assumption | omega))) mX5_bodyGives sX5_bodyGives lX5_259 rfl dX5_bodyGives_173 rfl (by decide) (Nat.le_of_ble_eq_true rfl) (by decide) (by decide) ?_
      refine g_imul (v := (nI 2) * (hgF f (fun _ => 0) t - nI 100)) hX dX5_bodyGives_176 rfl ?_
      exact g_iret hX hR dX5_bodyGives_177 (by decide) (by decide) ⟨congrArg (fun z => some (Value.int z)) rfl, rfl, rfl, rfl⟩
    · exfalso; omega

theorem c_X5_bodyGives_11_1 (l : Launch) {nw sp : Nat} {I : xM} {g T S F W : Nat} {f : Nat → Int32} {t d n : Nat} (hg : xG g) (hG : GX I g f T S F W) (hW : WF f T S F W) (ht : t < T) (hn : I 6 1 = nI n) (hn8 : n + 4 ≤ 16) (hd : d + 2 ≤ 8) (hk : f (26 + 5 * t + 0) = nI 1) : xC l 5 0 0 yX5_bodyGives cX5_bodyGives 6 (some .int) 319 [.ref g, .ref 6, .int (nI t), .int (nI 11), .int (nI d)] I (xRL nw sp) (xpI (hgF f (fun _ => 0) t + (nI t + f (26 + 5 * t + 1))) 319 (xput (xput (xput (xput (xput (xput (xput (xput I 7 (n) (nI 11)) 6 1 (nI (n + 1))) 7 (n + 1) (nI 10)) 6 1 (nI (n + 1 + 1))) 7 (n + 1 + 1) (nI 21)) 6 1 (nI (n + 1 + 1 + 1))) 7 (n + 1 + 1 + 1) (nI 20)) 6 1 (nI (n + 1 + 1 + 1 + 1))) (xRL nw sp)) := by
  refine xC_of (by decide) (Nat.le_of_ble_eq_true rfl) (fun X hXl hX hR => ?_)
  have hX : xOK X RX5 cX5_bodyGives 6 5 0 0 := hX
  show G X 319 0 0 I (xRL nw sp) 0 [(0, .ref g), (1, .ref 6), (2, .int (nI t)), (3, .int (nI 11)), (4, .int (nI d))] []
  have hg8 := xG_8 hg
  have hT6 := hW.T6
  have hS6 := hW.S6
  refine g_iload hX dX5_bodyGives_0 4 rfl ?_
  refine g_bipush (v := nI 8) hX dX5_bodyGives_2 (by decide) ?_
  refine g_ci_gt (a := ((d : Nat) : Int)) (b := (8 : Int)) (tgt := 15) hX dX5_bodyGives_4 (by decide) (nI_toInt (by omega)) (by decide) (fun h4 => ?_) (fun h4 => ?_)
  · exfalso; omega
  · refine g_aload_n hX dX5_bodyGives_7 rfl 0 rfl ?_
    refine g_iload_n hX dX5_bodyGives_8 rfl 2 rfl ?_
    refine g_callVi hX (as := [.int (nI t)]) (fun l => c_X0_hasTree l (I := I) (g := g) (T := T) (S := S) (F := F) (W := W) (f := f) (x := (nI t)) (hg := hg) (hG := (by first | assumption | omega)) (hW := (by first | assumption | omega))) mX0_hasTree vX0_hasTree lX5_149 (xG_n (j := 0) hg (by decide)) (xG_K0 hg) xCl0 rfl rfl dX5_bodyGives_9 rfl (by decide) (Nat.le_of_ble_eq_true rfl) (by decide) (by decide) ?_
    refine g_top (y := xb (0 ≤ ((t : Nat) : Int) ∧ ((t : Nat) : Int) < T)) (by rw [nI_toInt (n := t) (by omega)]) ?_
    refine g_cb_ne (tgt := 17) hX dX5_bodyGives_12 (by decide) (fun h12 => ?_) (fun h12 => ?_)
    · refine g_aload_n hX dX5_bodyGives_17 rfl 1 rfl ?_
      refine g_iload_n hX dX5_bodyGives_18 rfl 3 rfl ?_
      refine g_callVv hX (as := [.int (nI 11)]) (fun l => c_X4_note l (I := I) (n := n) (x := (nI 11)) (hn := hn) (hn16 := (by first | assumption | omega))) mX4_note vX4_note lX5_287 (by decide) (by decide) xCl4 rfl rfl dX5_bodyGives_19 rfl (by decide) (Nat.le_of_ble_eq_true rfl) (by decide) (by decide) ?_
      refine g_iload hX dX5_bodyGives_22 4 rfl ?_
      refine g_iconst (v := nI 1) hX dX5_bodyGives_24 (by decide) ?_
      refine g_iadd (v := nI (d + 1)) hX dX5_bodyGives_25 (nI_add d 1) ?_
      refine g_istore (L' := [(0, .ref g), (1, .ref 6), (2, .int (nI t)), (3, .int (nI 11)), (4, .int (nI d)), (5, .int (nI (d + 1)))]) hX dX5_bodyGives_26 (by decide) rfl ?_
      refine g_iload_n hX dX5_bodyGives_28 rfl 3 rfl ?_
      refine g_tsI (a := (11 : Int)) (v := 11) (tgt := 110) hX dX5_bodyGives_29 (by decide) rfl (by decide) (by decide) rfl (by decide) ?_
      refine g_aload_n hX dX5_bodyGives_110 rfl 0 rfl ?_
      refine g_aload_n hX dX5_bodyGives_111 rfl 1 rfl ?_
      refine g_iload_n hX dX5_bodyGives_112 rfl 2 rfl ?_
      refine g_bipush (v := nI 10) hX dX5_bodyGives_113 (by decide) ?_
      refine g_iload hX dX5_bodyGives_115 5 rfl ?_
      refine g_callSi hX (as := [.ref g, .ref 6, .int (nI t), .int (nI 10), .int (nI (d + 1))]) (fun l => c_X5_bodyGives_10_0 l (I := (xput (xput I 7 n (nI 11)) 6 1 (nI (n + 1)))) (g := g) (T := T) (S := S) (F := F) (W := W) (f := f) (t := t) (d := (d + 1)) (n := (n + 1)) (hg := hg) (hG := (hG.ext (fun i h1 h2 => ((xput_ne (by omega)).trans ((xput_ne (by omega)).trans rfl))))) (hW := (by first | assumption | omega)) (ht := (by first | assumption | omega)) (hn := (by first | exact hn | exact xput_e)) (hn8 := (by first | assumption | omega)) (hd := (by first | assumption | omega))) mX5_bodyGives sX5_bodyGives lX5_259 rfl dX5_bodyGives_117 rfl (by decide) (Nat.le_of_ble_eq_true rfl) (by decide) (by decide) ?_
      refine g_aload_n hX dX5_bodyGives_120 rfl 0 rfl ?_
      refine g_aload_n hX dX5_bodyGives_121 rfl 1 rfl ?_
      refine g_iload_n hX dX5_bodyGives_122 rfl 2 rfl ?_
      refine g_aload_n hX dX5_bodyGives_123 rfl 0 rfl ?_
      refine g_getR (j := g + 2) hX (xG_n (j := 0) hg (by decide)) (xG_K0 hg) xCl0 4 (by decide) (by decide) kX5_244 dX5_bodyGives_124 (xRL_g4 hg) ?_
      refine g_iload_n hX dX5_bodyGives_127 rfl 2 rfl ?_
      refine g_iald (v := nI 1) hX (xG_n (j := 2) hg (by decide)) (xG_K2 hg) t rfl (by rw [(xG_N2 hg)]; omega) dX5_bodyGives_128 (xput_o (by omega) (xput_o (by omega) (xput_o (by omega) (xput_o (by omega) ((hG.k0 ht).trans hk))))) ?_
      refine g_callSi hX (as := [.int (nI 1)]) (fun l => c_X5_bodyOfMark_1 l (I := (xput (xput (xput (xput I 7 n (nI 11)) 6 1 (nI (n + 1))) 7 (n + 1) (nI 10)) 6 1 (nI ((n + 1) + 1)))) ) mX5_bodyOfMark sX5_bodyOfMark lX5_256 rfl dX5_bodyGives_129 rfl (by decide) (Nat.le_of_ble_eq_true rfl) (by decide) (by decide) ?_
      refine g_iload hX dX5_bodyGives_132 5 rfl ?_
      refine g_callSi hX (as := [.ref g, .ref 6, .int (nI t), .int (nI 21), .int (nI (d + 1))]) (fun l => c_X5_bodyGives_21_0 l (I := (xput (xput (xput (xput I 7 n (nI 11)) 6 1 (nI (n + 1))) 7 (n + 1) (nI 10)) 6 1 (nI ((n + 1) + 1)))) (g := g) (T := T) (S := S) (F := F) (W := W) (f := f) (t := t) (d := (d + 1)) (n := (n + 1 + 1)) (hg := hg) (hG := (hG.ext (fun i h1 h2 => ((xput_ne (by omega)).trans ((xput_ne (by omega)).trans ((xput_ne (by omega)).trans ((xput_ne (by omega)).trans rfl))))))) (hW := (by first | assumption | omega)) (ht := (by first | assumption | omega)) (hn := (by first | exact hn | exact xput_e)) (hn8 := (by first | assumption | omega)) (hd := (by first | assumption | omega))) mX5_bodyGives sX5_bodyGives lX5_259 rfl dX5_bodyGives_134 rfl (by decide) (Nat.le_of_ble_eq_true rfl) (by decide) (by decide) ?_
      refine g_iadd (v := (hgF f (fun _ => 0) t) + (nI t + f (26 + 5 * t + 1))) hX dX5_bodyGives_137 rfl ?_
      exact g_iret hX hR dX5_bodyGives_138 (by decide) (by decide) ⟨congrArg (fun z => some (Value.int z)) rfl, rfl, rfl, rfl⟩
    · exfalso; omega

theorem c_X5_bodyGives_11_2 (l : Launch) {nw sp : Nat} {I : xM} {g T S F W : Nat} {f : Nat → Int32} {t d n : Nat} (hg : xG g) (hG : GX I g f T S F W) (hW : WF f T S F W) (ht : t < T) (hn : I 6 1 = nI n) (hn8 : n + 5 ≤ 16) (hd : d + 3 ≤ 8) (hk : f (26 + 5 * t + 0) = nI 2) : xC l 5 0 0 yX5_bodyGives cX5_bodyGives 6 (some .int) 319 [.ref g, .ref 6, .int (nI t), .int (nI 11), .int (nI d)] I (xRL nw sp) (xpI (hgF f (fun _ => 0) t + (nI t + f (26 + 5 * t + 1) + nI 1000)) 319 (xput (xput (xput (xput (xput (xput (xput (xput (xput (xput I 7 (n) (nI 11)) 6 1 (nI (n + 1))) 7 (n + 1) (nI 10)) 6 1 (nI (n + 1 + 1))) 7 (n + 1 + 1) (nI 24)) 6 1 (nI (n + 1 + 1 + 1))) 7 (n + 1 + 1 + 1) (nI 21)) 6 1 (nI (n + 1 + 1 + 1 + 1))) 7 (n + 1 + 1 + 1 + 1) (nI 20)) 6 1 (nI (n + 1 + 1 + 1 + 1 + 1))) (xRL nw sp)) := by
  refine xC_of (by decide) (Nat.le_of_ble_eq_true rfl) (fun X hXl hX hR => ?_)
  have hX : xOK X RX5 cX5_bodyGives 6 5 0 0 := hX
  show G X 319 0 0 I (xRL nw sp) 0 [(0, .ref g), (1, .ref 6), (2, .int (nI t)), (3, .int (nI 11)), (4, .int (nI d))] []
  have hg8 := xG_8 hg
  have hT6 := hW.T6
  have hS6 := hW.S6
  refine g_iload hX dX5_bodyGives_0 4 rfl ?_
  refine g_bipush (v := nI 8) hX dX5_bodyGives_2 (by decide) ?_
  refine g_ci_gt (a := ((d : Nat) : Int)) (b := (8 : Int)) (tgt := 15) hX dX5_bodyGives_4 (by decide) (nI_toInt (by omega)) (by decide) (fun h4 => ?_) (fun h4 => ?_)
  · exfalso; omega
  · refine g_aload_n hX dX5_bodyGives_7 rfl 0 rfl ?_
    refine g_iload_n hX dX5_bodyGives_8 rfl 2 rfl ?_
    refine g_callVi hX (as := [.int (nI t)]) (fun l => c_X0_hasTree l (I := I) (g := g) (T := T) (S := S) (F := F) (W := W) (f := f) (x := (nI t)) (hg := hg) (hG := (by first | assumption | omega)) (hW := (by first | assumption | omega))) mX0_hasTree vX0_hasTree lX5_149 (xG_n (j := 0) hg (by decide)) (xG_K0 hg) xCl0 rfl rfl dX5_bodyGives_9 rfl (by decide) (Nat.le_of_ble_eq_true rfl) (by decide) (by decide) ?_
    refine g_top (y := xb (0 ≤ ((t : Nat) : Int) ∧ ((t : Nat) : Int) < T)) (by rw [nI_toInt (n := t) (by omega)]) ?_
    refine g_cb_ne (tgt := 17) hX dX5_bodyGives_12 (by decide) (fun h12 => ?_) (fun h12 => ?_)
    · refine g_aload_n hX dX5_bodyGives_17 rfl 1 rfl ?_
      refine g_iload_n hX dX5_bodyGives_18 rfl 3 rfl ?_
      refine g_callVv hX (as := [.int (nI 11)]) (fun l => c_X4_note l (I := I) (n := n) (x := (nI 11)) (hn := hn) (hn16 := (by first | assumption | omega))) mX4_note vX4_note lX5_287 (by decide) (by decide) xCl4 rfl rfl dX5_bodyGives_19 rfl (by decide) (Nat.le_of_ble_eq_true rfl) (by decide) (by decide) ?_
      refine g_iload hX dX5_bodyGives_22 4 rfl ?_
      refine g_iconst (v := nI 1) hX dX5_bodyGives_24 (by decide) ?_
      refine g_iadd (v := nI (d + 1)) hX dX5_bodyGives_25 (nI_add d 1) ?_
      refine g_istore (L' := [(0, .ref g), (1, .ref 6), (2, .int (nI t)), (3, .int (nI 11)), (4, .int (nI d)), (5, .int (nI (d + 1)))]) hX dX5_bodyGives_26 (by decide) rfl ?_
      refine g_iload_n hX dX5_bodyGives_28 rfl 3 rfl ?_
      refine g_tsI (a := (11 : Int)) (v := 11) (tgt := 110) hX dX5_bodyGives_29 (by decide) rfl (by decide) (by decide) rfl (by decide) ?_
      refine g_aload_n hX dX5_bodyGives_110 rfl 0 rfl ?_
      refine g_aload_n hX dX5_bodyGives_111 rfl 1 rfl ?_
      refine g_iload_n hX dX5_bodyGives_112 rfl 2 rfl ?_
      refine g_bipush (v := nI 10) hX dX5_bodyGives_113 (by decide) ?_
      refine g_iload hX dX5_bodyGives_115 5 rfl ?_
      refine g_callSi hX (as := [.ref g, .ref 6, .int (nI t), .int (nI 10), .int (nI (d + 1))]) (fun l => c_X5_bodyGives_10_0 l (I := (xput (xput I 7 n (nI 11)) 6 1 (nI (n + 1)))) (g := g) (T := T) (S := S) (F := F) (W := W) (f := f) (t := t) (d := (d + 1)) (n := (n + 1)) (hg := hg) (hG := (hG.ext (fun i h1 h2 => ((xput_ne (by omega)).trans ((xput_ne (by omega)).trans rfl))))) (hW := (by first | assumption | omega)) (ht := (by first | assumption | omega)) (hn := (by first | exact hn | exact xput_e)) (hn8 := (by first | assumption | omega)) (hd := (by first | assumption | omega))) mX5_bodyGives sX5_bodyGives lX5_259 rfl dX5_bodyGives_117 rfl (by decide) (Nat.le_of_ble_eq_true rfl) (by decide) (by decide) ?_
      refine g_aload_n hX dX5_bodyGives_120 rfl 0 rfl ?_
      refine g_aload_n hX dX5_bodyGives_121 rfl 1 rfl ?_
      refine g_iload_n hX dX5_bodyGives_122 rfl 2 rfl ?_
      refine g_aload_n hX dX5_bodyGives_123 rfl 0 rfl ?_
      refine g_getR (j := g + 2) hX (xG_n (j := 0) hg (by decide)) (xG_K0 hg) xCl0 4 (by decide) (by decide) kX5_244 dX5_bodyGives_124 (xRL_g4 hg) ?_
      refine g_iload_n hX dX5_bodyGives_127 rfl 2 rfl ?_
      refine g_iald (v := nI 2) hX (xG_n (j := 2) hg (by decide)) (xG_K2 hg) t rfl (by rw [(xG_N2 hg)]; omega) dX5_bodyGives_128 (xput_o (by omega) (xput_o (by omega) (xput_o (by omega) (xput_o (by omega) ((hG.k0 ht).trans hk))))) ?_
      refine g_callSi hX (as := [.int (nI 2)]) (fun l => c_X5_bodyOfMark_2 l (I := (xput (xput (xput (xput I 7 n (nI 11)) 6 1 (nI (n + 1))) 7 (n + 1) (nI 10)) 6 1 (nI ((n + 1) + 1)))) ) mX5_bodyOfMark sX5_bodyOfMark lX5_256 rfl dX5_bodyGives_129 rfl (by decide) (Nat.le_of_ble_eq_true rfl) (by decide) (by decide) ?_
      refine g_iload hX dX5_bodyGives_132 5 rfl ?_
      refine g_callSi hX (as := [.ref g, .ref 6, .int (nI t), .int (nI 24), .int (nI (d + 1))]) (fun l => c_X5_bodyGives_24_0 l (I := (xput (xput (xput (xput I 7 n (nI 11)) 6 1 (nI (n + 1))) 7 (n + 1) (nI 10)) 6 1 (nI ((n + 1) + 1)))) (g := g) (T := T) (S := S) (F := F) (W := W) (f := f) (t := t) (d := (d + 1)) (n := (n + 1 + 1)) (hg := hg) (hG := (hG.ext (fun i h1 h2 => ((xput_ne (by omega)).trans ((xput_ne (by omega)).trans ((xput_ne (by omega)).trans ((xput_ne (by omega)).trans rfl))))))) (hW := (by first | assumption | omega)) (ht := (by first | assumption | omega)) (hn := (by first | exact hn | exact xput_e)) (hn8 := (by first | assumption | omega)) (hd := (by first | assumption | omega))) mX5_bodyGives sX5_bodyGives lX5_259 rfl dX5_bodyGives_134 rfl (by decide) (Nat.le_of_ble_eq_true rfl) (by decide) (by decide) ?_
      refine g_iadd (v := (hgF f (fun _ => 0) t) + (nI t + f (26 + 5 * t + 1) + nI 1000)) hX dX5_bodyGives_137 rfl ?_
      exact g_iret hX hR dX5_bodyGives_138 (by decide) (by decide) ⟨congrArg (fun z => some (Value.int z)) rfl, rfl, rfl, rfl⟩
    · exfalso; omega

theorem c_X5_bodyGives_12_2 (l : Launch) {nw sp : Nat} {I : xM} {g T S F W : Nat} {f : Nat → Int32} {t d n : Nat} (hg : xG g) (hG : GX I g f T S F W) (hW : WF f T S F W) (ht : t < T) (hn : I 6 1 = nI n) (hn8 : n + 6 ≤ 16) (hd : d + 4 ≤ 8) (hk : f (26 + 5 * t + 0) = nI 2) : xC l 6 0 0 yX5_bodyGives cX5_bodyGives 6 (some .int) 319 [.ref g, .ref 6, .int (nI t), .int (nI 12), .int (nI d)] I (xRL nw sp) (xpI (-(hgF f (fun _ => 0) t + (nI t + f (26 + 5 * t + 1) + nI 1000))) 319 (xput (xput (xput (xput (xput (xput (xput (xput (xput (xput (xput (xput I 7 (n) (nI 12)) 6 1 (nI (n + 1))) 7 (n + 1) (nI 11)) 6 1 (nI (n + 1 + 1))) 7 (n + 1 + 1) (nI 10)) 6 1 (nI (n + 1 + 1 + 1))) 7 (n + 1 + 1 + 1) (nI 24)) 6 1 (nI (n + 1 + 1 + 1 + 1))) 7 (n + 1 + 1 + 1 + 1) (nI 21)) 6 1 (nI (n + 1 + 1 + 1 + 1 + 1))) 7 (n + 1 + 1 + 1 + 1 + 1) (nI 20)) 6 1 (nI (n + 1 + 1 + 1 + 1 + 1 + 1))) (xRL nw sp)) := by
  refine xC_of (by decide) (Nat.le_of_ble_eq_true rfl) (fun X hXl hX hR => ?_)
  have hX : xOK X RX5 cX5_bodyGives 6 6 0 0 := hX
  show G X 319 0 0 I (xRL nw sp) 0 [(0, .ref g), (1, .ref 6), (2, .int (nI t)), (3, .int (nI 12)), (4, .int (nI d))] []
  have hg8 := xG_8 hg
  have hT6 := hW.T6
  have hS6 := hW.S6
  refine g_iload hX dX5_bodyGives_0 4 rfl ?_
  refine g_bipush (v := nI 8) hX dX5_bodyGives_2 (by decide) ?_
  refine g_ci_gt (a := ((d : Nat) : Int)) (b := (8 : Int)) (tgt := 15) hX dX5_bodyGives_4 (by decide) (nI_toInt (by omega)) (by decide) (fun h4 => ?_) (fun h4 => ?_)
  · exfalso; omega
  · refine g_aload_n hX dX5_bodyGives_7 rfl 0 rfl ?_
    refine g_iload_n hX dX5_bodyGives_8 rfl 2 rfl ?_
    refine g_callVi hX (as := [.int (nI t)]) (fun l => c_X0_hasTree l (I := I) (g := g) (T := T) (S := S) (F := F) (W := W) (f := f) (x := (nI t)) (hg := hg) (hG := (by first | assumption | omega)) (hW := (by first | assumption | omega))) mX0_hasTree vX0_hasTree lX5_149 (xG_n (j := 0) hg (by decide)) (xG_K0 hg) xCl0 rfl rfl dX5_bodyGives_9 rfl (by decide) (Nat.le_of_ble_eq_true rfl) (by decide) (by decide) ?_
    refine g_top (y := xb (0 ≤ ((t : Nat) : Int) ∧ ((t : Nat) : Int) < T)) (by rw [nI_toInt (n := t) (by omega)]) ?_
    refine g_cb_ne (tgt := 17) hX dX5_bodyGives_12 (by decide) (fun h12 => ?_) (fun h12 => ?_)
    · refine g_aload_n hX dX5_bodyGives_17 rfl 1 rfl ?_
      refine g_iload_n hX dX5_bodyGives_18 rfl 3 rfl ?_
      refine g_callVv hX (as := [.int (nI 12)]) (fun l => c_X4_note l (I := I) (n := n) (x := (nI 12)) (hn := hn) (hn16 := (by first | assumption | omega))) mX4_note vX4_note lX5_287 (by decide) (by decide) xCl4 rfl rfl dX5_bodyGives_19 rfl (by decide) (Nat.le_of_ble_eq_true rfl) (by decide) (by decide) ?_
      refine g_iload hX dX5_bodyGives_22 4 rfl ?_
      refine g_iconst (v := nI 1) hX dX5_bodyGives_24 (by decide) ?_
      refine g_iadd (v := nI (d + 1)) hX dX5_bodyGives_25 (nI_add d 1) ?_
      refine g_istore (L' := [(0, .ref g), (1, .ref 6), (2, .int (nI t)), (3, .int (nI 12)), (4, .int (nI d)), (5, .int (nI (d + 1)))]) hX dX5_bodyGives_26 (by decide) rfl ?_
      refine g_iload_n hX dX5_bodyGives_28 rfl 3 rfl ?_
      refine g_tsI (a := (12 : Int)) (v := 12) (tgt := 139) hX dX5_bodyGives_29 (by decide) rfl (by decide) (by decide) rfl (by decide) ?_
      refine g_aload_n hX dX5_bodyGives_139 rfl 0 rfl ?_
      refine g_aload_n hX dX5_bodyGives_140 rfl 1 rfl ?_
      refine g_iload_n hX dX5_bodyGives_141 rfl 2 rfl ?_
      refine g_bipush (v := nI 11) hX dX5_bodyGives_142 (by decide) ?_
      refine g_iload hX dX5_bodyGives_144 5 rfl ?_
      refine g_callSi hX (as := [.ref g, .ref 6, .int (nI t), .int (nI 11), .int (nI (d + 1))]) (fun l => c_X5_bodyGives_11_2 l (I := (xput (xput I 7 n (nI 12)) 6 1 (nI (n + 1)))) (g := g) (T := T) (S := S) (F := F) (W := W) (f := f) (t := t) (d := (d + 1)) (n := (n + 1)) (hg := hg) (hG := (hG.ext (fun i h1 h2 => ((xput_ne (by omega)).trans ((xput_ne (by omega)).trans rfl))))) (hW := (by first | assumption | omega)) (ht := (by first | assumption | omega)) (hn := (by first | exact hn | exact xput_e)) (hn8 := (by first | assumption | omega)) (hd := (by first | assumption | omega)) (hk := hk)) mX5_bodyGives sX5_bodyGives lX5_259 rfl dX5_bodyGives_146 rfl (by decide) (Nat.le_of_ble_eq_true rfl) (by decide) (by decide) ?_
      refine g_ineg (v := -(hgF f (fun _ => 0) t + (nI t + f (26 + 5 * t + 1) + nI 1000))) hX dX5_bodyGives_149 rfl ?_
      exact g_iret hX hR dX5_bodyGives_150 (by decide) (by decide) ⟨congrArg (fun z => some (Value.int z)) rfl, rfl, rfl, rfl⟩
    · exfalso; omega

theorem c_X5_ask_bad (l : Launch) {nw sp : Nat} {I : xM} {T S F W : Nat} {f : Nat → Int32} {x y : Int32} (hnw : xG nw) (hG : GX I nw f T S F W) (hW : WF f T S F W) (hb : ¬ (0 ≤ x.toInt ∧ x.toInt < T ∧ 0 ≤ y.toInt ∧ y.toInt ≤ 1)) : xC l 2 0 0 yX5_ask cX5_ask 4 (some .int) 319 [.ref 0, .int x, .int y] I (xRL nw sp) (xpI (-1000001) 319 I (xRL nw sp)) := by
  refine xC_of (by decide) (Nat.le_of_ble_eq_true rfl) (fun X hXl hX hR => ?_)
  have hX : xOK X RX5 cX5_ask 4 2 0 0 := hX
  show G X 319 0 0 I (xRL nw sp) 0 [(0, .ref 0), (1, .int x), (2, .int y)] []
  have hg8 := xG_8 hnw
  have hT6 := hW.T6
  have hS6 := hW.S6
  refine g_aload_n hX dX5_ask_0 rfl 0 rfl ?_
  refine g_getR (j := nw) hX (by decide) (by decide) xCl5 4 (by decide) (by decide) kX5_39 dX5_ask_1 rfl ?_
  refine g_iload_n hX dX5_ask_4 rfl 1 rfl ?_
  refine g_callVi hX (as := [.int x]) (fun l => c_X0_hasTree l (I := I) (g := nw) (T := T) (S := S) (F := F) (W := W) (f := f) (x := x) (hg := hnw) (hG := (by first | assumption | omega)) (hW := (by first | assumption | omega))) mX0_hasTree vX0_hasTree lX5_149 (xG_n (j := 0) hnw (by decide)) (xG_K0 hnw) xCl0 rfl rfl dX5_ask_5 rfl (by decide) (Nat.le_of_ble_eq_true rfl) (by decide) (by decide) ?_
  refine g_cb_eq (tgt := 20) hX dX5_ask_8 (by decide) (fun h8 => ?_) (fun h8 => ?_)
  · refine g_ldc (v := -1000001) hX cX5_79 dX5_ask_20 ?_
    exact g_iret hX hR dX5_ask_22 (by decide) (by decide) ⟨congrArg (fun z => some (Value.int z)) rfl, rfl, rfl, rfl⟩
  · refine g_iload_n hX dX5_ask_11 rfl 2 rfl ?_
    refine g_cz_lt (a := y.toInt) (tgt := 20) hX dX5_ask_12 (by decide) rfl (fun h12 => ?_) (fun h12 => ?_)
    · refine g_ldc (v := -1000001) hX cX5_79 dX5_ask_20 ?_
      exact g_iret hX hR dX5_ask_22 (by decide) (by decide) ⟨congrArg (fun z => some (Value.int z)) rfl, rfl, rfl, rfl⟩
    · refine g_iload_n hX dX5_ask_15 rfl 2 rfl ?_
      refine g_iconst (v := nI 1) hX dX5_ask_16 (by decide) ?_
      refine g_ci_le (a := y.toInt) (b := (1 : Int)) (tgt := 23) hX dX5_ask_17 (by decide) rfl (by decide) (fun h17 => ?_) (fun h17 => ?_)
      · exfalso; omega
      · refine g_ldc (v := -1000001) hX cX5_79 dX5_ask_20 ?_
        exact g_iret hX hR dX5_ask_22 (by decide) (by decide) ⟨congrArg (fun z => some (Value.int z)) rfl, rfl, rfl, rfl⟩

theorem c_X5_ask_size1 (l : Launch) {nw sp : Nat} {I : xM} {T S F W : Nat} {f : Nat → Int32} {t : Nat} (hnw : xG nw) (hG : GX I nw f T S F W) (hW : WF f T S F W) (ht : t < T) (hk : f (26 + 5 * t + 0) = nI 1) : xC l 6 0 0 yX5_ask cX5_ask 4 (some .int) 319 [.ref 0, .int (nI t), .int (nI 0)] I (xRL nw sp) (xpI (hgF f (fun _ => 0) t + (nI t + f (26 + 5 * t + 1))) 319 (xput (xput (xput (xput (xput (xput (xput (xput (xput I 6 1 (nI 0)) 7 (0) (nI 11)) 6 1 (nI (0 + 1))) 7 (0 + 1) (nI 10)) 6 1 (nI (0 + 1 + 1))) 7 (0 + 1 + 1) (nI 21)) 6 1 (nI (0 + 1 + 1 + 1))) 7 (0 + 1 + 1 + 1) (nI 20)) 6 1 (nI (0 + 1 + 1 + 1 + 1))) (xRL nw sp)) := by
  refine xC_of (by decide) (Nat.le_of_ble_eq_true rfl) (fun X hXl hX hR => ?_)
  have hX : xOK X RX5 cX5_ask 4 6 0 0 := hX
  show G X 319 0 0 I (xRL nw sp) 0 [(0, .ref 0), (1, .int (nI t)), (2, .int (nI 0))] []
  have hg8 := xG_8 hnw
  have hT6 := hW.T6
  have hS6 := hW.S6
  refine g_aload_n hX dX5_ask_0 rfl 0 rfl ?_
  refine g_getR (j := nw) hX (by decide) (by decide) xCl5 4 (by decide) (by decide) kX5_39 dX5_ask_1 rfl ?_
  refine g_iload_n hX dX5_ask_4 rfl 1 rfl ?_
  refine g_callVi hX (as := [.int (nI t)]) (fun l => c_X0_hasTree l (I := I) (g := nw) (T := T) (S := S) (F := F) (W := W) (f := f) (x := (nI t)) (hg := hnw) (hG := (by first | assumption | omega)) (hW := (by first | assumption | omega))) mX0_hasTree vX0_hasTree lX5_149 (xG_n (j := 0) hnw (by decide)) (xG_K0 hnw) xCl0 rfl rfl dX5_ask_5 rfl (by decide) (Nat.le_of_ble_eq_true rfl) (by decide) (by decide) ?_
  refine g_top (y := xb (0 ≤ ((t : Nat) : Int) ∧ ((t : Nat) : Int) < T)) (by rw [nI_toInt (n := t) (by omega)]) ?_
  refine g_cb_eq (tgt := 20) hX dX5_ask_8 (by decide) (fun h8 => ?_) (fun h8 => ?_)
  · exfalso; omega
  · refine g_iload_n hX dX5_ask_11 rfl 2 rfl ?_
    refine g_cz_lt (a := (0 : Int)) (tgt := 20) hX dX5_ask_12 (by decide) (by decide) (fun q => absurd q (by decide)) (fun _ => ?_)
    refine g_iload_n hX dX5_ask_15 rfl 2 rfl ?_
    refine g_iconst (v := nI 1) hX dX5_ask_16 (by decide) ?_
    refine g_ci_le (a := (0 : Int)) (b := (1 : Int)) (tgt := 23) hX dX5_ask_17 (by decide) (by decide) (by decide) (fun _ => ?_) (fun q => absurd q (by decide))
    refine g_aload_n hX dX5_ask_23 rfl 0 rfl ?_
    refine g_getR (j := 6) hX (by decide) (by decide) xCl5 3 (by decide) (by decide) kX5_32 dX5_ask_24 rfl ?_
    refine g_iconst (v := nI 0) hX dX5_ask_27 (by decide) ?_
    refine g_putI hX (by decide) (by decide) xCl4 1 (by decide) (by decide) (by decide) kX5_250 dX5_ask_28 rfl rfl ?_
    refine g_iload_n hX dX5_ask_31 rfl 2 rfl ?_
    refine g_cz_ne (a := (0 : Int)) (tgt := 50) hX dX5_ask_32 (by decide) (by decide) (fun q => absurd q (by decide)) (fun _ => ?_)
    refine g_aload_n hX dX5_ask_35 rfl 0 rfl ?_
    refine g_getR (j := nw) hX (by decide) (by decide) xCl5 4 (by decide) (by decide) kX5_39 dX5_ask_36 rfl ?_
    refine g_getR (j := nw + 2) hX (xG_n (j := 0) hnw (by decide)) (xG_K0 hnw) xCl0 4 (by decide) (by decide) kX5_244 dX5_ask_39 (xRL_g4 hnw) ?_
    refine g_iload_n hX dX5_ask_42 rfl 1 rfl ?_
    refine g_iald (v := nI 1) hX (xG_n (j := 2) hnw (by decide)) (xG_K2 hnw) t rfl (by rw [(xG_N2 hnw)]; omega) dX5_ask_43 (xput_o (by omega) ((hG.k0 ht).trans hk)) ?_
    refine g_callSi hX (as := [.int (nI 1)]) (fun l => c_X5_bodyOfSize_1 l (I := (xput I 6 1 (nI 0))) ) mX5_bodyOfSize sX5_bodyOfSize lX5_253 rfl dX5_ask_44 rfl (by decide) (Nat.le_of_ble_eq_true rfl) (by decide) (by decide) ?_
    refine g_goto (tgt := 62) hX dX5_ask_47 (by decide) ?_
    refine g_istore_n (L' := [(0, .ref 0), (1, .int (nI t)), (2, .int (nI 0)), (3, .int (nI 11))]) hX dX5_ask_62 rfl (by decide) rfl ?_
    refine g_aload_n hX dX5_ask_63 rfl 0 rfl ?_
    refine g_getR (j := nw) hX (by decide) (by decide) xCl5 4 (by decide) (by decide) kX5_39 dX5_ask_64 rfl ?_
    refine g_aload_n hX dX5_ask_67 rfl 0 rfl ?_
    refine g_getR (j := 6) hX (by decide) (by decide) xCl5 3 (by decide) (by decide) kX5_32 dX5_ask_68 rfl ?_
    refine g_iload_n hX dX5_ask_71 rfl 1 rfl ?_
    refine g_iload_n hX dX5_ask_72 rfl 3 rfl ?_
    refine g_iconst (v := nI 0) hX dX5_ask_73 (by decide) ?_
    refine g_callSi hX (as := [.ref nw, .ref 6, .int (nI t), .int (nI 11), .int (nI 0)]) (fun l => c_X5_bodyGives_11_1 l (I := (xput I 6 1 (nI 0))) (g := nw) (T := T) (S := S) (F := F) (W := W) (f := f) (t := t) (d := 0) (n := 0) (hg := hnw) (hG := (hG.ext (fun i h1 h2 => ((xput_ne (by omega)).trans rfl)))) (hW := (by first | assumption | omega)) (ht := (by first | assumption | omega)) (hn := xput_e) (hn8 := (by first | assumption | omega)) (hd := (by first | assumption | omega)) (hk := hk)) mX5_bodyGives sX5_bodyGives lX5_259 rfl dX5_ask_74 rfl (by decide) (Nat.le_of_ble_eq_true rfl) (by decide) (by decide) ?_
    exact g_iret hX hR dX5_ask_77 (by decide) (by decide) ⟨congrArg (fun z => some (Value.int z)) rfl, rfl, rfl, rfl⟩

theorem c_X5_ask_mark1 (l : Launch) {nw sp : Nat} {I : xM} {T S F W : Nat} {f : Nat → Int32} {t : Nat} (hnw : xG nw) (hG : GX I nw f T S F W) (hW : WF f T S F W) (ht : t < T) (hk : f (26 + 5 * t + 0) = nI 1) : xC l 4 0 0 yX5_ask cX5_ask 4 (some .int) 319 [.ref 0, .int (nI t), .int (nI 1)] I (xRL nw sp) (xpI (nI t + f (26 + 5 * t + 1)) 319 (xput (xput (xput (xput (xput I 6 1 (nI 0)) 7 (0) (nI 21)) 6 1 (nI (0 + 1))) 7 (0 + 1) (nI 20)) 6 1 (nI (0 + 1 + 1))) (xRL nw sp)) := by
  refine xC_of (by decide) (Nat.le_of_ble_eq_true rfl) (fun X hXl hX hR => ?_)
  have hX : xOK X RX5 cX5_ask 4 4 0 0 := hX
  show G X 319 0 0 I (xRL nw sp) 0 [(0, .ref 0), (1, .int (nI t)), (2, .int (nI 1))] []
  have hg8 := xG_8 hnw
  have hT6 := hW.T6
  have hS6 := hW.S6
  refine g_aload_n hX dX5_ask_0 rfl 0 rfl ?_
  refine g_getR (j := nw) hX (by decide) (by decide) xCl5 4 (by decide) (by decide) kX5_39 dX5_ask_1 rfl ?_
  refine g_iload_n hX dX5_ask_4 rfl 1 rfl ?_
  refine g_callVi hX (as := [.int (nI t)]) (fun l => c_X0_hasTree l (I := I) (g := nw) (T := T) (S := S) (F := F) (W := W) (f := f) (x := (nI t)) (hg := hnw) (hG := (by first | assumption | omega)) (hW := (by first | assumption | omega))) mX0_hasTree vX0_hasTree lX5_149 (xG_n (j := 0) hnw (by decide)) (xG_K0 hnw) xCl0 rfl rfl dX5_ask_5 rfl (by decide) (Nat.le_of_ble_eq_true rfl) (by decide) (by decide) ?_
  refine g_top (y := xb (0 ≤ ((t : Nat) : Int) ∧ ((t : Nat) : Int) < T)) (by rw [nI_toInt (n := t) (by omega)]) ?_
  refine g_cb_eq (tgt := 20) hX dX5_ask_8 (by decide) (fun h8 => ?_) (fun h8 => ?_)
  · exfalso; omega
  · refine g_iload_n hX dX5_ask_11 rfl 2 rfl ?_
    refine g_cz_lt (a := (1 : Int)) (tgt := 20) hX dX5_ask_12 (by decide) (by decide) (fun q => absurd q (by decide)) (fun _ => ?_)
    refine g_iload_n hX dX5_ask_15 rfl 2 rfl ?_
    refine g_iconst (v := nI 1) hX dX5_ask_16 (by decide) ?_
    refine g_ci_le (a := (1 : Int)) (b := (1 : Int)) (tgt := 23) hX dX5_ask_17 (by decide) (by decide) (by decide) (fun _ => ?_) (fun q => absurd q (by decide))
    refine g_aload_n hX dX5_ask_23 rfl 0 rfl ?_
    refine g_getR (j := 6) hX (by decide) (by decide) xCl5 3 (by decide) (by decide) kX5_32 dX5_ask_24 rfl ?_
    refine g_iconst (v := nI 0) hX dX5_ask_27 (by decide) ?_
    refine g_putI hX (by decide) (by decide) xCl4 1 (by decide) (by decide) (by decide) kX5_250 dX5_ask_28 rfl rfl ?_
    refine g_iload_n hX dX5_ask_31 rfl 2 rfl ?_
    refine g_cz_ne (a := (1 : Int)) (tgt := 50) hX dX5_ask_32 (by decide) (by decide) (fun _ => ?_) (fun q => absurd q (by decide))
    refine g_aload_n hX dX5_ask_50 rfl 0 rfl ?_
    refine g_getR (j := nw) hX (by decide) (by decide) xCl5 4 (by decide) (by decide) kX5_39 dX5_ask_51 rfl ?_
    refine g_getR (j := nw + 2) hX (xG_n (j := 0) hnw (by decide)) (xG_K0 hnw) xCl0 4 (by decide) (by decide) kX5_244 dX5_ask_54 (xRL_g4 hnw) ?_
    refine g_iload_n hX dX5_ask_57 rfl 1 rfl ?_
    refine g_iald (v := nI 1) hX (xG_n (j := 2) hnw (by decide)) (xG_K2 hnw) t rfl (by rw [(xG_N2 hnw)]; omega) dX5_ask_58 (xput_o (by omega) ((hG.k0 ht).trans hk)) ?_
    refine g_callSi hX (as := [.int (nI 1)]) (fun l => c_X5_bodyOfMark_1 l (I := (xput I 6 1 (nI 0))) ) mX5_bodyOfMark sX5_bodyOfMark lX5_256 rfl dX5_ask_59 rfl (by decide) (Nat.le_of_ble_eq_true rfl) (by decide) (by decide) ?_
    refine g_istore_n (L' := [(0, .ref 0), (1, .int (nI t)), (2, .int (nI 1)), (3, .int (nI 21))]) hX dX5_ask_62 rfl (by decide) rfl ?_
    refine g_aload_n hX dX5_ask_63 rfl 0 rfl ?_
    refine g_getR (j := nw) hX (by decide) (by decide) xCl5 4 (by decide) (by decide) kX5_39 dX5_ask_64 rfl ?_
    refine g_aload_n hX dX5_ask_67 rfl 0 rfl ?_
    refine g_getR (j := 6) hX (by decide) (by decide) xCl5 3 (by decide) (by decide) kX5_32 dX5_ask_68 rfl ?_
    refine g_iload_n hX dX5_ask_71 rfl 1 rfl ?_
    refine g_iload_n hX dX5_ask_72 rfl 3 rfl ?_
    refine g_iconst (v := nI 0) hX dX5_ask_73 (by decide) ?_
    refine g_callSi hX (as := [.ref nw, .ref 6, .int (nI t), .int (nI 21), .int (nI 0)]) (fun l => c_X5_bodyGives_21_0 l (I := (xput I 6 1 (nI 0))) (g := nw) (T := T) (S := S) (F := F) (W := W) (f := f) (t := t) (d := 0) (n := 0) (hg := hnw) (hG := (hG.ext (fun i h1 h2 => ((xput_ne (by omega)).trans rfl)))) (hW := (by first | assumption | omega)) (ht := (by first | assumption | omega)) (hn := xput_e) (hn8 := (by first | assumption | omega)) (hd := (by first | assumption | omega))) mX5_bodyGives sX5_bodyGives lX5_259 rfl dX5_ask_74 rfl (by decide) (Nat.le_of_ble_eq_true rfl) (by decide) (by decide) ?_
    exact g_iret hX hR dX5_ask_77 (by decide) (by decide) ⟨congrArg (fun z => some (Value.int z)) rfl, rfl, rfl, rfl⟩

theorem c_X5_ask_size2 (l : Launch) {nw sp : Nat} {I : xM} {T S F W : Nat} {f : Nat → Int32} {t : Nat} (hnw : xG nw) (hG : GX I nw f T S F W) (hW : WF f T S F W) (ht : t < T) (hk : f (26 + 5 * t + 0) = nI 2) : xC l 7 0 0 yX5_ask cX5_ask 4 (some .int) 319 [.ref 0, .int (nI t), .int (nI 0)] I (xRL nw sp) (xpI (-(hgF f (fun _ => 0) t + (nI t + f (26 + 5 * t + 1) + nI 1000))) 319 (xput (xput (xput (xput (xput (xput (xput (xput (xput (xput (xput (xput (xput I 6 1 (nI 0)) 7 (0) (nI 12)) 6 1 (nI (0 + 1))) 7 (0 + 1) (nI 11)) 6 1 (nI (0 + 1 + 1))) 7 (0 + 1 + 1) (nI 10)) 6 1 (nI (0 + 1 + 1 + 1))) 7 (0 + 1 + 1 + 1) (nI 24)) 6 1 (nI (0 + 1 + 1 + 1 + 1))) 7 (0 + 1 + 1 + 1 + 1) (nI 21)) 6 1 (nI (0 + 1 + 1 + 1 + 1 + 1))) 7 (0 + 1 + 1 + 1 + 1 + 1) (nI 20)) 6 1 (nI (0 + 1 + 1 + 1 + 1 + 1 + 1))) (xRL nw sp)) := by
  refine xC_of (by decide) (Nat.le_of_ble_eq_true rfl) (fun X hXl hX hR => ?_)
  have hX : xOK X RX5 cX5_ask 4 7 0 0 := hX
  show G X 319 0 0 I (xRL nw sp) 0 [(0, .ref 0), (1, .int (nI t)), (2, .int (nI 0))] []
  have hg8 := xG_8 hnw
  have hT6 := hW.T6
  have hS6 := hW.S6
  refine g_aload_n hX dX5_ask_0 rfl 0 rfl ?_
  refine g_getR (j := nw) hX (by decide) (by decide) xCl5 4 (by decide) (by decide) kX5_39 dX5_ask_1 rfl ?_
  refine g_iload_n hX dX5_ask_4 rfl 1 rfl ?_
  refine g_callVi hX (as := [.int (nI t)]) (fun l => c_X0_hasTree l (I := I) (g := nw) (T := T) (S := S) (F := F) (W := W) (f := f) (x := (nI t)) (hg := hnw) (hG := (by first | assumption | omega)) (hW := (by first | assumption | omega))) mX0_hasTree vX0_hasTree lX5_149 (xG_n (j := 0) hnw (by decide)) (xG_K0 hnw) xCl0 rfl rfl dX5_ask_5 rfl (by decide) (Nat.le_of_ble_eq_true rfl) (by decide) (by decide) ?_
  refine g_top (y := xb (0 ≤ ((t : Nat) : Int) ∧ ((t : Nat) : Int) < T)) (by rw [nI_toInt (n := t) (by omega)]) ?_
  refine g_cb_eq (tgt := 20) hX dX5_ask_8 (by decide) (fun h8 => ?_) (fun h8 => ?_)
  · exfalso; omega
  · refine g_iload_n hX dX5_ask_11 rfl 2 rfl ?_
    refine g_cz_lt (a := (0 : Int)) (tgt := 20) hX dX5_ask_12 (by decide) (by decide) (fun q => absurd q (by decide)) (fun _ => ?_)
    refine g_iload_n hX dX5_ask_15 rfl 2 rfl ?_
    refine g_iconst (v := nI 1) hX dX5_ask_16 (by decide) ?_
    refine g_ci_le (a := (0 : Int)) (b := (1 : Int)) (tgt := 23) hX dX5_ask_17 (by decide) (by decide) (by decide) (fun _ => ?_) (fun q => absurd q (by decide))
    refine g_aload_n hX dX5_ask_23 rfl 0 rfl ?_
    refine g_getR (j := 6) hX (by decide) (by decide) xCl5 3 (by decide) (by decide) kX5_32 dX5_ask_24 rfl ?_
    refine g_iconst (v := nI 0) hX dX5_ask_27 (by decide) ?_
    refine g_putI hX (by decide) (by decide) xCl4 1 (by decide) (by decide) (by decide) kX5_250 dX5_ask_28 rfl rfl ?_
    refine g_iload_n hX dX5_ask_31 rfl 2 rfl ?_
    refine g_cz_ne (a := (0 : Int)) (tgt := 50) hX dX5_ask_32 (by decide) (by decide) (fun q => absurd q (by decide)) (fun _ => ?_)
    refine g_aload_n hX dX5_ask_35 rfl 0 rfl ?_
    refine g_getR (j := nw) hX (by decide) (by decide) xCl5 4 (by decide) (by decide) kX5_39 dX5_ask_36 rfl ?_
    refine g_getR (j := nw + 2) hX (xG_n (j := 0) hnw (by decide)) (xG_K0 hnw) xCl0 4 (by decide) (by decide) kX5_244 dX5_ask_39 (xRL_g4 hnw) ?_
    refine g_iload_n hX dX5_ask_42 rfl 1 rfl ?_
    refine g_iald (v := nI 2) hX (xG_n (j := 2) hnw (by decide)) (xG_K2 hnw) t rfl (by rw [(xG_N2 hnw)]; omega) dX5_ask_43 (xput_o (by omega) ((hG.k0 ht).trans hk)) ?_
    refine g_callSi hX (as := [.int (nI 2)]) (fun l => c_X5_bodyOfSize_2 l (I := (xput I 6 1 (nI 0))) ) mX5_bodyOfSize sX5_bodyOfSize lX5_253 rfl dX5_ask_44 rfl (by decide) (Nat.le_of_ble_eq_true rfl) (by decide) (by decide) ?_
    refine g_goto (tgt := 62) hX dX5_ask_47 (by decide) ?_
    refine g_istore_n (L' := [(0, .ref 0), (1, .int (nI t)), (2, .int (nI 0)), (3, .int (nI 12))]) hX dX5_ask_62 rfl (by decide) rfl ?_
    refine g_aload_n hX dX5_ask_63 rfl 0 rfl ?_
    refine g_getR (j := nw) hX (by decide) (by decide) xCl5 4 (by decide) (by decide) kX5_39 dX5_ask_64 rfl ?_
    refine g_aload_n hX dX5_ask_67 rfl 0 rfl ?_
    refine g_getR (j := 6) hX (by decide) (by decide) xCl5 3 (by decide) (by decide) kX5_32 dX5_ask_68 rfl ?_
    refine g_iload_n hX dX5_ask_71 rfl 1 rfl ?_
    refine g_iload_n hX dX5_ask_72 rfl 3 rfl ?_
    refine g_iconst (v := nI 0) hX dX5_ask_73 (by decide) ?_
    refine g_callSi hX (as := [.ref nw, .ref 6, .int (nI t), .int (nI 12), .int (nI 0)]) (fun l => c_X5_bodyGives_12_2 l (I := (xput I 6 1 (nI 0))) (g := nw) (T := T) (S := S) (F := F) (W := W) (f := f) (t := t) (d := 0) (n := 0) (hg := hnw) (hG := (hG.ext (fun i h1 h2 => ((xput_ne (by omega)).trans rfl)))) (hW := (by first | assumption | omega)) (ht := (by first | assumption | omega)) (hn := xput_e) (hn8 := (by first | assumption | omega)) (hd := (by first | assumption | omega)) (hk := hk)) mX5_bodyGives sX5_bodyGives lX5_259 rfl dX5_ask_74 rfl (by decide) (Nat.le_of_ble_eq_true rfl) (by decide) (by decide) ?_
    exact g_iret hX hR dX5_ask_77 (by decide) (by decide) ⟨congrArg (fun z => some (Value.int z)) rfl, rfl, rfl, rfl⟩

theorem c_X5_ask_mark2 (l : Launch) {nw sp : Nat} {I : xM} {T S F W : Nat} {f : Nat → Int32} {t : Nat} (hnw : xG nw) (hG : GX I nw f T S F W) (hW : WF f T S F W) (ht : t < T) (hk : f (26 + 5 * t + 0) = nI 2) : xC l 5 0 0 yX5_ask cX5_ask 4 (some .int) 319 [.ref 0, .int (nI t), .int (nI 1)] I (xRL nw sp) (xpI (nI t + f (26 + 5 * t + 1) + nI 1000) 319 (xput (xput (xput (xput (xput (xput (xput I 6 1 (nI 0)) 7 (0) (nI 24)) 6 1 (nI (0 + 1))) 7 (0 + 1) (nI 21)) 6 1 (nI (0 + 1 + 1))) 7 (0 + 1 + 1) (nI 20)) 6 1 (nI (0 + 1 + 1 + 1))) (xRL nw sp)) := by
  refine xC_of (by decide) (Nat.le_of_ble_eq_true rfl) (fun X hXl hX hR => ?_)
  have hX : xOK X RX5 cX5_ask 4 5 0 0 := hX
  show G X 319 0 0 I (xRL nw sp) 0 [(0, .ref 0), (1, .int (nI t)), (2, .int (nI 1))] []
  have hg8 := xG_8 hnw
  have hT6 := hW.T6
  have hS6 := hW.S6
  refine g_aload_n hX dX5_ask_0 rfl 0 rfl ?_
  refine g_getR (j := nw) hX (by decide) (by decide) xCl5 4 (by decide) (by decide) kX5_39 dX5_ask_1 rfl ?_
  refine g_iload_n hX dX5_ask_4 rfl 1 rfl ?_
  refine g_callVi hX (as := [.int (nI t)]) (fun l => c_X0_hasTree l (I := I) (g := nw) (T := T) (S := S) (F := F) (W := W) (f := f) (x := (nI t)) (hg := hnw) (hG := (by first | assumption | omega)) (hW := (by first | assumption | omega))) mX0_hasTree vX0_hasTree lX5_149 (xG_n (j := 0) hnw (by decide)) (xG_K0 hnw) xCl0 rfl rfl dX5_ask_5 rfl (by decide) (Nat.le_of_ble_eq_true rfl) (by decide) (by decide) ?_
  refine g_top (y := xb (0 ≤ ((t : Nat) : Int) ∧ ((t : Nat) : Int) < T)) (by rw [nI_toInt (n := t) (by omega)]) ?_
  refine g_cb_eq (tgt := 20) hX dX5_ask_8 (by decide) (fun h8 => ?_) (fun h8 => ?_)
  · exfalso; omega
  · refine g_iload_n hX dX5_ask_11 rfl 2 rfl ?_
    refine g_cz_lt (a := (1 : Int)) (tgt := 20) hX dX5_ask_12 (by decide) (by decide) (fun q => absurd q (by decide)) (fun _ => ?_)
    refine g_iload_n hX dX5_ask_15 rfl 2 rfl ?_
    refine g_iconst (v := nI 1) hX dX5_ask_16 (by decide) ?_
    refine g_ci_le (a := (1 : Int)) (b := (1 : Int)) (tgt := 23) hX dX5_ask_17 (by decide) (by decide) (by decide) (fun _ => ?_) (fun q => absurd q (by decide))
    refine g_aload_n hX dX5_ask_23 rfl 0 rfl ?_
    refine g_getR (j := 6) hX (by decide) (by decide) xCl5 3 (by decide) (by decide) kX5_32 dX5_ask_24 rfl ?_
    refine g_iconst (v := nI 0) hX dX5_ask_27 (by decide) ?_
    refine g_putI hX (by decide) (by decide) xCl4 1 (by decide) (by decide) (by decide) kX5_250 dX5_ask_28 rfl rfl ?_
    refine g_iload_n hX dX5_ask_31 rfl 2 rfl ?_
    refine g_cz_ne (a := (1 : Int)) (tgt := 50) hX dX5_ask_32 (by decide) (by decide) (fun _ => ?_) (fun q => absurd q (by decide))
    refine g_aload_n hX dX5_ask_50 rfl 0 rfl ?_
    refine g_getR (j := nw) hX (by decide) (by decide) xCl5 4 (by decide) (by decide) kX5_39 dX5_ask_51 rfl ?_
    refine g_getR (j := nw + 2) hX (xG_n (j := 0) hnw (by decide)) (xG_K0 hnw) xCl0 4 (by decide) (by decide) kX5_244 dX5_ask_54 (xRL_g4 hnw) ?_
    refine g_iload_n hX dX5_ask_57 rfl 1 rfl ?_
    refine g_iald (v := nI 2) hX (xG_n (j := 2) hnw (by decide)) (xG_K2 hnw) t rfl (by rw [(xG_N2 hnw)]; omega) dX5_ask_58 (xput_o (by omega) ((hG.k0 ht).trans hk)) ?_
    refine g_callSi hX (as := [.int (nI 2)]) (fun l => c_X5_bodyOfMark_2 l (I := (xput I 6 1 (nI 0))) ) mX5_bodyOfMark sX5_bodyOfMark lX5_256 rfl dX5_ask_59 rfl (by decide) (Nat.le_of_ble_eq_true rfl) (by decide) (by decide) ?_
    refine g_istore_n (L' := [(0, .ref 0), (1, .int (nI t)), (2, .int (nI 1)), (3, .int (nI 24))]) hX dX5_ask_62 rfl (by decide) rfl ?_
    refine g_aload_n hX dX5_ask_63 rfl 0 rfl ?_
    refine g_getR (j := nw) hX (by decide) (by decide) xCl5 4 (by decide) (by decide) kX5_39 dX5_ask_64 rfl ?_
    refine g_aload_n hX dX5_ask_67 rfl 0 rfl ?_
    refine g_getR (j := 6) hX (by decide) (by decide) xCl5 3 (by decide) (by decide) kX5_32 dX5_ask_68 rfl ?_
    refine g_iload_n hX dX5_ask_71 rfl 1 rfl ?_
    refine g_iload_n hX dX5_ask_72 rfl 3 rfl ?_
    refine g_iconst (v := nI 0) hX dX5_ask_73 (by decide) ?_
    refine g_callSi hX (as := [.ref nw, .ref 6, .int (nI t), .int (nI 24), .int (nI 0)]) (fun l => c_X5_bodyGives_24_0 l (I := (xput I 6 1 (nI 0))) (g := nw) (T := T) (S := S) (F := F) (W := W) (f := f) (t := t) (d := 0) (n := 0) (hg := hnw) (hG := (hG.ext (fun i h1 h2 => ((xput_ne (by omega)).trans rfl)))) (hW := (by first | assumption | omega)) (ht := (by first | assumption | omega)) (hn := xput_e) (hn8 := (by first | assumption | omega)) (hd := (by first | assumption | omega))) mX5_bodyGives sX5_bodyGives lX5_259 rfl dX5_ask_74 rfl (by decide) (Nat.le_of_ble_eq_true rfl) (by decide) (by decide) ?_
    exact g_iret hX hR dX5_ask_77 (by decide) (by decide) ⟨congrArg (fun z => some (Value.int z)) rfl, rfl, rfl, rfl⟩

theorem c_X5_ask_size3 (l : Launch) {nw sp : Nat} {I : xM} {T S F W : Nat} {f : Nat → Int32} {t : Nat} (hnw : xG nw) (hG : GX I nw f T S F W) (hW : WF f T S F W) (ht : t < T) (hk : f (26 + 5 * t + 0) = nI 3) : xC l 5 0 0 yX5_ask cX5_ask 4 (some .int) 319 [.ref 0, .int (nI t), .int (nI 0)] I (xRL nw sp) (xpI (hgF f (fun _ => 0) t) 319 (xput (xput (xput I 6 1 (nI 0)) 7 (0) (nI 10)) 6 1 (nI (0 + 1))) (xRL nw sp)) := by
  refine xC_of (by decide) (Nat.le_of_ble_eq_true rfl) (fun X hXl hX hR => ?_)
  have hX : xOK X RX5 cX5_ask 4 5 0 0 := hX
  show G X 319 0 0 I (xRL nw sp) 0 [(0, .ref 0), (1, .int (nI t)), (2, .int (nI 0))] []
  have hg8 := xG_8 hnw
  have hT6 := hW.T6
  have hS6 := hW.S6
  refine g_aload_n hX dX5_ask_0 rfl 0 rfl ?_
  refine g_getR (j := nw) hX (by decide) (by decide) xCl5 4 (by decide) (by decide) kX5_39 dX5_ask_1 rfl ?_
  refine g_iload_n hX dX5_ask_4 rfl 1 rfl ?_
  refine g_callVi hX (as := [.int (nI t)]) (fun l => c_X0_hasTree l (I := I) (g := nw) (T := T) (S := S) (F := F) (W := W) (f := f) (x := (nI t)) (hg := hnw) (hG := (by first | assumption | omega)) (hW := (by first | assumption | omega))) mX0_hasTree vX0_hasTree lX5_149 (xG_n (j := 0) hnw (by decide)) (xG_K0 hnw) xCl0 rfl rfl dX5_ask_5 rfl (by decide) (Nat.le_of_ble_eq_true rfl) (by decide) (by decide) ?_
  refine g_top (y := xb (0 ≤ ((t : Nat) : Int) ∧ ((t : Nat) : Int) < T)) (by rw [nI_toInt (n := t) (by omega)]) ?_
  refine g_cb_eq (tgt := 20) hX dX5_ask_8 (by decide) (fun h8 => ?_) (fun h8 => ?_)
  · exfalso; omega
  · refine g_iload_n hX dX5_ask_11 rfl 2 rfl ?_
    refine g_cz_lt (a := (0 : Int)) (tgt := 20) hX dX5_ask_12 (by decide) (by decide) (fun q => absurd q (by decide)) (fun _ => ?_)
    refine g_iload_n hX dX5_ask_15 rfl 2 rfl ?_
    refine g_iconst (v := nI 1) hX dX5_ask_16 (by decide) ?_
    refine g_ci_le (a := (0 : Int)) (b := (1 : Int)) (tgt := 23) hX dX5_ask_17 (by decide) (by decide) (by decide) (fun _ => ?_) (fun q => absurd q (by decide))
    refine g_aload_n hX dX5_ask_23 rfl 0 rfl ?_
    refine g_getR (j := 6) hX (by decide) (by decide) xCl5 3 (by decide) (by decide) kX5_32 dX5_ask_24 rfl ?_
    refine g_iconst (v := nI 0) hX dX5_ask_27 (by decide) ?_
    refine g_putI hX (by decide) (by decide) xCl4 1 (by decide) (by decide) (by decide) kX5_250 dX5_ask_28 rfl rfl ?_
    refine g_iload_n hX dX5_ask_31 rfl 2 rfl ?_
    refine g_cz_ne (a := (0 : Int)) (tgt := 50) hX dX5_ask_32 (by decide) (by decide) (fun q => absurd q (by decide)) (fun _ => ?_)
    refine g_aload_n hX dX5_ask_35 rfl 0 rfl ?_
    refine g_getR (j := nw) hX (by decide) (by decide) xCl5 4 (by decide) (by decide) kX5_39 dX5_ask_36 rfl ?_
    refine g_getR (j := nw + 2) hX (xG_n (j := 0) hnw (by decide)) (xG_K0 hnw) xCl0 4 (by decide) (by decide) kX5_244 dX5_ask_39 (xRL_g4 hnw) ?_
    refine g_iload_n hX dX5_ask_42 rfl 1 rfl ?_
    refine g_iald (v := nI 3) hX (xG_n (j := 2) hnw (by decide)) (xG_K2 hnw) t rfl (by rw [(xG_N2 hnw)]; omega) dX5_ask_43 (xput_o (by omega) ((hG.k0 ht).trans hk)) ?_
    refine g_callSi hX (as := [.int (nI 3)]) (fun l => c_X5_bodyOfSize_3 l (I := (xput I 6 1 (nI 0))) ) mX5_bodyOfSize sX5_bodyOfSize lX5_253 rfl dX5_ask_44 rfl (by decide) (Nat.le_of_ble_eq_true rfl) (by decide) (by decide) ?_
    refine g_goto (tgt := 62) hX dX5_ask_47 (by decide) ?_
    refine g_istore_n (L' := [(0, .ref 0), (1, .int (nI t)), (2, .int (nI 0)), (3, .int (nI 10))]) hX dX5_ask_62 rfl (by decide) rfl ?_
    refine g_aload_n hX dX5_ask_63 rfl 0 rfl ?_
    refine g_getR (j := nw) hX (by decide) (by decide) xCl5 4 (by decide) (by decide) kX5_39 dX5_ask_64 rfl ?_
    refine g_aload_n hX dX5_ask_67 rfl 0 rfl ?_
    refine g_getR (j := 6) hX (by decide) (by decide) xCl5 3 (by decide) (by decide) kX5_32 dX5_ask_68 rfl ?_
    refine g_iload_n hX dX5_ask_71 rfl 1 rfl ?_
    refine g_iload_n hX dX5_ask_72 rfl 3 rfl ?_
    refine g_iconst (v := nI 0) hX dX5_ask_73 (by decide) ?_
    refine g_callSi hX (as := [.ref nw, .ref 6, .int (nI t), .int (nI 10), .int (nI 0)]) (fun l => c_X5_bodyGives_10_0 l (I := (xput I 6 1 (nI 0))) (g := nw) (T := T) (S := S) (F := F) (W := W) (f := f) (t := t) (d := 0) (n := 0) (hg := hnw) (hG := (hG.ext (fun i h1 h2 => ((xput_ne (by omega)).trans rfl)))) (hW := (by first | assumption | omega)) (ht := (by first | assumption | omega)) (hn := xput_e) (hn8 := (by first | assumption | omega)) (hd := (by first | assumption | omega))) mX5_bodyGives sX5_bodyGives lX5_259 rfl dX5_ask_74 rfl (by decide) (Nat.le_of_ble_eq_true rfl) (by decide) (by decide) ?_
    exact g_iret hX hR dX5_ask_77 (by decide) (by decide) ⟨congrArg (fun z => some (Value.int z)) rfl, rfl, rfl, rfl⟩

theorem c_X5_ask_mark3 (l : Launch) {nw sp : Nat} {I : xM} {T S F W : Nat} {f : Nat → Int32} {t : Nat} (hnw : xG nw) (hG : GX I nw f T S F W) (hW : WF f T S F W) (ht : t < T) (hk : f (26 + 5 * t + 0) = nI 3) : xC l 6 0 0 yX5_ask cX5_ask 4 (some .int) 319 [.ref 0, .int (nI t), .int (nI 1)] I (xRL nw sp) (xpI (nI t - hgF f (fun _ => 0) t) 319 (xput (xput (xput (xput (xput (xput (xput I 6 1 (nI 0)) 7 (0) (nI 22)) 6 1 (nI (0 + 1))) 7 (0 + 1) (nI 20)) 6 1 (nI (0 + 1 + 1))) 7 (0 + 1 + 1) (nI 10)) 6 1 (nI (0 + 1 + 1 + 1))) (xRL nw sp)) := by
  refine xC_of (by decide) (Nat.le_of_ble_eq_true rfl) (fun X hXl hX hR => ?_)
  have hX : xOK X RX5 cX5_ask 4 6 0 0 := hX
  show G X 319 0 0 I (xRL nw sp) 0 [(0, .ref 0), (1, .int (nI t)), (2, .int (nI 1))] []
  have hg8 := xG_8 hnw
  have hT6 := hW.T6
  have hS6 := hW.S6
  refine g_aload_n hX dX5_ask_0 rfl 0 rfl ?_
  refine g_getR (j := nw) hX (by decide) (by decide) xCl5 4 (by decide) (by decide) kX5_39 dX5_ask_1 rfl ?_
  refine g_iload_n hX dX5_ask_4 rfl 1 rfl ?_
  refine g_callVi hX (as := [.int (nI t)]) (fun l => c_X0_hasTree l (I := I) (g := nw) (T := T) (S := S) (F := F) (W := W) (f := f) (x := (nI t)) (hg := hnw) (hG := (by first | assumption | omega)) (hW := (by first | assumption | omega))) mX0_hasTree vX0_hasTree lX5_149 (xG_n (j := 0) hnw (by decide)) (xG_K0 hnw) xCl0 rfl rfl dX5_ask_5 rfl (by decide) (Nat.le_of_ble_eq_true rfl) (by decide) (by decide) ?_
  refine g_top (y := xb (0 ≤ ((t : Nat) : Int) ∧ ((t : Nat) : Int) < T)) (by rw [nI_toInt (n := t) (by omega)]) ?_
  refine g_cb_eq (tgt := 20) hX dX5_ask_8 (by decide) (fun h8 => ?_) (fun h8 => ?_)
  · exfalso; omega
  · refine g_iload_n hX dX5_ask_11 rfl 2 rfl ?_
    refine g_cz_lt (a := (1 : Int)) (tgt := 20) hX dX5_ask_12 (by decide) (by decide) (fun q => absurd q (by decide)) (fun _ => ?_)
    refine g_iload_n hX dX5_ask_15 rfl 2 rfl ?_
    refine g_iconst (v := nI 1) hX dX5_ask_16 (by decide) ?_
    refine g_ci_le (a := (1 : Int)) (b := (1 : Int)) (tgt := 23) hX dX5_ask_17 (by decide) (by decide) (by decide) (fun _ => ?_) (fun q => absurd q (by decide))
    refine g_aload_n hX dX5_ask_23 rfl 0 rfl ?_
    refine g_getR (j := 6) hX (by decide) (by decide) xCl5 3 (by decide) (by decide) kX5_32 dX5_ask_24 rfl ?_
    refine g_iconst (v := nI 0) hX dX5_ask_27 (by decide) ?_
    refine g_putI hX (by decide) (by decide) xCl4 1 (by decide) (by decide) (by decide) kX5_250 dX5_ask_28 rfl rfl ?_
    refine g_iload_n hX dX5_ask_31 rfl 2 rfl ?_
    refine g_cz_ne (a := (1 : Int)) (tgt := 50) hX dX5_ask_32 (by decide) (by decide) (fun _ => ?_) (fun q => absurd q (by decide))
    refine g_aload_n hX dX5_ask_50 rfl 0 rfl ?_
    refine g_getR (j := nw) hX (by decide) (by decide) xCl5 4 (by decide) (by decide) kX5_39 dX5_ask_51 rfl ?_
    refine g_getR (j := nw + 2) hX (xG_n (j := 0) hnw (by decide)) (xG_K0 hnw) xCl0 4 (by decide) (by decide) kX5_244 dX5_ask_54 (xRL_g4 hnw) ?_
    refine g_iload_n hX dX5_ask_57 rfl 1 rfl ?_
    refine g_iald (v := nI 3) hX (xG_n (j := 2) hnw (by decide)) (xG_K2 hnw) t rfl (by rw [(xG_N2 hnw)]; omega) dX5_ask_58 (xput_o (by omega) ((hG.k0 ht).trans hk)) ?_
    refine g_callSi hX (as := [.int (nI 3)]) (fun l => c_X5_bodyOfMark_3 l (I := (xput I 6 1 (nI 0))) ) mX5_bodyOfMark sX5_bodyOfMark lX5_256 rfl dX5_ask_59 rfl (by decide) (Nat.le_of_ble_eq_true rfl) (by decide) (by decide) ?_
    refine g_istore_n (L' := [(0, .ref 0), (1, .int (nI t)), (2, .int (nI 1)), (3, .int (nI 22))]) hX dX5_ask_62 rfl (by decide) rfl ?_
    refine g_aload_n hX dX5_ask_63 rfl 0 rfl ?_
    refine g_getR (j := nw) hX (by decide) (by decide) xCl5 4 (by decide) (by decide) kX5_39 dX5_ask_64 rfl ?_
    refine g_aload_n hX dX5_ask_67 rfl 0 rfl ?_
    refine g_getR (j := 6) hX (by decide) (by decide) xCl5 3 (by decide) (by decide) kX5_32 dX5_ask_68 rfl ?_
    refine g_iload_n hX dX5_ask_71 rfl 1 rfl ?_
    refine g_iload_n hX dX5_ask_72 rfl 3 rfl ?_
    refine g_iconst (v := nI 0) hX dX5_ask_73 (by decide) ?_
    refine g_callSi hX (as := [.ref nw, .ref 6, .int (nI t), .int (nI 22), .int (nI 0)]) (fun l => c_X5_bodyGives_22_3 l (I := (xput I 6 1 (nI 0))) (g := nw) (T := T) (S := S) (F := F) (W := W) (f := f) (t := t) (d := 0) (n := 0) (hg := hnw) (hG := (hG.ext (fun i h1 h2 => ((xput_ne (by omega)).trans rfl)))) (hW := (by first | assumption | omega)) (ht := (by first | assumption | omega)) (hn := xput_e) (hn8 := (by first | assumption | omega)) (hd := (by first | assumption | omega)) (hk := hk)) mX5_bodyGives sX5_bodyGives lX5_259 rfl dX5_ask_74 rfl (by decide) (Nat.le_of_ble_eq_true rfl) (by decide) (by decide) ?_
    exact g_iret hX hR dX5_ask_77 (by decide) (by decide) ⟨congrArg (fun z => some (Value.int z)) rfl, rfl, rfl, rfl⟩

theorem c_X5_ask_size4 (l : Launch) {nw sp : Nat} {I : xM} {T S F W : Nat} {f : Nat → Int32} {t : Nat} (hnw : xG nw) (hG : GX I nw f T S F W) (hW : WF f T S F W) (ht : t < T) (hk : f (26 + 5 * t + 0) = nI 4) : xC l 6 0 0 yX5_ask cX5_ask 4 (some .int) 319 [.ref 0, .int (nI t), .int (nI 0)] I (xRL nw sp) (xpI (hgF f (fun _ => 0) t - nI 100) 319 (xput (xput (xput (xput (xput I 6 1 (nI 0)) 7 (0) (nI 13)) 6 1 (nI (0 + 1))) 7 (0 + 1) (nI 10)) 6 1 (nI (0 + 1 + 1))) (xRL nw sp)) := by
  refine xC_of (by decide) (Nat.le_of_ble_eq_true rfl) (fun X hXl hX hR => ?_)
  have hX : xOK X RX5 cX5_ask 4 6 0 0 := hX
  show G X 319 0 0 I (xRL nw sp) 0 [(0, .ref 0), (1, .int (nI t)), (2, .int (nI 0))] []
  have hg8 := xG_8 hnw
  have hT6 := hW.T6
  have hS6 := hW.S6
  refine g_aload_n hX dX5_ask_0 rfl 0 rfl ?_
  refine g_getR (j := nw) hX (by decide) (by decide) xCl5 4 (by decide) (by decide) kX5_39 dX5_ask_1 rfl ?_
  refine g_iload_n hX dX5_ask_4 rfl 1 rfl ?_
  refine g_callVi hX (as := [.int (nI t)]) (fun l => c_X0_hasTree l (I := I) (g := nw) (T := T) (S := S) (F := F) (W := W) (f := f) (x := (nI t)) (hg := hnw) (hG := (by first | assumption | omega)) (hW := (by first | assumption | omega))) mX0_hasTree vX0_hasTree lX5_149 (xG_n (j := 0) hnw (by decide)) (xG_K0 hnw) xCl0 rfl rfl dX5_ask_5 rfl (by decide) (Nat.le_of_ble_eq_true rfl) (by decide) (by decide) ?_
  refine g_top (y := xb (0 ≤ ((t : Nat) : Int) ∧ ((t : Nat) : Int) < T)) (by rw [nI_toInt (n := t) (by omega)]) ?_
  refine g_cb_eq (tgt := 20) hX dX5_ask_8 (by decide) (fun h8 => ?_) (fun h8 => ?_)
  · exfalso; omega
  · refine g_iload_n hX dX5_ask_11 rfl 2 rfl ?_
    refine g_cz_lt (a := (0 : Int)) (tgt := 20) hX dX5_ask_12 (by decide) (by decide) (fun q => absurd q (by decide)) (fun _ => ?_)
    refine g_iload_n hX dX5_ask_15 rfl 2 rfl ?_
    refine g_iconst (v := nI 1) hX dX5_ask_16 (by decide) ?_
    refine g_ci_le (a := (0 : Int)) (b := (1 : Int)) (tgt := 23) hX dX5_ask_17 (by decide) (by decide) (by decide) (fun _ => ?_) (fun q => absurd q (by decide))
    refine g_aload_n hX dX5_ask_23 rfl 0 rfl ?_
    refine g_getR (j := 6) hX (by decide) (by decide) xCl5 3 (by decide) (by decide) kX5_32 dX5_ask_24 rfl ?_
    refine g_iconst (v := nI 0) hX dX5_ask_27 (by decide) ?_
    refine g_putI hX (by decide) (by decide) xCl4 1 (by decide) (by decide) (by decide) kX5_250 dX5_ask_28 rfl rfl ?_
    refine g_iload_n hX dX5_ask_31 rfl 2 rfl ?_
    refine g_cz_ne (a := (0 : Int)) (tgt := 50) hX dX5_ask_32 (by decide) (by decide) (fun q => absurd q (by decide)) (fun _ => ?_)
    refine g_aload_n hX dX5_ask_35 rfl 0 rfl ?_
    refine g_getR (j := nw) hX (by decide) (by decide) xCl5 4 (by decide) (by decide) kX5_39 dX5_ask_36 rfl ?_
    refine g_getR (j := nw + 2) hX (xG_n (j := 0) hnw (by decide)) (xG_K0 hnw) xCl0 4 (by decide) (by decide) kX5_244 dX5_ask_39 (xRL_g4 hnw) ?_
    refine g_iload_n hX dX5_ask_42 rfl 1 rfl ?_
    refine g_iald (v := nI 4) hX (xG_n (j := 2) hnw (by decide)) (xG_K2 hnw) t rfl (by rw [(xG_N2 hnw)]; omega) dX5_ask_43 (xput_o (by omega) ((hG.k0 ht).trans hk)) ?_
    refine g_callSi hX (as := [.int (nI 4)]) (fun l => c_X5_bodyOfSize_4 l (I := (xput I 6 1 (nI 0))) ) mX5_bodyOfSize sX5_bodyOfSize lX5_253 rfl dX5_ask_44 rfl (by decide) (Nat.le_of_ble_eq_true rfl) (by decide) (by decide) ?_
    refine g_goto (tgt := 62) hX dX5_ask_47 (by decide) ?_
    refine g_istore_n (L' := [(0, .ref 0), (1, .int (nI t)), (2, .int (nI 0)), (3, .int (nI 13))]) hX dX5_ask_62 rfl (by decide) rfl ?_
    refine g_aload_n hX dX5_ask_63 rfl 0 rfl ?_
    refine g_getR (j := nw) hX (by decide) (by decide) xCl5 4 (by decide) (by decide) kX5_39 dX5_ask_64 rfl ?_
    refine g_aload_n hX dX5_ask_67 rfl 0 rfl ?_
    refine g_getR (j := 6) hX (by decide) (by decide) xCl5 3 (by decide) (by decide) kX5_32 dX5_ask_68 rfl ?_
    refine g_iload_n hX dX5_ask_71 rfl 1 rfl ?_
    refine g_iload_n hX dX5_ask_72 rfl 3 rfl ?_
    refine g_iconst (v := nI 0) hX dX5_ask_73 (by decide) ?_
    refine g_callSi hX (as := [.ref nw, .ref 6, .int (nI t), .int (nI 13), .int (nI 0)]) (fun l => c_X5_bodyGives_13_0 l (I := (xput I 6 1 (nI 0))) (g := nw) (T := T) (S := S) (F := F) (W := W) (f := f) (t := t) (d := 0) (n := 0) (hg := hnw) (hG := (hG.ext (fun i h1 h2 => ((xput_ne (by omega)).trans rfl)))) (hW := (by first | assumption | omega)) (ht := (by first | assumption | omega)) (hn := xput_e) (hn8 := (by first | assumption | omega)) (hd := (by first | assumption | omega))) mX5_bodyGives sX5_bodyGives lX5_259 rfl dX5_ask_74 rfl (by decide) (Nat.le_of_ble_eq_true rfl) (by decide) (by decide) ?_
    exact g_iret hX hR dX5_ask_77 (by decide) (by decide) ⟨congrArg (fun z => some (Value.int z)) rfl, rfl, rfl, rfl⟩

theorem c_X5_ask_mark4 (l : Launch) {nw sp : Nat} {I : xM} {T S F W : Nat} {f : Nat → Int32} {t : Nat} (hnw : xG nw) (hG : GX I nw f T S F W) (hW : WF f T S F W) (ht : t < T) (hk : f (26 + 5 * t + 0) = nI 4) : xC l 4 0 0 yX5_ask cX5_ask 4 (some .int) 319 [.ref 0, .int (nI t), .int (nI 1)] I (xRL nw sp) (xpI (nI t + f (26 + 5 * t + 3)) 319 (xput (xput (xput (xput (xput I 6 1 (nI 0)) 7 (0) (nI 23)) 6 1 (nI (0 + 1))) 7 (0 + 1) (nI 20)) 6 1 (nI (0 + 1 + 1))) (xRL nw sp)) := by
  refine xC_of (by decide) (Nat.le_of_ble_eq_true rfl) (fun X hXl hX hR => ?_)
  have hX : xOK X RX5 cX5_ask 4 4 0 0 := hX
  show G X 319 0 0 I (xRL nw sp) 0 [(0, .ref 0), (1, .int (nI t)), (2, .int (nI 1))] []
  have hg8 := xG_8 hnw
  have hT6 := hW.T6
  have hS6 := hW.S6
  refine g_aload_n hX dX5_ask_0 rfl 0 rfl ?_
  refine g_getR (j := nw) hX (by decide) (by decide) xCl5 4 (by decide) (by decide) kX5_39 dX5_ask_1 rfl ?_
  refine g_iload_n hX dX5_ask_4 rfl 1 rfl ?_
  refine g_callVi hX (as := [.int (nI t)]) (fun l => c_X0_hasTree l (I := I) (g := nw) (T := T) (S := S) (F := F) (W := W) (f := f) (x := (nI t)) (hg := hnw) (hG := (by first | assumption | omega)) (hW := (by first | assumption | omega))) mX0_hasTree vX0_hasTree lX5_149 (xG_n (j := 0) hnw (by decide)) (xG_K0 hnw) xCl0 rfl rfl dX5_ask_5 rfl (by decide) (Nat.le_of_ble_eq_true rfl) (by decide) (by decide) ?_
  refine g_top (y := xb (0 ≤ ((t : Nat) : Int) ∧ ((t : Nat) : Int) < T)) (by rw [nI_toInt (n := t) (by omega)]) ?_
  refine g_cb_eq (tgt := 20) hX dX5_ask_8 (by decide) (fun h8 => ?_) (fun h8 => ?_)
  · exfalso; omega
  · refine g_iload_n hX dX5_ask_11 rfl 2 rfl ?_
    refine g_cz_lt (a := (1 : Int)) (tgt := 20) hX dX5_ask_12 (by decide) (by decide) (fun q => absurd q (by decide)) (fun _ => ?_)
    refine g_iload_n hX dX5_ask_15 rfl 2 rfl ?_
    refine g_iconst (v := nI 1) hX dX5_ask_16 (by decide) ?_
    refine g_ci_le (a := (1 : Int)) (b := (1 : Int)) (tgt := 23) hX dX5_ask_17 (by decide) (by decide) (by decide) (fun _ => ?_) (fun q => absurd q (by decide))
    refine g_aload_n hX dX5_ask_23 rfl 0 rfl ?_
    refine g_getR (j := 6) hX (by decide) (by decide) xCl5 3 (by decide) (by decide) kX5_32 dX5_ask_24 rfl ?_
    refine g_iconst (v := nI 0) hX dX5_ask_27 (by decide) ?_
    refine g_putI hX (by decide) (by decide) xCl4 1 (by decide) (by decide) (by decide) kX5_250 dX5_ask_28 rfl rfl ?_
    refine g_iload_n hX dX5_ask_31 rfl 2 rfl ?_
    refine g_cz_ne (a := (1 : Int)) (tgt := 50) hX dX5_ask_32 (by decide) (by decide) (fun _ => ?_) (fun q => absurd q (by decide))
    refine g_aload_n hX dX5_ask_50 rfl 0 rfl ?_
    refine g_getR (j := nw) hX (by decide) (by decide) xCl5 4 (by decide) (by decide) kX5_39 dX5_ask_51 rfl ?_
    refine g_getR (j := nw + 2) hX (xG_n (j := 0) hnw (by decide)) (xG_K0 hnw) xCl0 4 (by decide) (by decide) kX5_244 dX5_ask_54 (xRL_g4 hnw) ?_
    refine g_iload_n hX dX5_ask_57 rfl 1 rfl ?_
    refine g_iald (v := nI 4) hX (xG_n (j := 2) hnw (by decide)) (xG_K2 hnw) t rfl (by rw [(xG_N2 hnw)]; omega) dX5_ask_58 (xput_o (by omega) ((hG.k0 ht).trans hk)) ?_
    refine g_callSi hX (as := [.int (nI 4)]) (fun l => c_X5_bodyOfMark_4 l (I := (xput I 6 1 (nI 0))) ) mX5_bodyOfMark sX5_bodyOfMark lX5_256 rfl dX5_ask_59 rfl (by decide) (Nat.le_of_ble_eq_true rfl) (by decide) (by decide) ?_
    refine g_istore_n (L' := [(0, .ref 0), (1, .int (nI t)), (2, .int (nI 1)), (3, .int (nI 23))]) hX dX5_ask_62 rfl (by decide) rfl ?_
    refine g_aload_n hX dX5_ask_63 rfl 0 rfl ?_
    refine g_getR (j := nw) hX (by decide) (by decide) xCl5 4 (by decide) (by decide) kX5_39 dX5_ask_64 rfl ?_
    refine g_aload_n hX dX5_ask_67 rfl 0 rfl ?_
    refine g_getR (j := 6) hX (by decide) (by decide) xCl5 3 (by decide) (by decide) kX5_32 dX5_ask_68 rfl ?_
    refine g_iload_n hX dX5_ask_71 rfl 1 rfl ?_
    refine g_iload_n hX dX5_ask_72 rfl 3 rfl ?_
    refine g_iconst (v := nI 0) hX dX5_ask_73 (by decide) ?_
    refine g_callSi hX (as := [.ref nw, .ref 6, .int (nI t), .int (nI 23), .int (nI 0)]) (fun l => c_X5_bodyGives_23_0 l (I := (xput I 6 1 (nI 0))) (g := nw) (T := T) (S := S) (F := F) (W := W) (f := f) (t := t) (d := 0) (n := 0) (hg := hnw) (hG := (hG.ext (fun i h1 h2 => ((xput_ne (by omega)).trans rfl)))) (hW := (by first | assumption | omega)) (ht := (by first | assumption | omega)) (hn := xput_e) (hn8 := (by first | assumption | omega)) (hd := (by first | assumption | omega))) mX5_bodyGives sX5_bodyGives lX5_259 rfl dX5_ask_74 rfl (by decide) (Nat.le_of_ble_eq_true rfl) (by decide) (by decide) ?_
    exact g_iret hX hR dX5_ask_77 (by decide) (by decide) ⟨congrArg (fun z => some (Value.int z)) rfl, rfl, rfl, rfl⟩

theorem c_X5_ask_size5 (l : Launch) {nw sp : Nat} {I : xM} {T S F W : Nat} {f : Nat → Int32} {t : Nat} (hnw : xG nw) (hG : GX I nw f T S F W) (hW : WF f T S F W) (ht : t < T) (hk : f (26 + 5 * t + 0) = nI 5) : xC l 7 0 0 yX5_ask cX5_ask 4 (some .int) 319 [.ref 0, .int (nI t), .int (nI 0)] I (xRL nw sp) (xpI (nI 2 * (hgF f (fun _ => 0) t - nI 100)) 319 (xput (xput (xput (xput (xput (xput (xput I 6 1 (nI 0)) 7 (0) (nI 14)) 6 1 (nI (0 + 1))) 7 (0 + 1) (nI 13)) 6 1 (nI (0 + 1 + 1))) 7 (0 + 1 + 1) (nI 10)) 6 1 (nI (0 + 1 + 1 + 1))) (xRL nw sp)) := by
  refine xC_of (by decide) (Nat.le_of_ble_eq_true rfl) (fun X hXl hX hR => ?_)
  have hX : xOK X RX5 cX5_ask 4 7 0 0 := hX
  show G X 319 0 0 I (xRL nw sp) 0 [(0, .ref 0), (1, .int (nI t)), (2, .int (nI 0))] []
  have hg8 := xG_8 hnw
  have hT6 := hW.T6
  have hS6 := hW.S6
  refine g_aload_n hX dX5_ask_0 rfl 0 rfl ?_
  refine g_getR (j := nw) hX (by decide) (by decide) xCl5 4 (by decide) (by decide) kX5_39 dX5_ask_1 rfl ?_
  refine g_iload_n hX dX5_ask_4 rfl 1 rfl ?_
  refine g_callVi hX (as := [.int (nI t)]) (fun l => c_X0_hasTree l (I := I) (g := nw) (T := T) (S := S) (F := F) (W := W) (f := f) (x := (nI t)) (hg := hnw) (hG := (by first | assumption | omega)) (hW := (by first | assumption | omega))) mX0_hasTree vX0_hasTree lX5_149 (xG_n (j := 0) hnw (by decide)) (xG_K0 hnw) xCl0 rfl rfl dX5_ask_5 rfl (by decide) (Nat.le_of_ble_eq_true rfl) (by decide) (by decide) ?_
  refine g_top (y := xb (0 ≤ ((t : Nat) : Int) ∧ ((t : Nat) : Int) < T)) (by rw [nI_toInt (n := t) (by omega)]) ?_
  refine g_cb_eq (tgt := 20) hX dX5_ask_8 (by decide) (fun h8 => ?_) (fun h8 => ?_)
  · exfalso; omega
  · refine g_iload_n hX dX5_ask_11 rfl 2 rfl ?_
    refine g_cz_lt (a := (0 : Int)) (tgt := 20) hX dX5_ask_12 (by decide) (by decide) (fun q => absurd q (by decide)) (fun _ => ?_)
    refine g_iload_n hX dX5_ask_15 rfl 2 rfl ?_
    refine g_iconst (v := nI 1) hX dX5_ask_16 (by decide) ?_
    refine g_ci_le (a := (0 : Int)) (b := (1 : Int)) (tgt := 23) hX dX5_ask_17 (by decide) (by decide) (by decide) (fun _ => ?_) (fun q => absurd q (by decide))
    refine g_aload_n hX dX5_ask_23 rfl 0 rfl ?_
    refine g_getR (j := 6) hX (by decide) (by decide) xCl5 3 (by decide) (by decide) kX5_32 dX5_ask_24 rfl ?_
    refine g_iconst (v := nI 0) hX dX5_ask_27 (by decide) ?_
    refine g_putI hX (by decide) (by decide) xCl4 1 (by decide) (by decide) (by decide) kX5_250 dX5_ask_28 rfl rfl ?_
    refine g_iload_n hX dX5_ask_31 rfl 2 rfl ?_
    refine g_cz_ne (a := (0 : Int)) (tgt := 50) hX dX5_ask_32 (by decide) (by decide) (fun q => absurd q (by decide)) (fun _ => ?_)
    refine g_aload_n hX dX5_ask_35 rfl 0 rfl ?_
    refine g_getR (j := nw) hX (by decide) (by decide) xCl5 4 (by decide) (by decide) kX5_39 dX5_ask_36 rfl ?_
    refine g_getR (j := nw + 2) hX (xG_n (j := 0) hnw (by decide)) (xG_K0 hnw) xCl0 4 (by decide) (by decide) kX5_244 dX5_ask_39 (xRL_g4 hnw) ?_
    refine g_iload_n hX dX5_ask_42 rfl 1 rfl ?_
    refine g_iald (v := nI 5) hX (xG_n (j := 2) hnw (by decide)) (xG_K2 hnw) t rfl (by rw [(xG_N2 hnw)]; omega) dX5_ask_43 (xput_o (by omega) ((hG.k0 ht).trans hk)) ?_
    refine g_callSi hX (as := [.int (nI 5)]) (fun l => c_X5_bodyOfSize_5 l (I := (xput I 6 1 (nI 0))) ) mX5_bodyOfSize sX5_bodyOfSize lX5_253 rfl dX5_ask_44 rfl (by decide) (Nat.le_of_ble_eq_true rfl) (by decide) (by decide) ?_
    refine g_goto (tgt := 62) hX dX5_ask_47 (by decide) ?_
    refine g_istore_n (L' := [(0, .ref 0), (1, .int (nI t)), (2, .int (nI 0)), (3, .int (nI 14))]) hX dX5_ask_62 rfl (by decide) rfl ?_
    refine g_aload_n hX dX5_ask_63 rfl 0 rfl ?_
    refine g_getR (j := nw) hX (by decide) (by decide) xCl5 4 (by decide) (by decide) kX5_39 dX5_ask_64 rfl ?_
    refine g_aload_n hX dX5_ask_67 rfl 0 rfl ?_
    refine g_getR (j := 6) hX (by decide) (by decide) xCl5 3 (by decide) (by decide) kX5_32 dX5_ask_68 rfl ?_
    refine g_iload_n hX dX5_ask_71 rfl 1 rfl ?_
    refine g_iload_n hX dX5_ask_72 rfl 3 rfl ?_
    refine g_iconst (v := nI 0) hX dX5_ask_73 (by decide) ?_
    refine g_callSi hX (as := [.ref nw, .ref 6, .int (nI t), .int (nI 14), .int (nI 0)]) (fun l => c_X5_bodyGives_14_0 l (I := (xput I 6 1 (nI 0))) (g := nw) (T := T) (S := S) (F := F) (W := W) (f := f) (t := t) (d := 0) (n := 0) (hg := hnw) (hG := (hG.ext (fun i h1 h2 => ((xput_ne (by omega)).trans rfl)))) (hW := (by first | assumption | omega)) (ht := (by first | assumption | omega)) (hn := xput_e) (hn8 := (by first | assumption | omega)) (hd := (by first | assumption | omega))) mX5_bodyGives sX5_bodyGives lX5_259 rfl dX5_ask_74 rfl (by decide) (Nat.le_of_ble_eq_true rfl) (by decide) (by decide) ?_
    exact g_iret hX hR dX5_ask_77 (by decide) (by decide) ⟨congrArg (fun z => some (Value.int z)) rfl, rfl, rfl, rfl⟩

theorem c_X5_ask_mark5 (l : Launch) {nw sp : Nat} {I : xM} {T S F W : Nat} {f : Nat → Int32} {t : Nat} (hnw : xG nw) (hG : GX I nw f T S F W) (hW : WF f T S F W) (ht : t < T) (hk : f (26 + 5 * t + 0) = nI 5) : xC l 4 0 0 yX5_ask cX5_ask 4 (some .int) 319 [.ref 0, .int (nI t), .int (nI 1)] I (xRL nw sp) (xpI (nI t + f (26 + 5 * t + 3)) 319 (xput (xput (xput (xput (xput I 6 1 (nI 0)) 7 (0) (nI 23)) 6 1 (nI (0 + 1))) 7 (0 + 1) (nI 20)) 6 1 (nI (0 + 1 + 1))) (xRL nw sp)) := by
  refine xC_of (by decide) (Nat.le_of_ble_eq_true rfl) (fun X hXl hX hR => ?_)
  have hX : xOK X RX5 cX5_ask 4 4 0 0 := hX
  show G X 319 0 0 I (xRL nw sp) 0 [(0, .ref 0), (1, .int (nI t)), (2, .int (nI 1))] []
  have hg8 := xG_8 hnw
  have hT6 := hW.T6
  have hS6 := hW.S6
  refine g_aload_n hX dX5_ask_0 rfl 0 rfl ?_
  refine g_getR (j := nw) hX (by decide) (by decide) xCl5 4 (by decide) (by decide) kX5_39 dX5_ask_1 rfl ?_
  refine g_iload_n hX dX5_ask_4 rfl 1 rfl ?_
  refine g_callVi hX (as := [.int (nI t)]) (fun l => c_X0_hasTree l (I := I) (g := nw) (T := T) (S := S) (F := F) (W := W) (f := f) (x := (nI t)) (hg := hnw) (hG := (by first | assumption | omega)) (hW := (by first | assumption | omega))) mX0_hasTree vX0_hasTree lX5_149 (xG_n (j := 0) hnw (by decide)) (xG_K0 hnw) xCl0 rfl rfl dX5_ask_5 rfl (by decide) (Nat.le_of_ble_eq_true rfl) (by decide) (by decide) ?_
  refine g_top (y := xb (0 ≤ ((t : Nat) : Int) ∧ ((t : Nat) : Int) < T)) (by rw [nI_toInt (n := t) (by omega)]) ?_
  refine g_cb_eq (tgt := 20) hX dX5_ask_8 (by decide) (fun h8 => ?_) (fun h8 => ?_)
  · exfalso; omega
  · refine g_iload_n hX dX5_ask_11 rfl 2 rfl ?_
    refine g_cz_lt (a := (1 : Int)) (tgt := 20) hX dX5_ask_12 (by decide) (by decide) (fun q => absurd q (by decide)) (fun _ => ?_)
    refine g_iload_n hX dX5_ask_15 rfl 2 rfl ?_
    refine g_iconst (v := nI 1) hX dX5_ask_16 (by decide) ?_
    refine g_ci_le (a := (1 : Int)) (b := (1 : Int)) (tgt := 23) hX dX5_ask_17 (by decide) (by decide) (by decide) (fun _ => ?_) (fun q => absurd q (by decide))
    refine g_aload_n hX dX5_ask_23 rfl 0 rfl ?_
    refine g_getR (j := 6) hX (by decide) (by decide) xCl5 3 (by decide) (by decide) kX5_32 dX5_ask_24 rfl ?_
    refine g_iconst (v := nI 0) hX dX5_ask_27 (by decide) ?_
    refine g_putI hX (by decide) (by decide) xCl4 1 (by decide) (by decide) (by decide) kX5_250 dX5_ask_28 rfl rfl ?_
    refine g_iload_n hX dX5_ask_31 rfl 2 rfl ?_
    refine g_cz_ne (a := (1 : Int)) (tgt := 50) hX dX5_ask_32 (by decide) (by decide) (fun _ => ?_) (fun q => absurd q (by decide))
    refine g_aload_n hX dX5_ask_50 rfl 0 rfl ?_
    refine g_getR (j := nw) hX (by decide) (by decide) xCl5 4 (by decide) (by decide) kX5_39 dX5_ask_51 rfl ?_
    refine g_getR (j := nw + 2) hX (xG_n (j := 0) hnw (by decide)) (xG_K0 hnw) xCl0 4 (by decide) (by decide) kX5_244 dX5_ask_54 (xRL_g4 hnw) ?_
    refine g_iload_n hX dX5_ask_57 rfl 1 rfl ?_
    refine g_iald (v := nI 5) hX (xG_n (j := 2) hnw (by decide)) (xG_K2 hnw) t rfl (by rw [(xG_N2 hnw)]; omega) dX5_ask_58 (xput_o (by omega) ((hG.k0 ht).trans hk)) ?_
    refine g_callSi hX (as := [.int (nI 5)]) (fun l => c_X5_bodyOfMark_5 l (I := (xput I 6 1 (nI 0))) ) mX5_bodyOfMark sX5_bodyOfMark lX5_256 rfl dX5_ask_59 rfl (by decide) (Nat.le_of_ble_eq_true rfl) (by decide) (by decide) ?_
    refine g_istore_n (L' := [(0, .ref 0), (1, .int (nI t)), (2, .int (nI 1)), (3, .int (nI 23))]) hX dX5_ask_62 rfl (by decide) rfl ?_
    refine g_aload_n hX dX5_ask_63 rfl 0 rfl ?_
    refine g_getR (j := nw) hX (by decide) (by decide) xCl5 4 (by decide) (by decide) kX5_39 dX5_ask_64 rfl ?_
    refine g_aload_n hX dX5_ask_67 rfl 0 rfl ?_
    refine g_getR (j := 6) hX (by decide) (by decide) xCl5 3 (by decide) (by decide) kX5_32 dX5_ask_68 rfl ?_
    refine g_iload_n hX dX5_ask_71 rfl 1 rfl ?_
    refine g_iload_n hX dX5_ask_72 rfl 3 rfl ?_
    refine g_iconst (v := nI 0) hX dX5_ask_73 (by decide) ?_
    refine g_callSi hX (as := [.ref nw, .ref 6, .int (nI t), .int (nI 23), .int (nI 0)]) (fun l => c_X5_bodyGives_23_0 l (I := (xput I 6 1 (nI 0))) (g := nw) (T := T) (S := S) (F := F) (W := W) (f := f) (t := t) (d := 0) (n := 0) (hg := hnw) (hG := (hG.ext (fun i h1 h2 => ((xput_ne (by omega)).trans rfl)))) (hW := (by first | assumption | omega)) (ht := (by first | assumption | omega)) (hn := xput_e) (hn8 := (by first | assumption | omega)) (hd := (by first | assumption | omega))) mX5_bodyGives sX5_bodyGives lX5_259 rfl dX5_ask_74 rfl (by decide) (Nat.le_of_ble_eq_true rfl) (by decide) (by decide) ?_
    exact g_iret hX hR dX5_ask_77 (by decide) (by decide) ⟨congrArg (fun z => some (Value.int z)) rfl, rfl, rfl, rfl⟩
