theorem c_X6_bad (l : Launch) {nw sp : Nat} {I : xM} {tp : Nat → Nat} {n : Nat} {B : xM} {r : xS} {k : Nat} (hr : rfS tp n B I r) (hk : 1 ≤ k ∧ k ≤ 3) : xC l 1 0 0 yX6_bad cX6_bad 2 none 319 [.ref 307, .int (nI k)] I (xRL nw sp) (xpW 319 (xRL nw sp) (fun J => rfS tp n B J (badR k r) ∧ ∀ j, j < 18 → J 307 j = I 307 j)) := by
  refine xC_of (by decide) (Nat.le_of_ble_eq_true rfl) (fun X hXl hX hR => ?_)
  have hX : xOK X RX6 cX6_bad 2 1 0 0 := hX
  show G X 319 0 0 I (xRL nw sp) 0 [(0, .ref 307), (1, .int (nI k))] []
  refine g_aload_n hX dX6_bad_0 rfl 0 rfl ?_
  refine g_getI (v := I 307 18) hX (by decide) (by decide) xCl6 18 (by decide) (by decide) kX6_102 dX6_bad_1 rfl ?_
  refine g_cz_ne (a := (I 307 18).toInt) (tgt := 20) hX dX6_bad_4 (by decide) rfl (fun h4 => ?_) (fun h4 => ?_)
  · exact g_vret hX hR dX6_bad_20 (by decide) (by decide) ⟨rfl, rfl, (by first | exact rf_bl hr h4 | exact rf_br hr h4 hk), rfl⟩
  · refine g_aload_n hX dX6_bad_7 rfl 0 rfl ?_
    refine g_iload_n hX dX6_bad_8 rfl 1 rfl ?_
    refine g_putI hX (by decide) (by decide) xCl6 18 (by decide) (by decide) (by decide) kX6_102 dX6_bad_9 rfl rfl ?_
    refine g_aload_n hX dX6_bad_12 rfl 0 rfl ?_
    refine g_aload_n hX dX6_bad_13 rfl 0 rfl ?_
    refine g_getI (v := I 307 16) hX (by decide) (by decide) xCl6 16 (by decide) (by decide) kX6_87 dX6_bad_14 (xput_i (by decide) rfl) ?_
    refine g_putI hX (by decide) (by decide) xCl6 19 (by decide) (by decide) (by decide) kX6_108 dX6_bad_17 rfl rfl ?_
    exact g_vret hX hR dX6_bad_20 (by decide) (by decide) ⟨rfl, rfl, (by first | exact rf_bl hr h4 | exact rf_br hr h4 hk), rfl⟩

theorem c_X6_must_0 (l : Launch) {nw sp : Nat} {I : xM} {tp : Nat → Nat} {n : Nat} {B : xM} {r : xS} (ht : tpP B tp n) (hr : rfS tp n B I r) : xC l 2 0 0 yX6_must cX6_must 2 none 319 [.ref 307, .int (nI 0)] I (xRL nw sp) (xpW 319 (xRL nw sp) (fun J => rfS tp n B J (musR tp n 0 r))) := by
  refine xC_of (by decide) (Nat.le_of_ble_eq_true rfl) (fun X hXl hX hR => ?_)
  have hX : xOK X RX6 cX6_must 2 2 0 0 := hX
  show G X 319 0 0 I (xRL nw sp) 0 [(0, .ref 307), (1, .int (nI 0))] []
  refine g_iload_n hX dX6_must_0 rfl 1 rfl ?_
  refine g_cz_ne (a := (0 : Int)) (tgt := 9) hX dX6_must_1 (by decide) (by decide) (fun q => absurd q (by decide)) (fun _ => ?_)
  refine g_aload_n hX dX6_must_4 rfl 0 rfl ?_
  refine g_iconst (v := nI 1) hX dX6_must_5 (by decide) ?_
  refine g_callVrv hX (as := [.int (nI 1)]) (fun l => c_X6_bad l (I := I) (tp := tp) (n := n) (B := B) (r := r) (k := 1) (hr := (by first | assumption | omega)) (hk := (by first | assumption | omega))) mX6_bad vX6_bad lX6_111 (by decide) (by decide) xCl6 rfl rfl dX6_must_6 rfl (by decide) (Nat.le_of_ble_eq_true rfl) (by decide) (by decide) (fun K hK => ?_)
  refine g_aload_n hX dX6_must_9 rfl 0 rfl ?_
  refine g_getI (v := K 307 18) hX (by decide) (by decide) xCl6 18 (by decide) (by decide) kX6_102 dX6_must_10 rfl ?_
  refine g_cz_ne (a := (K 307 18).toInt) (tgt := 20) hX dX6_must_13 (by decide) rfl (fun h13 => ?_) (fun h13 => ?_)
  · exact g_vret hX hR dX6_must_20 (by decide) (by decide) ⟨rfl, rfl, (by rw [mus_0]; exact hK.1), rfl⟩
  · exact absurd h13 (rf_bn hK.1)

theorem c_X6_must_1 (l : Launch) {nw sp : Nat} {I : xM} {tp : Nat → Nat} {n : Nat} {B : xM} {r : xS} (ht : tpP B tp n) (hr : rfS tp n B I r) : xC l 3 0 0 yX6_must cX6_must 2 none 319 [.ref 307, .int (nI 1)] I (xRL nw sp) (xpW 319 (xRL nw sp) (fun J => rfS tp n B J (musR tp n 1 r))) := by
  refine xC_of (by decide) (Nat.le_of_ble_eq_true rfl) (fun X hXl hX hR => ?_)
  have hX : xOK X RX6 cX6_must 2 3 0 0 := hX
  show G X 319 0 0 I (xRL nw sp) 0 [(0, .ref 307), (1, .int (nI 1))] []
  refine g_iload_n hX dX6_must_0 rfl 1 rfl ?_
  refine g_cz_ne (a := (1 : Int)) (tgt := 9) hX dX6_must_1 (by decide) (by decide) (fun _ => ?_) (fun q => absurd q (by decide))
  refine g_aload_n hX dX6_must_9 rfl 0 rfl ?_
  refine g_getI (v := I 307 18) hX (by decide) (by decide) xCl6 18 (by decide) (by decide) kX6_102 dX6_must_10 rfl ?_
  refine g_cz_ne (a := (I 307 18).toInt) (tgt := 20) hX dX6_must_13 (by decide) rfl (fun h13 => ?_) (fun h13 => ?_)
  · exact g_vret hX hR dX6_must_20 (by decide) (by decide) ⟨rfl, rfl, (by rw [mus_1]; first | exact rf_next hr hK | exact rf_nl hr h13), rfl⟩
  · obtain ⟨t, f, rfl⟩ := rf_r hr (by omega)
    obtain ⟨htw, c14, c15, c16, c17, c18, c12⟩ := rf_i hr
    refine g_aload_n hX dX6_must_16 rfl 0 rfl ?_
    refine g_callVrv hX (as := []) (fun l => c_X6_next l (I := I) (tp := tp) (n := n) (p0 := t.2.2) (ht := (rf_tp hr ht)) (hp0 := htw.2.1) (hc0 := c14)) mX6_next vX6_next lX6_105 (by decide) (by decide) xCl6 rfl rfl dX6_must_17 rfl (by decide) (Nat.le_of_ble_eq_true rfl) (by decide) (by decide) (fun K hK => ?_)
    exact g_vret hX hR dX6_must_20 (by decide) (by decide) ⟨rfl, rfl, (by rw [mus_1]; first | exact rf_next hr hK | exact rf_nl hr h13), rfl⟩

theorem c_X6_name (l : Launch) {nw sp : Nat} {I : xM} {tp : Nat → Nat} {n : Nat} {B : xM} {r : xS} (ht : tpP B tp n) (hr : rfS tp n B I r) : xC l 1 0 0 yX6_name cX6_name 4 (some .long) 319 [.ref 307] I (xRL nw sp) (xpJ (nmV tp r) 319 I (xRL nw sp)) := by
  refine xC_of (by decide) (Nat.le_of_ble_eq_true rfl) (fun X hXl hX hR => ?_)
  have hX : xOK X RX6 cX6_name 4 1 0 0 := hX
  show G X 319 0 0 I (xRL nw sp) 0 [(0, .ref 307)] []
  obtain ⟨t, htw, c14, c15, c16, c17, cr⟩ := rf_x hr
  have htI := rf_tp hr ht
  have hrk := rtk_c t.1
  have ht4 := htw.2.2.1
  have hn4 := ht.2.1
  have hw1 := htw.1
  have hw2 := htw.2.1
  refine g_lconst (v := 0) hX dX6_name_0 (by decide) ?_
  refine g_lstore_n (L' := [(0, .ref 307), (1, .long 0)]) hX dX6_name_1 rfl (by decide) rfl ?_
  refine g_aload_n hX dX6_name_2 rfl 0 rfl ?_
  refine g_getI (v := nI t.2.1) hX (by decide) (by decide) xCl6 16 (by decide) (by decide) kX6_87 dX6_name_3 c16 ?_
  refine g_istore_n (L' := [(0, .ref 307), (1, .long 0), (3, .int (nI t.2.1))]) hX dX6_name_6 rfl (by decide) rfl ?_
  have cut7 : ∀ (fuel : Nat) (v : Int64) (k : Nat) (hk1 : t.2.1 ≤ k) (hk2 : k ≤ t.2.2) (hv : v = if t.1 = 1 ∧ t.2.2 - t.2.1 < 8 then Int64.ofNat (pkN tp t.2.1 (k - t.2.1)) else 0), t.2.2 - k < fuel → G X 319 0 0 I (xRL nw sp) 7 [(0, .ref 307), (1, .long v), (3, .int (nI k))] [] := by
    intro fuel
    induction fuel with
    | zero => intro v k hk1 hk2 hv hfuel; omega
    | succ fuel ih =>
      intro v k hk1 hk2 hv hfuel
      refine g_iload_n hX dX6_name_7 rfl 2 rfl ?_
      refine g_aload_n hX dX6_name_8 rfl 0 rfl ?_
      refine g_getI (v := nI t.2.2) hX (by decide) (by decide) xCl6 17 (by decide) (by decide) kX6_99 dX6_name_9 c17 ?_
      refine g_ci_ge (a := ((k : Nat) : Int)) (b := ((t.2.2 : Nat) : Int)) (tgt := 56) hX dX6_name_12 (by decide) (nI_toInt (by omega)) (nI_toInt (by omega)) (fun h12 => ?_) (fun h12 => ?_)
      · refine g_aload_n hX dX6_name_56 rfl 0 rfl ?_
        refine g_getI (v := I 307 18) hX (by decide) (by decide) xCl6 18 (by decide) (by decide) kX6_102 dX6_name_57 rfl ?_
        refine g_cz_ne (a := (I 307 18).toInt) (tgt := 67) hX dX6_name_60 (by decide) rfl (fun h60 => ?_) (fun h60 => ?_)
        · refine g_lconst (v := 0) hX dX6_name_67 (by decide) ?_
          exact g_lret hX hR dX6_name_68 (by decide) (by decide) ⟨congrArg (fun z => some (Value.long z)) (by first | exact nm_0 hr h60 | exact nm_end (cr h60) hv (fun q => by omega)), rfl, rfl, rfl⟩
        · refine g_lload_n hX dX6_name_63 rfl 1 rfl ?_
          refine g_goto (tgt := 68) hX dX6_name_64 (by decide) ?_
          exact g_lret hX hR dX6_name_68 (by decide) (by decide) ⟨congrArg (fun z => some (Value.long z)) (by first | exact nm_0 hr h60 | exact nm_end (cr h60) hv (fun q => by omega)), rfl, rfl, rfl⟩
      · refine g_aload_n hX dX6_name_15 rfl 0 rfl ?_
        refine g_getI (v := nI (rtk t.1)) hX (by decide) (by decide) xCl6 15 (by decide) (by decide) kX6_90 dX6_name_16 c15 ?_
        refine g_iconst (v := nI 2) hX dX6_name_19 (by decide) ?_
        refine g_ci_ne (a := ((rtk t.1 : Nat) : Int)) (b := (2 : Int)) (tgt := 56) hX dX6_name_20 (by decide) (nI_toInt (by omega)) (by decide) (fun h20 => ?_) (fun h20 => ?_)
        · refine g_aload_n hX dX6_name_56 rfl 0 rfl ?_
          refine g_getI (v := I 307 18) hX (by decide) (by decide) xCl6 18 (by decide) (by decide) kX6_102 dX6_name_57 rfl ?_
          refine g_cz_ne (a := (I 307 18).toInt) (tgt := 67) hX dX6_name_60 (by decide) rfl (fun h60 => ?_) (fun h60 => ?_)
          · refine g_lconst (v := 0) hX dX6_name_67 (by decide) ?_
            exact g_lret hX hR dX6_name_68 (by decide) (by decide) ⟨congrArg (fun z => some (Value.long z)) (by first | exact nm_0 hr h60 | exact nm_end (cr h60) hv (fun q => by omega)), rfl, rfl, rfl⟩
          · refine g_lload_n hX dX6_name_63 rfl 1 rfl ?_
            refine g_goto (tgt := 68) hX dX6_name_64 (by decide) ?_
            exact g_lret hX hR dX6_name_68 (by decide) (by decide) ⟨congrArg (fun z => some (Value.long z)) (by first | exact nm_0 hr h60 | exact nm_end (cr h60) hv (fun q => by omega)), rfl, rfl, rfl⟩
        · refine g_aload_n hX dX6_name_23 rfl 0 rfl ?_
          refine g_getI (v := nI t.2.2) hX (by decide) (by decide) xCl6 17 (by decide) (by decide) kX6_99 dX6_name_24 c17 ?_
          refine g_aload_n hX dX6_name_27 rfl 0 rfl ?_
          refine g_getI (v := nI t.2.1) hX (by decide) (by decide) xCl6 16 (by decide) (by decide) kX6_87 dX6_name_28 c16 ?_
          refine g_isub (v := nI (t.2.2 - t.2.1)) hX dX6_name_31 (nI_sub (show t.2.1 ≤ t.2.2 by omega)) ?_
          refine g_bipush (v := nI 8) hX dX6_name_32 (by decide) ?_
          refine g_ci_ge (a := ((t.2.2 - t.2.1 : Nat) : Int)) (b := (8 : Int)) (tgt := 56) hX dX6_name_34 (by decide) (nI_toInt (by omega)) (by decide) (fun h34 => ?_) (fun h34 => ?_)
          · refine g_aload_n hX dX6_name_56 rfl 0 rfl ?_
            refine g_getI (v := I 307 18) hX (by decide) (by decide) xCl6 18 (by decide) (by decide) kX6_102 dX6_name_57 rfl ?_
            refine g_cz_ne (a := (I 307 18).toInt) (tgt := 67) hX dX6_name_60 (by decide) rfl (fun h60 => ?_) (fun h60 => ?_)
            · refine g_lconst (v := 0) hX dX6_name_67 (by decide) ?_
              exact g_lret hX hR dX6_name_68 (by decide) (by decide) ⟨congrArg (fun z => some (Value.long z)) (by first | exact nm_0 hr h60 | exact nm_end (cr h60) hv (fun q => by omega)), rfl, rfl, rfl⟩
            · refine g_lload_n hX dX6_name_63 rfl 1 rfl ?_
              refine g_goto (tgt := 68) hX dX6_name_64 (by decide) ?_
              exact g_lret hX hR dX6_name_68 (by decide) (by decide) ⟨congrArg (fun z => some (Value.long z)) (by first | exact nm_0 hr h60 | exact nm_end (cr h60) hv (fun q => by omega)), rfl, rfl, rfl⟩
          · refine g_lload_n hX dX6_name_37 rfl 1 rfl ?_
            refine g_bipush (v := nI 8) hX dX6_name_38 (by decide) ?_
            refine g_lshl (v := v <<< ((nI 8).toInt64 &&& 63)) hX dX6_name_40 rfl ?_
            refine g_aload_n hX dX6_name_41 rfl 0 rfl ?_
            refine g_getR (j := 314) hX (by decide) (by decide) xCl6 10 (by decide) (by decide) kX6_28 dX6_name_42 rfl ?_
            refine g_iload_n hX dX6_name_45 rfl 2 rfl ?_
            refine g_iald (v := I 314 k) hX (by decide) (by decide) k rfl (by rw [(show xN 314 = 400 by decide)]; omega) dX6_name_46 rfl ?_
            refine g_i2l (v := (I 314 k).toInt64) hX dX6_name_47 rfl ?_
            refine g_lor (v := (v <<< ((nI 8).toInt64 &&& 63)) ||| ((I 314 k).toInt64)) hX dX6_name_48 rfl ?_
            refine g_lstore_n (L' := [(0, .ref 307), (1, .long ((v <<< ((nI 8).toInt64 &&& 63)) ||| ((I 314 k).toInt64))), (3, .int (nI k))]) hX dX6_name_49 rfl (by decide) rfl ?_
            refine g_iinc (v := nI (k + 1)) (L' := [(0, .ref 307), (1, .long ((v <<< ((nI 8).toInt64 &&& 63)) ||| ((I 314 k).toInt64))), (3, .int (nI (k + 1)))]) hX dX6_name_50 (by decide) 2 rfl (nI_add k 1) rfl ?_
            refine g_goto (tgt := 7) hX dX6_name_53 (by decide) ?_
            exact ih ((v <<< ((nI 8).toInt64 &&& 63)) ||| ((I 314 k).toInt64)) (k + 1) (by first | assumption | omega) (by first | assumption | omega) (nm_step htw hv (by omega) (by omega) hk1 (by omega) (htI.2.2 k (by omega)).1) (by omega)
  exact cut7 _ 0 t.2.1 (by first | assumption | omega) (by first | assumption | omega) (by rw [Nat.sub_self]; split <;> rfl) (Nat.lt_succ_self _)

theorem c_X6_figures (l : Launch) {nw sp : Nat} {I : xM} {tp : Nat → Nat} {n : Nat} {B : xM} {t : xT} {f : Nat → Int32} (ht : tpP B tp n) (hr : rfS tp n B I (.inr (t, f))) : xC l 1 0 0 yX6_figures cX6_figures 3 (some .int) 319 [.ref 307] I (xRL nw sp) (xpI (nI (figR tp (.inr (t, f)))) 319 I (xRL nw sp)) := by
  refine xC_of (by decide) (Nat.le_of_ble_eq_true rfl) (fun X hXl hX hR => ?_)
  have hX : xOK X RX6 cX6_figures 3 1 0 0 := hX
  show G X 319 0 0 I (xRL nw sp) 0 [(0, .ref 307)] []
  obtain ⟨htw, c14, c15, c16, c17, c18, c12⟩ := rf_i hr
  have htI := rf_tp hr ht
  have hrk := rtk_c t.1
  have ht4 := htw.2.2.1
  have hn4 := ht.2.1
  have hw1 := htw.1
  have hw2 := htw.2.1
  refine g_iconst (v := nI 0) hX dX6_figures_0 (by decide) ?_
  refine g_istore_n (L' := [(0, .ref 307), (1, .int (nI 0))]) hX dX6_figures_1 rfl (by decide) rfl ?_
  refine g_aload_n hX dX6_figures_2 rfl 0 rfl ?_
  refine g_getI (v := nI t.2.1) hX (by decide) (by decide) xCl6 16 (by decide) (by decide) kX6_87 dX6_figures_3 c16 ?_
  refine g_istore_n (L' := [(0, .ref 307), (1, .int (nI 0)), (2, .int (nI t.2.1))]) hX dX6_figures_6 rfl (by decide) rfl ?_
  have cut7 : ∀ (fuel : Nat) (v k : Nat) (hk1 : t.2.1 ≤ k) (hk2 : k ≤ t.2.2) (hv : v = if t.1 = 2 then valF tp t.2.1 (k - t.2.1) else 0), t.2.2 - k < fuel → G X 319 0 0 I (xRL nw sp) 7 [(0, .ref 307), (1, .int (nI v)), (2, .int (nI k))] [] := by
    intro fuel
    induction fuel with
    | zero => intro v k hk1 hk2 hv hfuel; omega
    | succ fuel ih =>
      intro v k hk1 hk2 hv hfuel
      refine g_iload_n hX dX6_figures_7 rfl 2 rfl ?_
      refine g_aload_n hX dX6_figures_8 rfl 0 rfl ?_
      refine g_getI (v := nI t.2.2) hX (by decide) (by decide) xCl6 17 (by decide) (by decide) kX6_99 dX6_figures_9 c17 ?_
      refine g_ci_ge (a := ((k : Nat) : Int)) (b := ((t.2.2 : Nat) : Int)) (tgt := 44) hX dX6_figures_12 (by decide) (nI_toInt (by omega)) (nI_toInt (by omega)) (fun h12 => ?_) (fun h12 => ?_)
      · refine g_iload_n hX dX6_figures_44 rfl 1 rfl ?_
        exact g_iret hX hR dX6_figures_45 (by decide) (by decide) ⟨congrArg (fun z => some (Value.int z)) (by rw [hv, figR]; by_cases h2 : t.1 = 2; rw [if_pos h2, if_pos h2, show k = t.2.2 by omega]; rw [if_neg h2, if_neg h2]), rfl, rfl, rfl⟩
      · refine g_aload_n hX dX6_figures_15 rfl 0 rfl ?_
        refine g_getI (v := nI (rtk t.1)) hX (by decide) (by decide) xCl6 15 (by decide) (by decide) kX6_90 dX6_figures_16 c15 ?_
        refine g_iconst (v := nI 3) hX dX6_figures_19 (by decide) ?_
        refine g_ci_ne (a := ((rtk t.1 : Nat) : Int)) (b := (3 : Int)) (tgt := 44) hX dX6_figures_20 (by decide) (nI_toInt (by omega)) (by decide) (fun h20 => ?_) (fun h20 => ?_)
        · refine g_iload_n hX dX6_figures_44 rfl 1 rfl ?_
          exact g_iret hX hR dX6_figures_45 (by decide) (by decide) ⟨congrArg (fun z => some (Value.int z)) (by rw [hv, figR]; by_cases h2 : t.1 = 2; rw [if_pos h2, if_pos h2, show k = t.2.2 by omega]; rw [if_neg h2, if_neg h2]), rfl, rfl, rfl⟩
        · have h2 : t.1 = 2 := by omega
          have hf := fiB_t.mp ((htw.2.2.2.2 h2).2 k hk1 (by omega))
          refine g_bipush (v := nI 10) hX dX6_figures_23 (by decide) ?_
          refine g_iload_n hX dX6_figures_25 rfl 1 rfl ?_
          refine g_imul (v := nI (10 * v)) hX dX6_figures_26 (nI_mul 10 v) ?_
          refine g_aload_n hX dX6_figures_27 rfl 0 rfl ?_
          refine g_getR (j := 314) hX (by decide) (by decide) xCl6 10 (by decide) (by decide) kX6_28 dX6_figures_28 rfl ?_
          refine g_iload_n hX dX6_figures_31 rfl 2 rfl ?_
          refine g_iald (v := nI (tp k)) hX (by decide) (by decide) k rfl (by rw [(show xN 314 = 400 by decide)]; omega) dX6_figures_32 (htI.2.2 k (by omega)).1 ?_
          refine g_iadd (v := nI ((10 * v) + (tp k))) hX dX6_figures_33 (nI_add (10 * v) (tp k)) ?_
          refine g_bipush (v := nI 48) hX dX6_figures_34 (by decide) ?_
          refine g_isub (v := nI (((10 * v) + (tp k)) - 48)) hX dX6_figures_36 (nI_sub (show 48 ≤ (10 * v) + (tp k) by omega)) ?_
          refine g_istore_n (L' := [(0, .ref 307), (1, .int (nI (((10 * v) + (tp k)) - 48))), (2, .int (nI k))]) hX dX6_figures_37 rfl (by decide) rfl ?_
          refine g_iinc (v := nI (k + 1)) (L' := [(0, .ref 307), (1, .int (nI (((10 * v) + (tp k)) - 48))), (2, .int (nI (k + 1)))]) hX dX6_figures_38 (by decide) 2 rfl (nI_add k 1) rfl ?_
          refine g_goto (tgt := 7) hX dX6_figures_41 (by decide) ?_
          exact ih (((10 * v) + (tp k)) - 48) (k + 1) (by first | assumption | omega) (by first | assumption | omega) (by rw [hv, if_pos h2, if_pos h2, show k + 1 - t.2.1 = (k - t.2.1) + 1 by omega, valF, show t.2.1 + (k - t.2.1) = k by omega]) (by omega)
  exact cut7 _ 0 t.2.1 (by first | assumption | omega) (by first | assumption | omega) (by rw [Nat.sub_self]; split <;> rfl) (Nat.lt_succ_self _)

theorem c_X6_number (l : Launch) {nw sp : Nat} {I : xM} {tp : Nat → Nat} {n : Nat} {B : xM} {r : xS} {lo hi : Nat} (ht : tpP B tp n) (hr : rfS tp n B I r) (hlo : lo ≤ 1000) (hhi : hi ≤ 1000) : xC l 4 0 0 yX6_number cX6_number 4 (some .int) 319 [.ref 307, .int (nI lo), .int (nI hi)] I (xRL nw sp) (xpR 319 (xRL nw sp) (fun x J => x = nI (figR tp r) ∧ rfS tp n B J (numR tp n lo hi r))) := by
  refine xC_of (by decide) (Nat.le_of_ble_eq_true rfl) (fun X hXl hX hR => ?_)
  have hX : xOK X RX6 cX6_number 4 4 0 0 := hX
  show G X 319 0 0 I (xRL nw sp) 0 [(0, .ref 307), (1, .int (nI lo)), (2, .int (nI hi))] []
  refine g_aload_n hX dX6_number_0 rfl 0 rfl ?_
  refine g_getI (v := I 307 18) hX (by decide) (by decide) xCl6 18 (by decide) (by decide) kX6_102 dX6_number_1 rfl ?_
  refine g_cz_le (a := (I 307 18).toInt) (tgt := 9) hX dX6_number_4 (by decide) rfl (fun h4 => ?_) (fun h4 => ?_)
  · obtain ⟨t, f, rfl⟩ := rf_r hr h4
    obtain ⟨htw, c14, c15, c16, c17, c18, c12⟩ := rf_i hr
    have hrk := rtk_c t.1
    have ht4 := htw.2.2.1
    have hfl := fig_le (f := f) htw
    refine g_aload_n hX dX6_number_9 rfl 0 rfl ?_
    refine g_callVi hX (as := []) (fun l => c_X6_figures l (I := I) (tp := tp) (n := n) (B := B) (t := t) (f := f) (ht := (by first | assumption | omega)) (hr := (by first | assumption | omega))) mX6_figures vX6_figures lX6_115 (by decide) (by decide) xCl6 rfl rfl dX6_number_10 rfl (by decide) (Nat.le_of_ble_eq_true rfl) (by decide) (by decide) ?_
    refine g_istore_n (L' := [(0, .ref 307), (1, .int (nI lo)), (2, .int (nI hi)), (3, .int (nI (figR tp (.inr (t, f)))))]) hX dX6_number_13 rfl (by decide) rfl ?_
    refine g_aload_n hX dX6_number_14 rfl 0 rfl ?_
    refine g_getI (v := nI (rtk t.1)) hX (by decide) (by decide) xCl6 15 (by decide) (by decide) kX6_90 dX6_number_15 c15 ?_
    refine g_iconst (v := nI 3) hX dX6_number_18 (by decide) ?_
    refine g_ci_ne (a := ((rtk t.1 : Nat) : Int)) (b := (3 : Int)) (tgt := 39) hX dX6_number_19 (by decide) (nI_toInt (by omega)) (by decide) (fun h19 => ?_) (fun h19 => ?_)
    · refine g_aload_n hX dX6_number_39 rfl 0 rfl ?_
      refine g_aload_n hX dX6_number_40 rfl 0 rfl ?_
      refine g_getI (v := nI (rtk t.1)) hX (by decide) (by decide) xCl6 15 (by decide) (by decide) kX6_90 dX6_number_41 c15 ?_
      refine g_iconst (v := nI 3) hX dX6_number_44 (by decide) ?_
      refine g_ci_ne (a := ((rtk t.1 : Nat) : Int)) (b := (3 : Int)) (tgt := 52) hX dX6_number_45 (by decide) (nI_toInt (by omega)) (by decide) (fun h45 => ?_) (fun h45 => ?_)
      · refine g_iconst (v := nI 0) hX dX6_number_52 (by decide) ?_
        refine g_callVrv hX (as := [.int (nI 0)]) (fun l => c_X6_must_0 l (I := I) (tp := tp) (n := n) (B := B) (r := _) (ht := (by first | assumption | omega)) (hr := (by first | exact hr | exact hK.1))) mX6_must vX6_must lX6_119 (by decide) (by decide) xCl6 rfl rfl dX6_number_53 rfl (by decide) (Nat.le_of_ble_eq_true rfl) (by decide) (by decide) (fun K2 hK2 => ?_)
        refine g_iload_n hX dX6_number_56 rfl 3 rfl ?_
        exact g_iret hX hR dX6_number_57 (by decide) (by decide) ⟨_, rfl, rfl, ⟨rfl, (by first | (rw [num_n (show isNR tp lo hi (.inr (t, f)) from ⟨(show t.1 = 2 by omega), by omega, by omega⟩), ← mus_1]; exact hK2) | (rw [num_2 (show ¬ isNR tp lo hi (.inr (t, f)) from fun q => h31 ⟨by have := q.2.1; omega, by have := q.2.2; omega⟩) (show tkR (.inr (t, f)) 2 from (show t.1 = 2 by omega))]; rw [mus_1, nex_bad] at hK2; exact hK2) | (rw [num_1 (show ¬ tkR (.inr (t, f)) 2 from fun q => by have q2 : t.1 = 2 := q; omega), ← mus_0 (tp := tp) (n := n)]; exact hK2) | (exfalso; omega))⟩, rfl⟩
      · refine g_iconst (v := nI 1) hX dX6_number_48 (by decide) ?_
        refine g_goto (tgt := 53) hX dX6_number_49 (by decide) ?_
        refine g_callVrv hX (as := [.int (nI 1)]) (fun l => c_X6_must_1 l (I := I) (tp := tp) (n := n) (B := B) (r := _) (ht := (by first | assumption | omega)) (hr := (by first | exact hr | exact hK.1))) mX6_must vX6_must lX6_119 (by decide) (by decide) xCl6 rfl rfl dX6_number_53 rfl (by decide) (Nat.le_of_ble_eq_true rfl) (by decide) (by decide) (fun K2 hK2 => ?_)
        refine g_iload_n hX dX6_number_56 rfl 3 rfl ?_
        exact g_iret hX hR dX6_number_57 (by decide) (by decide) ⟨_, rfl, rfl, ⟨rfl, (by first | (rw [num_n (show isNR tp lo hi (.inr (t, f)) from ⟨(show t.1 = 2 by omega), by omega, by omega⟩), ← mus_1]; exact hK2) | (rw [num_2 (show ¬ isNR tp lo hi (.inr (t, f)) from fun q => h31 ⟨by have := q.2.1; omega, by have := q.2.2; omega⟩) (show tkR (.inr (t, f)) 2 from (show t.1 = 2 by omega))]; rw [mus_1, nex_bad] at hK2; exact hK2) | (rw [num_1 (show ¬ tkR (.inr (t, f)) 2 from fun q => by have q2 : t.1 = 2 := q; omega), ← mus_0 (tp := tp) (n := n)]; exact hK2) | (exfalso; omega))⟩, rfl⟩
    · refine g_iload_n hX dX6_number_22 rfl 3 rfl ?_
      refine g_i2l (v := (nI (figR tp (.inr (t, f)))).toInt64) hX dX6_number_23 rfl ?_
      refine g_iload_n hX dX6_number_24 rfl 1 rfl ?_
      refine g_i2l (v := (nI lo).toInt64) hX dX6_number_25 rfl ?_
      refine g_iload_n hX dX6_number_26 rfl 2 rfl ?_
      refine g_i2l (v := (nI hi).toInt64) hX dX6_number_27 rfl ?_
      refine g_callSi (as := [.long ((nI (figR tp (.inr (t, f)))).toInt64), .long ((nI lo).toInt64), .long ((nI hi).toInt64)]) hX (fun l => c_X6_in l) mX6_in sX6_in lX6_54 rfl dX6_number_28 rfl (by decide) (Nat.le_of_ble_eq_true rfl) (by decide) (by decide) ?_
      refine g_top (y := xb (((lo : Nat) : Int) ≤ ((figR tp (.inr (t, f)) : Nat) : Int) ∧ ((figR tp (.inr (t, f)) : Nat) : Int) ≤ ((hi : Nat) : Int))) (xb_iffI ((i64_of _).trans (nI_toInt (by omega))) ((i64_of _).trans (nI_toInt (by omega))) ((i64_of _).trans (nI_toInt (by omega)))) ?_
      refine g_cb_ne (tgt := 39) hX dX6_number_31 (by decide) (fun h31 => ?_) (fun h31 => ?_)
      · refine g_aload_n hX dX6_number_39 rfl 0 rfl ?_
        refine g_aload_n hX dX6_number_40 rfl 0 rfl ?_
        refine g_getI (v := nI (rtk t.1)) hX (by decide) (by decide) xCl6 15 (by decide) (by decide) kX6_90 dX6_number_41 c15 ?_
        refine g_iconst (v := nI 3) hX dX6_number_44 (by decide) ?_
        refine g_ci_ne (a := ((rtk t.1 : Nat) : Int)) (b := (3 : Int)) (tgt := 52) hX dX6_number_45 (by decide) (nI_toInt (by omega)) (by decide) (fun h45 => ?_) (fun h45 => ?_)
        · refine g_iconst (v := nI 0) hX dX6_number_52 (by decide) ?_
          refine g_callVrv hX (as := [.int (nI 0)]) (fun l => c_X6_must_0 l (I := I) (tp := tp) (n := n) (B := B) (r := _) (ht := (by first | assumption | omega)) (hr := (by first | exact hr | exact hK.1))) mX6_must vX6_must lX6_119 (by decide) (by decide) xCl6 rfl rfl dX6_number_53 rfl (by decide) (Nat.le_of_ble_eq_true rfl) (by decide) (by decide) (fun K2 hK2 => ?_)
          refine g_iload_n hX dX6_number_56 rfl 3 rfl ?_
          exact g_iret hX hR dX6_number_57 (by decide) (by decide) ⟨_, rfl, rfl, ⟨rfl, (by first | (rw [num_n (show isNR tp lo hi (.inr (t, f)) from ⟨(show t.1 = 2 by omega), by omega, by omega⟩), ← mus_1]; exact hK2) | (rw [num_2 (show ¬ isNR tp lo hi (.inr (t, f)) from fun q => h31 ⟨by have := q.2.1; omega, by have := q.2.2; omega⟩) (show tkR (.inr (t, f)) 2 from (show t.1 = 2 by omega))]; rw [mus_1, nex_bad] at hK2; exact hK2) | (rw [num_1 (show ¬ tkR (.inr (t, f)) 2 from fun q => by have q2 : t.1 = 2 := q; omega), ← mus_0 (tp := tp) (n := n)]; exact hK2) | (exfalso; omega))⟩, rfl⟩
        · refine g_iconst (v := nI 1) hX dX6_number_48 (by decide) ?_
          refine g_goto (tgt := 53) hX dX6_number_49 (by decide) ?_
          refine g_callVrv hX (as := [.int (nI 1)]) (fun l => c_X6_must_1 l (I := I) (tp := tp) (n := n) (B := B) (r := _) (ht := (by first | assumption | omega)) (hr := (by first | exact hr | exact hK.1))) mX6_must vX6_must lX6_119 (by decide) (by decide) xCl6 rfl rfl dX6_number_53 rfl (by decide) (Nat.le_of_ble_eq_true rfl) (by decide) (by decide) (fun K2 hK2 => ?_)
          refine g_iload_n hX dX6_number_56 rfl 3 rfl ?_
          exact g_iret hX hR dX6_number_57 (by decide) (by decide) ⟨_, rfl, rfl, ⟨rfl, (by first | (rw [num_n (show isNR tp lo hi (.inr (t, f)) from ⟨(show t.1 = 2 by omega), by omega, by omega⟩), ← mus_1]; exact hK2) | (rw [num_2 (show ¬ isNR tp lo hi (.inr (t, f)) from fun q => h31 ⟨by have := q.2.1; omega, by have := q.2.2; omega⟩) (show tkR (.inr (t, f)) 2 from (show t.1 = 2 by omega))]; rw [mus_1, nex_bad] at hK2; exact hK2) | (rw [num_1 (show ¬ tkR (.inr (t, f)) 2 from fun q => by have q2 : t.1 = 2 := q; omega), ← mus_0 (tp := tp) (n := n)]; exact hK2) | (exfalso; omega))⟩, rfl⟩
      · refine g_aload_n hX dX6_number_34 rfl 0 rfl ?_
        refine g_iconst (v := nI 2) hX dX6_number_35 (by decide) ?_
        refine g_callVrv hX (as := [.int (nI 2)]) (fun l => c_X6_bad l (I := I) (tp := tp) (n := n) (B := B) (r := (.inr (t, f))) (k := 2) (hr := hr) (hk := (by first | assumption | omega))) mX6_bad vX6_bad lX6_111 (by decide) (by decide) xCl6 rfl rfl dX6_number_36 rfl (by decide) (Nat.le_of_ble_eq_true rfl) (by decide) (by decide) (fun K hK => ?_)
        refine g_aload_n hX dX6_number_39 rfl 0 rfl ?_
        refine g_aload_n hX dX6_number_40 rfl 0 rfl ?_
        refine g_getI (v := nI (rtk t.1)) hX (by decide) (by decide) xCl6 15 (by decide) (by decide) kX6_90 dX6_number_41 ((hK.2 15 (by decide)).trans c15) ?_
        refine g_iconst (v := nI 3) hX dX6_number_44 (by decide) ?_
        refine g_ci_ne (a := ((rtk t.1 : Nat) : Int)) (b := (3 : Int)) (tgt := 52) hX dX6_number_45 (by decide) (nI_toInt (by omega)) (by decide) (fun h45 => ?_) (fun h45 => ?_)
        · refine g_iconst (v := nI 0) hX dX6_number_52 (by decide) ?_
          refine g_callVrv hX (as := [.int (nI 0)]) (fun l => c_X6_must_0 l (I := K) (tp := tp) (n := n) (B := B) (r := _) (ht := (by first | assumption | omega)) (hr := (by first | exact hr | exact hK.1))) mX6_must vX6_must lX6_119 (by decide) (by decide) xCl6 rfl rfl dX6_number_53 rfl (by decide) (Nat.le_of_ble_eq_true rfl) (by decide) (by decide) (fun K2 hK2 => ?_)
          refine g_iload_n hX dX6_number_56 rfl 3 rfl ?_
          exact g_iret hX hR dX6_number_57 (by decide) (by decide) ⟨_, rfl, rfl, ⟨rfl, (by first | (rw [num_n (show isNR tp lo hi (.inr (t, f)) from ⟨(show t.1 = 2 by omega), by omega, by omega⟩), ← mus_1]; exact hK2) | (rw [num_2 (show ¬ isNR tp lo hi (.inr (t, f)) from fun q => h31 ⟨by have := q.2.1; omega, by have := q.2.2; omega⟩) (show tkR (.inr (t, f)) 2 from (show t.1 = 2 by omega))]; rw [mus_1, nex_bad] at hK2; exact hK2) | (rw [num_1 (show ¬ tkR (.inr (t, f)) 2 from fun q => by have q2 : t.1 = 2 := q; omega), ← mus_0 (tp := tp) (n := n)]; exact hK2) | (exfalso; omega))⟩, rfl⟩
        · refine g_iconst (v := nI 1) hX dX6_number_48 (by decide) ?_
          refine g_goto (tgt := 53) hX dX6_number_49 (by decide) ?_
          refine g_callVrv hX (as := [.int (nI 1)]) (fun l => c_X6_must_1 l (I := K) (tp := tp) (n := n) (B := B) (r := _) (ht := (by first | assumption | omega)) (hr := (by first | exact hr | exact hK.1))) mX6_must vX6_must lX6_119 (by decide) (by decide) xCl6 rfl rfl dX6_number_53 rfl (by decide) (Nat.le_of_ble_eq_true rfl) (by decide) (by decide) (fun K2 hK2 => ?_)
          refine g_iload_n hX dX6_number_56 rfl 3 rfl ?_
          exact g_iret hX hR dX6_number_57 (by decide) (by decide) ⟨_, rfl, rfl, ⟨rfl, (by first | (rw [num_n (show isNR tp lo hi (.inr (t, f)) from ⟨(show t.1 = 2 by omega), by omega, by omega⟩), ← mus_1]; exact hK2) | (rw [num_2 (show ¬ isNR tp lo hi (.inr (t, f)) from fun q => h31 ⟨by have := q.2.1; omega, by have := q.2.2; omega⟩) (show tkR (.inr (t, f)) 2 from (show t.1 = 2 by omega))]; rw [mus_1, nex_bad] at hK2; exact hK2) | (rw [num_1 (show ¬ tkR (.inr (t, f)) 2 from fun q => by have q2 : t.1 = 2 := q; omega), ← mus_0 (tp := tp) (n := n)]; exact hK2) | (exfalso; omega))⟩, rfl⟩
  · refine g_iconst (v := nI 0) hX dX6_number_7 (by decide) ?_
    exact g_iret hX hR dX6_number_8 (by decide) (by decide) ⟨_, rfl, rfl, ⟨fig_l hr h4, num_l hr h4⟩, rfl⟩

theorem c_X6_mustEnd (l : Launch) {nw sp : Nat} {I : xM} {tp : Nat → Nat} {n : Nat} {B : xM} {r : xS} (ht : tpP B tp n) (hr : rfS tp n B I r) : xC l 4 0 0 yX6_mustEnd cX6_mustEnd 1 none 319 [.ref 307] I (xRL nw sp) (xpW 319 (xRL nw sp) (fun J => rfS tp n B J (sgnR tp n r))) := by
  refine xC_of (by decide) (Nat.le_of_ble_eq_true rfl) (fun X hXl hX hR => ?_)
  have hX : xOK X RX6 cX6_mustEnd 1 4 0 0 := hX
  show G X 319 0 0 I (xRL nw sp) 0 [(0, .ref 307)] []
  refine g_aload_n hX dX6_mustEnd_0 rfl 0 rfl ?_
  refine g_getI (v := I 307 18) hX (by decide) (by decide) xCl6 18 (by decide) (by decide) kX6_102 dX6_mustEnd_1 rfl ?_
  refine g_cz_ne (a := (I 307 18).toInt) (tgt := 24) hX dX6_mustEnd_4 (by decide) rfl (fun h4 => ?_) (fun h4 => ?_)
  · exact g_vret hX hR dX6_mustEnd_24 (by decide) (by decide) ⟨rfl, rfl, (by first | exact sgn_l hr h4 | (rw [sgn_y (show tkR (.inr (t, f)) 3 from (show t.1 = 3 by omega)), ← mus_1]; exact hK) | (rw [sgn_n (show ¬ tkR (.inr (t, f)) 3 from fun q => by have q2 : t.1 = 3 := q; omega), ← mus_0 (tp := tp) (n := n)]; exact hK)), rfl⟩
  · obtain ⟨t, f, rfl⟩ := rf_r hr (by omega)
    obtain ⟨htw, c14, c15, c16, c17, c18, c12⟩ := rf_i hr
    have hrk := rtk_c t.1
    have ht4 := htw.2.2.1
    refine g_aload_n hX dX6_mustEnd_7 rfl 0 rfl ?_
    refine g_aload_n hX dX6_mustEnd_8 rfl 0 rfl ?_
    refine g_getI (v := nI (rtk t.1)) hX (by decide) (by decide) xCl6 15 (by decide) (by decide) kX6_90 dX6_mustEnd_9 c15 ?_
    refine g_iconst (v := nI 4) hX dX6_mustEnd_12 (by decide) ?_
    refine g_ci_ne (a := ((rtk t.1 : Nat) : Int)) (b := (4 : Int)) (tgt := 20) hX dX6_mustEnd_13 (by decide) (nI_toInt (by omega)) (by decide) (fun h13 => ?_) (fun h13 => ?_)
    · refine g_iconst (v := nI 0) hX dX6_mustEnd_20 (by decide) ?_
      refine g_callVrv hX (as := [.int (nI 0)]) (fun l => c_X6_must_0 l (I := I) (tp := tp) (n := n) (B := B) (r := (.inr (t, f))) (ht := (by first | assumption | omega)) (hr := hr)) mX6_must vX6_must lX6_119 (by decide) (by decide) xCl6 rfl rfl dX6_mustEnd_21 rfl (by decide) (Nat.le_of_ble_eq_true rfl) (by decide) (by decide) (fun K hK => ?_)
      exact g_vret hX hR dX6_mustEnd_24 (by decide) (by decide) ⟨rfl, rfl, (by first | exact sgn_l hr h4 | (rw [sgn_y (show tkR (.inr (t, f)) 3 from (show t.1 = 3 by omega)), ← mus_1]; exact hK) | (rw [sgn_n (show ¬ tkR (.inr (t, f)) 3 from fun q => by have q2 : t.1 = 3 := q; omega), ← mus_0 (tp := tp) (n := n)]; exact hK)), rfl⟩
    · refine g_iconst (v := nI 1) hX dX6_mustEnd_16 (by decide) ?_
      refine g_goto (tgt := 21) hX dX6_mustEnd_17 (by decide) ?_
      refine g_callVrv hX (as := [.int (nI 1)]) (fun l => c_X6_must_1 l (I := I) (tp := tp) (n := n) (B := B) (r := (.inr (t, f))) (ht := (by first | assumption | omega)) (hr := hr)) mX6_must vX6_must lX6_119 (by decide) (by decide) xCl6 rfl rfl dX6_mustEnd_21 rfl (by decide) (Nat.le_of_ble_eq_true rfl) (by decide) (by decide) (fun K hK => ?_)
      exact g_vret hX hR dX6_mustEnd_24 (by decide) (by decide) ⟨rfl, rfl, (by first | exact sgn_l hr h4 | (rw [sgn_y (show tkR (.inr (t, f)) 3 from (show t.1 = 3 by omega)), ← mus_1]; exact hK) | (rw [sgn_n (show ¬ tkR (.inr (t, f)) 3 from fun q => by have q2 : t.1 = 3 := q; omega), ← mus_0 (tp := tp) (n := n)]; exact hK)), rfl⟩

theorem c_X6_begins (l : Launch) {nw sp : Nat} {I : xM} {tp : Nat → Nat} {n : Nat} {B : xM} {r : xS} {st : Nat} (ht : tpP B tp n) (hr : rfS tp n B I r) (hst : st ≤ 1) : xC l 4 0 0 yX6_begins cX6_begins 3 none 319 [.ref 307, .int (nI st), .int (nI 6)] I (xRL nw sp) (xpW 319 (xRL nw sp) (fun J => rfS tp n B J (begR tp n st r))) := by
  refine xC_of (by decide) (Nat.le_of_ble_eq_true rfl) (fun X hXl hX hR => ?_)
  have hX : xOK X RX6 cX6_begins 3 4 0 0 := hX
  show G X 319 0 0 I (xRL nw sp) 0 [(0, .ref 307), (1, .int (nI st)), (2, .int (nI 6))] []
  refine g_aload_n hX dX6_begins_0 rfl 0 rfl ?_
  refine g_getR (j := 312) hX (by decide) (by decide) xCl6 6 (by decide) (by decide) kX6_22 dX6_begins_1 rfl ?_
  refine g_iload_n hX dX6_begins_4 rfl 1 rfl ?_
  refine g_iald (v := I 312 st) hX (by decide) (by decide) st rfl (by rw [(show xN 312 = 74 by decide)]; omega) dX6_begins_5 rfl ?_
  refine g_iload_n hX dX6_begins_6 rfl 2 rfl ?_
  refine g_ci_ne (a := (I 312 st).toInt) (b := (6 : Int)) (tgt := 15) hX dX6_begins_7 (by decide) rfl (by decide) (fun h7 => ?_) (fun h7 => ?_)
  · refine g_aload_n hX dX6_begins_15 rfl 0 rfl ?_
    refine g_iconst (v := nI 1) hX dX6_begins_16 (by decide) ?_
    refine g_callVrv hX (as := [.int (nI 1)]) (fun l => c_X6_must_1 l (I := I) (tp := tp) (n := n) (B := B) (r := _) (ht := (by first | assumption | omega)) (hr := (by first | exact hr | exact hK.1))) mX6_must vX6_must lX6_119 (by decide) (by decide) xCl6 rfl rfl dX6_begins_17 rfl (by decide) (Nat.le_of_ble_eq_true rfl) (by decide) (by decide) (fun K2 hK2 => ?_)
    exact g_vret hX hR dX6_begins_20 (by decide) (by decide) ⟨rfl, rfl, (by first | exact beg_n hr h7 hK2 | exact beg_y hr h7 hK2), rfl⟩
  · refine g_aload_n hX dX6_begins_10 rfl 0 rfl ?_
    refine g_iconst (v := nI 3) hX dX6_begins_11 (by decide) ?_
    refine g_callVrv hX (as := [.int (nI 3)]) (fun l => c_X6_bad l (I := I) (tp := tp) (n := n) (B := B) (r := r) (k := 3) (hr := (by first | assumption | omega)) (hk := (by first | assumption | omega))) mX6_bad vX6_bad lX6_111 (by decide) (by decide) xCl6 rfl rfl dX6_begins_12 rfl (by decide) (Nat.le_of_ble_eq_true rfl) (by decide) (by decide) (fun K hK => ?_)
    refine g_aload_n hX dX6_begins_15 rfl 0 rfl ?_
    refine g_iconst (v := nI 1) hX dX6_begins_16 (by decide) ?_
    refine g_callVrv hX (as := [.int (nI 1)]) (fun l => c_X6_must_1 l (I := K) (tp := tp) (n := n) (B := B) (r := _) (ht := (by first | assumption | omega)) (hr := (by first | exact hr | exact hK.1))) mX6_must vX6_must lX6_119 (by decide) (by decide) xCl6 rfl rfl dX6_begins_17 rfl (by decide) (Nat.le_of_ble_eq_true rfl) (by decide) (by decide) (fun K2 hK2 => ?_)
    exact g_vret hX hR dX6_begins_20 (by decide) (by decide) ⟨rfl, rfl, (by first | exact beg_n hr h7 hK2 | exact beg_y hr h7 hK2), rfl⟩

theorem c_X6_kindBy (l : Launch) {nw sp : Nat} {I : xM} {v : Int64}  : xC l 1 0 0 yX6_kindBy cX6_kindBy 2 (some .int) 319 [.long v] I (xRL nw sp) (xpI (kbV v) 319 I (xRL nw sp)) := by
  refine xC_of (by decide) (Nat.le_of_ble_eq_true rfl) (fun X hXl hX hR => ?_)
  have hX : xOK X RX6 cX6_kindBy 2 1 0 0 := hX
  show G X 319 0 0 I (xRL nw sp) 0 [(0, .long v)] []
  refine g_lload_n hX dX6_kindBy_0 rfl 0 rfl ?_
  refine g_ldc2 (v := 6386536) hX cX6_123 dX6_kindBy_1 ?_
  refine g_lcmp (v := lg_cmp v (6386536)) hX dX6_kindBy_4 rfl ?_
  refine g_cz_ne (a := (lg_cmp v (6386536)).toInt) (tgt := 12) hX dX6_kindBy_5 (by decide) rfl (fun h5 => ?_) (fun h5 => ?_)
  · have e5 := fun q => h5 (lcmp_eq.mpr q)
    refine g_lload_n hX dX6_kindBy_12 rfl 0 rfl ?_
    refine g_ldc2 (v := 7955831) hX cX6_125 dX6_kindBy_13 ?_
    refine g_lcmp (v := lg_cmp v (7955831)) hX dX6_kindBy_16 rfl ?_
    refine g_cz_ne (a := (lg_cmp v (7955831)).toInt) (tgt := 24) hX dX6_kindBy_17 (by decide) rfl (fun h17 => ?_) (fun h17 => ?_)
    · have e17 := fun q => h17 (lcmp_eq.mpr q)
      refine g_lload_n hX dX6_kindBy_24 rfl 0 rfl ?_
      refine g_ldc2 (v := 7299435) hX cX6_127 dX6_kindBy_25 ?_
      refine g_lcmp (v := lg_cmp v (7299435)) hX dX6_kindBy_28 rfl ?_
      refine g_cz_ne (a := (lg_cmp v (7299435)).toInt) (tgt := 36) hX dX6_kindBy_29 (by decide) rfl (fun h29 => ?_) (fun h29 => ?_)
      · have e29 := fun q => h29 (lcmp_eq.mpr q)
        refine g_lload_n hX dX6_kindBy_36 rfl 0 rfl ?_
        refine g_ldc2 (v := 448377677669) hX cX6_129 dX6_kindBy_37 ?_
        refine g_lcmp (v := lg_cmp v (448377677669)) hX dX6_kindBy_40 rfl ?_
        refine g_cz_ne (a := (lg_cmp v (448377677669)).toInt) (tgt := 48) hX dX6_kindBy_41 (by decide) rfl (fun h41 => ?_) (fun h41 => ?_)
        · have e41 := fun q => h41 (lcmp_eq.mpr q)
          refine g_lload_n hX dX6_kindBy_48 rfl 0 rfl ?_
          refine g_ldc2 (v := 439721161573) hX cX6_131 dX6_kindBy_49 ?_
          refine g_lcmp (v := lg_cmp v (439721161573)) hX dX6_kindBy_52 rfl ?_
          refine g_cz_ne (a := (lg_cmp v (439721161573)).toInt) (tgt := 60) hX dX6_kindBy_53 (by decide) rfl (fun h53 => ?_) (fun h53 => ?_)
          · have e53 := fun q => h53 (lcmp_eq.mpr q)
            refine g_ldc (v := -1000000) hX cX6_80 dX6_kindBy_60 ?_
            exact g_iret hX hR dX6_kindBy_62 (by decide) (by decide) ⟨congrArg (fun z => some (Value.int z)) (by unfold kbV; first | rw [if_pos e5] | rw [if_neg e5, if_pos e17] | rw [if_neg e5, if_neg e17, if_pos e29] | rw [if_neg e5, if_neg e17, if_neg e29, if_pos e41] | rw [if_neg e5, if_neg e17, if_neg e29, if_neg e41, if_pos e53] | rw [if_neg e5, if_neg e17, if_neg e29, if_neg e41, if_neg e53]), rfl, rfl, rfl⟩
          · have e53 := lcmp_eq.mp h53
            refine g_iconst (v := nI 5) hX dX6_kindBy_56 (by decide) ?_
            refine g_goto (tgt := 62) hX dX6_kindBy_57 (by decide) ?_
            exact g_iret hX hR dX6_kindBy_62 (by decide) (by decide) ⟨congrArg (fun z => some (Value.int z)) (by unfold kbV; first | rw [if_pos e5] | rw [if_neg e5, if_pos e17] | rw [if_neg e5, if_neg e17, if_pos e29] | rw [if_neg e5, if_neg e17, if_neg e29, if_pos e41] | rw [if_neg e5, if_neg e17, if_neg e29, if_neg e41, if_pos e53] | rw [if_neg e5, if_neg e17, if_neg e29, if_neg e41, if_neg e53]), rfl, rfl, rfl⟩
        · have e41 := lcmp_eq.mp h41
          refine g_iconst (v := nI 4) hX dX6_kindBy_44 (by decide) ?_
          refine g_goto (tgt := 62) hX dX6_kindBy_45 (by decide) ?_
          exact g_iret hX hR dX6_kindBy_62 (by decide) (by decide) ⟨congrArg (fun z => some (Value.int z)) (by unfold kbV; first | rw [if_pos e5] | rw [if_neg e5, if_pos e17] | rw [if_neg e5, if_neg e17, if_pos e29] | rw [if_neg e5, if_neg e17, if_neg e29, if_pos e41] | rw [if_neg e5, if_neg e17, if_neg e29, if_neg e41, if_pos e53] | rw [if_neg e5, if_neg e17, if_neg e29, if_neg e41, if_neg e53]), rfl, rfl, rfl⟩
      · have e29 := lcmp_eq.mp h29
        refine g_iconst (v := nI 2) hX dX6_kindBy_32 (by decide) ?_
        refine g_goto (tgt := 62) hX dX6_kindBy_33 (by decide) ?_
        exact g_iret hX hR dX6_kindBy_62 (by decide) (by decide) ⟨congrArg (fun z => some (Value.int z)) (by unfold kbV; first | rw [if_pos e5] | rw [if_neg e5, if_pos e17] | rw [if_neg e5, if_neg e17, if_pos e29] | rw [if_neg e5, if_neg e17, if_neg e29, if_pos e41] | rw [if_neg e5, if_neg e17, if_neg e29, if_neg e41, if_pos e53] | rw [if_neg e5, if_neg e17, if_neg e29, if_neg e41, if_neg e53]), rfl, rfl, rfl⟩
    · have e17 := lcmp_eq.mp h17
      refine g_iconst (v := nI 3) hX dX6_kindBy_20 (by decide) ?_
      refine g_goto (tgt := 62) hX dX6_kindBy_21 (by decide) ?_
      exact g_iret hX hR dX6_kindBy_62 (by decide) (by decide) ⟨congrArg (fun z => some (Value.int z)) (by unfold kbV; first | rw [if_pos e5] | rw [if_neg e5, if_pos e17] | rw [if_neg e5, if_neg e17, if_pos e29] | rw [if_neg e5, if_neg e17, if_neg e29, if_pos e41] | rw [if_neg e5, if_neg e17, if_neg e29, if_neg e41, if_pos e53] | rw [if_neg e5, if_neg e17, if_neg e29, if_neg e41, if_neg e53]), rfl, rfl, rfl⟩
  · have e5 := lcmp_eq.mp h5
    refine g_iconst (v := nI 1) hX dX6_kindBy_8 (by decide) ?_
    refine g_goto (tgt := 62) hX dX6_kindBy_9 (by decide) ?_
    exact g_iret hX hR dX6_kindBy_62 (by decide) (by decide) ⟨congrArg (fun z => some (Value.int z)) (by unfold kbV; first | rw [if_pos e5] | rw [if_neg e5, if_pos e17] | rw [if_neg e5, if_neg e17, if_pos e29] | rw [if_neg e5, if_neg e17, if_neg e29, if_pos e41] | rw [if_neg e5, if_neg e17, if_neg e29, if_neg e41, if_pos e53] | rw [if_neg e5, if_neg e17, if_neg e29, if_neg e41, if_neg e53]), rfl, rfl, rfl⟩

theorem c_X6_isTold (l : Launch) {nw sp : Nat} {I : xM} {v T : Nat} (hT : I 312 0 = nI T) (hT6 : T ≤ 6) (hv9 : v ≤ 999) : xC l 1 0 0 yX6_isTold cX6_isTold 4 (some .boolean) 319 [.ref 307, .int (nI v)] I (xRL nw sp) (xpI (xb (∃ u, 0 ≤ u ∧ u < T ∧ I 312 (26 + 5 * u + 1) = nI v)) 319 I (xRL nw sp)) := by
  refine xC_of (by decide) (Nat.le_of_ble_eq_true rfl) (fun X hXl hX hR => ?_)
  have hX : xOK X RX6 cX6_isTold 4 1 0 0 := hX
  show G X 319 0 0 I (xRL nw sp) 0 [(0, .ref 307), (1, .int (nI v))] []
  refine g_iconst (v := nI 0) hX dX6_isTold_0 (by decide) ?_
  refine g_istore_n (L' := [(0, .ref 307), (1, .int (nI v)), (2, .int (nI 0))]) hX dX6_isTold_1 rfl (by decide) rfl ?_
  refine g_iconst (v := nI 0) hX dX6_isTold_2 (by decide) ?_
  refine g_istore_n (L' := [(0, .ref 307), (1, .int (nI v)), (2, .int (nI 0)), (3, .int (nI 0))]) hX dX6_isTold_3 rfl (by decide) rfl ?_
  have cut4 : ∀ (fuel : Nat) (x : Int32) (k : Nat) (hk : k ≤ T) (hx : x = xb (∃ u, 0 ≤ u ∧ u < k ∧ I 312 (26 + 5 * u + 1) = nI v)), T - k < fuel → G X 319 0 0 I (xRL nw sp) 4 [(0, .ref 307), (1, .int (nI v)), (2, .int x), (3, .int (nI k))] [] := by
    intro fuel
    induction fuel with
    | zero => intro x k hk hx hfuel; omega
    | succ fuel ih =>
      intro x k hk hx hfuel
      refine g_iload_n hX dX6_isTold_4 rfl 3 rfl ?_
      refine g_aload_n hX dX6_isTold_5 rfl 0 rfl ?_
      refine g_getR (j := 312) hX (by decide) (by decide) xCl6 6 (by decide) (by decide) kX6_22 dX6_isTold_6 rfl ?_
      refine g_iconst (v := nI 0) hX dX6_isTold_9 (by decide) ?_
      refine g_iald (v := nI T) hX (by decide) (by decide) 0 rfl (by rw [(show xN 312 = 74 by decide)]; decide) dX6_isTold_10 hT ?_
      refine g_ci_ge (a := ((k : Nat) : Int)) (b := ((T : Nat) : Int)) (tgt := 47) hX dX6_isTold_11 (by decide) (nI_toInt (by omega)) (nI_toInt (by omega)) (fun h11 => ?_) (fun h11 => ?_)
      · refine g_iload_n hX dX6_isTold_47 rfl 2 rfl ?_
        exact g_zret hX hR dX6_isTold_48 (by rw [hx]; exact xb_nar) (by decide) (by decide) ⟨congrArg (fun z => some (Value.int z)) (by rw [hx, show k = T by omega]), rfl, rfl, rfl⟩
      · refine g_iload_n hX dX6_isTold_14 rfl 2 rfl ?_
        refine g_cz_ne (a := x.toInt) (tgt := 35) hX dX6_isTold_15 (by decide) rfl (fun h15 => ?_) (fun h15 => ?_)
        · refine g_iconst (v := nI 1) hX dX6_isTold_35 (by decide) ?_
          refine g_goto (tgt := 40) hX dX6_isTold_36 (by decide) ?_
          refine g_istore_n (L' := [(0, .ref 307), (1, .int (nI v)), (2, .int (nI 1)), (3, .int (nI k))]) hX dX6_isTold_40 rfl (by decide) rfl ?_
          refine g_iinc (v := nI (k + 1)) (L' := [(0, .ref 307), (1, .int (nI v)), (2, .int (nI 1)), (3, .int (nI (k + 1)))]) hX dX6_isTold_41 (by decide) 3 rfl (nI_add k 1) rfl ?_
          refine g_goto (tgt := 4) hX dX6_isTold_44 (by decide) ?_
          exact ih (nI 1) (k + 1) (by first | assumption | omega) (by first | exact ex_k hx h15 | exact ex_t (P := fun u => I 312 (26 + 5 * u + 1) = nI v) (Nat.zero_le k) (toInt_eq.mpr (h32.trans (nI_toInt (by omega)).symm)) | exact ex_f (P := fun u => I 312 (26 + 5 * u + 1) = nI v) hx h15 (fun q => h32 (by rw [q, nI_toInt (by omega)]))) (by omega)
        · refine g_aload_n hX dX6_isTold_18 rfl 0 rfl ?_
          refine g_getR (j := 312) hX (by decide) (by decide) xCl6 6 (by decide) (by decide) kX6_22 dX6_isTold_19 rfl ?_
          refine g_bipush (v := nI 26) hX dX6_isTold_22 (by decide) ?_
          refine g_iconst (v := nI 5) hX dX6_isTold_24 (by decide) ?_
          refine g_iload_n hX dX6_isTold_25 rfl 3 rfl ?_
          refine g_imul (v := nI (5 * k)) hX dX6_isTold_26 (nI_mul 5 k) ?_
          refine g_iadd (v := nI (26 + (5 * k))) hX dX6_isTold_27 (nI_add 26 (5 * k)) ?_
          refine g_iconst (v := nI 1) hX dX6_isTold_28 (by decide) ?_
          refine g_iadd (v := nI ((26 + (5 * k)) + 1)) hX dX6_isTold_29 (nI_add (26 + (5 * k)) 1) ?_
          refine g_iald (v := I 312 ((26 + (5 * k)) + 1)) hX (by decide) (by decide) ((26 + (5 * k)) + 1) rfl (by rw [(show xN 312 = 74 by decide)]; omega) dX6_isTold_30 rfl ?_
          refine g_iload_n hX dX6_isTold_31 rfl 1 rfl ?_
          refine g_ci_ne (a := (I 312 ((26 + (5 * k)) + 1)).toInt) (b := ((v : Nat) : Int)) (tgt := 39) hX dX6_isTold_32 (by decide) rfl (nI_toInt (by omega)) (fun h32 => ?_) (fun h32 => ?_)
          · refine g_iconst (v := nI 0) hX dX6_isTold_39 (by decide) ?_
            refine g_istore_n (L' := [(0, .ref 307), (1, .int (nI v)), (2, .int (nI 0)), (3, .int (nI k))]) hX dX6_isTold_40 rfl (by decide) rfl ?_
            refine g_iinc (v := nI (k + 1)) (L' := [(0, .ref 307), (1, .int (nI v)), (2, .int (nI 0)), (3, .int (nI (k + 1)))]) hX dX6_isTold_41 (by decide) 3 rfl (nI_add k 1) rfl ?_
            refine g_goto (tgt := 4) hX dX6_isTold_44 (by decide) ?_
            exact ih (nI 0) (k + 1) (by first | assumption | omega) (by first | exact ex_k hx h15 | exact ex_t (P := fun u => I 312 (26 + 5 * u + 1) = nI v) (Nat.zero_le k) (toInt_eq.mpr (h32.trans (nI_toInt (by omega)).symm)) | exact ex_f (P := fun u => I 312 (26 + 5 * u + 1) = nI v) hx h15 (fun q => h32 (by rw [q, nI_toInt (by omega)]))) (by omega)
          · refine g_iconst (v := nI 1) hX dX6_isTold_35 (by decide) ?_
            refine g_goto (tgt := 40) hX dX6_isTold_36 (by decide) ?_
            refine g_istore_n (L' := [(0, .ref 307), (1, .int (nI v)), (2, .int (nI 1)), (3, .int (nI k))]) hX dX6_isTold_40 rfl (by decide) rfl ?_
            refine g_iinc (v := nI (k + 1)) (L' := [(0, .ref 307), (1, .int (nI v)), (2, .int (nI 1)), (3, .int (nI (k + 1)))]) hX dX6_isTold_41 (by decide) 3 rfl (nI_add k 1) rfl ?_
            refine g_goto (tgt := 4) hX dX6_isTold_44 (by decide) ?_
            exact ih (nI 1) (k + 1) (by first | assumption | omega) (by first | exact ex_k hx h15 | exact ex_t (P := fun u => I 312 (26 + 5 * u + 1) = nI v) (Nat.zero_le k) (toInt_eq.mpr (h32.trans (nI_toInt (by omega)).symm)) | exact ex_f (P := fun u => I 312 (26 + 5 * u + 1) = nI v) hx h15 (fun q => h32 (by rw [q, nI_toInt (by omega)]))) (by omega)
  exact cut4 _ (nI 0) 0 (by first | assumption | omega) (xb_n0 (fun q => by obtain ⟨u, h1, h2, _⟩ := q; omega)) (Nat.lt_succ_self _)
