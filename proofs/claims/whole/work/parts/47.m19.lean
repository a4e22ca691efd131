theorem c_X1_isBlank (l : Launch) {nw sp : Nat} {I : xM} {b : Int32}  : xC l 1 0 0 yX1_isBlank cX1_isBlank 1 (some .boolean) 319 [.int b] I (xRL nw sp) (xpI (xb (b.toInt = 32 ∨ b.toInt = 10)) 319 I (xRL nw sp)) := by
  refine xC_of (by decide) (Nat.le_of_ble_eq_true rfl) (fun X hXl hX hR => ?_)
  have hX : xOK X RX1 cX1_isBlank 1 1 0 0 := hX
  show G X 319 0 0 I (xRL nw sp) 0 [(0, .int b)] []
  refine g_iload_n hX dX1_isBlank_0 rfl 0 rfl ?_
  refine g_bipush (v := nI 32) hX dX1_isBlank_1 (by decide) ?_
  refine g_ci_eq (a := b.toInt) (b := (32 : Int)) (tgt := 12) hX dX1_isBlank_3 (by decide) rfl (by decide) (fun h3 => ?_) (fun h3 => ?_)
  · refine g_iconst (v := nI 1) hX dX1_isBlank_12 (by decide) ?_
    refine g_goto (tgt := 17) hX dX1_isBlank_13 (by decide) ?_
    exact g_zret hX hR dX1_isBlank_17 (by decide) (by decide) (by decide) ⟨congrArg (fun z => some (Value.int z)) (xb_n1 (by omega)), rfl, rfl, rfl⟩
  · refine g_iload_n hX dX1_isBlank_6 rfl 0 rfl ?_
    refine g_bipush (v := nI 10) hX dX1_isBlank_7 (by decide) ?_
    refine g_ci_ne (a := b.toInt) (b := (10 : Int)) (tgt := 16) hX dX1_isBlank_9 (by decide) rfl (by decide) (fun h9 => ?_) (fun h9 => ?_)
    · refine g_iconst (v := nI 0) hX dX1_isBlank_16 (by decide) ?_
      exact g_zret hX hR dX1_isBlank_17 (by decide) (by decide) (by decide) ⟨congrArg (fun z => some (Value.int z)) (xb_n0 (by omega)), rfl, rfl, rfl⟩
    · refine g_iconst (v := nI 1) hX dX1_isBlank_12 (by decide) ?_
      refine g_goto (tgt := 17) hX dX1_isBlank_13 (by decide) ?_
      exact g_zret hX hR dX1_isBlank_17 (by decide) (by decide) (by decide) ⟨congrArg (fun z => some (Value.int z)) (xb_n1 (by omega)), rfl, rfl, rfl⟩

theorem c_X1_isLetter (l : Launch) {nw sp : Nat} {I : xM} {b : Int32}  : xC l 1 0 0 yX1_isLetter cX1_isLetter 1 (some .boolean) 319 [.int b] I (xRL nw sp) (xpI (xb (97 ≤ b.toInt ∧ b.toInt ≤ 122)) 319 I (xRL nw sp)) := by
  refine xC_of (by decide) (Nat.le_of_ble_eq_true rfl) (fun X hXl hX hR => ?_)
  have hX : xOK X RX1 cX1_isLetter 1 1 0 0 := hX
  show G X 319 0 0 I (xRL nw sp) 0 [(0, .int b)] []
  refine g_iload_n hX dX1_isLetter_0 rfl 0 rfl ?_
  refine g_bipush (v := nI 97) hX dX1_isLetter_1 (by decide) ?_
  refine g_ci_lt (a := b.toInt) (b := (97 : Int)) (tgt := 16) hX dX1_isLetter_3 (by decide) rfl (by decide) (fun h3 => ?_) (fun h3 => ?_)
  · refine g_iconst (v := nI 0) hX dX1_isLetter_16 (by decide) ?_
    exact g_zret hX hR dX1_isLetter_17 (by decide) (by decide) (by decide) ⟨congrArg (fun z => some (Value.int z)) (xb_n0 (by omega)), rfl, rfl, rfl⟩
  · refine g_iload_n hX dX1_isLetter_6 rfl 0 rfl ?_
    refine g_bipush (v := nI 122) hX dX1_isLetter_7 (by decide) ?_
    refine g_ci_gt (a := b.toInt) (b := (122 : Int)) (tgt := 16) hX dX1_isLetter_9 (by decide) rfl (by decide) (fun h9 => ?_) (fun h9 => ?_)
    · refine g_iconst (v := nI 0) hX dX1_isLetter_16 (by decide) ?_
      exact g_zret hX hR dX1_isLetter_17 (by decide) (by decide) (by decide) ⟨congrArg (fun z => some (Value.int z)) (xb_n0 (by omega)), rfl, rfl, rfl⟩
    · refine g_iconst (v := nI 1) hX dX1_isLetter_12 (by decide) ?_
      refine g_goto (tgt := 17) hX dX1_isLetter_13 (by decide) ?_
      exact g_zret hX hR dX1_isLetter_17 (by decide) (by decide) (by decide) ⟨congrArg (fun z => some (Value.int z)) (xb_n1 (by omega)), rfl, rfl, rfl⟩

theorem c_X1_isFigure (l : Launch) {nw sp : Nat} {I : xM} {b : Int32}  : xC l 1 0 0 yX1_isFigure cX1_isFigure 1 (some .boolean) 319 [.int b] I (xRL nw sp) (xpI (xb (48 ≤ b.toInt ∧ b.toInt ≤ 57)) 319 I (xRL nw sp)) := by
  refine xC_of (by decide) (Nat.le_of_ble_eq_true rfl) (fun X hXl hX hR => ?_)
  have hX : xOK X RX1 cX1_isFigure 1 1 0 0 := hX
  show G X 319 0 0 I (xRL nw sp) 0 [(0, .int b)] []
  refine g_iload_n hX dX1_isFigure_0 rfl 0 rfl ?_
  refine g_bipush (v := nI 48) hX dX1_isFigure_1 (by decide) ?_
  refine g_ci_lt (a := b.toInt) (b := (48 : Int)) (tgt := 16) hX dX1_isFigure_3 (by decide) rfl (by decide) (fun h3 => ?_) (fun h3 => ?_)
  · refine g_iconst (v := nI 0) hX dX1_isFigure_16 (by decide) ?_
    exact g_zret hX hR dX1_isFigure_17 (by decide) (by decide) (by decide) ⟨congrArg (fun z => some (Value.int z)) (xb_n0 (by omega)), rfl, rfl, rfl⟩
  · refine g_iload_n hX dX1_isFigure_6 rfl 0 rfl ?_
    refine g_bipush (v := nI 57) hX dX1_isFigure_7 (by decide) ?_
    refine g_ci_gt (a := b.toInt) (b := (57 : Int)) (tgt := 16) hX dX1_isFigure_9 (by decide) rfl (by decide) (fun h9 => ?_) (fun h9 => ?_)
    · refine g_iconst (v := nI 0) hX dX1_isFigure_16 (by decide) ?_
      exact g_zret hX hR dX1_isFigure_17 (by decide) (by decide) (by decide) ⟨congrArg (fun z => some (Value.int z)) (xb_n0 (by omega)), rfl, rfl, rfl⟩
    · refine g_iconst (v := nI 1) hX dX1_isFigure_12 (by decide) ?_
      refine g_goto (tgt := 17) hX dX1_isFigure_13 (by decide) ?_
      exact g_zret hX hR dX1_isFigure_17 (by decide) (by decide) (by decide) ⟨congrArg (fun z => some (Value.int z)) (xb_n1 (by omega)), rfl, rfl, rfl⟩

theorem c_X1_passLetters (l : Launch) {nw sp : Nat} {I : xM} {tp : Nat → Nat} {n : Nat} {p : Nat} (ht : cbP I tp n) (hp : p ≤ n) (hp0 : I 2 3 = nI p) : xC l 2 0 0 yX1_passLetters cX1_passLetters 1 none 319 [.ref 2] I (xRL nw sp) (xpW 319 (xRL nw sp) (fun J => cxF I J ∧ J 2 2 = I 2 2 ∧ J 2 5 = I 2 5 ∧ J 2 4 = nI 1 ∧ ∃ q, J 2 3 = nI q ∧ p ≤ q ∧ q ≤ n ∧ run leB tp n q = run leB tp n p ∧ ¬ (q < n ∧ leB (tp q) = true))) := by
  refine xC_of (by decide) (Nat.le_of_ble_eq_true rfl) (fun X hXl hX hR => ?_)
  have hX : xOK X RX1 cX1_passLetters 1 2 0 0 := hX
  show G X 319 0 0 I (xRL nw sp) 0 [(0, .ref 2)] []
  have hn4 := ht.2.1
  refine g_aload_n hX dX1_passLetters_0 rfl 0 rfl ?_
  refine g_iconst (v := nI 1) hX dX1_passLetters_1 (by decide) ?_
  refine g_putI hX (by decide) (by decide) xCl1 4 (by decide) (by decide) (by decide) kX1_25 dX1_passLetters_2 rfl rfl ?_
  have cut5 : ∀ (fuel : Nat) (q : Nat) (K : xM) (hq0 : p ≤ q) (hqn : q ≤ n) (hq : run leB tp n q = run leB tp n p) (hF : cxF I K) (hb : K 2 3 = nI q) (h2 : K 2 2 = I 2 2) (h5 : K 2 5 = I 2 5) (h4 : K 2 4 = nI 1), n - q < fuel → G X 319 0 0 K (xRL nw sp) 5 [(0, .ref 2)] [] := by
    intro fuel
    induction fuel with
    | zero => intro q K hq0 hqn hq hF hb h2 h5 h4 hfuel; omega
    | succ fuel ih =>
      intro q K hq0 hqn hq hF hb h2 h5 h4 hfuel
      refine g_aload_n hX dX1_passLetters_5 rfl 0 rfl ?_
      refine g_getI (v := nI q) hX (by decide) (by decide) xCl1 3 (by decide) (by decide) kX1_22 dX1_passLetters_6 hb ?_
      refine g_aload_n hX dX1_passLetters_9 rfl 0 rfl ?_
      refine g_getI (v := nI n) hX (by decide) (by decide) xCl1 1 (by decide) (by decide) kX1_15 dX1_passLetters_10 (cbP_F hF ht).1 ?_
      refine g_ci_ge (a := ((q : Nat) : Int)) (b := ((n : Nat) : Int)) (tgt := 44) hX dX1_passLetters_13 (by decide) (nI_toInt (by omega)) (nI_toInt (by omega)) (fun h13 => ?_) (fun h13 => ?_)
      · exact g_vret hX hR dX1_passLetters_44 (by decide) (by decide) ⟨rfl, rfl, ⟨hF, h2, h5, h4, q, hb, hq0, hqn, hq, (fun x => by first | exact h28 (hcq.mpr x.2) | (have := x.1; omega))⟩, rfl⟩
      · have hcq := (cb_all (tp q) (by have := (ht.2.2 q (by omega)).2; omega)).2.1
        refine g_aload_n hX dX1_passLetters_16 rfl 0 rfl ?_
        refine g_getR (j := 3) hX (by decide) (by decide) xCl1 0 (by decide) (by decide) kX1_9 dX1_passLetters_17 rfl ?_
        refine g_aload_n hX dX1_passLetters_20 rfl 0 rfl ?_
        refine g_getI (v := nI q) hX (by decide) (by decide) xCl1 3 (by decide) (by decide) kX1_22 dX1_passLetters_21 hb ?_
        refine g_bald (v := cb (tp q)) hX (by decide) (by decide) q rfl (by rw [(show xN 3 = 400 by decide)]; omega) dX1_passLetters_24 ((cbP_F hF ht).2.2 q (by omega)).1 ?_
        refine g_callSi hX (as := [.int (cb (tp q))]) (fun l => c_X1_isLetter l (I := K) (b := (cb (tp q))) ) mX1_isLetter sX1_isLetter lX1_147 rfl dX1_passLetters_25 rfl (by decide) (Nat.le_of_ble_eq_true rfl) (by decide) (by decide) ?_
        refine g_cb_eq (tgt := 44) hX dX1_passLetters_28 (by decide) (fun h28 => ?_) (fun h28 => ?_)
        · exact g_vret hX hR dX1_passLetters_44 (by decide) (by decide) ⟨rfl, rfl, ⟨hF, h2, h5, h4, q, hb, hq0, hqn, hq, (fun x => by first | exact h28 (hcq.mpr x.2) | (have := x.1; omega))⟩, rfl⟩
        · have hin : q < n ∧ leB (tp q) = true := ⟨by omega, hcq.mp h28⟩
          refine g_aload_n hX dX1_passLetters_31 rfl 0 rfl ?_
          refine g_dup hX rfl dX1_passLetters_32 ?_
          refine g_getI (v := nI q) hX (by decide) (by decide) xCl1 3 (by decide) (by decide) kX1_22 dX1_passLetters_33 hb ?_
          refine g_iconst (v := nI 1) hX dX1_passLetters_36 (by decide) ?_
          refine g_iadd (v := nI (q + 1)) hX dX1_passLetters_37 (nI_add q 1) ?_
          refine g_putI hX (by decide) (by decide) xCl1 3 (by decide) (by decide) (by decide) kX1_22 dX1_passLetters_38 rfl rfl ?_
          refine g_goto (tgt := 5) hX dX1_passLetters_41 (by decide) ?_
          exact ih (q + 1) (xput K 2 3 (nI (q + 1))) (by omega) hin.1 ((run_in hin.1 hin.2).symm.trans hq) (hF.put (by decide)) xput_e (xput_i (by decide) h2) (xput_i (by decide) h5) (xput_i (by decide) h4) (by omega)
  exact cut5 _ p (xput I 2 4 (nI 1)) (by first | assumption | omega) (by first | assumption | omega) rfl (cxF.refl.put (by decide)) (xput_i (by decide) hp0) (xput_i (by decide) rfl) (xput_i (by decide) rfl) xput_e (Nat.lt_succ_self _)

theorem c_X1_passFigures (l : Launch) {nw sp : Nat} {I : xM} {tp : Nat → Nat} {n : Nat} {p : Nat} (ht : cbP I tp n) (hp : p ≤ n) (hp0 : I 2 3 = nI p) (hs0 : I 2 2 = nI p) (hv0 : I 2 5 = nI 0) : xC l 2 0 0 yX1_passFigures cX1_passFigures 1 none 319 [.ref 2] I (xRL nw sp) (xpW 319 (xRL nw sp) (fun J => cxF I J ∧ J 2 2 = I 2 2 ∧ ∃ q, J 2 3 = nI q ∧ p ≤ q ∧ q ≤ n ∧ run fiB tp n q = run fiB tp n p ∧ ¬ (q < n ∧ fiB (tp q) = true) ∧ J 2 4 = nI (if 3 < q - p then 4 else 2) ∧ (q - p ≤ 3 → J 2 5 = nI (valF tp p (q - p))))) := by
  refine xC_of (by decide) (Nat.le_of_ble_eq_true rfl) (fun X hXl hX hR => ?_)
  have hX : xOK X RX1 cX1_passFigures 1 2 0 0 := hX
  show G X 319 0 0 I (xRL nw sp) 0 [(0, .ref 2)] []
  have hn4 := ht.2.1
  have cut0 : ∀ (fuel : Nat) (q : Nat) (K : xM) (hq0 : p ≤ q) (hqn : q ≤ n) (hq : run fiB tp n q = run fiB tp n p) (hF : cxF I K) (hb : K 2 3 = nI q) (h2 : K 2 2 = nI p) (h5 : q - p ≤ 3 → K 2 5 = nI (valF tp p (q - p))), n - q < fuel → G X 319 0 0 K (xRL nw sp) 0 [(0, .ref 2)] [] := by
    intro fuel
    induction fuel with
    | zero => intro q K hq0 hqn hq hF hb h2 h5 hfuel; omega
    | succ fuel ih =>
      intro q K hq0 hqn hq hF hb h2 h5 hfuel
      refine g_aload_n hX dX1_passFigures_0 rfl 0 rfl ?_
      refine g_getI (v := nI q) hX (by decide) (by decide) xCl1 3 (by decide) (by decide) kX1_22 dX1_passFigures_1 hb ?_
      refine g_aload_n hX dX1_passFigures_4 rfl 0 rfl ?_
      refine g_getI (v := nI n) hX (by decide) (by decide) xCl1 1 (by decide) (by decide) kX1_15 dX1_passFigures_5 (cbP_F hF ht).1 ?_
      refine g_ci_ge (a := ((q : Nat) : Int)) (b := ((n : Nat) : Int)) (tgt := 76) hX dX1_passFigures_8 (by decide) (nI_toInt (by omega)) (nI_toInt (by omega)) (fun h8 => ?_) (fun h8 => ?_)
      · refine g_aload_n hX dX1_passFigures_76 rfl 0 rfl ?_
        refine g_aload_n hX dX1_passFigures_77 rfl 0 rfl ?_
        refine g_getI (v := nI q) hX (by decide) (by decide) xCl1 3 (by decide) (by decide) kX1_22 dX1_passFigures_78 hb ?_
        refine g_aload_n hX dX1_passFigures_81 rfl 0 rfl ?_
        refine g_getI (v := nI p) hX (by decide) (by decide) xCl1 2 (by decide) (by decide) kX1_19 dX1_passFigures_82 h2 ?_
        refine g_isub (v := nI (q - p)) hX dX1_passFigures_85 (nI_sub (show p ≤ q by omega)) ?_
        refine g_iconst (v := nI 3) hX dX1_passFigures_86 (by decide) ?_
        refine g_ci_le (a := ((q - p : Nat) : Int)) (b := (3 : Int)) (tgt := 94) hX dX1_passFigures_87 (by decide) (nI_toInt (by omega)) (by decide) (fun h87 => ?_) (fun h87 => ?_)
        · refine g_iconst (v := nI 2) hX dX1_passFigures_94 (by decide) ?_
          refine g_putI hX (by decide) (by decide) xCl1 4 (by decide) (by decide) (by decide) kX1_25 dX1_passFigures_95 rfl rfl ?_
          exact g_vret hX hR dX1_passFigures_98 (by decide) (by decide) ⟨rfl, rfl, ⟨hF.put (by decide), (xput_i (by decide) h2).trans hs0.symm, q, xput_i (by decide) hb, hq0, hqn, hq, (fun x => by first | exact h23 (hcq.mpr x.2) | (have := x.1; omega)), xput_e.trans (by first | (rw [if_pos (by omega)]) | (rw [if_neg (by omega)])), (fun z => xput_i (by decide) (h5 z))⟩, rfl⟩
        · refine g_iconst (v := nI 4) hX dX1_passFigures_90 (by decide) ?_
          refine g_goto (tgt := 95) hX dX1_passFigures_91 (by decide) ?_
          refine g_putI hX (by decide) (by decide) xCl1 4 (by decide) (by decide) (by decide) kX1_25 dX1_passFigures_95 rfl rfl ?_
          exact g_vret hX hR dX1_passFigures_98 (by decide) (by decide) ⟨rfl, rfl, ⟨hF.put (by decide), (xput_i (by decide) h2).trans hs0.symm, q, xput_i (by decide) hb, hq0, hqn, hq, (fun x => by first | exact h23 (hcq.mpr x.2) | (have := x.1; omega)), xput_e.trans (by first | (rw [if_pos (by omega)]) | (rw [if_neg (by omega)])), (fun z => xput_i (by decide) (h5 z))⟩, rfl⟩
      · have htq := (ht.2.2 q (by omega)).2
        have hcq := (cb_all (tp q) (by omega)).2.2.1
        refine g_aload_n hX dX1_passFigures_11 rfl 0 rfl ?_
        refine g_getR (j := 3) hX (by decide) (by decide) xCl1 0 (by decide) (by decide) kX1_9 dX1_passFigures_12 rfl ?_
        refine g_aload_n hX dX1_passFigures_15 rfl 0 rfl ?_
        refine g_getI (v := nI q) hX (by decide) (by decide) xCl1 3 (by decide) (by decide) kX1_22 dX1_passFigures_16 hb ?_
        refine g_bald (v := cb (tp q)) hX (by decide) (by decide) q rfl (by rw [(show xN 3 = 400 by decide)]; omega) dX1_passFigures_19 ((cbP_F hF ht).2.2 q (by omega)).1 ?_
        refine g_callSi hX (as := [.int (cb (tp q))]) (fun l => c_X1_isFigure l (I := K) (b := (cb (tp q))) ) mX1_isFigure sX1_isFigure lX1_153 rfl dX1_passFigures_20 rfl (by decide) (Nat.le_of_ble_eq_true rfl) (by decide) (by decide) ?_
        refine g_cb_eq (tgt := 76) hX dX1_passFigures_23 (by decide) (fun h23 => ?_) (fun h23 => ?_)
        · refine g_aload_n hX dX1_passFigures_76 rfl 0 rfl ?_
          refine g_aload_n hX dX1_passFigures_77 rfl 0 rfl ?_
          refine g_getI (v := nI q) hX (by decide) (by decide) xCl1 3 (by decide) (by decide) kX1_22 dX1_passFigures_78 hb ?_
          refine g_aload_n hX dX1_passFigures_81 rfl 0 rfl ?_
          refine g_getI (v := nI p) hX (by decide) (by decide) xCl1 2 (by decide) (by decide) kX1_19 dX1_passFigures_82 h2 ?_
          refine g_isub (v := nI (q - p)) hX dX1_passFigures_85 (nI_sub (show p ≤ q by omega)) ?_
          refine g_iconst (v := nI 3) hX dX1_passFigures_86 (by decide) ?_
          refine g_ci_le (a := ((q - p : Nat) : Int)) (b := (3 : Int)) (tgt := 94) hX dX1_passFigures_87 (by decide) (nI_toInt (by omega)) (by decide) (fun h87 => ?_) (fun h87 => ?_)
          · refine g_iconst (v := nI 2) hX dX1_passFigures_94 (by decide) ?_
            refine g_putI hX (by decide) (by decide) xCl1 4 (by decide) (by decide) (by decide) kX1_25 dX1_passFigures_95 rfl rfl ?_
            exact g_vret hX hR dX1_passFigures_98 (by decide) (by decide) ⟨rfl, rfl, ⟨hF.put (by decide), (xput_i (by decide) h2).trans hs0.symm, q, xput_i (by decide) hb, hq0, hqn, hq, (fun x => by first | exact h23 (hcq.mpr x.2) | (have := x.1; omega)), xput_e.trans (by first | (rw [if_pos (by omega)]) | (rw [if_neg (by omega)])), (fun z => xput_i (by decide) (h5 z))⟩, rfl⟩
          · refine g_iconst (v := nI 4) hX dX1_passFigures_90 (by decide) ?_
            refine g_goto (tgt := 95) hX dX1_passFigures_91 (by decide) ?_
            refine g_putI hX (by decide) (by decide) xCl1 4 (by decide) (by decide) (by decide) kX1_25 dX1_passFigures_95 rfl rfl ?_
            exact g_vret hX hR dX1_passFigures_98 (by decide) (by decide) ⟨rfl, rfl, ⟨hF.put (by decide), (xput_i (by decide) h2).trans hs0.symm, q, xput_i (by decide) hb, hq0, hqn, hq, (fun x => by first | exact h23 (hcq.mpr x.2) | (have := x.1; omega)), xput_e.trans (by first | (rw [if_pos (by omega)]) | (rw [if_neg (by omega)])), (fun z => xput_i (by decide) (h5 z))⟩, rfl⟩
        · have hin : q < n ∧ fiB (tp q) = true := ⟨by omega, hcq.mp h23⟩
          have hfq := fiB_t.mp hin.2
          refine g_aload_n hX dX1_passFigures_26 rfl 0 rfl ?_
          refine g_getI (v := nI q) hX (by decide) (by decide) xCl1 3 (by decide) (by decide) kX1_22 dX1_passFigures_27 hb ?_
          refine g_aload_n hX dX1_passFigures_30 rfl 0 rfl ?_
          refine g_getI (v := nI p) hX (by decide) (by decide) xCl1 2 (by decide) (by decide) kX1_19 dX1_passFigures_31 h2 ?_
          refine g_isub (v := nI (q - p)) hX dX1_passFigures_34 (nI_sub (show p ≤ q by omega)) ?_
          refine g_iconst (v := nI 3) hX dX1_passFigures_35 (by decide) ?_
          refine g_ci_ge (a := ((q - p : Nat) : Int)) (b := (3 : Int)) (tgt := 63) hX dX1_passFigures_36 (by decide) (nI_toInt (by omega)) (by decide) (fun h36 => ?_) (fun h36 => ?_)
          · refine g_aload_n hX dX1_passFigures_63 rfl 0 rfl ?_
            refine g_dup hX rfl dX1_passFigures_64 ?_
            refine g_getI (v := nI q) hX (by decide) (by decide) xCl1 3 (by decide) (by decide) kX1_22 dX1_passFigures_65 hb ?_
            refine g_iconst (v := nI 1) hX dX1_passFigures_68 (by decide) ?_
            refine g_iadd (v := nI (q + 1)) hX dX1_passFigures_69 (nI_add q 1) ?_
            refine g_putI hX (by decide) (by decide) xCl1 3 (by decide) (by decide) (by decide) kX1_22 dX1_passFigures_70 rfl rfl ?_
            refine g_goto (tgt := 0) hX dX1_passFigures_73 (by decide) ?_
            exact ih (q + 1) (xput K 2 3 (nI (q + 1))) (by omega) hin.1 ((run_in hin.1 hin.2).symm.trans hq) (by first | exact (hF.put (by decide)).put (by decide) | exact hF.put (by decide)) xput_e (by first | exact xput_i (by decide) (xput_i (by decide) h2) | exact xput_i (by decide) h2) (fun z => by first | (exfalso; omega) | (refine xput_i (by decide) (xput_e.trans (congrArg nI ?_)); rw [show q + 1 - p = (q - p) + 1 by omega, valF, show p + (q - p) = q by omega, Nat.mul_comm])) (by omega)
          · refine g_aload_n hX dX1_passFigures_39 rfl 0 rfl ?_
            refine g_aload_n hX dX1_passFigures_40 rfl 0 rfl ?_
            refine g_getI (v := nI (valF tp p (q - p))) hX (by decide) (by decide) xCl1 5 (by decide) (by decide) kX1_28 dX1_passFigures_41 (h5 (by omega)) ?_
            refine g_bipush (v := nI 10) hX dX1_passFigures_44 (by decide) ?_
            refine g_imul (v := nI ((valF tp p (q - p)) * 10)) hX dX1_passFigures_46 (nI_mul (valF tp p (q - p)) 10) ?_
            refine g_aload_n hX dX1_passFigures_47 rfl 0 rfl ?_
            refine g_getR (j := 3) hX (by decide) (by decide) xCl1 0 (by decide) (by decide) kX1_9 dX1_passFigures_48 rfl ?_
            refine g_aload_n hX dX1_passFigures_51 rfl 0 rfl ?_
            refine g_getI (v := nI q) hX (by decide) (by decide) xCl1 3 (by decide) (by decide) kX1_22 dX1_passFigures_52 hb ?_
            refine g_bald (v := nI (tp q)) hX (by decide) (by decide) q rfl (by rw [(show xN 3 = 400 by decide)]; omega) dX1_passFigures_55 (((cbP_F hF ht).2.2 q (by omega)).1.trans (cb_low _ (by omega))) ?_
            refine g_iadd (v := nI (((valF tp p (q - p)) * 10) + (tp q))) hX dX1_passFigures_56 (nI_add ((valF tp p (q - p)) * 10) (tp q)) ?_
            refine g_bipush (v := nI 48) hX dX1_passFigures_57 (by decide) ?_
            refine g_isub (v := nI ((((valF tp p (q - p)) * 10) + (tp q)) - 48)) hX dX1_passFigures_59 (nI_sub (show 48 ≤ ((valF tp p (q - p)) * 10) + (tp q) by omega)) ?_
            refine g_putI hX (by decide) (by decide) xCl1 5 (by decide) (by decide) (by decide) kX1_28 dX1_passFigures_60 rfl rfl ?_
            refine g_aload_n hX dX1_passFigures_63 rfl 0 rfl ?_
            refine g_dup hX rfl dX1_passFigures_64 ?_
            refine g_getI (v := nI q) hX (by decide) (by decide) xCl1 3 (by decide) (by decide) kX1_22 dX1_passFigures_65 (xput_i (by decide) hb) ?_
            refine g_iconst (v := nI 1) hX dX1_passFigures_68 (by decide) ?_
            refine g_iadd (v := nI (q + 1)) hX dX1_passFigures_69 (nI_add q 1) ?_
            refine g_putI hX (by decide) (by decide) xCl1 3 (by decide) (by decide) (by decide) kX1_22 dX1_passFigures_70 rfl rfl ?_
            refine g_goto (tgt := 0) hX dX1_passFigures_73 (by decide) ?_
            exact ih (q + 1) (xput (xput K 2 5 (nI ((((valF tp p (q - p)) * 10) + (tp q)) - 48))) 2 3 (nI (q + 1))) (by omega) hin.1 ((run_in hin.1 hin.2).symm.trans hq) (by first | exact (hF.put (by decide)).put (by decide) | exact hF.put (by decide)) xput_e (by first | exact xput_i (by decide) (xput_i (by decide) h2) | exact xput_i (by decide) h2) (fun z => by first | (exfalso; omega) | (refine xput_i (by decide) (xput_e.trans (congrArg nI ?_)); rw [show q + 1 - p = (q - p) + 1 by omega, valF, show p + (q - p) = q by omega, Nat.mul_comm])) (by omega)
  exact cut0 _ p I (by first | assumption | omega) (by first | assumption | omega) rfl cxF.refl hp0 hs0 (fun _ => by rw [Nat.sub_self]; exact hv0) (Nat.lt_succ_self _)

theorem c_X1_advance (l : Launch) {nw sp : Nat} {I : xM} {tp : Nat → Nat} {n : Nat} {p0 : Nat} (ht : cbP I tp n) (hp0 : p0 ≤ n) (hc0 : I 2 3 = nI p0) : xC l 3 0 0 yX1_advance cX1_advance 1 none 319 [.ref 2] I (xRL nw sp) (xpW 319 (xRL nw sp) (fun J => cxJ tp I J (lx tp n p0))) := by
  refine xC_of (by decide) (Nat.le_of_ble_eq_true rfl) (fun X hXl hX hR => ?_)
  have hX : xOK X RX1 cX1_advance 1 3 0 0 := hX
  show G X 319 0 0 I (xRL nw sp) 0 [(0, .ref 2)] []
  have hn4 := ht.2.1
  have cut0 : ∀ (fuel : Nat) (p : Nat) (J : xM) (hp : p ≤ n) (hr : run blB tp n p = run blB tp n p0) (hF : cxF I J) (hc : J 2 3 = nI p), n - p < fuel → G X 319 0 0 J (xRL nw sp) 0 [(0, .ref 2)] [] := by
    intro fuel
    induction fuel with
    | zero => intro p J hp hr hF hc hfuel; omega
    | succ fuel ih =>
      intro p J hp hr hF hc hfuel
      refine g_aload_n hX dX1_advance_0 rfl 0 rfl ?_
      refine g_getI (v := nI p) hX (by decide) (by decide) xCl1 3 (by decide) (by decide) kX1_22 dX1_advance_1 hc ?_
      refine g_aload_n hX dX1_advance_4 rfl 0 rfl ?_
      refine g_getI (v := nI n) hX (by decide) (by decide) xCl1 1 (by decide) (by decide) kX1_15 dX1_advance_5 (cbP_F hF ht).1 ?_
      refine g_ci_ge (a := ((p : Nat) : Int)) (b := ((n : Nat) : Int)) (tgt := 39) hX dX1_advance_8 (by decide) (nI_toInt (by omega)) (nI_toInt (by omega)) (fun h8 => ?_) (fun h8 => ?_)
      · have hb0 : ¬ (p < n ∧ blB (tp p) = true) := fun x => by omega
        refine g_aload_n hX dX1_advance_39 rfl 0 rfl ?_
        refine g_aload_n hX dX1_advance_40 rfl 0 rfl ?_
        refine g_getI (v := nI p) hX (by decide) (by decide) xCl1 3 (by decide) (by decide) kX1_22 dX1_advance_41 hc ?_
        refine g_putI hX (by decide) (by decide) xCl1 2 (by decide) (by decide) (by decide) kX1_19 dX1_advance_44 rfl rfl ?_
        refine g_aload_n hX dX1_advance_47 rfl 0 rfl ?_
        refine g_iconst (v := nI 0) hX dX1_advance_48 (by decide) ?_
        refine g_putI hX (by decide) (by decide) xCl1 5 (by decide) (by decide) (by decide) kX1_28 dX1_advance_49 rfl rfl ?_
        refine g_aload_n hX dX1_advance_52 rfl 0 rfl ?_
        refine g_getI (v := nI p) hX (by decide) (by decide) xCl1 3 (by decide) (by decide) kX1_22 dX1_advance_53 (xput_i (by decide) (xput_i (by decide) hc)) ?_
        refine g_aload_n hX dX1_advance_56 rfl 0 rfl ?_
        refine g_getI (v := nI n) hX (by decide) (by decide) xCl1 1 (by decide) (by decide) kX1_15 dX1_advance_57 (xput_i (by decide) (xput_i (by decide) (cbP_F hF ht).1)) ?_
        refine g_ci_lt (a := ((p : Nat) : Int)) (b := ((n : Nat) : Int)) (tgt := 71) hX dX1_advance_60 (by decide) (nI_toInt (by omega)) (nI_toInt (by omega)) (fun h60 => ?_) (fun h60 => ?_)
        · have htp := (ht.2.2 p (by omega)).2
          have hcp := cb_all (tp p) (by omega)
          refine g_aload_n hX dX1_advance_71 rfl 0 rfl ?_
          refine g_getR (j := 3) hX (by decide) (by decide) xCl1 0 (by decide) (by decide) kX1_9 dX1_advance_72 rfl ?_
          refine g_aload_n hX dX1_advance_75 rfl 0 rfl ?_
          refine g_getI (v := nI p) hX (by decide) (by decide) xCl1 3 (by decide) (by decide) kX1_22 dX1_advance_76 (xput_i (by decide) (xput_i (by decide) hc)) ?_
          refine g_bald (v := cb (tp p)) hX (by decide) (by decide) p rfl (by rw [(show xN 3 = 400 by decide)]; omega) dX1_advance_79 ((cbP_F hF ht).2.2 p (by omega)).1 ?_
          refine g_callSi hX (as := [.int (cb (tp p))]) (fun l => c_X1_isLetter l (I := (xput (xput J 2 2 (nI p)) 2 5 (nI 0))) (b := (cb (tp p))) ) mX1_isLetter sX1_isLetter lX1_147 rfl dX1_advance_80 rfl (by decide) (Nat.le_of_ble_eq_true rfl) (by decide) (by decide) ?_
          refine g_cb_eq (tgt := 93) hX dX1_advance_83 (by decide) (fun h83 => ?_) (fun h83 => ?_)
          · have h83b : ¬ (p < n ∧ leB (tp p) = true) := fun x => h83 (hcp.2.1.mpr x.2)
            refine g_aload_n hX dX1_advance_93 rfl 0 rfl ?_
            refine g_getR (j := 3) hX (by decide) (by decide) xCl1 0 (by decide) (by decide) kX1_9 dX1_advance_94 rfl ?_
            refine g_aload_n hX dX1_advance_97 rfl 0 rfl ?_
            refine g_getI (v := nI p) hX (by decide) (by decide) xCl1 3 (by decide) (by decide) kX1_22 dX1_advance_98 (xput_i (by decide) (xput_i (by decide) hc)) ?_
            refine g_bald (v := cb (tp p)) hX (by decide) (by decide) p rfl (by rw [(show xN 3 = 400 by decide)]; omega) dX1_advance_101 ((cbP_F hF ht).2.2 p (by omega)).1 ?_
            refine g_callSi hX (as := [.int (cb (tp p))]) (fun l => c_X1_isFigure l (I := (xput (xput J 2 2 (nI p)) 2 5 (nI 0))) (b := (cb (tp p))) ) mX1_isFigure sX1_isFigure lX1_153 rfl dX1_advance_102 rfl (by decide) (Nat.le_of_ble_eq_true rfl) (by decide) (by decide) ?_
            refine g_cb_eq (tgt := 115) hX dX1_advance_105 (by decide) (fun h105 => ?_) (fun h105 => ?_)
            · have h105b : ¬ (p < n ∧ fiB (tp p) = true) := fun x => h105 (hcp.2.2.1.mpr x.2)
              refine g_aload_n hX dX1_advance_115 rfl 0 rfl ?_
              refine g_aload_n hX dX1_advance_116 rfl 0 rfl ?_
              refine g_getR (j := 3) hX (by decide) (by decide) xCl1 0 (by decide) (by decide) kX1_9 dX1_advance_117 rfl ?_
              refine g_aload_n hX dX1_advance_120 rfl 0 rfl ?_
              refine g_getI (v := nI p) hX (by decide) (by decide) xCl1 3 (by decide) (by decide) kX1_22 dX1_advance_121 (xput_i (by decide) (xput_i (by decide) hc)) ?_
              refine g_bald (v := cb (tp p)) hX (by decide) (by decide) p rfl (by rw [(show xN 3 = 400 by decide)]; omega) dX1_advance_124 ((cbP_F hF ht).2.2 p (by omega)).1 ?_
              refine g_bipush (v := nI 59) hX dX1_advance_125 (by decide) ?_
              refine g_ci_ne (a := (cb (tp p)).toInt) (b := (59 : Int)) (tgt := 134) hX dX1_advance_127 (by decide) rfl (by decide) (fun h127 => ?_) (fun h127 => ?_)
              · have h59 : tp p ≠ 59 := fun x => h127 (hcp.2.2.2.mpr x)
                refine g_iconst (v := nI 4) hX dX1_advance_134 (by decide) ?_
                refine g_putI hX (by decide) (by decide) xCl1 4 (by decide) (by decide) (by decide) kX1_25 dX1_advance_135 rfl rfl ?_
                refine g_aload_n hX dX1_advance_138 rfl 0 rfl ?_
                refine g_dup hX rfl dX1_advance_139 ?_
                refine g_getI (v := nI p) hX (by decide) (by decide) xCl1 3 (by decide) (by decide) kX1_22 dX1_advance_140 (xput_i (by decide) (xput_i (by decide) (xput_i (by decide) hc))) ?_
                refine g_iconst (v := nI 1) hX dX1_advance_143 (by decide) ?_
                refine g_iadd (v := nI (p + 1)) hX dX1_advance_144 (nI_add p 1) ?_
                refine g_putI hX (by decide) (by decide) xCl1 3 (by decide) (by decide) (by decide) kX1_22 dX1_advance_145 rfl rfl ?_
                exact g_vret hX hR dX1_advance_148 (by decide) (by decide) ⟨rfl, rfl, (by first | (rw [lx_0 hr hb0 (by omega)]; exact ⟨(cxF.put (cxF.put (cxF.put (cxF.put hF (by decide)) (by decide)) (by decide)) (by decide)), (xput_i (by decide) (xput_i (by decide) (xput_i (by decide) xput_e))), xput_e, (xput_i (by decide) xput_e), fun z => absurd (show (0 : Nat) = 2 from z) (by decide)⟩) | (rw [lx_3 hr hb0 (by omega) h83b h105b (by omega)]; exact ⟨(cxF.put (cxF.put (cxF.put (cxF.put hF (by decide)) (by decide)) (by decide)) (by decide)), (xput_i (by decide) (xput_i (by decide) (xput_i (by decide) xput_e))), xput_e, (xput_i (by decide) xput_e), fun z => absurd (show (3 : Nat) = 2 from z) (by decide)⟩) | (rw [lx_4b hr hb0 (by omega) h83b h105b (by omega)]; exact ⟨(cxF.put (cxF.put (cxF.put (cxF.put hF (by decide)) (by decide)) (by decide)) (by decide)), (xput_i (by decide) (xput_i (by decide) (xput_i (by decide) xput_e))), xput_e, (xput_i (by decide) xput_e), fun z => absurd (show (4 : Nat) = 2 from z) (by decide)⟩)), rfl⟩
              · have h59 : tp p = 59 := hcp.2.2.2.mp h127
                refine g_iconst (v := nI 3) hX dX1_advance_130 (by decide) ?_
                refine g_goto (tgt := 135) hX dX1_advance_131 (by decide) ?_
                refine g_putI hX (by decide) (by decide) xCl1 4 (by decide) (by decide) (by decide) kX1_25 dX1_advance_135 rfl rfl ?_
                refine g_aload_n hX dX1_advance_138 rfl 0 rfl ?_
                refine g_dup hX rfl dX1_advance_139 ?_
                refine g_getI (v := nI p) hX (by decide) (by decide) xCl1 3 (by decide) (by decide) kX1_22 dX1_advance_140 (xput_i (by decide) (xput_i (by decide) (xput_i (by decide) hc))) ?_
                refine g_iconst (v := nI 1) hX dX1_advance_143 (by decide) ?_
                refine g_iadd (v := nI (p + 1)) hX dX1_advance_144 (nI_add p 1) ?_
                refine g_putI hX (by decide) (by decide) xCl1 3 (by decide) (by decide) (by decide) kX1_22 dX1_advance_145 rfl rfl ?_
                exact g_vret hX hR dX1_advance_148 (by decide) (by decide) ⟨rfl, rfl, (by first | (rw [lx_0 hr hb0 (by omega)]; exact ⟨(cxF.put (cxF.put (cxF.put (cxF.put hF (by decide)) (by decide)) (by decide)) (by decide)), (xput_i (by decide) (xput_i (by decide) (xput_i (by decide) xput_e))), xput_e, (xput_i (by decide) xput_e), fun z => absurd (show (0 : Nat) = 2 from z) (by decide)⟩) | (rw [lx_3 hr hb0 (by omega) h83b h105b (by omega)]; exact ⟨(cxF.put (cxF.put (cxF.put (cxF.put hF (by decide)) (by decide)) (by decide)) (by decide)), (xput_i (by decide) (xput_i (by decide) (xput_i (by decide) xput_e))), xput_e, (xput_i (by decide) xput_e), fun z => absurd (show (3 : Nat) = 2 from z) (by decide)⟩) | (rw [lx_4b hr hb0 (by omega) h83b h105b (by omega)]; exact ⟨(cxF.put (cxF.put (cxF.put (cxF.put hF (by decide)) (by decide)) (by decide)) (by decide)), (xput_i (by decide) (xput_i (by decide) (xput_i (by decide) xput_e))), xput_e, (xput_i (by decide) xput_e), fun z => absurd (show (4 : Nat) = 2 from z) (by decide)⟩)), rfl⟩
            · have h105b : p < n ∧ fiB (tp p) = true := ⟨by omega, hcp.2.2.1.mp h105⟩
              refine g_aload_n hX dX1_advance_108 rfl 0 rfl ?_
              refine g_callVrv hX (as := []) (fun l => c_X1_passFigures l (I := (xput (xput J 2 2 (nI p)) 2 5 (nI 0))) (tp := tp) (n := n) (p := p) (ht := (cbP_F ((hF.put (by decide)).put (by decide)) ht)) (hp := hp) (hp0 := (xput_i (by decide) (xput_i (by decide) hc))) (hs0 := (xput_i (by decide) xput_e)) (hv0 := xput_e)) mX1_passFigures vX1_passFigures lX1_156 (by decide) (by decide) xCl1 rfl rfl dX1_advance_109 rfl (by decide) (Nat.le_of_ble_eq_true rfl) (by decide) (by decide) (fun K hK => ?_)
              obtain ⟨k0, k2, q, kb, kp, kqn, kq, kn, k4, kv⟩ := hK
              have k0 := ((hF.put (by decide)).put (by decide)).trans k0
              have k2 := k2.trans (xput_i (by decide) xput_e)
              refine g_goto (tgt := 148) hX dX1_advance_112 (by decide) ?_
              exact g_vret hX hR dX1_advance_148 (by decide) (by decide) ⟨rfl, rfl, (by first | (rw [lx_1 hr hb0 h83b kq kn]; exact ⟨k0, k2, kb, k4, fun z => absurd (show (1 : Nat) = 2 from z) (by decide)⟩) | (rcases Nat.lt_or_ge 3 (q - p) with h3 | h3; (rw [lx_4a hr hb0 h83b h105b kq kn (by omega)]; exact ⟨k0, k2, kb, k4.trans (by rw [if_pos (by omega)]), fun z => absurd (show (4 : Nat) = 2 from z) (by decide)⟩); (rw [lx_2 hr hb0 h83b h105b kq kn (by omega)]; exact ⟨k0, k2, kb, k4.trans (by rw [if_neg (by omega)]), fun _ => kv (by omega)⟩))), rfl⟩
          · have h83b : p < n ∧ leB (tp p) = true := ⟨by omega, hcp.2.1.mp h83⟩
            refine g_aload_n hX dX1_advance_86 rfl 0 rfl ?_
            refine g_callVrv hX (as := []) (fun l => c_X1_passLetters l (I := (xput (xput J 2 2 (nI p)) 2 5 (nI 0))) (tp := tp) (n := n) (p := p) (ht := (cbP_F ((hF.put (by decide)).put (by decide)) ht)) (hp := hp) (hp0 := (xput_i (by decide) (xput_i (by decide) hc)))) mX1_passLetters vX1_passLetters lX1_150 (by decide) (by decide) xCl1 rfl rfl dX1_advance_87 rfl (by decide) (Nat.le_of_ble_eq_true rfl) (by decide) (by decide) (fun K hK => ?_)
            obtain ⟨k0, k2, k5, k4, q, kb, kp, kqn, kq, kn⟩ := hK
            have k0 := ((hF.put (by decide)).put (by decide)).trans k0
            have k2 := k2.trans (xput_i (by decide) xput_e)
            refine g_goto (tgt := 148) hX dX1_advance_90 (by decide) ?_
            exact g_vret hX hR dX1_advance_148 (by decide) (by decide) ⟨rfl, rfl, (by first | (rw [lx_1 hr hb0 h83b kq kn]; exact ⟨k0, k2, kb, k4, fun z => absurd (show (1 : Nat) = 2 from z) (by decide)⟩) | (rcases Nat.lt_or_ge 3 (q - p) with h3 | h3; (rw [lx_4a hr hb0 h83b h105b kq kn (by omega)]; exact ⟨k0, k2, kb, k4.trans (by rw [if_pos (by omega)]), fun z => absurd (show (4 : Nat) = 2 from z) (by decide)⟩); (rw [lx_2 hr hb0 h83b h105b kq kn (by omega)]; exact ⟨k0, k2, kb, k4.trans (by rw [if_neg (by omega)]), fun _ => kv (by omega)⟩))), rfl⟩
        · refine g_aload_n hX dX1_advance_63 rfl 0 rfl ?_
          refine g_iconst (v := nI 0) hX dX1_advance_64 (by decide) ?_
          refine g_putI hX (by decide) (by decide) xCl1 4 (by decide) (by decide) (by decide) kX1_25 dX1_advance_65 rfl rfl ?_
          refine g_goto (tgt := 148) hX dX1_advance_68 (by decide) ?_
          exact g_vret hX hR dX1_advance_148 (by decide) (by decide) ⟨rfl, rfl, (by first | (rw [lx_0 hr hb0 (by omega)]; exact ⟨(cxF.put (cxF.put (cxF.put hF (by decide)) (by decide)) (by decide)), (xput_i (by decide) (xput_i (by decide) xput_e)), (xput_i (by decide) (xput_i (by decide) (xput_i (by decide) hc))), xput_e, fun z => absurd (show (0 : Nat) = 2 from z) (by decide)⟩) | (rw [lx_3 hr hb0 (by omega) h83b h105b (by omega)]; exact ⟨(cxF.put (cxF.put (cxF.put hF (by decide)) (by decide)) (by decide)), (xput_i (by decide) (xput_i (by decide) xput_e)), (xput_i (by decide) (xput_i (by decide) (xput_i (by decide) hc))), xput_e, fun z => absurd (show (3 : Nat) = 2 from z) (by decide)⟩) | (rw [lx_4b hr hb0 (by omega) h83b h105b (by omega)]; exact ⟨(cxF.put (cxF.put (cxF.put hF (by decide)) (by decide)) (by decide)), (xput_i (by decide) (xput_i (by decide) xput_e)), (xput_i (by decide) (xput_i (by decide) (xput_i (by decide) hc))), xput_e, fun z => absurd (show (4 : Nat) = 2 from z) (by decide)⟩)), rfl⟩
      · have htp := (ht.2.2 p (by omega)).2
        have hcp := cb_all (tp p) (by omega)
        refine g_aload_n hX dX1_advance_11 rfl 0 rfl ?_
        refine g_getR (j := 3) hX (by decide) (by decide) xCl1 0 (by decide) (by decide) kX1_9 dX1_advance_12 rfl ?_
        refine g_aload_n hX dX1_advance_15 rfl 0 rfl ?_
        refine g_getI (v := nI p) hX (by decide) (by decide) xCl1 3 (by decide) (by decide) kX1_22 dX1_advance_16 hc ?_
        refine g_bald (v := cb (tp p)) hX (by decide) (by decide) p rfl (by rw [(show xN 3 = 400 by decide)]; omega) dX1_advance_19 ((cbP_F hF ht).2.2 p (by omega)).1 ?_
        refine g_callSi hX (as := [.int (cb (tp p))]) (fun l => c_X1_isBlank l (I := J) (b := (cb (tp p))) ) mX1_isBlank sX1_isBlank lX1_143 rfl dX1_advance_20 rfl (by decide) (Nat.le_of_ble_eq_true rfl) (by decide) (by decide) ?_
        refine g_cb_eq (tgt := 39) hX dX1_advance_23 (by decide) (fun h23 => ?_) (fun h23 => ?_)
        · have hb0 : ¬ (p < n ∧ blB (tp p) = true) := fun x => h23 (hcp.1.mpr x.2)
          refine g_aload_n hX dX1_advance_39 rfl 0 rfl ?_
          refine g_aload_n hX dX1_advance_40 rfl 0 rfl ?_
          refine g_getI (v := nI p) hX (by decide) (by decide) xCl1 3 (by decide) (by decide) kX1_22 dX1_advance_41 hc ?_
          refine g_putI hX (by decide) (by decide) xCl1 2 (by decide) (by decide) (by decide) kX1_19 dX1_advance_44 rfl rfl ?_
          refine g_aload_n hX dX1_advance_47 rfl 0 rfl ?_
          refine g_iconst (v := nI 0) hX dX1_advance_48 (by decide) ?_
          refine g_putI hX (by decide) (by decide) xCl1 5 (by decide) (by decide) (by decide) kX1_28 dX1_advance_49 rfl rfl ?_
          refine g_aload_n hX dX1_advance_52 rfl 0 rfl ?_
          refine g_getI (v := nI p) hX (by decide) (by decide) xCl1 3 (by decide) (by decide) kX1_22 dX1_advance_53 (xput_i (by decide) (xput_i (by decide) hc)) ?_
          refine g_aload_n hX dX1_advance_56 rfl 0 rfl ?_
          refine g_getI (v := nI n) hX (by decide) (by decide) xCl1 1 (by decide) (by decide) kX1_15 dX1_advance_57 (xput_i (by decide) (xput_i (by decide) (cbP_F hF ht).1)) ?_
          refine g_ci_lt (a := ((p : Nat) : Int)) (b := ((n : Nat) : Int)) (tgt := 71) hX dX1_advance_60 (by decide) (nI_toInt (by omega)) (nI_toInt (by omega)) (fun h60 => ?_) (fun h60 => ?_)
          · have htp := (ht.2.2 p (by omega)).2
            have hcp := cb_all (tp p) (by omega)
            refine g_aload_n hX dX1_advance_71 rfl 0 rfl ?_
            refine g_getR (j := 3) hX (by decide) (by decide) xCl1 0 (by decide) (by decide) kX1_9 dX1_advance_72 rfl ?_
            refine g_aload_n hX dX1_advance_75 rfl 0 rfl ?_
            refine g_getI (v := nI p) hX (by decide) (by decide) xCl1 3 (by decide) (by decide) kX1_22 dX1_advance_76 (xput_i (by decide) (xput_i (by decide) hc)) ?_
            refine g_bald (v := cb (tp p)) hX (by decide) (by decide) p rfl (by rw [(show xN 3 = 400 by decide)]; omega) dX1_advance_79 ((cbP_F hF ht).2.2 p (by omega)).1 ?_
            refine g_callSi hX (as := [.int (cb (tp p))]) (fun l => c_X1_isLetter l (I := (xput (xput J 2 2 (nI p)) 2 5 (nI 0))) (b := (cb (tp p))) ) mX1_isLetter sX1_isLetter lX1_147 rfl dX1_advance_80 rfl (by decide) (Nat.le_of_ble_eq_true rfl) (by decide) (by decide) ?_
            refine g_cb_eq (tgt := 93) hX dX1_advance_83 (by decide) (fun h83 => ?_) (fun h83 => ?_)
            · have h83b : ¬ (p < n ∧ leB (tp p) = true) := fun x => h83 (hcp.2.1.mpr x.2)
              refine g_aload_n hX dX1_advance_93 rfl 0 rfl ?_
              refine g_getR (j := 3) hX (by decide) (by decide) xCl1 0 (by decide) (by decide) kX1_9 dX1_advance_94 rfl ?_
              refine g_aload_n hX dX1_advance_97 rfl 0 rfl ?_
              refine g_getI (v := nI p) hX (by decide) (by decide) xCl1 3 (by decide) (by decide) kX1_22 dX1_advance_98 (xput_i (by decide) (xput_i (by decide) hc)) ?_
              refine g_bald (v := cb (tp p)) hX (by decide) (by decide) p rfl (by rw [(show xN 3 = 400 by decide)]; omega) dX1_advance_101 ((cbP_F hF ht).2.2 p (by omega)).1 ?_
              refine g_callSi hX (as := [.int (cb (tp p))]) (fun l => c_X1_isFigure l (I := (xput (xput J 2 2 (nI p)) 2 5 (nI 0))) (b := (cb (tp p))) ) mX1_isFigure sX1_isFigure lX1_153 rfl dX1_advance_102 rfl (by decide) (Nat.le_of_ble_eq_true rfl) (by decide) (by decide) ?_
              refine g_cb_eq (tgt := 115) hX dX1_advance_105 (by decide) (fun h105 => ?_) (fun h105 => ?_)
              · have h105b : ¬ (p < n ∧ fiB (tp p) = true) := fun x => h105 (hcp.2.2.1.mpr x.2)
                refine g_aload_n hX dX1_advance_115 rfl 0 rfl ?_
                refine g_aload_n hX dX1_advance_116 rfl 0 rfl ?_
                refine g_getR (j := 3) hX (by decide) (by decide) xCl1 0 (by decide) (by decide) kX1_9 dX1_advance_117 rfl ?_
                refine g_aload_n hX dX1_advance_120 rfl 0 rfl ?_
                refine g_getI (v := nI p) hX (by decide) (by decide) xCl1 3 (by decide) (by decide) kX1_22 dX1_advance_121 (xput_i (by decide) (xput_i (by decide) hc)) ?_
                refine g_bald (v := cb (tp p)) hX (by decide) (by decide) p rfl (by rw [(show xN 3 = 400 by decide)]; omega) dX1_advance_124 ((cbP_F hF ht).2.2 p (by omega)).1 ?_
                refine g_bipush (v := nI 59) hX dX1_advance_125 (by decide) ?_
                refine g_ci_ne (a := (cb (tp p)).toInt) (b := (59 : Int)) (tgt := 134) hX dX1_advance_127 (by decide) rfl (by decide) (fun h127 => ?_) (fun h127 => ?_)
                · have h59 : tp p ≠ 59 := fun x => h127 (hcp.2.2.2.mpr x)
                  refine g_iconst (v := nI 4) hX dX1_advance_134 (by decide) ?_
                  refine g_putI hX (by decide) (by decide) xCl1 4 (by decide) (by decide) (by decide) kX1_25 dX1_advance_135 rfl rfl ?_
                  refine g_aload_n hX dX1_advance_138 rfl 0 rfl ?_
                  refine g_dup hX rfl dX1_advance_139 ?_
                  refine g_getI (v := nI p) hX (by decide) (by decide) xCl1 3 (by decide) (by decide) kX1_22 dX1_advance_140 (xput_i (by decide) (xput_i (by decide) (xput_i (by decide) hc))) ?_
                  refine g_iconst (v := nI 1) hX dX1_advance_143 (by decide) ?_
                  refine g_iadd (v := nI (p + 1)) hX dX1_advance_144 (nI_add p 1) ?_
                  refine g_putI hX (by decide) (by decide) xCl1 3 (by decide) (by decide) (by decide) kX1_22 dX1_advance_145 rfl rfl ?_
                  exact g_vret hX hR dX1_advance_148 (by decide) (by decide) ⟨rfl, rfl, (by first | (rw [lx_0 hr hb0 (by omega)]; exact ⟨(cxF.put (cxF.put (cxF.put (cxF.put hF (by decide)) (by decide)) (by decide)) (by decide)), (xput_i (by decide) (xput_i (by decide) (xput_i (by decide) xput_e))), xput_e, (xput_i (by decide) xput_e), fun z => absurd (show (0 : Nat) = 2 from z) (by decide)⟩) | (rw [lx_3 hr hb0 (by omega) h83b h105b (by omega)]; exact ⟨(cxF.put (cxF.put (cxF.put (cxF.put hF (by decide)) (by decide)) (by decide)) (by decide)), (xput_i (by decide) (xput_i (by decide) (xput_i (by decide) xput_e))), xput_e, (xput_i (by decide) xput_e), fun z => absurd (show (3 : Nat) = 2 from z) (by decide)⟩) | (rw [lx_4b hr hb0 (by omega) h83b h105b (by omega)]; exact ⟨(cxF.put (cxF.put (cxF.put (cxF.put hF (by decide)) (by decide)) (by decide)) (by decide)), (xput_i (by decide) (xput_i (by decide) (xput_i (by decide) xput_e))), xput_e, (xput_i (by decide) xput_e), fun z => absurd (show (4 : Nat) = 2 from z) (by decide)⟩)), rfl⟩
                · have h59 : tp p = 59 := hcp.2.2.2.mp h127
                  refine g_iconst (v := nI 3) hX dX1_advance_130 (by decide) ?_
                  refine g_goto (tgt := 135) hX dX1_advance_131 (by decide) ?_
                  refine g_putI hX (by decide) (by decide) xCl1 4 (by decide) (by decide) (by decide) kX1_25 dX1_advance_135 rfl rfl ?_
                  refine g_aload_n hX dX1_advance_138 rfl 0 rfl ?_
                  refine g_dup hX rfl dX1_advance_139 ?_
                  refine g_getI (v := nI p) hX (by decide) (by decide) xCl1 3 (by decide) (by decide) kX1_22 dX1_advance_140 (xput_i (by decide) (xput_i (by decide) (xput_i (by decide) hc))) ?_
                  refine g_iconst (v := nI 1) hX dX1_advance_143 (by decide) ?_
                  refine g_iadd (v := nI (p + 1)) hX dX1_advance_144 (nI_add p 1) ?_
                  refine g_putI hX (by decide) (by decide) xCl1 3 (by decide) (by decide) (by decide) kX1_22 dX1_advance_145 rfl rfl ?_
                  exact g_vret hX hR dX1_advance_148 (by decide) (by decide) ⟨rfl, rfl, (by first | (rw [lx_0 hr hb0 (by omega)]; exact ⟨(cxF.put (cxF.put (cxF.put (cxF.put hF (by decide)) (by decide)) (by decide)) (by decide)), (xput_i (by decide) (xput_i (by decide) (xput_i (by decide) xput_e))), xput_e, (xput_i (by decide) xput_e), fun z => absurd (show (0 : Nat) = 2 from z) (by decide)⟩) | (rw [lx_3 hr hb0 (by omega) h83b h105b (by omega)]; exact ⟨(cxF.put (cxF.put (cxF.put (cxF.put hF (by decide)) (by decide)) (by decide)) (by decide)), (xput_i (by decide) (xput_i (by decide) (xput_i (by decide) xput_e))), xput_e, (xput_i (by decide) xput_e), fun z => absurd (show (3 : Nat) = 2 from z) (by decide)⟩) | (rw [lx_4b hr hb0 (by omega) h83b h105b (by omega)]; exact ⟨(cxF.put (cxF.put (cxF.put (cxF.put hF (by decide)) (by decide)) (by decide)) (by decide)), (xput_i (by decide) (xput_i (by decide) (xput_i (by decide) xput_e))), xput_e, (xput_i (by decide) xput_e), fun z => absurd (show (4 : Nat) = 2 from z) (by decide)⟩)), rfl⟩
              · have h105b : p < n ∧ fiB (tp p) = true := ⟨by omega, hcp.2.2.1.mp h105⟩
                refine g_aload_n hX dX1_advance_108 rfl 0 rfl ?_
                refine g_callVrv hX (as := []) (fun l => c_X1_passFigures l (I := (xput (xput J 2 2 (nI p)) 2 5 (nI 0))) (tp := tp) (n := n) (p := p) (ht := (cbP_F ((hF.put (by decide)).put (by decide)) ht)) (hp := hp) (hp0 := (xput_i (by decide) (xput_i (by decide) hc))) (hs0 := (xput_i (by decide) xput_e)) (hv0 := xput_e)) mX1_passFigures vX1_passFigures lX1_156 (by decide) (by decide) xCl1 rfl rfl dX1_advance_109 rfl (by decide) (Nat.le_of_ble_eq_true rfl) (by decide) (by decide) (fun K hK => ?_)
                obtain ⟨k0, k2, q, kb, kp, kqn, kq, kn, k4, kv⟩ := hK
                have k0 := ((hF.put (by decide)).put (by decide)).trans k0
                have k2 := k2.trans (xput_i (by decide) xput_e)
                refine g_goto (tgt := 148) hX dX1_advance_112 (by decide) ?_
                exact g_vret hX hR dX1_advance_148 (by decide) (by decide) ⟨rfl, rfl, (by first | (rw [lx_1 hr hb0 h83b kq kn]; exact ⟨k0, k2, kb, k4, fun z => absurd (show (1 : Nat) = 2 from z) (by decide)⟩) | (rcases Nat.lt_or_ge 3 (q - p) with h3 | h3; (rw [lx_4a hr hb0 h83b h105b kq kn (by omega)]; exact ⟨k0, k2, kb, k4.trans (by rw [if_pos (by omega)]), fun z => absurd (show (4 : Nat) = 2 from z) (by decide)⟩); (rw [lx_2 hr hb0 h83b h105b kq kn (by omega)]; exact ⟨k0, k2, kb, k4.trans (by rw [if_neg (by omega)]), fun _ => kv (by omega)⟩))), rfl⟩
            · have h83b : p < n ∧ leB (tp p) = true := ⟨by omega, hcp.2.1.mp h83⟩
              refine g_aload_n hX dX1_advance_86 rfl 0 rfl ?_
              refine g_callVrv hX (as := []) (fun l => c_X1_passLetters l (I := (xput (xput J 2 2 (nI p)) 2 5 (nI 0))) (tp := tp) (n := n) (p := p) (ht := (cbP_F ((hF.put (by decide)).put (by decide)) ht)) (hp := hp) (hp0 := (xput_i (by decide) (xput_i (by decide) hc)))) mX1_passLetters vX1_passLetters lX1_150 (by decide) (by decide) xCl1 rfl rfl dX1_advance_87 rfl (by decide) (Nat.le_of_ble_eq_true rfl) (by decide) (by decide) (fun K hK => ?_)
              obtain ⟨k0, k2, k5, k4, q, kb, kp, kqn, kq, kn⟩ := hK
              have k0 := ((hF.put (by decide)).put (by decide)).trans k0
              have k2 := k2.trans (xput_i (by decide) xput_e)
              refine g_goto (tgt := 148) hX dX1_advance_90 (by decide) ?_
              exact g_vret hX hR dX1_advance_148 (by decide) (by decide) ⟨rfl, rfl, (by first | (rw [lx_1 hr hb0 h83b kq kn]; exact ⟨k0, k2, kb, k4, fun z => absurd (show (1 : Nat) = 2 from z) (by decide)⟩) | (rcases Nat.lt_or_ge 3 (q - p) with h3 | h3; (rw [lx_4a hr hb0 h83b h105b kq kn (by omega)]; exact ⟨k0, k2, kb, k4.trans (by rw [if_pos (by omega)]), fun z => absurd (show (4 : Nat) = 2 from z) (by decide)⟩); (rw [lx_2 hr hb0 h83b h105b kq kn (by omega)]; exact ⟨k0, k2, kb, k4.trans (by rw [if_neg (by omega)]), fun _ => kv (by omega)⟩))), rfl⟩
          · refine g_aload_n hX dX1_advance_63 rfl 0 rfl ?_
            refine g_iconst (v := nI 0) hX dX1_advance_64 (by decide) ?_
            refine g_putI hX (by decide) (by decide) xCl1 4 (by decide) (by decide) (by decide) kX1_25 dX1_advance_65 rfl rfl ?_
            refine g_goto (tgt := 148) hX dX1_advance_68 (by decide) ?_
            exact g_vret hX hR dX1_advance_148 (by decide) (by decide) ⟨rfl, rfl, (by first | (rw [lx_0 hr hb0 (by omega)]; exact ⟨(cxF.put (cxF.put (cxF.put hF (by decide)) (by decide)) (by decide)), (xput_i (by decide) (xput_i (by decide) xput_e)), (xput_i (by decide) (xput_i (by decide) (xput_i (by decide) hc))), xput_e, fun z => absurd (show (0 : Nat) = 2 from z) (by decide)⟩) | (rw [lx_3 hr hb0 (by omega) h83b h105b (by omega)]; exact ⟨(cxF.put (cxF.put (cxF.put hF (by decide)) (by decide)) (by decide)), (xput_i (by decide) (xput_i (by decide) xput_e)), (xput_i (by decide) (xput_i (by decide) (xput_i (by decide) hc))), xput_e, fun z => absurd (show (3 : Nat) = 2 from z) (by decide)⟩) | (rw [lx_4b hr hb0 (by omega) h83b h105b (by omega)]; exact ⟨(cxF.put (cxF.put (cxF.put hF (by decide)) (by decide)) (by decide)), (xput_i (by decide) (xput_i (by decide) xput_e)), (xput_i (by decide) (xput_i (by decide) (xput_i (by decide) hc))), xput_e, fun z => absurd (show (4 : Nat) = 2 from z) (by decide)⟩)), rfl⟩
        · have hbt : p < n ∧ blB (tp p) = true := ⟨by omega, hcp.1.mp h23⟩
          refine g_aload_n hX dX1_advance_26 rfl 0 rfl ?_
          refine g_dup hX rfl dX1_advance_27 ?_
          refine g_getI (v := nI p) hX (by decide) (by decide) xCl1 3 (by decide) (by decide) kX1_22 dX1_advance_28 hc ?_
          refine g_iconst (v := nI 1) hX dX1_advance_31 (by decide) ?_
          refine g_iadd (v := nI (p + 1)) hX dX1_advance_32 (nI_add p 1) ?_
          refine g_putI hX (by decide) (by decide) xCl1 3 (by decide) (by decide) (by decide) kX1_22 dX1_advance_33 rfl rfl ?_
          refine g_goto (tgt := 0) hX dX1_advance_36 (by decide) ?_
          exact ih (p + 1) (xput J 2 3 (nI (p + 1))) hbt.1 ((run_in hbt.1 hbt.2).symm.trans hr) (hF.put (by decide)) xput_e (by omega)
  exact cut0 _ p0 I (by first | assumption | omega) rfl cxF.refl (by first | assumption | omega) (Nat.lt_succ_self _)

theorem c_X1_isWord (l : Launch) {nw sp : Nat} {I : xM} {tp : Nat → Nat} {n : Nat} {k : Nat} {t : xT} (ht : cbP I tp n) (hk : k < 11) (htw : tokW tp n t) (htx : cxT tp I t) : xC l 5 0 0 yX1_isWord cX1_isWord 3 (some .boolean) 319 [.ref 2, .ref (2000000 + k)] I (xRL nw sp) (xpI (xb (wrdT tp (wlist k) t)) 319 I (xRL nw sp)) := by
  refine xC_of (by decide) (Nat.le_of_ble_eq_true rfl) (fun X hXl hX hR => ?_)
  have hX : xOK X RX1 cX1_isWord 3 5 0 0 := hX
  show G X 319 0 0 I (xRL nw sp) 0 [(0, .ref 2), (1, .ref (2000000 + k))] []
  have hn4 := ht.2.1
  have hw1 := htw.1
  have hw2 := htw.2.1
  have hw3 := htw.2.2.1
  have hwl := wln_1 k hk
  refine g_aload_n hX dX1_isWord_0 rfl 0 rfl ?_
  refine g_getI (v := nI t.1) hX (by decide) (by decide) xCl1 4 (by decide) (by decide) kX1_25 dX1_isWord_1 htx.2.2.1 ?_
  refine g_iconst (v := nI 1) hX dX1_isWord_4 (by decide) ?_
  refine g_ci_ne (a := ((t.1 : Nat) : Int)) (b := (1 : Int)) (tgt := 24) hX dX1_isWord_5 (by decide) (nI_toInt (by omega)) (by decide) (fun h5 => ?_) (fun h5 => ?_)
  · refine g_iconst (v := nI 0) hX dX1_isWord_24 (by decide) ?_
    exact g_zret hX hR dX1_isWord_25 (by decide) (by decide) (by decide) ⟨congrArg (fun z => some (Value.int z)) (xb_n0 (fun q => by first | exact h5 (by have := q.1; omega) | exact h21 (by have := q.2.1; show ((_ : Nat) : Int) = ((wln k : Nat) : Int); rw [this]; rfl))), rfl, rfl, rfl⟩
  · refine g_aload_n hX dX1_isWord_8 rfl 0 rfl ?_
    refine g_getI (v := nI t.2.2) hX (by decide) (by decide) xCl1 3 (by decide) (by decide) kX1_22 dX1_isWord_9 htx.2.1 ?_
    refine g_aload_n hX dX1_isWord_12 rfl 0 rfl ?_
    refine g_getI (v := nI t.2.1) hX (by decide) (by decide) xCl1 2 (by decide) (by decide) kX1_19 dX1_isWord_13 htx.1 ?_
    refine g_isub (v := nI (t.2.2 - t.2.1)) hX dX1_isWord_16 (nI_sub (show t.2.1 ≤ t.2.2 by omega)) ?_
    refine g_aload_n hX dX1_isWord_17 rfl 1 rfl ?_
    refine g_callTi k hX (as := []) (fun l => c_J0_length_8abf5 l (I := I) (k := k) (hk := hk)) mJ0_length_8abf5 vJ0_length_8abf5 lX1_134 hk rfl rfl dX1_isWord_18 rfl (by decide) (Nat.le_of_ble_eq_true rfl) (by decide) (by decide) ?_
    refine g_ci_eq (a := ((t.2.2 - t.2.1 : Nat) : Int)) (b := ((wln k : Nat) : Int)) (tgt := 26) hX dX1_isWord_21 (by decide) (nI_toInt (by omega)) (nI_toInt (by omega)) (fun h21 => ?_) (fun h21 => ?_)
    · refine g_iconst (v := nI 0) hX dX1_isWord_26 (by decide) ?_
      refine g_istore_n (L' := [(0, .ref 2), (1, .ref (2000000 + k)), (2, .int (nI 0))]) hX dX1_isWord_27 rfl (by decide) rfl ?_
      have cut28 : ∀ (fuel : Nat) (i : Nat) (h1 : t.1 = 1) (h2 : t.2.2 - t.2.1 = wln k) (hi : i ≤ wln k) (hall : ∀ j, j < i → tp (t.2.1 + j) = wby k j), wln k - i < fuel → G X 319 0 0 I (xRL nw sp) 28 [(0, .ref 2), (1, .ref (2000000 + k)), (2, .int (nI i))] [] := by
        intro fuel
        induction fuel with
        | zero => intro i h1 h2 hi hall hfuel; omega
        | succ fuel ih =>
          intro i h1 h2 hi hall hfuel
          refine g_iload_n hX dX1_isWord_28 rfl 2 rfl ?_
          refine g_aload_n hX dX1_isWord_29 rfl 1 rfl ?_
          refine g_callTi k hX (as := []) (fun l => c_J0_length_8abf5 l (I := I) (k := k) (hk := hk)) mJ0_length_8abf5 vJ0_length_8abf5 lX1_134 hk rfl rfl dX1_isWord_30 rfl (by decide) (Nat.le_of_ble_eq_true rfl) (by decide) (by decide) ?_
          refine g_ci_ge (a := ((i : Nat) : Int)) (b := ((wln k : Nat) : Int)) (tgt := 63) hX dX1_isWord_33 (by decide) (nI_toInt (by omega)) (nI_toInt (by omega)) (fun h33 => ?_) (fun h33 => ?_)
          · refine g_iconst (v := nI 1) hX dX1_isWord_63 (by decide) ?_
            exact g_zret hX hR dX1_isWord_64 (by decide) (by decide) (by decide) ⟨congrArg (fun z => some (Value.int z)) (xb_n1 ⟨h1, h2, fun j hj => hall j (by have : j < wln k := hj; omega)⟩), rfl, rfl, rfl⟩
          · have hle := leB_t.mp (htw.2.2.2.1 h1 (t.2.1 + i) (by omega) (by omega))
            have hby := wby_e k hk i (by omega)
            refine g_aload_n hX dX1_isWord_36 rfl 0 rfl ?_
            refine g_getR (j := 3) hX (by decide) (by decide) xCl1 0 (by decide) (by decide) kX1_9 dX1_isWord_37 rfl ?_
            refine g_aload_n hX dX1_isWord_40 rfl 0 rfl ?_
            refine g_getI (v := nI t.2.1) hX (by decide) (by decide) xCl1 2 (by decide) (by decide) kX1_19 dX1_isWord_41 htx.1 ?_
            refine g_iload_n hX dX1_isWord_44 rfl 2 rfl ?_
            refine g_iadd (v := nI (t.2.1 + i)) hX dX1_isWord_45 (nI_add t.2.1 i) ?_
            refine g_bald (v := nI (tp (t.2.1 + i))) hX (by decide) (by decide) (t.2.1 + i) rfl (by rw [(show xN 3 = 400 by decide)]; omega) dX1_isWord_46 ((ht.2.2 (t.2.1 + i) (by omega)).1.trans (cb_low _ (by omega))) ?_
            refine g_aload_n hX dX1_isWord_47 rfl 1 rfl ?_
            refine g_iload_n hX dX1_isWord_48 rfl 2 rfl ?_
            refine g_callTi k hX (as := [.int (nI i)]) (fun l => c_J0_charAt_5068e l (I := I) (k := k) (i := i) (hk := hk) (hi := (by omega))) mJ0_charAt_5068e vJ0_charAt_5068e lX1_139 hk rfl rfl dX1_isWord_49 rfl (by decide) (Nat.le_of_ble_eq_true rfl) (by decide) (by decide) ?_
            refine g_ci_eq (a := ((tp (t.2.1 + i) : Nat) : Int)) (b := ((wby k i : Nat) : Int)) (tgt := 57) hX dX1_isWord_52 (by decide) (nI_toInt (by omega)) (nI_toInt (by omega)) (fun h52 => ?_) (fun h52 => ?_)
            · have h52 : tp (t.2.1 + i) = wby k i := by omega
              refine g_iinc (v := nI (i + 1)) (L' := [(0, .ref 2), (1, .ref (2000000 + k)), (2, .int (nI (i + 1)))]) hX dX1_isWord_57 (by decide) 2 rfl (nI_add i 1) rfl ?_
              refine g_goto (tgt := 28) hX dX1_isWord_60 (by decide) ?_
              exact ih (i + 1) (by first | assumption | omega) (by first | assumption | omega) (by first | assumption | omega) (fun j hj => by by_cases e : j = i; exact e ▸ h52; exact hall j (by omega)) (by omega)
            · refine g_iconst (v := nI 0) hX dX1_isWord_55 (by decide) ?_
              exact g_zret hX hR dX1_isWord_56 (by decide) (by decide) (by decide) ⟨congrArg (fun z => some (Value.int z)) (xb_n0 (fun q => h52 (by have := q.2.2 i (show i < wln k by omega); show ((_ : Nat) : Int) = ((wby k i : Nat) : Int); rw [this]; rfl))), rfl, rfl, rfl⟩
      exact cut28 _ 0 (by first | assumption | omega) (by first | assumption | omega) (by first | assumption | omega) (fun j hj => absurd hj (Nat.not_lt_zero j)) (Nat.lt_succ_self _)
    · refine g_iconst (v := nI 0) hX dX1_isWord_24 (by decide) ?_
      exact g_zret hX hR dX1_isWord_25 (by decide) (by decide) (by decide) ⟨congrArg (fun z => some (Value.int z)) (xb_n0 (fun q => by first | exact h5 (by have := q.1; omega) | exact h21 (by have := q.2.1; show ((_ : Nat) : Int) = ((wln k : Nat) : Int); rw [this]; rfl))), rfl, rfl, rfl⟩
