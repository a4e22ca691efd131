theorem c_X6_byteAt (l : Launch) {nw sp : Nat} {I : xM} {tp : Nat → Nat} {n : Nat} {k : Nat} (ht : tpP I tp n) (hk : k ≤ 400) : xC l 1 0 0 yX6_byteAt cX6_byteAt 2 (some .int) 319 [.ref 307, .int (nI k)] I (xRL nw sp) (xpI (bA tp n k) 319 I (xRL nw sp)) := by
  refine xC_of (by decide) (Nat.le_of_ble_eq_true rfl) (fun X hXl hX hR => ?_)
  have hX : xOK X RX6 cX6_byteAt 2 1 0 0 := hX
  show G X 319 0 0 I (xRL nw sp) 0 [(0, .ref 307), (1, .int (nI k))] []
  have hn4 := ht.2.1
  refine g_iload_n hX dX6_byteAt_0 rfl 1 rfl ?_
  refine g_aload_n hX dX6_byteAt_1 rfl 0 rfl ?_
  refine g_getI (v := nI n) hX (by decide) (by decide) xCl6 13 (by decide) (by decide) kX6_77 dX6_byteAt_2 ht.1 ?_
  refine g_ci_ge (a := ((k : Nat) : Int)) (b := ((n : Nat) : Int)) (tgt := 17) hX dX6_byteAt_5 (by decide) (nI_toInt (by omega)) (nI_toInt (by omega)) (fun h5 => ?_) (fun h5 => ?_)
  · refine g_ldc (v := -1000000) hX cX6_80 dX6_byteAt_17 ?_
    exact g_iret hX hR dX6_byteAt_19 (by decide) (by decide) ⟨congrArg (fun z => some (Value.int z)) (by unfold bA; first | (rw [if_pos (by omega)]; exact (ht.2.2 k (by omega)).1) | (rw [if_neg (by omega)])), rfl, rfl, rfl⟩
  · refine g_aload_n hX dX6_byteAt_8 rfl 0 rfl ?_
    refine g_getR (j := 314) hX (by decide) (by decide) xCl6 10 (by decide) (by decide) kX6_28 dX6_byteAt_9 rfl ?_
    refine g_iload_n hX dX6_byteAt_12 rfl 1 rfl ?_
    refine g_iald (v := I 314 k) hX (by decide) (by decide) k rfl (by rw [(show xN 314 = 400 by decide)]; omega) dX6_byteAt_13 rfl ?_
    refine g_goto (tgt := 19) hX dX6_byteAt_14 (by decide) ?_
    exact g_iret hX hR dX6_byteAt_19 (by decide) (by decide) ⟨congrArg (fun z => some (Value.int z)) (by unfold bA; first | (rw [if_pos (by omega)]; exact (ht.2.2 k (by omega)).1) | (rw [if_neg (by omega)])), rfl, rfl, rfl⟩

theorem c_X6_next (l : Launch) {nw sp : Nat} {I : xM} {tp : Nat → Nat} {n : Nat} {p0 : Nat} (ht : tpP I tp n) (hp0 : p0 ≤ n) (hc0 : I 307 14 = nI p0) : xC l 2 0 0 yX6_next cX6_next 2 none 319 [.ref 307] I (xRL nw sp) (xpW 319 (xRL nw sp) (fun J => nxJ I J (lx tp n p0))) := by
  refine xC_of (by decide) (Nat.le_of_ble_eq_true rfl) (fun X hXl hX hR => ?_)
  have hX : xOK X RX6 cX6_next 2 2 0 0 := hX
  show G X 319 0 0 I (xRL nw sp) 0 [(0, .ref 307)] []
  have hn4 := ht.2.1
  have cut0 : ∀ (fuel : Nat) (p : Nat) (J : xM) (hp : p ≤ n) (hr : run blB tp n p = run blB tp n p0) (hF : nxF I J) (hc : J 307 14 = nI p), n - p < fuel → G X 319 0 0 J (xRL nw sp) 0 [(0, .ref 307)] [] := by
    intro fuel
    induction fuel with
    | zero => intro p J hp hr hF hc hfuel; omega
    | succ fuel ih =>
      intro p J hp hr hF hc hfuel
      have hv := bA_v (k := p) ht
      refine g_aload_n hX dX6_next_0 rfl 0 rfl ?_
      refine g_aload_n hX dX6_next_1 rfl 0 rfl ?_
      refine g_getI (v := nI p) hX (by decide) (by decide) xCl6 14 (by decide) (by decide) kX6_81 dX6_next_2 hc ?_
      refine g_callVi hX (as := [.int (nI p)]) (fun l => c_X6_byteAt l (I := J) (tp := tp) (n := n) (k := p) (ht := (tpP_F (by first | exact hF | exact hFK | exact nxF.put hF (by decide)) ht)) (hk := (by first | assumption | omega))) mX6_byteAt vX6_byteAt lX6_84 (by decide) (by decide) xCl6 rfl rfl dX6_next_5 rfl (by decide) (Nat.le_of_ble_eq_true rfl) (by decide) (by decide) ?_
      refine g_bipush (v := nI 32) hX dX6_next_8 (by decide) ?_
      refine g_ci_eq (a := (bA tp n p).toInt) (b := (32 : Int)) (tgt := 26) hX dX6_next_10 (by decide) rfl (by decide) (fun h10 => ?_) (fun h10 => ?_)
      · have cut26 : ∀  (hbt : p < n ∧ blB (tp p) = true), G X 319 0 0 J (xRL nw sp) 26 [(0, .ref 307)] [] := by
          intro hbt
          refine g_aload_n hX dX6_next_26 rfl 0 rfl ?_
          refine g_dup hX rfl dX6_next_27 ?_
          refine g_getI (v := nI p) hX (by decide) (by decide) xCl6 14 (by decide) (by decide) kX6_81 dX6_next_28 hc ?_
          refine g_iconst (v := nI 1) hX dX6_next_31 (by decide) ?_
          refine g_iadd (v := nI (p + 1)) hX dX6_next_32 (nI_add p 1) ?_
          refine g_putI hX (by decide) (by decide) xCl6 14 (by decide) (by decide) (by decide) kX6_81 dX6_next_33 rfl rfl ?_
          refine g_goto (tgt := 0) hX dX6_next_36 (by decide) ?_
          exact ih (p + 1) (xput J 307 14 (nI (p + 1))) hbt.1 ((run_in hbt.1 hbt.2).symm.trans hr) (nxF.put hF (by decide)) xput_e (by omega)
        exact cut26 ((bA_bl ht).mp (Or.inl h10))
      · refine g_aload_n hX dX6_next_13 rfl 0 rfl ?_
        refine g_aload_n hX dX6_next_14 rfl 0 rfl ?_
        refine g_getI (v := nI p) hX (by decide) (by decide) xCl6 14 (by decide) (by decide) kX6_81 dX6_next_15 hc ?_
        refine g_callVi hX (as := [.int (nI p)]) (fun l => c_X6_byteAt l (I := J) (tp := tp) (n := n) (k := p) (ht := (tpP_F (by first | exact hF | exact hFK | exact nxF.put hF (by decide)) ht)) (hk := (by first | assumption | omega))) mX6_byteAt vX6_byteAt lX6_84 (by decide) (by decide) xCl6 rfl rfl dX6_next_18 rfl (by decide) (Nat.le_of_ble_eq_true rfl) (by decide) (by decide) ?_
        refine g_bipush (v := nI 10) hX dX6_next_21 (by decide) ?_
        refine g_ci_ne (a := (bA tp n p).toInt) (b := (10 : Int)) (tgt := 39) hX dX6_next_23 (by decide) rfl (by decide) (fun h23 => ?_) (fun h23 => ?_)
        · have hb : ¬ (p < n ∧ blB (tp p) = true) := fun q => by have := (bA_bl ht).mpr q; omega
          refine g_aload_n hX dX6_next_39 rfl 0 rfl ?_
          refine g_aload_n hX dX6_next_40 rfl 0 rfl ?_
          refine g_getI (v := nI p) hX (by decide) (by decide) xCl6 14 (by decide) (by decide) kX6_81 dX6_next_41 hc ?_
          refine g_putI hX (by decide) (by decide) xCl6 16 (by decide) (by decide) (by decide) kX6_87 dX6_next_44 rfl rfl ?_
          refine g_aload_n hX dX6_next_47 rfl 0 rfl ?_
          refine g_aload_n hX dX6_next_48 rfl 0 rfl ?_
          refine g_getI (v := nI p) hX (by decide) (by decide) xCl6 14 (by decide) (by decide) kX6_81 dX6_next_49 (xput_i (by decide) hc) ?_
          refine g_callVi hX (as := [.int (nI p)]) (fun l => c_X6_byteAt l (I := (xput J 307 16 (nI p))) (tp := tp) (n := n) (k := p) (ht := (tpP_F (by first | exact hF | exact hFK | exact nxF.put hF (by decide)) ht)) (hk := (by first | assumption | omega))) mX6_byteAt vX6_byteAt lX6_84 (by decide) (by decide) xCl6 rfl rfl dX6_next_52 rfl (by decide) (Nat.le_of_ble_eq_true rfl) (by decide) (by decide) ?_
          refine g_istore_n (L' := [(0, .ref 307), (1, .int (bA tp n p))]) hX dX6_next_55 rfl (by decide) rfl ?_
          refine g_iload_n hX dX6_next_56 rfl 1 rfl ?_
          refine g_ldc (v := -1000000) hX cX6_80 dX6_next_57 ?_
          refine g_ci_ne (a := (bA tp n p).toInt) (b := (-1000000 : Int)) (tgt := 70) hX dX6_next_59 (by decide) rfl (by decide) (fun h59 => ?_) (fun h59 => ?_)
          · have hpn : p < n := by omega
            refine g_iload_n hX dX6_next_70 rfl 1 rfl ?_
            refine g_callSi hX (as := [.int (bA tp n p)]) (fun l => c_X6_isLetter l (I := (xput J 307 16 (nI p))) (x := (bA tp n p)) ) mX6_isLetter sX6_isLetter lX6_93 rfl dX6_next_71 rfl (by decide) (Nat.le_of_ble_eq_true rfl) (by decide) (by decide) ?_
            refine g_cb_eq (tgt := 112) hX dX6_next_74 (by decide) (fun h74 => ?_) (fun h74 => ?_)
            · have h74b : ¬ (p < n ∧ leB (tp p) = true) := fun q => h74 ((bA_le ht).mpr q)
              refine g_iload_n hX dX6_next_112 rfl 1 rfl ?_
              refine g_callSi hX (as := [.int (bA tp n p)]) (fun l => c_X6_isFigure l (I := (xput J 307 16 (nI p))) (x := (bA tp n p)) ) mX6_isFigure sX6_isFigure lX6_96 rfl dX6_next_113 rfl (by decide) (Nat.le_of_ble_eq_true rfl) (by decide) (by decide) ?_
              refine g_cb_eq (tgt := 171) hX dX6_next_116 (by decide) (fun h116 => ?_) (fun h116 => ?_)
              · have h116b : ¬ (p < n ∧ fiB (tp p) = true) := fun q => h116 ((bA_fi ht).mpr q)
                refine g_aload_n hX dX6_next_171 rfl 0 rfl ?_
                refine g_dup hX rfl dX6_next_172 ?_
                refine g_getI (v := nI p) hX (by decide) (by decide) xCl6 14 (by decide) (by decide) kX6_81 dX6_next_173 (xput_i (by decide) hc) ?_
                refine g_iconst (v := nI 1) hX dX6_next_176 (by decide) ?_
                refine g_iadd (v := nI (p + 1)) hX dX6_next_177 (nI_add p 1) ?_
                refine g_putI hX (by decide) (by decide) xCl6 14 (by decide) (by decide) (by decide) kX6_81 dX6_next_178 rfl rfl ?_
                refine g_aload_n hX dX6_next_181 rfl 0 rfl ?_
                refine g_iload_n hX dX6_next_182 rfl 1 rfl ?_
                refine g_bipush (v := nI 59) hX dX6_next_183 (by decide) ?_
                refine g_ci_ne (a := (bA tp n p).toInt) (b := (59 : Int)) (tgt := 192) hX dX6_next_185 (by decide) rfl (by decide) (fun h185 => ?_) (fun h185 => ?_)
                · refine g_iconst (v := nI 0) hX dX6_next_192 (by decide) ?_
                  refine g_putI hX (by decide) (by decide) xCl6 15 (by decide) (by decide) (by decide) kX6_90 dX6_next_193 rfl rfl ?_
                  refine g_aload_n hX dX6_next_196 rfl 0 rfl ?_
                  refine g_aload_n hX dX6_next_197 rfl 0 rfl ?_
                  refine g_getI (v := nI (p + 1)) hX (by decide) (by decide) xCl6 14 (by decide) (by decide) kX6_81 dX6_next_198 (xput_i (by decide) xput_e) ?_
                  refine g_putI hX (by decide) (by decide) xCl6 17 (by decide) (by decide) (by decide) kX6_99 dX6_next_201 rfl rfl ?_
                  exact g_vret hX hR dX6_next_204 (by decide) (by decide) ⟨rfl, rfl, (by first | (rw [lx_0 hr hb (by omega)]; exact ⟨(nxF.put (nxF.put (nxF.put (nxF.put hF (by decide)) (by decide)) (by decide)) (by decide)), (xput_i (by decide) (xput_i (by decide) xput_e)), (xput_i (by decide) xput_e), (xput_i (by decide) (xput_i (by decide) (xput_i (by decide) xput_e))), xput_e⟩) | (rw [lx_1 hr hb h74b hq h88b]; exact ⟨(nxF.put (nxF.put (nxF.put (nxF.put hF (by decide)) (by decide)) (by decide)) (by decide)), (xput_i (by decide) (xput_i (by decide) xput_e)), (xput_i (by decide) xput_e), (xput_i (by decide) (xput_i (by decide) (xput_i (by decide) xput_e))), xput_e⟩) | (rw [lx_2 hr hb h74b h116b hq h130b (by omega)]; exact ⟨(nxF.put (nxF.put (nxF.put (nxF.put hF (by decide)) (by decide)) (by decide)) (by decide)), (xput_i (by decide) (xput_i (by decide) xput_e)), (xput_i (by decide) xput_e), (xput_i (by decide) (xput_i (by decide) (xput_i (by decide) xput_e))), xput_e⟩) | (rw [lx_4a hr hb h74b h116b hq h130b (by omega)]; exact ⟨(nxF.put (nxF.put (nxF.put (nxF.put hF (by decide)) (by decide)) (by decide)) (by decide)), (xput_i (by decide) (xput_i (by decide) xput_e)), (xput_i (by decide) xput_e), (xput_i (by decide) (xput_i (by decide) (xput_i (by decide) xput_e))), xput_e⟩) | (rw [lx_3 hr hb hpn h74b h116b (by omega)]; exact ⟨(nxF.put (nxF.put (nxF.put (nxF.put hF (by decide)) (by decide)) (by decide)) (by decide)), (xput_i (by decide) (xput_i (by decide) xput_e)), (xput_i (by decide) xput_e), (xput_i (by decide) (xput_i (by decide) (xput_i (by decide) xput_e))), xput_e⟩) | (rw [lx_4b hr hb hpn h74b h116b (by omega)]; exact ⟨(nxF.put (nxF.put (nxF.put (nxF.put hF (by decide)) (by decide)) (by decide)) (by decide)), (xput_i (by decide) (xput_i (by decide) xput_e)), (xput_i (by decide) xput_e), (xput_i (by decide) (xput_i (by decide) (xput_i (by decide) xput_e))), xput_e⟩)), rfl⟩
                · refine g_iconst (v := nI 4) hX dX6_next_188 (by decide) ?_
                  refine g_goto (tgt := 193) hX dX6_next_189 (by decide) ?_
                  refine g_putI hX (by decide) (by decide) xCl6 15 (by decide) (by decide) (by decide) kX6_90 dX6_next_193 rfl rfl ?_
                  refine g_aload_n hX dX6_next_196 rfl 0 rfl ?_
                  refine g_aload_n hX dX6_next_197 rfl 0 rfl ?_
                  refine g_getI (v := nI (p + 1)) hX (by decide) (by decide) xCl6 14 (by decide) (by decide) kX6_81 dX6_next_198 (xput_i (by decide) xput_e) ?_
                  refine g_putI hX (by decide) (by decide) xCl6 17 (by decide) (by decide) (by decide) kX6_99 dX6_next_201 rfl rfl ?_
                  exact g_vret hX hR dX6_next_204 (by decide) (by decide) ⟨rfl, rfl, (by first | (rw [lx_0 hr hb (by omega)]; exact ⟨(nxF.put (nxF.put (nxF.put (nxF.put hF (by decide)) (by decide)) (by decide)) (by decide)), (xput_i (by decide) (xput_i (by decide) xput_e)), (xput_i (by decide) xput_e), (xput_i (by decide) (xput_i (by decide) (xput_i (by decide) xput_e))), xput_e⟩) | (rw [lx_1 hr hb h74b hq h88b]; exact ⟨(nxF.put (nxF.put (nxF.put (nxF.put hF (by decide)) (by decide)) (by decide)) (by decide)), (xput_i (by decide) (xput_i (by decide) xput_e)), (xput_i (by decide) xput_e), (xput_i (by decide) (xput_i (by decide) (xput_i (by decide) xput_e))), xput_e⟩) | (rw [lx_2 hr hb h74b h116b hq h130b (by omega)]; exact ⟨(nxF.put (nxF.put (nxF.put (nxF.put hF (by decide)) (by decide)) (by decide)) (by decide)), (xput_i (by decide) (xput_i (by decide) xput_e)), (xput_i (by decide) xput_e), (xput_i (by decide) (xput_i (by decide) (xput_i (by decide) xput_e))), xput_e⟩) | (rw [lx_4a hr hb h74b h116b hq h130b (by omega)]; exact ⟨(nxF.put (nxF.put (nxF.put (nxF.put hF (by decide)) (by decide)) (by decide)) (by decide)), (xput_i (by decide) (xput_i (by decide) xput_e)), (xput_i (by decide) xput_e), (xput_i (by decide) (xput_i (by decide) (xput_i (by decide) xput_e))), xput_e⟩) | (rw [lx_3 hr hb hpn h74b h116b (by omega)]; exact ⟨(nxF.put (nxF.put (nxF.put (nxF.put hF (by decide)) (by decide)) (by decide)) (by decide)), (xput_i (by decide) (xput_i (by decide) xput_e)), (xput_i (by decide) xput_e), (xput_i (by decide) (xput_i (by decide) (xput_i (by decide) xput_e))), xput_e⟩) | (rw [lx_4b hr hb hpn h74b h116b (by omega)]; exact ⟨(nxF.put (nxF.put (nxF.put (nxF.put hF (by decide)) (by decide)) (by decide)) (by decide)), (xput_i (by decide) (xput_i (by decide) xput_e)), (xput_i (by decide) xput_e), (xput_i (by decide) (xput_i (by decide) (xput_i (by decide) xput_e))), xput_e⟩)), rfl⟩
              · have h116b := (bA_fi ht).mp h116
                have cut119 : ∀ (fuel119 : Nat) (q : Nat) (K : xM) (hq0 : p ≤ q) (hqn : q ≤ n) (hq : run fiB tp n q = run fiB tp n p) (hFK : nxF I K) (hcK : K 307 14 = nI q) (hsK : K 307 16 = nI p), n - q < fuel119 → G X 319 0 0 K (xRL nw sp) 119 [(0, .ref 307), (1, .int (bA tp n p))] [] := by
                  intro fuel119
                  induction fuel119 with
                  | zero => intro q K hq0 hqn hq hFK hcK hsK hfuel119; omega
                  | succ fuel119 ih119 =>
                    intro q K hq0 hqn hq hFK hcK hsK hfuel119
                    refine g_aload_n hX dX6_next_119 rfl 0 rfl ?_
                    refine g_aload_n hX dX6_next_120 rfl 0 rfl ?_
                    refine g_getI (v := nI q) hX (by decide) (by decide) xCl6 14 (by decide) (by decide) kX6_81 dX6_next_121 hcK ?_
                    refine g_callVi hX (as := [.int (nI q)]) (fun l => c_X6_byteAt l (I := K) (tp := tp) (n := n) (k := q) (ht := (tpP_F (by first | exact hF | exact hFK | exact nxF.put hF (by decide)) ht)) (hk := (by first | assumption | omega))) mX6_byteAt vX6_byteAt lX6_84 (by decide) (by decide) xCl6 rfl rfl dX6_next_124 rfl (by decide) (Nat.le_of_ble_eq_true rfl) (by decide) (by decide) ?_
                    refine g_callSi hX (as := [.int (bA tp n q)]) (fun l => c_X6_isFigure l (I := K) (x := (bA tp n q)) ) mX6_isFigure sX6_isFigure lX6_96 rfl dX6_next_127 rfl (by decide) (Nat.le_of_ble_eq_true rfl) (by decide) (by decide) ?_
                    refine g_cb_eq (tgt := 146) hX dX6_next_130 (by decide) (fun h130 => ?_) (fun h130 => ?_)
                    · have h130b : ¬ (q < n ∧ fiB (tp q) = true) := fun q => h130 ((bA_fi ht).mpr q)
                      refine g_aload_n hX dX6_next_146 rfl 0 rfl ?_
                      refine g_aload_n hX dX6_next_147 rfl 0 rfl ?_
                      refine g_getI (v := nI q) hX (by decide) (by decide) xCl6 14 (by decide) (by decide) kX6_81 dX6_next_148 hcK ?_
                      refine g_aload_n hX dX6_next_151 rfl 0 rfl ?_
                      refine g_getI (v := nI p) hX (by decide) (by decide) xCl6 16 (by decide) (by decide) kX6_87 dX6_next_152 hsK ?_
                      refine g_isub (v := nI (q - p)) hX dX6_next_155 (nI_sub (show p ≤ q by omega)) ?_
                      refine g_iconst (v := nI 3) hX dX6_next_156 (by decide) ?_
                      refine g_ci_le (a := ((q - p : Nat) : Int)) (b := (3 : Int)) (tgt := 164) hX dX6_next_157 (by decide) (nI_toInt (by omega)) (by decide) (fun h157 => ?_) (fun h157 => ?_)
                      · refine g_iconst (v := nI 3) hX dX6_next_164 (by decide) ?_
                        refine g_putI hX (by decide) (by decide) xCl6 15 (by decide) (by decide) (by decide) kX6_90 dX6_next_165 rfl rfl ?_
                        refine g_goto (tgt := 196) hX dX6_next_168 (by decide) ?_
                        refine g_aload_n hX dX6_next_196 rfl 0 rfl ?_
                        refine g_aload_n hX dX6_next_197 rfl 0 rfl ?_
                        refine g_getI (v := nI q) hX (by decide) (by decide) xCl6 14 (by decide) (by decide) kX6_81 dX6_next_198 (xput_i (by decide) hcK) ?_
                        refine g_putI hX (by decide) (by decide) xCl6 17 (by decide) (by decide) (by decide) kX6_99 dX6_next_201 rfl rfl ?_
                        exact g_vret hX hR dX6_next_204 (by decide) (by decide) ⟨rfl, rfl, (by first | (rw [lx_0 hr hb (by omega)]; exact ⟨(nxF.put (nxF.put hFK (by decide)) (by decide)), (xput_i (by decide) (xput_i (by decide) hcK)), (xput_i (by decide) xput_e), (xput_i (by decide) (xput_i (by decide) hsK)), xput_e⟩) | (rw [lx_1 hr hb h74b hq h88b]; exact ⟨(nxF.put (nxF.put hFK (by decide)) (by decide)), (xput_i (by decide) (xput_i (by decide) hcK)), (xput_i (by decide) xput_e), (xput_i (by decide) (xput_i (by decide) hsK)), xput_e⟩) | (rw [lx_2 hr hb h74b h116b hq h130b (by omega)]; exact ⟨(nxF.put (nxF.put hFK (by decide)) (by decide)), (xput_i (by decide) (xput_i (by decide) hcK)), (xput_i (by decide) xput_e), (xput_i (by decide) (xput_i (by decide) hsK)), xput_e⟩) | (rw [lx_4a hr hb h74b h116b hq h130b (by omega)]; exact ⟨(nxF.put (nxF.put hFK (by decide)) (by decide)), (xput_i (by decide) (xput_i (by decide) hcK)), (xput_i (by decide) xput_e), (xput_i (by decide) (xput_i (by decide) hsK)), xput_e⟩) | (rw [lx_3 hr hb hpn h74b h116b (by omega)]; exact ⟨(nxF.put (nxF.put hFK (by decide)) (by decide)), (xput_i (by decide) (xput_i (by decide) hcK)), (xput_i (by decide) xput_e), (xput_i (by decide) (xput_i (by decide) hsK)), xput_e⟩) | (rw [lx_4b hr hb hpn h74b h116b (by omega)]; exact ⟨(nxF.put (nxF.put hFK (by decide)) (by decide)), (xput_i (by decide) (xput_i (by decide) hcK)), (xput_i (by decide) xput_e), (xput_i (by decide) (xput_i (by decide) hsK)), xput_e⟩)), rfl⟩
                      · refine g_iconst (v := nI 0) hX dX6_next_160 (by decide) ?_
                        refine g_goto (tgt := 165) hX dX6_next_161 (by decide) ?_
                        refine g_putI hX (by decide) (by decide) xCl6 15 (by decide) (by decide) (by decide) kX6_90 dX6_next_165 rfl rfl ?_
                        refine g_goto (tgt := 196) hX dX6_next_168 (by decide) ?_
                        refine g_aload_n hX dX6_next_196 rfl 0 rfl ?_
                        refine g_aload_n hX dX6_next_197 rfl 0 rfl ?_
                        refine g_getI (v := nI q) hX (by decide) (by decide) xCl6 14 (by decide) (by decide) kX6_81 dX6_next_198 (xput_i (by decide) hcK) ?_
                        refine g_putI hX (by decide) (by decide) xCl6 17 (by decide) (by decide) (by decide) kX6_99 dX6_next_201 rfl rfl ?_
                        exact g_vret hX hR dX6_next_204 (by decide) (by decide) ⟨rfl, rfl, (by first | (rw [lx_0 hr hb (by omega)]; exact ⟨(nxF.put (nxF.put hFK (by decide)) (by decide)), (xput_i (by decide) (xput_i (by decide) hcK)), (xput_i (by decide) xput_e), (xput_i (by decide) (xput_i (by decide) hsK)), xput_e⟩) | (rw [lx_1 hr hb h74b hq h88b]; exact ⟨(nxF.put (nxF.put hFK (by decide)) (by decide)), (xput_i (by decide) (xput_i (by decide) hcK)), (xput_i (by decide) xput_e), (xput_i (by decide) (xput_i (by decide) hsK)), xput_e⟩) | (rw [lx_2 hr hb h74b h116b hq h130b (by omega)]; exact ⟨(nxF.put (nxF.put hFK (by decide)) (by decide)), (xput_i (by decide) (xput_i (by decide) hcK)), (xput_i (by decide) xput_e), (xput_i (by decide) (xput_i (by decide) hsK)), xput_e⟩) | (rw [lx_4a hr hb h74b h116b hq h130b (by omega)]; exact ⟨(nxF.put (nxF.put hFK (by decide)) (by decide)), (xput_i (by decide) (xput_i (by decide) hcK)), (xput_i (by decide) xput_e), (xput_i (by decide) (xput_i (by decide) hsK)), xput_e⟩) | (rw [lx_3 hr hb hpn h74b h116b (by omega)]; exact ⟨(nxF.put (nxF.put hFK (by decide)) (by decide)), (xput_i (by decide) (xput_i (by decide) hcK)), (xput_i (by decide) xput_e), (xput_i (by decide) (xput_i (by decide) hsK)), xput_e⟩) | (rw [lx_4b hr hb hpn h74b h116b (by omega)]; exact ⟨(nxF.put (nxF.put hFK (by decide)) (by decide)), (xput_i (by decide) (xput_i (by decide) hcK)), (xput_i (by decide) xput_e), (xput_i (by decide) (xput_i (by decide) hsK)), xput_e⟩)), rfl⟩
                    · have h130b := (bA_fi ht).mp h130
                      refine g_aload_n hX dX6_next_133 rfl 0 rfl ?_
                      refine g_dup hX rfl dX6_next_134 ?_
                      refine g_getI (v := nI q) hX (by decide) (by decide) xCl6 14 (by decide) (by decide) kX6_81 dX6_next_135 hcK ?_
                      refine g_iconst (v := nI 1) hX dX6_next_138 (by decide) ?_
                      refine g_iadd (v := nI (q + 1)) hX dX6_next_139 (nI_add q 1) ?_
                      refine g_putI hX (by decide) (by decide) xCl6 14 (by decide) (by decide) (by decide) kX6_81 dX6_next_140 rfl rfl ?_
                      refine g_goto (tgt := 119) hX dX6_next_143 (by decide) ?_
                      exact ih119 (q + 1) (xput K 307 14 (nI (q + 1))) (by omega) h130b.1 ((run_in h130b.1 h130b.2).symm.trans hq) (nxF.put hFK (by decide)) xput_e (xput_i (by decide) hsK) (by omega)
                exact cut119 _ p (xput J 307 16 (nI p)) (by first | assumption | omega) (by first | assumption | omega) rfl (nxF.put hF (by decide)) (xput_i (by decide) hc) xput_e (Nat.lt_succ_self _)
            · have h74b := (bA_le ht).mp h74
              have cut77 : ∀ (fuel77 : Nat) (q : Nat) (K : xM) (hq0 : p ≤ q) (hqn : q ≤ n) (hq : run leB tp n q = run leB tp n p) (hFK : nxF I K) (hcK : K 307 14 = nI q) (hsK : K 307 16 = nI p), n - q < fuel77 → G X 319 0 0 K (xRL nw sp) 77 [(0, .ref 307), (1, .int (bA tp n p))] [] := by
                intro fuel77
                induction fuel77 with
                | zero => intro q K hq0 hqn hq hFK hcK hsK hfuel77; omega
                | succ fuel77 ih77 =>
                  intro q K hq0 hqn hq hFK hcK hsK hfuel77
                  refine g_aload_n hX dX6_next_77 rfl 0 rfl ?_
                  refine g_aload_n hX dX6_next_78 rfl 0 rfl ?_
                  refine g_getI (v := nI q) hX (by decide) (by decide) xCl6 14 (by decide) (by decide) kX6_81 dX6_next_79 hcK ?_
                  refine g_callVi hX (as := [.int (nI q)]) (fun l => c_X6_byteAt l (I := K) (tp := tp) (n := n) (k := q) (ht := (tpP_F (by first | exact hF | exact hFK | exact nxF.put hF (by decide)) ht)) (hk := (by first | assumption | omega))) mX6_byteAt vX6_byteAt lX6_84 (by decide) (by decide) xCl6 rfl rfl dX6_next_82 rfl (by decide) (Nat.le_of_ble_eq_true rfl) (by decide) (by decide) ?_
                  refine g_callSi hX (as := [.int (bA tp n q)]) (fun l => c_X6_isLetter l (I := K) (x := (bA tp n q)) ) mX6_isLetter sX6_isLetter lX6_93 rfl dX6_next_85 rfl (by decide) (Nat.le_of_ble_eq_true rfl) (by decide) (by decide) ?_
                  refine g_cb_eq (tgt := 104) hX dX6_next_88 (by decide) (fun h88 => ?_) (fun h88 => ?_)
                  · have h88b : ¬ (q < n ∧ leB (tp q) = true) := fun q => h88 ((bA_le ht).mpr q)
                    refine g_aload_n hX dX6_next_104 rfl 0 rfl ?_
                    refine g_iconst (v := nI 2) hX dX6_next_105 (by decide) ?_
                    refine g_putI hX (by decide) (by decide) xCl6 15 (by decide) (by decide) (by decide) kX6_90 dX6_next_106 rfl rfl ?_
                    refine g_goto (tgt := 196) hX dX6_next_109 (by decide) ?_
                    refine g_aload_n hX dX6_next_196 rfl 0 rfl ?_
                    refine g_aload_n hX dX6_next_197 rfl 0 rfl ?_
                    refine g_getI (v := nI q) hX (by decide) (by decide) xCl6 14 (by decide) (by decide) kX6_81 dX6_next_198 (xput_i (by decide) hcK) ?_
                    refine g_putI hX (by decide) (by decide) xCl6 17 (by decide) (by decide) (by decide) kX6_99 dX6_next_201 rfl rfl ?_
                    exact g_vret hX hR dX6_next_204 (by decide) (by decide) ⟨rfl, rfl, (by first | (rw [lx_0 hr hb (by omega)]; exact ⟨(nxF.put (nxF.put hFK (by decide)) (by decide)), (xput_i (by decide) (xput_i (by decide) hcK)), (xput_i (by decide) xput_e), (xput_i (by decide) (xput_i (by decide) hsK)), xput_e⟩) | (rw [lx_1 hr hb h74b hq h88b]; exact ⟨(nxF.put (nxF.put hFK (by decide)) (by decide)), (xput_i (by decide) (xput_i (by decide) hcK)), (xput_i (by decide) xput_e), (xput_i (by decide) (xput_i (by decide) hsK)), xput_e⟩) | (rw [lx_2 hr hb h74b h116b hq h130b (by omega)]; exact ⟨(nxF.put (nxF.put hFK (by decide)) (by decide)), (xput_i (by decide) (xput_i (by decide) hcK)), (xput_i (by decide) xput_e), (xput_i (by decide) (xput_i (by decide) hsK)), xput_e⟩) | (rw [lx_4a hr hb h74b h116b hq h130b (by omega)]; exact ⟨(nxF.put (nxF.put hFK (by decide)) (by decide)), (xput_i (by decide) (xput_i (by decide) hcK)), (xput_i (by decide) xput_e), (xput_i (by decide) (xput_i (by decide) hsK)), xput_e⟩) | (rw [lx_3 hr hb hpn h74b h116b (by omega)]; exact ⟨(nxF.put (nxF.put hFK (by decide)) (by decide)), (xput_i (by decide) (xput_i (by decide) hcK)), (xput_i (by decide) xput_e), (xput_i (by decide) (xput_i (by decide) hsK)), xput_e⟩) | (rw [lx_4b hr hb hpn h74b h116b (by omega)]; exact ⟨(nxF.put (nxF.put hFK (by decide)) (by decide)), (xput_i (by decide) (xput_i (by decide) hcK)), (xput_i (by decide) xput_e), (xput_i (by decide) (xput_i (by decide) hsK)), xput_e⟩)), rfl⟩
                  · have h88b := (bA_le ht).mp h88
                    refine g_aload_n hX dX6_next_91 rfl 0 rfl ?_
                    refine g_dup hX rfl dX6_next_92 ?_
                    refine g_getI (v := nI q) hX (by decide) (by decide) xCl6 14 (by decide) (by decide) kX6_81 dX6_next_93 hcK ?_
                    refine g_iconst (v := nI 1) hX dX6_next_96 (by decide) ?_
                    refine g_iadd (v := nI (q + 1)) hX dX6_next_97 (nI_add q 1) ?_
                    refine g_putI hX (by decide) (by decide) xCl6 14 (by decide) (by decide) (by decide) kX6_81 dX6_next_98 rfl rfl ?_
                    refine g_goto (tgt := 77) hX dX6_next_101 (by decide) ?_
                    exact ih77 (q + 1) (xput K 307 14 (nI (q + 1))) (by omega) h88b.1 ((run_in h88b.1 h88b.2).symm.trans hq) (nxF.put hFK (by decide)) xput_e (xput_i (by decide) hsK) (by omega)
              exact cut77 _ p (xput J 307 16 (nI p)) (by first | assumption | omega) (by first | assumption | omega) rfl (nxF.put hF (by decide)) (xput_i (by decide) hc) xput_e (Nat.lt_succ_self _)
          · refine g_aload_n hX dX6_next_62 rfl 0 rfl ?_
            refine g_iconst (v := nI 1) hX dX6_next_63 (by decide) ?_
            refine g_putI hX (by decide) (by decide) xCl6 15 (by decide) (by decide) (by decide) kX6_90 dX6_next_64 rfl rfl ?_
            refine g_goto (tgt := 196) hX dX6_next_67 (by decide) ?_
            refine g_aload_n hX dX6_next_196 rfl 0 rfl ?_
            refine g_aload_n hX dX6_next_197 rfl 0 rfl ?_
            refine g_getI (v := nI p) hX (by decide) (by decide) xCl6 14 (by decide) (by decide) kX6_81 dX6_next_198 (xput_i (by decide) (xput_i (by decide) hc)) ?_
            refine g_putI hX (by decide) (by decide) xCl6 17 (by decide) (by decide) (by decide) kX6_99 dX6_next_201 rfl rfl ?_
            exact g_vret hX hR dX6_next_204 (by decide) (by decide) ⟨rfl, rfl, (by first | (rw [lx_0 hr hb (by omega)]; exact ⟨(nxF.put (nxF.put (nxF.put hF (by decide)) (by decide)) (by decide)), (xput_i (by decide) (xput_i (by decide) (xput_i (by decide) hc))), (xput_i (by decide) xput_e), (xput_i (by decide) (xput_i (by decide) xput_e)), xput_e⟩) | (rw [lx_1 hr hb h74b hq h88b]; exact ⟨(nxF.put (nxF.put (nxF.put hF (by decide)) (by decide)) (by decide)), (xput_i (by decide) (xput_i (by decide) (xput_i (by decide) hc))), (xput_i (by decide) xput_e), (xput_i (by decide) (xput_i (by decide) xput_e)), xput_e⟩) | (rw [lx_2 hr hb h74b h116b hq h130b (by omega)]; exact ⟨(nxF.put (nxF.put (nxF.put hF (by decide)) (by decide)) (by decide)), (xput_i (by decide) (xput_i (by decide) (xput_i (by decide) hc))), (xput_i (by decide) xput_e), (xput_i (by decide) (xput_i (by decide) xput_e)), xput_e⟩) | (rw [lx_4a hr hb h74b h116b hq h130b (by omega)]; exact ⟨(nxF.put (nxF.put (nxF.put hF (by decide)) (by decide)) (by decide)), (xput_i (by decide) (xput_i (by decide) (xput_i (by decide) hc))), (xput_i (by decide) xput_e), (xput_i (by decide) (xput_i (by decide) xput_e)), xput_e⟩) | (rw [lx_3 hr hb hpn h74b h116b (by omega)]; exact ⟨(nxF.put (nxF.put (nxF.put hF (by decide)) (by decide)) (by decide)), (xput_i (by decide) (xput_i (by decide) (xput_i (by decide) hc))), (xput_i (by decide) xput_e), (xput_i (by decide) (xput_i (by decide) xput_e)), xput_e⟩) | (rw [lx_4b hr hb hpn h74b h116b (by omega)]; exact ⟨(nxF.put (nxF.put (nxF.put hF (by decide)) (by decide)) (by decide)), (xput_i (by decide) (xput_i (by decide) (xput_i (by decide) hc))), (xput_i (by decide) xput_e), (xput_i (by decide) (xput_i (by decide) xput_e)), xput_e⟩)), rfl⟩
        · have cut26 : ∀  (hbt : p < n ∧ blB (tp p) = true), G X 319 0 0 J (xRL nw sp) 26 [(0, .ref 307)] [] := by
            intro hbt
            refine g_aload_n hX dX6_next_26 rfl 0 rfl ?_
            refine g_dup hX rfl dX6_next_27 ?_
            refine g_getI (v := nI p) hX (by decide) (by decide) xCl6 14 (by decide) (by decide) kX6_81 dX6_next_28 hc ?_
            refine g_iconst (v := nI 1) hX dX6_next_31 (by decide) ?_
            refine g_iadd (v := nI (p + 1)) hX dX6_next_32 (nI_add p 1) ?_
            refine g_putI hX (by decide) (by decide) xCl6 14 (by decide) (by decide) (by decide) kX6_81 dX6_next_33 rfl rfl ?_
            refine g_goto (tgt := 0) hX dX6_next_36 (by decide) ?_
            exact ih (p + 1) (xput J 307 14 (nI (p + 1))) hbt.1 ((run_in hbt.1 hbt.2).symm.trans hr) (nxF.put hF (by decide)) xput_e (by omega)
          exact cut26 ((bA_bl ht).mp (Or.inr h23))
  exact cut0 _ p0 I (by first | assumption | omega) rfl nxF.refl (by first | assumption | omega) (Nat.lt_succ_self _)
