theorem c_X0_clear (l : Launch) {nw sp : Nat} {I : xM} {g : Nat} (hg : xG g) : xC l 2 0 0 yX0_clear cX0_clear 1 none 319 [.ref g] I (xRL nw sp) (xpV 319 (clM I g) (xRL nw sp)) := by
  refine xC_of (by decide) (Nat.le_of_ble_eq_true rfl) (fun X hXl hX hR => ?_)
  have hX : xOK X RX0 cX0_clear 1 2 0 0 := hX
  show G X 319 0 0 I (xRL nw sp) 0 [(0, .ref g)] []
  have hg8 := xG_8 hg
  refine g_aload_n hX dX0_clear_0 rfl 0 rfl ?_
  refine g_getR (j := g + 1) hX (xG_n (j := 0) hg (by decide)) (xG_K0 hg) xCl0 0 (by decide) (by decide) kX0_9 dX0_clear_1 (xRL_g0 hg) ?_
  refine g_iconst (v := nI 0) hX dX0_clear_4 (by decide) ?_
  refine g_callSv hX (as := [.ref (g + 1), .int (nI 0)]) (fun l => c_J7_fill_53178 l (I := I) (a := (g + 1)) (n := 20) (v := (nI 0)) (hn := (xG_n (j := 1) hg (by decide))) (hK := (xG_K1 hg)) (hN := (xG_N1 hg)) (hn2 := (by first | assumption | omega))) mJ7_fill_53178 sJ7_fill_53178 lX0_67 rfl dX0_clear_5 rfl (by decide) (Nat.le_of_ble_eq_true rfl) (by decide) (by decide) ?_
  refine g_aload_n hX dX0_clear_8 rfl 0 rfl ?_
  refine g_iconst (v := nI 0) hX dX0_clear_9 (by decide) ?_
  refine g_putI hX (xG_n (j := 0) hg (by decide)) (xG_K0 hg) xCl0 1 (by decide) (by decide) (by decide) kX0_15 dX0_clear_10 rfl rfl ?_
  refine g_aload_n hX dX0_clear_13 rfl 0 rfl ?_
  refine g_ldc (v := -1000000) hX cX0_19 dX0_clear_14 ?_
  refine g_putI hX (xG_n (j := 0) hg (by decide)) (xG_K0 hg) xCl0 2 (by decide) (by decide) (by decide) kX0_20 dX0_clear_16 rfl rfl ?_
  refine g_aload_n hX dX0_clear_19 rfl 0 rfl ?_
  refine g_iconst (v := nI 0) hX dX0_clear_20 (by decide) ?_
  refine g_putI hX (xG_n (j := 0) hg (by decide)) (xG_K0 hg) xCl0 3 (by decide) (by decide) (by decide) kX0_23 dX0_clear_21 rfl rfl ?_
  refine g_aload_n hX dX0_clear_24 rfl 0 rfl ?_
  refine g_iconst (v := nI 0) hX dX0_clear_25 (by decide) ?_
  refine g_putI hX (xG_n (j := 0) hg (by decide)) (xG_K0 hg) xCl0 9 (by decide) (by decide) (by decide) kX0_41 dX0_clear_26 rfl rfl ?_
  refine g_aload_n hX dX0_clear_29 rfl 0 rfl ?_
  refine g_iconst (v := nI 0) hX dX0_clear_30 (by decide) ?_
  refine g_putI hX (xG_n (j := 0) hg (by decide)) (xG_K0 hg) xCl0 13 (by decide) (by decide) (by decide) kX0_54 dX0_clear_31 rfl rfl ?_
  refine g_aload_n hX dX0_clear_34 rfl 0 rfl ?_
  refine g_iconst (v := nI 0) hX dX0_clear_35 (by decide) ?_
  refine g_putI hX (xG_n (j := 0) hg (by decide)) (xG_K0 hg) xCl0 14 (by decide) (by decide) (by decide) kX0_57 dX0_clear_36 (by decide) (by decide) ?_
  exact g_vret hX hR dX0_clear_39 (by decide) (by decide) ⟨rfl, rfl, rfl, rfl⟩

theorem c_X1_readInto (l : Launch) {nw sp : Nat} {I : xM} {tp : Nat → Nat} {n g : Nat} {f : Nat → Int32} (hB : cbP I tp n) (hg : xG g) (hbz : BZ I g) : xC l 8 0 0 yX1_readInto cX1_readInto 3 (some .boolean) 319 [.ref 2, .ref g] I (xRL nw sp) (xpR 319 (xRL nw sp) (fun x J => cR tp n g I x J (psR tp n (.inr (lx tp n 0, bsF f 74))))) := by
  refine xC_of (by decide) (Nat.le_of_ble_eq_true rfl) (fun X hXl hX hR => ?_)
  have hX : xOK X RX1 cX1_readInto 3 8 0 0 := hX
  show G X 319 0 0 I (xRL nw sp) 0 [(0, .ref 2), (1, .ref g)] []
  have hg8 := xG_8 hg
  have hg9 := hg8.1
  refine g_aload_n hX dX1_readInto_0 rfl 1 rfl ?_
  refine g_callVv hX (as := []) (fun l => c_X0_clear l (I := I) (g := g) (hg := hg)) mX0_clear vX0_clear lX1_37 (xG_n (j := 0) hg (by decide)) (xG_K0 hg) xCl0 rfl rfl dX1_readInto_1 rfl (by decide) (Nat.le_of_ble_eq_true rfl) (by decide) (by decide) ?_
  refine g_aload_n hX dX1_readInto_4 rfl 0 rfl ?_
  refine g_iconst (v := nI 0) hX dX1_readInto_5 (by decide) ?_
  refine g_putI hX (by decide) (by decide) xCl1 3 (by decide) (by decide) (by decide) kX1_22 dX1_readInto_6 rfl rfl ?_
  refine g_aload_n hX dX1_readInto_9 rfl 0 rfl ?_
  refine g_callVrv hX (as := []) (fun l => c_X1_advance l (I := (xput (clM I g) 2 3 (nI 0))) (tp := tp) (n := n) (p0 := 0) (ht := (cl_tape hg9 hB)) (hp0 := (Nat.zero_le n)) (hc0 := xput_e)) mX1_advance vX1_advance lX1_42 (by decide) (by decide) xCl1 rfl rfl dX1_readInto_10 rfl (by decide) (Nat.le_of_ble_eq_true rfl) (by decide) (by decide) (fun K hK => ?_)
  have k0 := cl_ok (f := f) hg9 hbz hK
  refine g_aload_n hX dX1_readInto_13 rfl 0 rfl ?_
  refine g_aload_n hX dX1_readInto_14 rfl 1 rfl ?_
  refine g_callVr hX (as := [.ref g]) (fun l => c_X1_readGround l (I := K) (tp := tp) (n := n) (g := g) (B := I) (t := (lx tp n 0)) (f := (bsF f 74)) (hB := hB) (hg := hg) (hc := k0)) mX1_readGround vX1_readGround lX1_45 (by decide) (by decide) xCl1 rfl rfl dX1_readInto_15 rfl (by decide) (Nat.le_of_ble_eq_true rfl) (by decide) (by decide) (fun xK1 K1 h1 => ?_)
  refine g_cz_ne (a := xK1.toInt) (tgt := 23) hX dX1_readInto_18 (by decide) rfl (fun h18 => ?_) (fun h18 => ?_)
  · obtain ⟨t1, f1, e1, h1⟩ := cR_y h1 h18
    refine g_aload_n hX dX1_readInto_23 rfl 0 rfl ?_
    refine g_ldcS 1 hX rfl (by decide) dX1_readInto_24 rfl ?_
    refine g_callVi hX (as := [.ref (2000000 + 1)]) (fun l => c_X1_isWord l (I := K1) (tp := tp) (n := n) (k := 1) (t := t1) (ht := (cc_tape hg9 h1.1 hB)) (hk := (by decide)) (htw := h1.2.1) (htx := h1.2.2.1)) mX1_isWord vX1_isWord lX1_51 (by decide) (by decide) xCl1 rfl rfl dX1_readInto_26 rfl (by decide) (Nat.le_of_ble_eq_true rfl) (by decide) (by decide) ?_
    refine g_cb_eq (tgt := 42) hX dX1_readInto_29 (by decide) (fun h29 => ?_) (fun h29 => ?_)
    · have cut42 : ∀ (t2 : xT) (f2 : Nat → Int32) (K2 : xM) (e2 : lakO tp n (gndR tp n (.inr (lx tp n 0, bsF f 74))) = .inr (t2, f2)) (h2 : cOK tp n g I K2 t2 f2), G X 319 0 0 K2 (xRL nw sp) 42 [(0, .ref 2), (1, .ref g)] [] := by
        intro t2 f2 K2 e2 h2
        refine g_iconst (v := nI 0) hX dX1_readInto_42 (by decide) ?_
        refine g_istore_n (L' := [(0, .ref 2), (1, .ref g), (2, .int (nI 0))]) hX dX1_readInto_43 rfl (by decide) rfl ?_
        have cut44 : ∀ (fuel : Nat) (j : Nat) (t3 : xT) (f3 : Nat → Int32) (K3 : xM) (hj : j ≤ 7) (e3 : trI tp n (7 - j) (.inr (t3, f3)) = trI tp n 7 (lakO tp n (gndR tp n (.inr (lx tp n 0, bsF f 74))))) (h3 : cOK tp n g I K3 t3 f3), 7 - j < fuel → G X 319 0 0 K3 (xRL nw sp) 44 [(0, .ref 2), (1, .ref g), (2, .int (nI j))] [] := by
          intro fuel
          induction fuel with
          | zero => intro j t3 f3 K3 hj e3 h3 hfuel; omega
          | succ fuel ih =>
            intro j t3 f3 K3 hj e3 h3 hfuel
            refine g_iload_n hX dX1_readInto_44 rfl 2 rfl ?_
            refine g_bipush (v := nI 6) hX dX1_readInto_45 (by decide) ?_
            refine g_ci_gt (a := ((j : Nat) : Int)) (b := (6 : Int)) (tgt := 75) hX dX1_readInto_47 (by decide) (nI_toInt (by omega)) (by decide) (fun h47 => ?_) (fun h47 => ?_)
            · have cut75 : ∀ (t5 : xT) (f5 : Nat → Int32) (K5 : xM) (e5 : trI tp n 7 (lakO tp n (gndR tp n (.inr (lx tp n 0, bsF f 74)))) = .inr (t5, f5)) (h5 : cOK tp n g I K5 t5 f5), G X 319 0 0 K5 (xRL nw sp) 75 [(0, .ref 2), (1, .ref g)] [] := by
                intro t5 f5 K5 e5 h5
                refine g_iconst (v := nI 0) hX dX1_readInto_75 (by decide) ?_
                refine g_istore_n (L' := [(0, .ref 2), (1, .ref g), (2, .int (nI 0))]) hX dX1_readInto_76 rfl (by decide) rfl ?_
                have cut77 : ∀ (fuel77 : Nat) (j : Nat) (t6 : xT) (f6 : Nat → Int32) (K6 : xM) (hj : j ≤ 7) (e6 : thI tp n (7 - j) (.inr (t6, f6)) = thI tp n 7 (trI tp n 7 (lakO tp n (gndR tp n (.inr (lx tp n 0, bsF f 74)))))) (h6 : cOK tp n g I K6 t6 f6), 7 - j < fuel77 → G X 319 0 0 K6 (xRL nw sp) 77 [(0, .ref 2), (1, .ref g), (2, .int (nI j))] [] := by
                  intro fuel77
                  induction fuel77 with
                  | zero => intro j t6 f6 K6 hj e6 h6 hfuel77; omega
                  | succ fuel77 ih77 =>
                    intro j t6 f6 K6 hj e6 h6 hfuel77
                    refine g_iload_n hX dX1_readInto_77 rfl 2 rfl ?_
                    refine g_bipush (v := nI 6) hX dX1_readInto_78 (by decide) ?_
                    refine g_ci_gt (a := ((j : Nat) : Int)) (b := (6 : Int)) (tgt := 108) hX dX1_readInto_80 (by decide) (nI_toInt (by omega)) (by decide) (fun h80 => ?_) (fun h80 => ?_)
                    · have cut108 : ∀ (t7 : xT) (f7 : Nat → Int32) (K7 : xM) (e7 : thI tp n 7 (trI tp n 7 (lakO tp n (gndR tp n (.inr (lx tp n 0, bsF f 74))))) = .inr (t7, f7)) (h7 : cOK tp n g I K7 t7 f7), G X 319 0 0 K7 (xRL nw sp) 108 [(0, .ref 2), (1, .ref g)] [] := by
                        intro t7 f7 K7 e7 h7
                        have hw7 := h7.2.1.2.2.1
                        refine g_aload_n hX dX1_readInto_108 rfl 0 rfl ?_
                        refine g_getI (v := nI t7.1) hX (by decide) (by decide) xCl1 4 (by decide) (by decide) kX1_25 dX1_readInto_109 (h7.2.2.1.2.2.1) ?_
                        refine g_cz_eq (a := ((t7.1 : Nat) : Int)) (tgt := 123) hX dX1_readInto_112 (by decide) (nI_toInt (by omega)) (fun h112 => ?_) (fun h112 => ?_)
                        · refine g_iconst (v := nI 1) hX dX1_readInto_123 (by decide) ?_
                          refine g_goto (tgt := 128) hX dX1_readInto_124 (by decide) ?_
                          exact g_zret hX hR dX1_readInto_128 (by decide) (by decide) (by decide) ⟨_, rfl, rfl, (by first | exact cR_ok (by show endR (thI tp n 7 _) = _; rw [e7, end_y (show tkR (.inr (t7, f7)) 0 from (show t7.1 = 0 by omega))]) h7 | exact cR_bad (by show endR (thI tp n 7 _) = _; rw [e7, end_n (show ¬ tkR (.inr (t7, f7)) 0 from fun z => h112 (by have z1 : t7.1 = 0 := z; omega))]; rfl) h8), rfl⟩
                        · refine g_aload_n hX dX1_readInto_115 rfl 0 rfl ?_
                          refine g_iconst (v := nI 1) hX dX1_readInto_116 (by decide) ?_
                          refine g_callVr hX (as := [.int (nI 1)]) (fun l => c_X1_refuse l (I := K7) (tp := tp) (n := n) (g := g) (B := I) (t := t7) (f := f7) (k := 1) (hB := hB) (hg := (by first | assumption | omega)) (hc := h7)) mX1_refuse vX1_refuse lX1_68 (by decide) (by decide) xCl1 rfl rfl dX1_readInto_117 rfl (by decide) (Nat.le_of_ble_eq_true rfl) (by decide) (by decide) (fun x8 K8 h8 => ?_)
                          obtain ⟨rfl, h8⟩ := h8
                          refine g_cz_eq (a := (0 : Int)) (tgt := 127) hX dX1_readInto_120 (by decide) (by decide) (fun _ => ?_) (fun q => absurd q (by decide))
                          refine g_iconst (v := nI 0) hX dX1_readInto_127 (by decide) ?_
                          exact g_zret hX hR dX1_readInto_128 (by decide) (by decide) (by decide) ⟨_, rfl, rfl, (by first | exact cR_ok (by show endR (thI tp n 7 _) = _; rw [e7, end_y (show tkR (.inr (t7, f7)) 0 from (show t7.1 = 0 by omega))]) h7 | exact cR_bad (by show endR (thI tp n 7 _) = _; rw [e7, end_n (show ¬ tkR (.inr (t7, f7)) 0 from fun z => h112 (by have z1 : t7.1 = 0 := z; omega))]; rfl) h8), rfl⟩
                      refine g_loc [0, 1] rfl ?_
                      exact cut108 t6 f6 K6 (by rw [← e6, show 7 - j = 0 by omega]; rfl) h6
                    · refine g_aload_n hX dX1_readInto_83 rfl 0 rfl ?_
                      refine g_ldcS 8 hX rfl (by decide) dX1_readInto_84 rfl ?_
                      refine g_callVi hX (as := [.ref (2000000 + 8)]) (fun l => c_X1_isWord l (I := K6) (tp := tp) (n := n) (k := 8) (t := t6) (ht := (cc_tape hg9 h6.1 hB)) (hk := (by decide)) (htw := h6.2.1) (htx := h6.2.2.1)) mX1_isWord vX1_isWord lX1_51 (by decide) (by decide) xCl1 rfl rfl dX1_readInto_86 rfl (by decide) (Nat.le_of_ble_eq_true rfl) (by decide) (by decide) ?_
                      refine g_cb_eq (tgt := 108) hX dX1_readInto_89 (by decide) (fun h89 => ?_) (fun h89 => ?_)
                      · have cut108 : ∀ (t7 : xT) (f7 : Nat → Int32) (K7 : xM) (e7 : thI tp n 7 (trI tp n 7 (lakO tp n (gndR tp n (.inr (lx tp n 0, bsF f 74))))) = .inr (t7, f7)) (h7 : cOK tp n g I K7 t7 f7), G X 319 0 0 K7 (xRL nw sp) 108 [(0, .ref 2), (1, .ref g)] [] := by
                          intro t7 f7 K7 e7 h7
                          have hw7 := h7.2.1.2.2.1
                          refine g_aload_n hX dX1_readInto_108 rfl 0 rfl ?_
                          refine g_getI (v := nI t7.1) hX (by decide) (by decide) xCl1 4 (by decide) (by decide) kX1_25 dX1_readInto_109 (h7.2.2.1.2.2.1) ?_
                          refine g_cz_eq (a := ((t7.1 : Nat) : Int)) (tgt := 123) hX dX1_readInto_112 (by decide) (nI_toInt (by omega)) (fun h112 => ?_) (fun h112 => ?_)
                          · refine g_iconst (v := nI 1) hX dX1_readInto_123 (by decide) ?_
                            refine g_goto (tgt := 128) hX dX1_readInto_124 (by decide) ?_
                            exact g_zret hX hR dX1_readInto_128 (by decide) (by decide) (by decide) ⟨_, rfl, rfl, (by first | exact cR_ok (by show endR (thI tp n 7 _) = _; rw [e7, end_y (show tkR (.inr (t7, f7)) 0 from (show t7.1 = 0 by omega))]) h7 | exact cR_bad (by show endR (thI tp n 7 _) = _; rw [e7, end_n (show ¬ tkR (.inr (t7, f7)) 0 from fun z => h112 (by have z1 : t7.1 = 0 := z; omega))]; rfl) h8), rfl⟩
                          · refine g_aload_n hX dX1_readInto_115 rfl 0 rfl ?_
                            refine g_iconst (v := nI 1) hX dX1_readInto_116 (by decide) ?_
                            refine g_callVr hX (as := [.int (nI 1)]) (fun l => c_X1_refuse l (I := K7) (tp := tp) (n := n) (g := g) (B := I) (t := t7) (f := f7) (k := 1) (hB := hB) (hg := (by first | assumption | omega)) (hc := h7)) mX1_refuse vX1_refuse lX1_68 (by decide) (by decide) xCl1 rfl rfl dX1_readInto_117 rfl (by decide) (Nat.le_of_ble_eq_true rfl) (by decide) (by decide) (fun x8 K8 h8 => ?_)
                            obtain ⟨rfl, h8⟩ := h8
                            refine g_cz_eq (a := (0 : Int)) (tgt := 127) hX dX1_readInto_120 (by decide) (by decide) (fun _ => ?_) (fun q => absurd q (by decide))
                            refine g_iconst (v := nI 0) hX dX1_readInto_127 (by decide) ?_
                            exact g_zret hX hR dX1_readInto_128 (by decide) (by decide) (by decide) ⟨_, rfl, rfl, (by first | exact cR_ok (by show endR (thI tp n 7 _) = _; rw [e7, end_y (show tkR (.inr (t7, f7)) 0 from (show t7.1 = 0 by omega))]) h7 | exact cR_bad (by show endR (thI tp n 7 _) = _; rw [e7, end_n (show ¬ tkR (.inr (t7, f7)) 0 from fun z => h112 (by have z1 : t7.1 = 0 := z; omega))]; rfl) h8), rfl⟩
                        refine g_loc [0, 1] rfl ?_
                        exact cut108 t6 f6 K6 (by rw [← e6, thI_n (show ¬ wrdP tp wThing (.inr (t6, f6)) from h89)]) h6
                      · refine g_aload_n hX dX1_readInto_92 rfl 0 rfl ?_
                        refine g_aload_n hX dX1_readInto_93 rfl 1 rfl ?_
                        refine g_callVr hX (as := [.ref g]) (fun l => c_X1_readThing l (I := K6) (tp := tp) (n := n) (g := g) (B := I) (t := t6) (f := f6) (hB := hB) (hg := hg) (hc := h6)) mX1_readThing vX1_readThing lX1_65 (by decide) (by decide) xCl1 rfl rfl dX1_readInto_94 rfl (by decide) (Nat.le_of_ble_eq_true rfl) (by decide) (by decide) (fun xK4 K4 h4 => ?_)
                        refine g_cz_ne (a := xK4.toInt) (tgt := 102) hX dX1_readInto_97 (by decide) rfl (fun h97 => ?_) (fun h97 => ?_)
                        · obtain ⟨t4, f4, e4, h4⟩ := cR_y h4 h97
                          refine g_iinc (v := nI (j + 1)) (L' := [(0, .ref 2), (1, .ref g), (2, .int (nI (j + 1)))]) hX dX1_readInto_102 (by decide) 2 rfl (nI_add j 1) rfl ?_
                          refine g_goto (tgt := 77) hX dX1_readInto_105 (by decide) ?_
                          exact ih77 (j + 1) t4 f4 K4 (by first | assumption | omega) (by rw [← e4]; exact th_stepJ h89 (by omega) e6) h4 (by omega)
                        · obtain ⟨e, e4, h4⟩ := cR_n h4 h97
                          refine g_iconst (v := nI 0) hX dX1_readInto_100 (by decide) ?_
                          exact g_zret hX hR dX1_readInto_101 (by decide) (by decide) (by decide) ⟨_, rfl, rfl, (cR_bad (ps_h (by rw [← th_stepJ h89 (by omega) e6, e4, thI_n (r := .inl e) (fun q => q)])) h4), rfl⟩
                exact cut77 _ 0 t5 f5 K5 (by first | assumption | omega) (by rw [e5]) h5 (Nat.lt_succ_self _)
              refine g_loc [0, 1] rfl ?_
              exact cut75 t3 f3 K3 (by rw [← e3, show 7 - j = 0 by omega]; rfl) h3
            · refine g_aload_n hX dX1_readInto_50 rfl 0 rfl ?_
              refine g_ldcS 2 hX rfl (by decide) dX1_readInto_51 rfl ?_
              refine g_callVi hX (as := [.ref (2000000 + 2)]) (fun l => c_X1_isWord l (I := K3) (tp := tp) (n := n) (k := 2) (t := t3) (ht := (cc_tape hg9 h3.1 hB)) (hk := (by decide)) (htw := h3.2.1) (htx := h3.2.2.1)) mX1_isWord vX1_isWord lX1_51 (by decide) (by decide) xCl1 rfl rfl dX1_readInto_53 rfl (by decide) (Nat.le_of_ble_eq_true rfl) (by decide) (by decide) ?_
              refine g_cb_eq (tgt := 75) hX dX1_readInto_56 (by decide) (fun h56 => ?_) (fun h56 => ?_)
              · have cut75 : ∀ (t5 : xT) (f5 : Nat → Int32) (K5 : xM) (e5 : trI tp n 7 (lakO tp n (gndR tp n (.inr (lx tp n 0, bsF f 74)))) = .inr (t5, f5)) (h5 : cOK tp n g I K5 t5 f5), G X 319 0 0 K5 (xRL nw sp) 75 [(0, .ref 2), (1, .ref g)] [] := by
                  intro t5 f5 K5 e5 h5
                  refine g_iconst (v := nI 0) hX dX1_readInto_75 (by decide) ?_
                  refine g_istore_n (L' := [(0, .ref 2), (1, .ref g), (2, .int (nI 0))]) hX dX1_readInto_76 rfl (by decide) rfl ?_
                  have cut77 : ∀ (fuel77 : Nat) (j : Nat) (t6 : xT) (f6 : Nat → Int32) (K6 : xM) (hj : j ≤ 7) (e6 : thI tp n (7 - j) (.inr (t6, f6)) = thI tp n 7 (trI tp n 7 (lakO tp n (gndR tp n (.inr (lx tp n 0, bsF f 74)))))) (h6 : cOK tp n g I K6 t6 f6), 7 - j < fuel77 → G X 319 0 0 K6 (xRL nw sp) 77 [(0, .ref 2), (1, .ref g), (2, .int (nI j))] [] := by
                    intro fuel77
                    induction fuel77 with
                    | zero => intro j t6 f6 K6 hj e6 h6 hfuel77; omega
                    | succ fuel77 ih77 =>
                      intro j t6 f6 K6 hj e6 h6 hfuel77
                      refine g_iload_n hX dX1_readInto_77 rfl 2 rfl ?_
                      refine g_bipush (v := nI 6) hX dX1_readInto_78 (by decide) ?_
                      refine g_ci_gt (a := ((j : Nat) : Int)) (b := (6 : Int)) (tgt := 108) hX dX1_readInto_80 (by decide) (nI_toInt (by omega)) (by decide) (fun h80 => ?_) (fun h80 => ?_)
                      · have cut108 : ∀ (t7 : xT) (f7 : Nat → Int32) (K7 : xM) (e7 : thI tp n 7 (trI tp n 7 (lakO tp n (gndR tp n (.inr (lx tp n 0, bsF f 74))))) = .inr (t7, f7)) (h7 : cOK tp n g I K7 t7 f7), G X 319 0 0 K7 (xRL nw sp) 108 [(0, .ref 2), (1, .ref g)] [] := by
                          intro t7 f7 K7 e7 h7
                          have hw7 := h7.2.1.2.2.1
                          refine g_aload_n hX dX1_readInto_108 rfl 0 rfl ?_
                          refine g_getI (v := nI t7.1) hX (by decide) (by decide) xCl1 4 (by decide) (by decide) kX1_25 dX1_readInto_109 (h7.2.2.1.2.2.1) ?_
                          refine g_cz_eq (a := ((t7.1 : Nat) : Int)) (tgt := 123) hX dX1_readInto_112 (by decide) (nI_toInt (by omega)) (fun h112 => ?_) (fun h112 => ?_)
                          · refine g_iconst (v := nI 1) hX dX1_readInto_123 (by decide) ?_
                            refine g_goto (tgt := 128) hX dX1_readInto_124 (by decide) ?_
                            exact g_zret hX hR dX1_readInto_128 (by decide) (by decide) (by decide) ⟨_, rfl, rfl, (by first | exact cR_ok (by show endR (thI tp n 7 _) = _; rw [e7, end_y (show tkR (.inr (t7, f7)) 0 from (show t7.1 = 0 by omega))]) h7 | exact cR_bad (by show endR (thI tp n 7 _) = _; rw [e7, end_n (show ¬ tkR (.inr (t7, f7)) 0 from fun z => h112 (by have z1 : t7.1 = 0 := z; omega))]; rfl) h8), rfl⟩
                          · refine g_aload_n hX dX1_readInto_115 rfl 0 rfl ?_
                            refine g_iconst (v := nI 1) hX dX1_readInto_116 (by decide) ?_
                            refine g_callVr hX (as := [.int (nI 1)]) (fun l => c_X1_refuse l (I := K7) (tp := tp) (n := n) (g := g) (B := I) (t := t7) (f := f7) (k := 1) (hB := hB) (hg := (by first | assumption | omega)) (hc := h7)) mX1_refuse vX1_refuse lX1_68 (by decide) (by decide) xCl1 rfl rfl dX1_readInto_117 rfl (by decide) (Nat.le_of_ble_eq_true rfl) (by decide) (by decide) (fun x8 K8 h8 => ?_)
                            obtain ⟨rfl, h8⟩ := h8
                            refine g_cz_eq (a := (0 : Int)) (tgt := 127) hX dX1_readInto_120 (by decide) (by decide) (fun _ => ?_) (fun q => absurd q (by decide))
                            refine g_iconst (v := nI 0) hX dX1_readInto_127 (by decide) ?_
                            exact g_zret hX hR dX1_readInto_128 (by decide) (by decide) (by decide) ⟨_, rfl, rfl, (by first | exact cR_ok (by show endR (thI tp n 7 _) = _; rw [e7, end_y (show tkR (.inr (t7, f7)) 0 from (show t7.1 = 0 by omega))]) h7 | exact cR_bad (by show endR (thI tp n 7 _) = _; rw [e7, end_n (show ¬ tkR (.inr (t7, f7)) 0 from fun z => h112 (by have z1 : t7.1 = 0 := z; omega))]; rfl) h8), rfl⟩
                        refine g_loc [0, 1] rfl ?_
                        exact cut108 t6 f6 K6 (by rw [← e6, show 7 - j = 0 by omega]; rfl) h6
                      · refine g_aload_n hX dX1_readInto_83 rfl 0 rfl ?_
                        refine g_ldcS 8 hX rfl (by decide) dX1_readInto_84 rfl ?_
                        refine g_callVi hX (as := [.ref (2000000 + 8)]) (fun l => c_X1_isWord l (I := K6) (tp := tp) (n := n) (k := 8) (t := t6) (ht := (cc_tape hg9 h6.1 hB)) (hk := (by decide)) (htw := h6.2.1) (htx := h6.2.2.1)) mX1_isWord vX1_isWord lX1_51 (by decide) (by decide) xCl1 rfl rfl dX1_readInto_86 rfl (by decide) (Nat.le_of_ble_eq_true rfl) (by decide) (by decide) ?_
                        refine g_cb_eq (tgt := 108) hX dX1_readInto_89 (by decide) (fun h89 => ?_) (fun h89 => ?_)
                        · have cut108 : ∀ (t7 : xT) (f7 : Nat → Int32) (K7 : xM) (e7 : thI tp n 7 (trI tp n 7 (lakO tp n (gndR tp n (.inr (lx tp n 0, bsF f 74))))) = .inr (t7, f7)) (h7 : cOK tp n g I K7 t7 f7), G X 319 0 0 K7 (xRL nw sp) 108 [(0, .ref 2), (1, .ref g)] [] := by
                            intro t7 f7 K7 e7 h7
                            have hw7 := h7.2.1.2.2.1
                            refine g_aload_n hX dX1_readInto_108 rfl 0 rfl ?_
                            refine g_getI (v := nI t7.1) hX (by decide) (by decide) xCl1 4 (by decide) (by decide) kX1_25 dX1_readInto_109 (h7.2.2.1.2.2.1) ?_
                            refine g_cz_eq (a := ((t7.1 : Nat) : Int)) (tgt := 123) hX dX1_readInto_112 (by decide) (nI_toInt (by omega)) (fun h112 => ?_) (fun h112 => ?_)
                            · refine g_iconst (v := nI 1) hX dX1_readInto_123 (by decide) ?_
                              refine g_goto (tgt := 128) hX dX1_readInto_124 (by decide) ?_
                              exact g_zret hX hR dX1_readInto_128 (by decide) (by decide) (by decide) ⟨_, rfl, rfl, (by first | exact cR_ok (by show endR (thI tp n 7 _) = _; rw [e7, end_y (show tkR (.inr (t7, f7)) 0 from (show t7.1 = 0 by omega))]) h7 | exact cR_bad (by show endR (thI tp n 7 _) = _; rw [e7, end_n (show ¬ tkR (.inr (t7, f7)) 0 from fun z => h112 (by have z1 : t7.1 = 0 := z; omega))]; rfl) h8), rfl⟩
                            · refine g_aload_n hX dX1_readInto_115 rfl 0 rfl ?_
                              refine g_iconst (v := nI 1) hX dX1_readInto_116 (by decide) ?_
                              refine g_callVr hX (as := [.int (nI 1)]) (fun l => c_X1_refuse l (I := K7) (tp := tp) (n := n) (g := g) (B := I) (t := t7) (f := f7) (k := 1) (hB := hB) (hg := (by first | assumption | omega)) (hc := h7)) mX1_refuse vX1_refuse lX1_68 (by decide) (by decide) xCl1 rfl rfl dX1_readInto_117 rfl (by decide) (Nat.le_of_ble_eq_true rfl) (by decide) (by decide) (fun x8 K8 h8 => ?_)
                              obtain ⟨rfl, h8⟩ := h8
                              refine g_cz_eq (a := (0 : Int)) (tgt := 127) hX dX1_readInto_120 (by decide) (by decide) (fun _ => ?_) (fun q => absurd q (by decide))
                              refine g_iconst (v := nI 0) hX dX1_readInto_127 (by decide) ?_
                              exact g_zret hX hR dX1_readInto_128 (by decide) (by decide) (by decide) ⟨_, rfl, rfl, (by first | exact cR_ok (by show endR (thI tp n 7 _) = _; rw [e7, end_y (show tkR (.inr (t7, f7)) 0 from (show t7.1 = 0 by omega))]) h7 | exact cR_bad (by show endR (thI tp n 7 _) = _; rw [e7, end_n (show ¬ tkR (.inr (t7, f7)) 0 from fun z => h112 (by have z1 : t7.1 = 0 := z; omega))]; rfl) h8), rfl⟩
                          refine g_loc [0, 1] rfl ?_
                          exact cut108 t6 f6 K6 (by rw [← e6, thI_n (show ¬ wrdP tp wThing (.inr (t6, f6)) from h89)]) h6
                        · refine g_aload_n hX dX1_readInto_92 rfl 0 rfl ?_
                          refine g_aload_n hX dX1_readInto_93 rfl 1 rfl ?_
                          refine g_callVr hX (as := [.ref g]) (fun l => c_X1_readThing l (I := K6) (tp := tp) (n := n) (g := g) (B := I) (t := t6) (f := f6) (hB := hB) (hg := hg) (hc := h6)) mX1_readThing vX1_readThing lX1_65 (by decide) (by decide) xCl1 rfl rfl dX1_readInto_94 rfl (by decide) (Nat.le_of_ble_eq_true rfl) (by decide) (by decide) (fun xK4 K4 h4 => ?_)
                          refine g_cz_ne (a := xK4.toInt) (tgt := 102) hX dX1_readInto_97 (by decide) rfl (fun h97 => ?_) (fun h97 => ?_)
                          · obtain ⟨t4, f4, e4, h4⟩ := cR_y h4 h97
                            refine g_iinc (v := nI (j + 1)) (L' := [(0, .ref 2), (1, .ref g), (2, .int (nI (j + 1)))]) hX dX1_readInto_102 (by decide) 2 rfl (nI_add j 1) rfl ?_
                            refine g_goto (tgt := 77) hX dX1_readInto_105 (by decide) ?_
                            exact ih77 (j + 1) t4 f4 K4 (by first | assumption | omega) (by rw [← e4]; exact th_stepJ h89 (by omega) e6) h4 (by omega)
                          · obtain ⟨e, e4, h4⟩ := cR_n h4 h97
                            refine g_iconst (v := nI 0) hX dX1_readInto_100 (by decide) ?_
                            exact g_zret hX hR dX1_readInto_101 (by decide) (by decide) (by decide) ⟨_, rfl, rfl, (cR_bad (ps_h (by rw [← th_stepJ h89 (by omega) e6, e4, thI_n (r := .inl e) (fun q => q)])) h4), rfl⟩
                  exact cut77 _ 0 t5 f5 K5 (by first | assumption | omega) (by rw [e5]) h5 (Nat.lt_succ_self _)
                refine g_loc [0, 1] rfl ?_
                exact cut75 t3 f3 K3 (by rw [← e3, trI_n (show ¬ wrdP tp wTree (.inr (t3, f3)) from h56)]) h3
              · refine g_aload_n hX dX1_readInto_59 rfl 0 rfl ?_
                refine g_aload_n hX dX1_readInto_60 rfl 1 rfl ?_
                refine g_callVr hX (as := [.ref g]) (fun l => c_X1_readTree l (I := K3) (tp := tp) (n := n) (g := g) (B := I) (t := t3) (f := f3) (hB := hB) (hg := hg) (hc := h3)) mX1_readTree vX1_readTree lX1_60 (by decide) (by decide) xCl1 rfl rfl dX1_readInto_61 rfl (by decide) (Nat.le_of_ble_eq_true rfl) (by decide) (by decide) (fun xK4 K4 h4 => ?_)
                refine g_cz_ne (a := xK4.toInt) (tgt := 69) hX dX1_readInto_64 (by decide) rfl (fun h64 => ?_) (fun h64 => ?_)
                · obtain ⟨t4, f4, e4, h4⟩ := cR_y h4 h64
                  refine g_iinc (v := nI (j + 1)) (L' := [(0, .ref 2), (1, .ref g), (2, .int (nI (j + 1)))]) hX dX1_readInto_69 (by decide) 2 rfl (nI_add j 1) rfl ?_
                  refine g_goto (tgt := 44) hX dX1_readInto_72 (by decide) ?_
                  exact ih (j + 1) t4 f4 K4 (by first | assumption | omega) (by rw [← e4]; exact tr_stepJ h56 (by omega) e3) h4 (by omega)
                · obtain ⟨e, e4, h4⟩ := cR_n h4 h64
                  refine g_iconst (v := nI 0) hX dX1_readInto_67 (by decide) ?_
                  exact g_zret hX hR dX1_readInto_68 (by decide) (by decide) (by decide) ⟨_, rfl, rfl, (cR_bad (ps_t (by rw [← tr_stepJ h56 (by omega) e3, e4, trI_n (r := .inl e) (fun q => q)])) h4), rfl⟩
        exact cut44 _ 0 t2 f2 K2 (by first | assumption | omega) (by rw [e2]) h2 (Nat.lt_succ_self _)
      exact cut42 t1 f1 K1 (by rw [e1, lako_n (show ¬ wrdP tp wLake (.inr (t1, f1)) from h29)]) h1
    · refine g_aload_n hX dX1_readInto_32 rfl 0 rfl ?_
      refine g_aload_n hX dX1_readInto_33 rfl 1 rfl ?_
      refine g_callVr hX (as := [.ref g]) (fun l => c_X1_readLake l (I := K1) (tp := tp) (n := n) (g := g) (B := I) (t := t1) (f := f1) (hB := hB) (hg := hg) (hc := h1) (h4 := ((gnd_4 e1).trans rfl))) mX1_readLake vX1_readLake lX1_55 (by decide) (by decide) xCl1 rfl rfl dX1_readInto_34 rfl (by decide) (Nat.le_of_ble_eq_true rfl) (by decide) (by decide) (fun xK2 K2 h2 => ?_)
      refine g_cz_ne (a := xK2.toInt) (tgt := 42) hX dX1_readInto_37 (by decide) rfl (fun h37 => ?_) (fun h37 => ?_)
      · obtain ⟨t2, f2, e2, h2⟩ := cR_y h2 h37
        have cut42 : ∀ (t2 : xT) (f2 : Nat → Int32) (K2 : xM) (e2 : lakO tp n (gndR tp n (.inr (lx tp n 0, bsF f 74))) = .inr (t2, f2)) (h2 : cOK tp n g I K2 t2 f2), G X 319 0 0 K2 (xRL nw sp) 42 [(0, .ref 2), (1, .ref g)] [] := by
          intro t2 f2 K2 e2 h2
          refine g_iconst (v := nI 0) hX dX1_readInto_42 (by decide) ?_
          refine g_istore_n (L' := [(0, .ref 2), (1, .ref g), (2, .int (nI 0))]) hX dX1_readInto_43 rfl (by decide) rfl ?_
          have cut44 : ∀ (fuel : Nat) (j : Nat) (t3 : xT) (f3 : Nat → Int32) (K3 : xM) (hj : j ≤ 7) (e3 : trI tp n (7 - j) (.inr (t3, f3)) = trI tp n 7 (lakO tp n (gndR tp n (.inr (lx tp n 0, bsF f 74))))) (h3 : cOK tp n g I K3 t3 f3), 7 - j < fuel → G X 319 0 0 K3 (xRL nw sp) 44 [(0, .ref 2), (1, .ref g), (2, .int (nI j))] [] := by
            intro fuel
            induction fuel with
            | zero => intro j t3 f3 K3 hj e3 h3 hfuel; omega
            | succ fuel ih =>
              intro j t3 f3 K3 hj e3 h3 hfuel
              refine g_iload_n hX dX1_readInto_44 rfl 2 rfl ?_
              refine g_bipush (v := nI 6) hX dX1_readInto_45 (by decide) ?_
              refine g_ci_gt (a := ((j : Nat) : Int)) (b := (6 : Int)) (tgt := 75) hX dX1_readInto_47 (by decide) (nI_toInt (by omega)) (by decide) (fun h47 => ?_) (fun h47 => ?_)
              · have cut75 : ∀ (t5 : xT) (f5 : Nat → Int32) (K5 : xM) (e5 : trI tp n 7 (lakO tp n (gndR tp n (.inr (lx tp n 0, bsF f 74)))) = .inr (t5, f5)) (h5 : cOK tp n g I K5 t5 f5), G X 319 0 0 K5 (xRL nw sp) 75 [(0, .ref 2), (1, .ref g)] [] := by
                  intro t5 f5 K5 e5 h5
                  refine g_iconst (v := nI 0) hX dX1_readInto_75 (by decide) ?_
                  refine g_istore_n (L' := [(0, .ref 2), (1, .ref g), (2, .int (nI 0))]) hX dX1_readInto_76 rfl (by decide) rfl ?_
                  have cut77 : ∀ (fuel77 : Nat) (j : Nat) (t6 : xT) (f6 : Nat → Int32) (K6 : xM) (hj : j ≤ 7) (e6 : thI tp n (7 - j) (.inr (t6, f6)) = thI tp n 7 (trI tp n 7 (lakO tp n (gndR tp n (.inr (lx tp n 0, bsF f 74)))))) (h6 : cOK tp n g I K6 t6 f6), 7 - j < fuel77 → G X 319 0 0 K6 (xRL nw sp) 77 [(0, .ref 2), (1, .ref g), (2, .int (nI j))] [] := by
                    intro fuel77
                    induction fuel77 with
                    | zero => intro j t6 f6 K6 hj e6 h6 hfuel77; omega
                    | succ fuel77 ih77 =>
                      intro j t6 f6 K6 hj e6 h6 hfuel77
                      refine g_iload_n hX dX1_readInto_77 rfl 2 rfl ?_
                      refine g_bipush (v := nI 6) hX dX1_readInto_78 (by decide) ?_
                      refine g_ci_gt (a := ((j : Nat) : Int)) (b := (6 : Int)) (tgt := 108) hX dX1_readInto_80 (by decide) (nI_toInt (by omega)) (by decide) (fun h80 => ?_) (fun h80 => ?_)
                      · have cut108 : ∀ (t7 : xT) (f7 : Nat → Int32) (K7 : xM) (e7 : thI tp n 7 (trI tp n 7 (lakO tp n (gndR tp n (.inr (lx tp n 0, bsF f 74))))) = .inr (t7, f7)) (h7 : cOK tp n g I K7 t7 f7), G X 319 0 0 K7 (xRL nw sp) 108 [(0, .ref 2), (1, .ref g)] [] := by
                          intro t7 f7 K7 e7 h7
                          have hw7 := h7.2.1.2.2.1
                          refine g_aload_n hX dX1_readInto_108 rfl 0 rfl ?_
                          refine g_getI (v := nI t7.1) hX (by decide) (by decide) xCl1 4 (by decide) (by decide) kX1_25 dX1_readInto_109 (h7.2.2.1.2.2.1) ?_
                          refine g_cz_eq (a := ((t7.1 : Nat) : Int)) (tgt := 123) hX dX1_readInto_112 (by decide) (nI_toInt (by omega)) (fun h112 => ?_) (fun h112 => ?_)
                          · refine g_iconst (v := nI 1) hX dX1_readInto_123 (by decide) ?_
                            refine g_goto (tgt := 128) hX dX1_readInto_124 (by decide) ?_
                            exact g_zret hX hR dX1_readInto_128 (by decide) (by decide) (by decide) ⟨_, rfl, rfl, (by first | exact cR_ok (by show endR (thI tp n 7 _) = _; rw [e7, end_y (show tkR (.inr (t7, f7)) 0 from (show t7.1 = 0 by omega))]) h7 | exact cR_bad (by show endR (thI tp n 7 _) = _; rw [e7, end_n (show ¬ tkR (.inr (t7, f7)) 0 from fun z => h112 (by have z1 : t7.1 = 0 := z; omega))]; rfl) h8), rfl⟩
                          · refine g_aload_n hX dX1_readInto_115 rfl 0 rfl ?_
                            refine g_iconst (v := nI 1) hX dX1_readInto_116 (by decide) ?_
                            refine g_callVr hX (as := [.int (nI 1)]) (fun l => c_X1_refuse l (I := K7) (tp := tp) (n := n) (g := g) (B := I) (t := t7) (f := f7) (k := 1) (hB := hB) (hg := (by first | assumption | omega)) (hc := h7)) mX1_refuse vX1_refuse lX1_68 (by decide) (by decide) xCl1 rfl rfl dX1_readInto_117 rfl (by decide) (Nat.le_of_ble_eq_true rfl) (by decide) (by decide) (fun x8 K8 h8 => ?_)
                            obtain ⟨rfl, h8⟩ := h8
                            refine g_cz_eq (a := (0 : Int)) (tgt := 127) hX dX1_readInto_120 (by decide) (by decide) (fun _ => ?_) (fun q => absurd q (by decide))
                            refine g_iconst (v := nI 0) hX dX1_readInto_127 (by decide) ?_
                            exact g_zret hX hR dX1_readInto_128 (by decide) (by decide) (by decide) ⟨_, rfl, rfl, (by first | exact cR_ok (by show endR (thI tp n 7 _) = _; rw [e7, end_y (show tkR (.inr (t7, f7)) 0 from (show t7.1 = 0 by omega))]) h7 | exact cR_bad (by show endR (thI tp n 7 _) = _; rw [e7, end_n (show ¬ tkR (.inr (t7, f7)) 0 from fun z => h112 (by have z1 : t7.1 = 0 := z; omega))]; rfl) h8), rfl⟩
                        refine g_loc [0, 1] rfl ?_
                        exact cut108 t6 f6 K6 (by rw [← e6, show 7 - j = 0 by omega]; rfl) h6
                      · refine g_aload_n hX dX1_readInto_83 rfl 0 rfl ?_
                        refine g_ldcS 8 hX rfl (by decide) dX1_readInto_84 rfl ?_
                        refine g_callVi hX (as := [.ref (2000000 + 8)]) (fun l => c_X1_isWord l (I := K6) (tp := tp) (n := n) (k := 8) (t := t6) (ht := (cc_tape hg9 h6.1 hB)) (hk := (by decide)) (htw := h6.2.1) (htx := h6.2.2.1)) mX1_isWord vX1_isWord lX1_51 (by decide) (by decide) xCl1 rfl rfl dX1_readInto_86 rfl (by decide) (Nat.le_of_ble_eq_true rfl) (by decide) (by decide) ?_
                        refine g_cb_eq (tgt := 108) hX dX1_readInto_89 (by decide) (fun h89 => ?_) (fun h89 => ?_)
                        · have cut108 : ∀ (t7 : xT) (f7 : Nat → Int32) (K7 : xM) (e7 : thI tp n 7 (trI tp n 7 (lakO tp n (gndR tp n (.inr (lx tp n 0, bsF f 74))))) = .inr (t7, f7)) (h7 : cOK tp n g I K7 t7 f7), G X 319 0 0 K7 (xRL nw sp) 108 [(0, .ref 2), (1, .ref g)] [] := by
                            intro t7 f7 K7 e7 h7
                            have hw7 := h7.2.1.2.2.1
                            refine g_aload_n hX dX1_readInto_108 rfl 0 rfl ?_
                            refine g_getI (v := nI t7.1) hX (by decide) (by decide) xCl1 4 (by decide) (by decide) kX1_25 dX1_readInto_109 (h7.2.2.1.2.2.1) ?_
                            refine g_cz_eq (a := ((t7.1 : Nat) : Int)) (tgt := 123) hX dX1_readInto_112 (by decide) (nI_toInt (by omega)) (fun h112 => ?_) (fun h112 => ?_)
                            · refine g_iconst (v := nI 1) hX dX1_readInto_123 (by decide) ?_
                              refine g_goto (tgt := 128) hX dX1_readInto_124 (by decide) ?_
                              exact g_zret hX hR dX1_readInto_128 (by decide) (by decide) (by decide) ⟨_, rfl, rfl, (by first | exact cR_ok (by show endR (thI tp n 7 _) = _; rw [e7, end_y (show tkR (.inr (t7, f7)) 0 from (show t7.1 = 0 by omega))]) h7 | exact cR_bad (by show endR (thI tp n 7 _) = _; rw [e7, end_n (show ¬ tkR (.inr (t7, f7)) 0 from fun z => h112 (by have z1 : t7.1 = 0 := z; omega))]; rfl) h8), rfl⟩
                            · refine g_aload_n hX dX1_readInto_115 rfl 0 rfl ?_
                              refine g_iconst (v := nI 1) hX dX1_readInto_116 (by decide) ?_
                              refine g_callVr hX (as := [.int (nI 1)]) (fun l => c_X1_refuse l (I := K7) (tp := tp) (n := n) (g := g) (B := I) (t := t7) (f := f7) (k := 1) (hB := hB) (hg := (by first | assumption | omega)) (hc := h7)) mX1_refuse vX1_refuse lX1_68 (by decide) (by decide) xCl1 rfl rfl dX1_readInto_117 rfl (by decide) (Nat.le_of_ble_eq_true rfl) (by decide) (by decide) (fun x8 K8 h8 => ?_)
                              obtain ⟨rfl, h8⟩ := h8
                              refine g_cz_eq (a := (0 : Int)) (tgt := 127) hX dX1_readInto_120 (by decide) (by decide) (fun _ => ?_) (fun q => absurd q (by decide))
                              refine g_iconst (v := nI 0) hX dX1_readInto_127 (by decide) ?_
                              exact g_zret hX hR dX1_readInto_128 (by decide) (by decide) (by decide) ⟨_, rfl, rfl, (by first | exact cR_ok (by show endR (thI tp n 7 _) = _; rw [e7, end_y (show tkR (.inr (t7, f7)) 0 from (show t7.1 = 0 by omega))]) h7 | exact cR_bad (by show endR (thI tp n 7 _) = _; rw [e7, end_n (show ¬ tkR (.inr (t7, f7)) 0 from fun z => h112 (by have z1 : t7.1 = 0 := z; omega))]; rfl) h8), rfl⟩
                          refine g_loc [0, 1] rfl ?_
                          exact cut108 t6 f6 K6 (by rw [← e6, thI_n (show ¬ wrdP tp wThing (.inr (t6, f6)) from h89)]) h6
                        · refine g_aload_n hX dX1_readInto_92 rfl 0 rfl ?_
                          refine g_aload_n hX dX1_readInto_93 rfl 1 rfl ?_
                          refine g_callVr hX (as := [.ref g]) (fun l => c_X1_readThing l (I := K6) (tp := tp) (n := n) (g := g) (B := I) (t := t6) (f := f6) (hB := hB) (hg := hg) (hc := h6)) mX1_readThing vX1_readThing lX1_65 (by decide) (by decide) xCl1 rfl rfl dX1_readInto_94 rfl (by decide) (Nat.le_of_ble_eq_true rfl) (by decide) (by decide) (fun xK4 K4 h4 => ?_)
                          refine g_cz_ne (a := xK4.toInt) (tgt := 102) hX dX1_readInto_97 (by decide) rfl (fun h97 => ?_) (fun h97 => ?_)
                          · obtain ⟨t4, f4, e4, h4⟩ := cR_y h4 h97
                            refine g_iinc (v := nI (j + 1)) (L' := [(0, .ref 2), (1, .ref g), (2, .int (nI (j + 1)))]) hX dX1_readInto_102 (by decide) 2 rfl (nI_add j 1) rfl ?_
                            refine g_goto (tgt := 77) hX dX1_readInto_105 (by decide) ?_
                            exact ih77 (j + 1) t4 f4 K4 (by first | assumption | omega) (by rw [← e4]; exact th_stepJ h89 (by omega) e6) h4 (by omega)
                          · obtain ⟨e, e4, h4⟩ := cR_n h4 h97
                            refine g_iconst (v := nI 0) hX dX1_readInto_100 (by decide) ?_
                            exact g_zret hX hR dX1_readInto_101 (by decide) (by decide) (by decide) ⟨_, rfl, rfl, (cR_bad (ps_h (by rw [← th_stepJ h89 (by omega) e6, e4, thI_n (r := .inl e) (fun q => q)])) h4), rfl⟩
                  exact cut77 _ 0 t5 f5 K5 (by first | assumption | omega) (by rw [e5]) h5 (Nat.lt_succ_self _)
                refine g_loc [0, 1] rfl ?_
                exact cut75 t3 f3 K3 (by rw [← e3, show 7 - j = 0 by omega]; rfl) h3
              · refine g_aload_n hX dX1_readInto_50 rfl 0 rfl ?_
                refine g_ldcS 2 hX rfl (by decide) dX1_readInto_51 rfl ?_
                refine g_callVi hX (as := [.ref (2000000 + 2)]) (fun l => c_X1_isWord l (I := K3) (tp := tp) (n := n) (k := 2) (t := t3) (ht := (cc_tape hg9 h3.1 hB)) (hk := (by decide)) (htw := h3.2.1) (htx := h3.2.2.1)) mX1_isWord vX1_isWord lX1_51 (by decide) (by decide) xCl1 rfl rfl dX1_readInto_53 rfl (by decide) (Nat.le_of_ble_eq_true rfl) (by decide) (by decide) ?_
                refine g_cb_eq (tgt := 75) hX dX1_readInto_56 (by decide) (fun h56 => ?_) (fun h56 => ?_)
                · have cut75 : ∀ (t5 : xT) (f5 : Nat → Int32) (K5 : xM) (e5 : trI tp n 7 (lakO tp n (gndR tp n (.inr (lx tp n 0, bsF f 74)))) = .inr (t5, f5)) (h5 : cOK tp n g I K5 t5 f5), G X 319 0 0 K5 (xRL nw sp) 75 [(0, .ref 2), (1, .ref g)] [] := by
                    intro t5 f5 K5 e5 h5
                    refine g_iconst (v := nI 0) hX dX1_readInto_75 (by decide) ?_
                    refine g_istore_n (L' := [(0, .ref 2), (1, .ref g), (2, .int (nI 0))]) hX dX1_readInto_76 rfl (by decide) rfl ?_
                    have cut77 : ∀ (fuel77 : Nat) (j : Nat) (t6 : xT) (f6 : Nat → Int32) (K6 : xM) (hj : j ≤ 7) (e6 : thI tp n (7 - j) (.inr (t6, f6)) = thI tp n 7 (trI tp n 7 (lakO tp n (gndR tp n (.inr (lx tp n 0, bsF f 74)))))) (h6 : cOK tp n g I K6 t6 f6), 7 - j < fuel77 → G X 319 0 0 K6 (xRL nw sp) 77 [(0, .ref 2), (1, .ref g), (2, .int (nI j))] [] := by
                      intro fuel77
                      induction fuel77 with
                      | zero => intro j t6 f6 K6 hj e6 h6 hfuel77; omega
                      | succ fuel77 ih77 =>
                        intro j t6 f6 K6 hj e6 h6 hfuel77
                        refine g_iload_n hX dX1_readInto_77 rfl 2 rfl ?_
                        refine g_bipush (v := nI 6) hX dX1_readInto_78 (by decide) ?_
                        refine g_ci_gt (a := ((j : Nat) : Int)) (b := (6 : Int)) (tgt := 108) hX dX1_readInto_80 (by decide) (nI_toInt (by omega)) (by decide) (fun h80 => ?_) (fun h80 => ?_)
                        · have cut108 : ∀ (t7 : xT) (f7 : Nat → Int32) (K7 : xM) (e7 : thI tp n 7 (trI tp n 7 (lakO tp n (gndR tp n (.inr (lx tp n 0, bsF f 74))))) = .inr (t7, f7)) (h7 : cOK tp n g I K7 t7 f7), G X 319 0 0 K7 (xRL nw sp) 108 [(0, .ref 2), (1, .ref g)] [] := by
                            intro t7 f7 K7 e7 h7
                            have hw7 := h7.2.1.2.2.1
                            refine g_aload_n hX dX1_readInto_108 rfl 0 rfl ?_
                            refine g_getI (v := nI t7.1) hX (by decide) (by decide) xCl1 4 (by decide) (by decide) kX1_25 dX1_readInto_109 (h7.2.2.1.2.2.1) ?_
                            refine g_cz_eq (a := ((t7.1 : Nat) : Int)) (tgt := 123) hX dX1_readInto_112 (by decide) (nI_toInt (by omega)) (fun h112 => ?_) (fun h112 => ?_)
                            · refine g_iconst (v := nI 1) hX dX1_readInto_123 (by decide) ?_
                              refine g_goto (tgt := 128) hX dX1_readInto_124 (by decide) ?_
                              exact g_zret hX hR dX1_readInto_128 (by decide) (by decide) (by decide) ⟨_, rfl, rfl, (by first | exact cR_ok (by show endR (thI tp n 7 _) = _; rw [e7, end_y (show tkR (.inr (t7, f7)) 0 from (show t7.1 = 0 by omega))]) h7 | exact cR_bad (by show endR (thI tp n 7 _) = _; rw [e7, end_n (show ¬ tkR (.inr (t7, f7)) 0 from fun z => h112 (by have z1 : t7.1 = 0 := z; omega))]; rfl) h8), rfl⟩
                            · refine g_aload_n hX dX1_readInto_115 rfl 0 rfl ?_
                              refine g_iconst (v := nI 1) hX dX1_readInto_116 (by decide) ?_
                              refine g_callVr hX (as := [.int (nI 1)]) (fun l => c_X1_refuse l (I := K7) (tp := tp) (n := n) (g := g) (B := I) (t := t7) (f := f7) (k := 1) (hB := hB) (hg := (by first | assumption | omega)) (hc := h7)) mX1_refuse vX1_refuse lX1_68 (by decide) (by decide) xCl1 rfl rfl dX1_readInto_117 rfl (by decide) (Nat.le_of_ble_eq_true rfl) (by decide) (by decide) (fun x8 K8 h8 => ?_)
                              obtain ⟨rfl, h8⟩ := h8
                              refine g_cz_eq (a := (0 : Int)) (tgt := 127) hX dX1_readInto_120 (by decide) (by decide) (fun _ => ?_) (fun q => absurd q (by decide))
                              refine g_iconst (v := nI 0) hX dX1_readInto_127 (by decide) ?_
                              exact g_zret hX hR dX1_readInto_128 (by decide) (by decide) (by decide) ⟨_, rfl, rfl, (by first | exact cR_ok (by show endR (thI tp n 7 _) = _; rw [e7, end_y (show tkR (.inr (t7, f7)) 0 from (show t7.1 = 0 by omega))]) h7 | exact cR_bad (by show endR (thI tp n 7 _) = _; rw [e7, end_n (show ¬ tkR (.inr (t7, f7)) 0 from fun z => h112 (by have z1 : t7.1 = 0 := z; omega))]; rfl) h8), rfl⟩
                          refine g_loc [0, 1] rfl ?_
                          exact cut108 t6 f6 K6 (by rw [← e6, show 7 - j = 0 by omega]; rfl) h6
                        · refine g_aload_n hX dX1_readInto_83 rfl 0 rfl ?_
                          refine g_ldcS 8 hX rfl (by decide) dX1_readInto_84 rfl ?_
                          refine g_callVi hX (as := [.ref (2000000 + 8)]) (fun l => c_X1_isWord l (I := K6) (tp := tp) (n := n) (k := 8) (t := t6) (ht := (cc_tape hg9 h6.1 hB)) (hk := (by decide)) (htw := h6.2.1) (htx := h6.2.2.1)) mX1_isWord vX1_isWord lX1_51 (by decide) (by decide) xCl1 rfl rfl dX1_readInto_86 rfl (by decide) (Nat.le_of_ble_eq_true rfl) (by decide) (by decide) ?_
                          refine g_cb_eq (tgt := 108) hX dX1_readInto_89 (by decide) (fun h89 => ?_) (fun h89 => ?_)
                          · have cut108 : ∀ (t7 : xT) (f7 : Nat → Int32) (K7 : xM) (e7 : thI tp n 7 (trI tp n 7 (lakO tp n (gndR tp n (.inr (lx tp n 0, bsF f 74))))) = .inr (t7, f7)) (h7 : cOK tp n g I K7 t7 f7), G X 319 0 0 K7 (xRL nw sp) 108 [(0, .ref 2), (1, .ref g)] [] := by
                              intro t7 f7 K7 e7 h7
                              have hw7 := h7.2.1.2.2.1
                              refine g_aload_n hX dX1_readInto_108 rfl 0 rfl ?_
                              refine g_getI (v := nI t7.1) hX (by decide) (by decide) xCl1 4 (by decide) (by decide) kX1_25 dX1_readInto_109 (h7.2.2.1.2.2.1) ?_
                              refine g_cz_eq (a := ((t7.1 : Nat) : Int)) (tgt := 123) hX dX1_readInto_112 (by decide) (nI_toInt (by omega)) (fun h112 => ?_) (fun h112 => ?_)
                              · refine g_iconst (v := nI 1) hX dX1_readInto_123 (by decide) ?_
                                refine g_goto (tgt := 128) hX dX1_readInto_124 (by decide) ?_
                                exact g_zret hX hR dX1_readInto_128 (by decide) (by decide) (by decide) ⟨_, rfl, rfl, (by first | exact cR_ok (by show endR (thI tp n 7 _) = _; rw [e7, end_y (show tkR (.inr (t7, f7)) 0 from (show t7.1 = 0 by omega))]) h7 | exact cR_bad (by show endR (thI tp n 7 _) = _; rw [e7, end_n (show ¬ tkR (.inr (t7, f7)) 0 from fun z => h112 (by have z1 : t7.1 = 0 := z; omega))]; rfl) h8), rfl⟩
                              · refine g_aload_n hX dX1_readInto_115 rfl 0 rfl ?_
                                refine g_iconst (v := nI 1) hX dX1_readInto_116 (by decide) ?_
                                refine g_callVr hX (as := [.int (nI 1)]) (fun l => c_X1_refuse l (I := K7) (tp := tp) (n := n) (g := g) (B := I) (t := t7) (f := f7) (k := 1) (hB := hB) (hg := (by first | assumption | omega)) (hc := h7)) mX1_refuse vX1_refuse lX1_68 (by decide) (by decide) xCl1 rfl rfl dX1_readInto_117 rfl (by decide) (Nat.le_of_ble_eq_true rfl) (by decide) (by decide) (fun x8 K8 h8 => ?_)
                                obtain ⟨rfl, h8⟩ := h8
                                refine g_cz_eq (a := (0 : Int)) (tgt := 127) hX dX1_readInto_120 (by decide) (by decide) (fun _ => ?_) (fun q => absurd q (by decide))
                                refine g_iconst (v := nI 0) hX dX1_readInto_127 (by decide) ?_
                                exact g_zret hX hR dX1_readInto_128 (by decide) (by decide) (by decide) ⟨_, rfl, rfl, (by first | exact cR_ok (by show endR (thI tp n 7 _) = _; rw [e7, end_y (show tkR (.inr (t7, f7)) 0 from (show t7.1 = 0 by omega))]) h7 | exact cR_bad (by show endR (thI tp n 7 _) = _; rw [e7, end_n (show ¬ tkR (.inr (t7, f7)) 0 from fun z => h112 (by have z1 : t7.1 = 0 := z; omega))]; rfl) h8), rfl⟩
                            refine g_loc [0, 1] rfl ?_
                            exact cut108 t6 f6 K6 (by rw [← e6, thI_n (show ¬ wrdP tp wThing (.inr (t6, f6)) from h89)]) h6
                          · refine g_aload_n hX dX1_readInto_92 rfl 0 rfl ?_
                            refine g_aload_n hX dX1_readInto_93 rfl 1 rfl ?_
                            refine g_callVr hX (as := [.ref g]) (fun l => c_X1_readThing l (I := K6) (tp := tp) (n := n) (g := g) (B := I) (t := t6) (f := f6) (hB := hB) (hg := hg) (hc := h6)) mX1_readThing vX1_readThing lX1_65 (by decide) (by decide) xCl1 rfl rfl dX1_readInto_94 rfl (by decide) (Nat.le_of_ble_eq_true rfl) (by decide) (by decide) (fun xK4 K4 h4 => ?_)
                            refine g_cz_ne (a := xK4.toInt) (tgt := 102) hX dX1_readInto_97 (by decide) rfl (fun h97 => ?_) (fun h97 => ?_)
                            · obtain ⟨t4, f4, e4, h4⟩ := cR_y h4 h97
                              refine g_iinc (v := nI (j + 1)) (L' := [(0, .ref 2), (1, .ref g), (2, .int (nI (j + 1)))]) hX dX1_readInto_102 (by decide) 2 rfl (nI_add j 1) rfl ?_
                              refine g_goto (tgt := 77) hX dX1_readInto_105 (by decide) ?_
                              exact ih77 (j + 1) t4 f4 K4 (by first | assumption | omega) (by rw [← e4]; exact th_stepJ h89 (by omega) e6) h4 (by omega)
                            · obtain ⟨e, e4, h4⟩ := cR_n h4 h97
                              refine g_iconst (v := nI 0) hX dX1_readInto_100 (by decide) ?_
                              exact g_zret hX hR dX1_readInto_101 (by decide) (by decide) (by decide) ⟨_, rfl, rfl, (cR_bad (ps_h (by rw [← th_stepJ h89 (by omega) e6, e4, thI_n (r := .inl e) (fun q => q)])) h4), rfl⟩
                    exact cut77 _ 0 t5 f5 K5 (by first | assumption | omega) (by rw [e5]) h5 (Nat.lt_succ_self _)
                  refine g_loc [0, 1] rfl ?_
                  exact cut75 t3 f3 K3 (by rw [← e3, trI_n (show ¬ wrdP tp wTree (.inr (t3, f3)) from h56)]) h3
                · refine g_aload_n hX dX1_readInto_59 rfl 0 rfl ?_
                  refine g_aload_n hX dX1_readInto_60 rfl 1 rfl ?_
                  refine g_callVr hX (as := [.ref g]) (fun l => c_X1_readTree l (I := K3) (tp := tp) (n := n) (g := g) (B := I) (t := t3) (f := f3) (hB := hB) (hg := hg) (hc := h3)) mX1_readTree vX1_readTree lX1_60 (by decide) (by decide) xCl1 rfl rfl dX1_readInto_61 rfl (by decide) (Nat.le_of_ble_eq_true rfl) (by decide) (by decide) (fun xK4 K4 h4 => ?_)
                  refine g_cz_ne (a := xK4.toInt) (tgt := 69) hX dX1_readInto_64 (by decide) rfl (fun h64 => ?_) (fun h64 => ?_)
                  · obtain ⟨t4, f4, e4, h4⟩ := cR_y h4 h64
                    refine g_iinc (v := nI (j + 1)) (L' := [(0, .ref 2), (1, .ref g), (2, .int (nI (j + 1)))]) hX dX1_readInto_69 (by decide) 2 rfl (nI_add j 1) rfl ?_
                    refine g_goto (tgt := 44) hX dX1_readInto_72 (by decide) ?_
                    exact ih (j + 1) t4 f4 K4 (by first | assumption | omega) (by rw [← e4]; exact tr_stepJ h56 (by omega) e3) h4 (by omega)
                  · obtain ⟨e, e4, h4⟩ := cR_n h4 h64
                    refine g_iconst (v := nI 0) hX dX1_readInto_67 (by decide) ?_
                    exact g_zret hX hR dX1_readInto_68 (by decide) (by decide) (by decide) ⟨_, rfl, rfl, (cR_bad (ps_t (by rw [← tr_stepJ h56 (by omega) e3, e4, trI_n (r := .inl e) (fun q => q)])) h4), rfl⟩
          exact cut44 _ 0 t2 f2 K2 (by first | assumption | omega) (by rw [e2]) h2 (Nat.lt_succ_self _)
        exact cut42 t2 f2 K2 (by rw [e1, lako_y (show wrdP tp wLake (.inr (t1, f1)) from h29)]; exact e2) h2
      · obtain ⟨e, e2, h2⟩ := cR_n h2 h37
        refine g_iconst (v := nI 0) hX dX1_readInto_40 (by decide) ?_
        exact g_zret hX hR dX1_readInto_41 (by decide) (by decide) (by decide) ⟨_, rfl, rfl, (cR_bad (ps_l (by rw [e1, lako_y (show wrdP tp wLake (.inr (t1, f1)) from h29)]; exact e2)) h2), rfl⟩
  · obtain ⟨e, e1, h1⟩ := cR_n h1 h18
    refine g_iconst (v := nI 0) hX dX1_readInto_21 (by decide) ?_
    exact g_zret hX hR dX1_readInto_22 (by decide) (by decide) (by decide) ⟨_, rfl, rfl, (cR_bad (ps_g e1) h1), rfl⟩

theorem c_X5_garden (l : Launch) {nw sp : Nat} {I : xM} {tp : Nat → Nat} {n : Nat} {f : Nat → Int32} (hB : cbP I tp n) (hnw : xG nw) (hsp : xG sp) (hbz : BZ I sp) : xC l 9 0 0 yX5_garden cX5_garden 3 (some .int) 319 [.ref 0] I (xRL nw sp) (gaC tp n f nw sp I) := by
  refine xC_of (by decide) (Nat.le_of_ble_eq_true rfl) (fun X hXl hX hR => ?_)
  have hX : xOK X RX5 cX5_garden 3 9 0 0 := hX
  show G X 319 0 0 I (xRL nw sp) 0 [(0, .ref 0)] []
  have hs8 := xG_8 hsp
  have hs9 := hs8.1
  refine g_aload_n hX dX5_garden_0 rfl 0 rfl ?_
  refine g_getR (j := 2) hX (by decide) (by decide) xCl5 1 (by decide) (by decide) kX5_18 dX5_garden_1 rfl ?_
  refine g_aload_n hX dX5_garden_4 rfl 0 rfl ?_
  refine g_getR (j := sp) hX (by decide) (by decide) xCl5 5 (by decide) (by decide) kX5_43 dX5_garden_5 rfl ?_
  refine g_callVr hX (as := [.ref sp]) (fun l => c_X1_readInto l (I := I) (tp := tp) (n := n) (g := sp) (f := f) (hB := hB) (hg := hsp) (hbz := hbz)) mX1_readInto vX1_readInto lX5_125 (by decide) (by decide) xCl1 rfl rfl dX5_garden_8 rfl (by decide) (Nat.le_of_ble_eq_true rfl) (by decide) (by decide) (fun x K h1 => ?_)
  refine g_istore_n (L' := [(0, .ref 0), (1, .int x)]) hX dX5_garden_11 rfl (by decide) rfl ?_
  refine g_aload_n hX dX5_garden_12 rfl 0 rfl ?_
  refine g_getR (j := 2) hX (by decide) (by decide) xCl5 1 (by decide) (by decide) kX5_18 dX5_garden_13 rfl ?_
  refine g_iconst (v := nI 0) hX dX5_garden_16 (by decide) ?_
  refine g_putI hX (by decide) (by decide) xCl1 1 (by decide) (by decide) (by decide) kX5_117 dX5_garden_17 rfl rfl ?_
  refine g_iload_n hX dX5_garden_20 rfl 1 rfl ?_
  refine g_cz_ne (a := x.toInt) (tgt := 46) hX dX5_garden_21 (by decide) rfl (fun h21 => ?_) (fun h21 => ?_)
  · obtain ⟨t, f1, e1, h1⟩ := cR_y h1 h21
    refine g_aload_n hX dX5_garden_46 rfl 0 rfl ?_
    refine g_getR (j := nw) hX (by decide) (by decide) xCl5 4 (by decide) (by decide) kX5_39 dX5_garden_47 rfl ?_
    refine g_astore_n (L' := [(0, .ref 0), (1, .int x), (2, .ref nw)]) hX dX5_garden_50 rfl (by decide) rfl ?_
    refine g_aload_n hX dX5_garden_51 rfl 0 rfl ?_
    refine g_aload_n hX dX5_garden_52 rfl 0 rfl ?_
    refine g_getR (j := sp) hX (by decide) (by decide) xCl5 5 (by decide) (by decide) kX5_43 dX5_garden_53 rfl ?_
    refine g_putR (j := sp) hX (by decide) (by decide) xCl5 4 (by decide) (by decide) (by decide) kX5_39 dX5_garden_56 (fun _ => rfl) (fun _ => rfl) ?_
    refine g_aload_n hX dX5_garden_59 rfl 0 rfl ?_
    refine g_aload_n hX dX5_garden_60 rfl 2 rfl ?_
    refine g_putR (j := nw) hX (by decide) (by decide) xCl5 5 (by decide) (by decide) (by decide) kX5_43 dX5_garden_61 (fun _ => rfl) (fun _ => rfl) ?_
    refine g_ref xRL_sw ?_
    refine g_aload_n hX dX5_garden_64 rfl 0 rfl ?_
    refine g_iconst (v := nI 1) hX dX5_garden_65 (by decide) ?_
    refine g_putI hX (by decide) (by decide) xCl5 6 (by decide) (by decide) (by decide) kX5_46 dX5_garden_66 (by decide) (by decide) ?_
    refine g_aload_n hX dX5_garden_69 rfl 0 rfl ?_
    refine g_iconst (v := nI 0) hX dX5_garden_70 (by decide) ?_
    refine g_putI hX (by decide) (by decide) xCl5 9 (by decide) (by decide) (by decide) kX5_58 dX5_garden_71 rfl rfl ?_
    refine g_aload_n hX dX5_garden_74 rfl 0 rfl ?_
    refine g_getR (j := sp) hX (by decide) (by decide) xCl5 4 (by decide) (by decide) kX5_39 dX5_garden_75 rfl ?_
    refine g_getI (v := K sp 3) hX (xG_n (j := 0) hsp (by decide)) (xG_K0 hsp) xCl0 3 (by decide) (by decide) kX5_136 dX5_garden_78 (xput_o (by omega) (xput_o (by omega) (xput_o (by omega) rfl))) ?_
    exact g_iret hX hR dX5_garden_81 (by decide) (by decide) (gac_r hs9 e1 h1 rfl)
  · obtain ⟨e, e1, h1⟩ := cR_n h1 h21
    refine g_aload_n hX dX5_garden_24 rfl 0 rfl ?_
    refine g_aload_n hX dX5_garden_25 rfl 0 rfl ?_
    refine g_getR (j := 2) hX (by decide) (by decide) xCl5 1 (by decide) (by decide) kX5_18 dX5_garden_26 rfl ?_
    refine g_getI (v := nI e.1) hX (by decide) (by decide) xCl1 6 (by decide) (by decide) kX5_129 dX5_garden_29 (xput_i (by decide) h1.2.1) ?_
    refine g_putI hX (by decide) (by decide) xCl5 12 (by decide) (by decide) (by decide) kX5_68 dX5_garden_32 rfl rfl ?_
    refine g_ldc (v := -1000100) hX cX5_132 dX5_garden_35 ?_
    refine g_aload_n hX dX5_garden_37 rfl 0 rfl ?_
    refine g_getR (j := 2) hX (by decide) (by decide) xCl5 1 (by decide) (by decide) kX5_18 dX5_garden_38 rfl ?_
    refine g_getI (v := nI e.2) hX (by decide) (by decide) xCl1 7 (by decide) (by decide) kX5_133 dX5_garden_41 (xput_o (by decide) (xput_i (by decide) h1.2.2)) ?_
    refine g_isub (v := -1000100 - nI e.2) hX dX5_garden_44 rfl ?_
    exact g_iret hX hR dX5_garden_45 (by decide) (by decide) (gac_l hs9 e1 h1)
