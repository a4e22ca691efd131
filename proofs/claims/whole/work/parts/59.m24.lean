theorem c_X5_init (l : Launch) {I : xM} {R : xR} (hI : I 0 = fun _ => 0) (hR : R 0 = fun _ => none) : xC2 l 2 306 3159 yX5_init cX5_init 2 none 1 [.ref 0] I R (mkP 0 307 I R) := by
  refine xC2_of (by decide) (Nat.le_of_ble_eq_true rfl) (fun X hXl hX hA0 hA2 hRt => ?_)
  have hX : xOK X RX5 cX5_init 2 2 306 3159 := hX
  show G X 1 0 0 I R 0 [(0, .ref 0)] []
  refine g_eq (mx_in5 hI hR) ?_
  have hRk := mx_rok5 (R := R)
  have xg8 : xG 8 := Or.inl rfl
  have xg18 : xG 18 := Or.inr (Or.inl rfl)
  refine g_aload_n hX dX5_init_0 rfl 0 rfl ?_
  refine g_objInit hX joX5_1 jo_m jo_c (by decide) (Nat.le_of_ble_eq_true rfl) dX5_init_1 ?_
  refine g_aload_n hX dX5_init_4 rfl 0 rfl ?_
  refine g_bipush (v := nI 8) hX dX5_init_5 (by decide) ?_
  refine g_newq2 hX (Or.inr ⟨rfl, rfl⟩) hA2 (xgw_in (List.mem_append_right _ (List.mem_of_getElem? (i := 23) (by decide +kernel))) (by decide +kernel)) rfl dX5_init_7 (by decide) (show xN 1 = 8 by decide) (by omega) hRk (xLr (by omega) xL0) (xSr (by omega) xS0) (Nat.le_of_ble_eq_true rfl) (Nat.le_of_ble_eq_true rfl) (fun hRk => ?_)
  refine g_mr hRk (mx_arrI (by omega) (by decide) (by decide)) (mx_newR (by omega) (by omega)) (fun hRk => ?_)
  refine g_putF2 hX hRt rfl (by omega) (by omega) hRk (by decide) xCl5 rfl 0 (by decide) (by decide) (by decide) (xgw_in (List.mem_append_right _ (List.mem_of_getElem? (i := 190) (by decide +kernel))) (by decide +kernel)) dX5_init_10 (fun _ => rfl) (fun _ => rfl) (fun hRk => ?_)
  refine g_mr hRk rfl (mx_put (by decide) (by decide) (show xRL 8 18 0 0 = some 1 from rfl) (fun j h1 h2 => absurd h1 (by omega))) (fun hRk => ?_)
  refine g_aload_n hX dX5_init_13 rfl 0 rfl ?_
  refine g_new2 hX xCl1 nW1 (xgw_in (List.mem_append_right _ (List.mem_of_getElem? (i := 25) (by decide +kernel))) (by decide +kernel)) (xgw_in (List.mem_append_right _ (List.mem_of_getElem? (i := 26) (by decide +kernel))) (by decide +kernel)) (xgw_in (List.mem_append_right _ (List.mem_of_getElem? (i := 2) (by decide +kernel))) (by decide +kernel)) dX5_init_14 (by decide) (by omega) hRk (xLr (by omega) xL0) (xSr (by omega) xS0) (Nat.le_of_ble_eq_true rfl) (Nat.le_of_ble_eq_true rfl) (fun hRk => ?_)
  refine g_dup hX rfl dX5_init_17 ?_
  refine g_callI hX (fun l => c_X1_init l   xrow_e (va_up_self _ _ _) hRk) mX1_init rfl vX1_init lX5_17 dX5_init_18 (by decide) (Nat.le_of_ble_eq_true rfl) (Nat.le_of_ble_eq_true rfl) (Nat.le_of_ble_eq_true rfl) (xLr (by omega) xL0) (xSr (by omega) (xSr (by omega) xS0)) (fun v n' I' R' hp => ?_)
  have hq := hp
  obtain ⟨hv0, hn0, -⟩ := hp
  subst hv0
  subst hn0
  refine ⟨rfl, ?_⟩
  have hRk := (mk_sub hq (by omega) (fun i h1 h2 => by omega)).2
  refine g_eq (mk_sub hq (by omega) (fun i h1 h2 => by omega)).1 ?_
  refine g_putF2 hX hRt rfl (by omega) (by omega) hRk (by decide) xCl5 rfl 1 (by decide) (by decide) (by decide) (xgw_in (List.mem_append_right _ (List.mem_of_getElem? (i := 191) (by decide +kernel))) (by decide +kernel)) dX5_init_21 (fun _ => rfl) (fun _ => rfl) (fun hRk => ?_)
  refine g_mr hRk rfl (mx_put (by decide) (by decide) (show xRL 8 18 0 1 = some 2 from rfl) (fun j h1 h2 => absurd h1 (by omega))) (fun hRk => ?_)
  refine g_aload_n hX dX5_init_24 rfl 0 rfl ?_
  refine g_new2 hX xCl3 nW3 (xgw_in (List.mem_append_right _ (List.mem_of_getElem? (i := 60) (by decide +kernel))) (by decide +kernel)) (xgw_in (List.mem_append_right _ (List.mem_of_getElem? (i := 61) (by decide +kernel))) (by decide +kernel)) (xgw_in (List.mem_append_right _ (List.mem_of_getElem? (i := 3) (by decide +kernel))) (by decide +kernel)) dX5_init_25 (by decide) (by omega) hRk (xLr (by omega) xL0) (xSr (by omega) xS0) (Nat.le_of_ble_eq_true rfl) (Nat.le_of_ble_eq_true rfl) (fun hRk => ?_)
  refine g_dup hX rfl dX5_init_28 ?_
  refine g_callI hX (fun l => c_X3_init l   xrow_e (va_up_self _ _ _) hRk) mX3_init rfl vX3_init lX5_24 dX5_init_29 (by decide) (Nat.le_of_ble_eq_true rfl) (Nat.le_of_ble_eq_true rfl) (Nat.le_of_ble_eq_true rfl) (xLr (by omega) xL0) (xSr (by omega) (xSr (by omega) xS0)) (fun v n' I' R' hp => ?_)
  have hq := hp
  obtain ⟨hv0, hn0, -⟩ := hp
  subst hv0
  subst hn0
  refine ⟨rfl, ?_⟩
  have hRk := (mk_sub hq (by omega) (fun i h1 h2 => by omega)).2
  refine g_eq (mk_sub hq (by omega) (fun i h1 h2 => by omega)).1 ?_
  refine g_putF2 hX hRt rfl (by omega) (by omega) hRk (by decide) xCl5 rfl 2 (by decide) (by decide) (by decide) (xgw_in (List.mem_append_right _ (List.mem_of_getElem? (i := 192) (by decide +kernel))) (by decide +kernel)) dX5_init_32 (fun _ => rfl) (fun _ => rfl) (fun hRk => ?_)
  refine g_mr hRk rfl (mx_put (by decide) (by decide) (show xRL 8 18 0 2 = some 4 from rfl) (fun j h1 h2 => absurd h1 (by omega))) (fun hRk => ?_)
  refine g_aload_n hX dX5_init_35 rfl 0 rfl ?_
  refine g_new2 hX xCl4 nW4 (xgw_in (List.mem_append_right _ (List.mem_of_getElem? (i := 72) (by decide +kernel))) (by decide +kernel)) (xgw_in (List.mem_append_right _ (List.mem_of_getElem? (i := 73) (by decide +kernel))) (by decide +kernel)) (xgw_in (List.mem_append_right _ (List.mem_of_getElem? (i := 4) (by decide +kernel))) (by decide +kernel)) dX5_init_36 (by decide) (by omega) hRk (xLr (by omega) xL0) (xSr (by omega) xS0) (Nat.le_of_ble_eq_true rfl) (Nat.le_of_ble_eq_true rfl) (fun hRk => ?_)
  refine g_dup hX rfl dX5_init_39 ?_
  refine g_callI hX (fun l => c_X4_init l   xrow_e (va_up_self _ _ _) hRk) mX4_init rfl vX4_init lX5_31 dX5_init_40 (by decide) (Nat.le_of_ble_eq_true rfl) (Nat.le_of_ble_eq_true rfl) (Nat.le_of_ble_eq_true rfl) (xLr (by omega) xL0) (xSr (by omega) (xSr (by omega) xS0)) (fun v n' I' R' hp => ?_)
  have hq := hp
  obtain ⟨hv0, hn0, -⟩ := hp
  subst hv0
  subst hn0
  refine ⟨rfl, ?_⟩
  have hRk := (mk_sub hq (by omega) (fun i h1 h2 => by omega)).2
  refine g_eq (mk_sub hq (by omega) (fun i h1 h2 => by omega)).1 ?_
  refine g_putF2 hX hRt rfl (by omega) (by omega) hRk (by decide) xCl5 rfl 3 (by decide) (by decide) (by decide) (xgw_in (List.mem_append_right _ (List.mem_of_getElem? (i := 193) (by decide +kernel))) (by decide +kernel)) dX5_init_43 (fun _ => rfl) (fun _ => rfl) (fun hRk => ?_)
  refine g_mr hRk rfl (mx_put (by decide) (by decide) (show xRL 8 18 0 3 = some 6 from rfl) (fun j h1 h2 => absurd h1 (by omega))) (fun hRk => ?_)
  refine g_aload_n hX dX5_init_46 rfl 0 rfl ?_
  refine g_new2 hX xCl0 nW0 (xgw_in (List.mem_append_right _ (List.mem_of_getElem? (i := 87) (by decide +kernel))) (by decide +kernel)) (xgw_in (List.mem_append_right _ (List.mem_of_getElem? (i := 88) (by decide +kernel))) (by decide +kernel)) (xgw_in (List.mem_append_right _ (List.mem_of_getElem? (i := 5) (by decide +kernel))) (by decide +kernel)) dX5_init_47 (by decide) (by omega) hRk (xLr (by omega) xL0) (xSr (by omega) xS0) (Nat.le_of_ble_eq_true rfl) (Nat.le_of_ble_eq_true rfl) (fun hRk => ?_)
  refine g_dup hX rfl dX5_init_50 ?_
  refine g_callI hX (fun l => c_X0_init l (g := 8) (hg := xg8) xrow_e (va_up_self _ _ _) hRk) mX0_init rfl vX0_init lX5_38 dX5_init_51 (by decide) (Nat.le_of_ble_eq_true rfl) (Nat.le_of_ble_eq_true rfl) (Nat.le_of_ble_eq_true rfl) (xLr (by omega) xL0) (xSr (by omega) (xSr (by omega) xS0)) (fun v n' I' R' hp => ?_)
  have hq := hp
  obtain ⟨hv0, hn0, -⟩ := hp
  subst hv0
  subst hn0
  refine ⟨rfl, ?_⟩
  have hRk := (mk_sub hq (by omega) (fun i h1 h2 => by omega)).2
  refine g_eq (mk_sub hq (by omega) (fun i h1 h2 => by omega)).1 ?_
  refine g_putR2 hX (by omega) (by omega) hRk (by decide) xCl5 4 (by decide) (by decide) (by decide) kX5_39 dX5_init_54 (fun _ => rfl) (fun _ => rfl) (fun hRk => ?_)
  refine g_mr hRk rfl (mx_put (by decide) (by decide) (show xRL 8 18 0 4 = some 8 from rfl) (fun j h1 h2 => absurd h1 (by omega))) (fun hRk => ?_)
  refine g_aload_n hX dX5_init_57 rfl 0 rfl ?_
  refine g_new2 hX xCl0 nW0 (xgw_in (List.mem_append_right _ (List.mem_of_getElem? (i := 87) (by decide +kernel))) (by decide +kernel)) (xgw_in (List.mem_append_right _ (List.mem_of_getElem? (i := 88) (by decide +kernel))) (by decide +kernel)) (xgw_in (List.mem_append_right _ (List.mem_of_getElem? (i := 5) (by decide +kernel))) (by decide +kernel)) dX5_init_58 (by decide) (by omega) hRk (xLr (by omega) xL0) (xSr (by omega) xS0) (Nat.le_of_ble_eq_true rfl) (Nat.le_of_ble_eq_true rfl) (fun hRk => ?_)
  refine g_dup hX rfl dX5_init_61 ?_
  refine g_callI hX (fun l => c_X0_init l (g := 18) (hg := xg18) xrow_e (va_up_self _ _ _) hRk) mX0_init rfl vX0_init lX5_38 dX5_init_62 (by decide) (Nat.le_of_ble_eq_true rfl) (Nat.le_of_ble_eq_true rfl) (Nat.le_of_ble_eq_true rfl) (xLr (by omega) xL0) (xSr (by omega) (xSr (by omega) xS0)) (fun v n' I' R' hp => ?_)
  have hq := hp
  obtain ⟨hv0, hn0, -⟩ := hp
  subst hv0
  subst hn0
  refine ⟨rfl, ?_⟩
  have hRk := (mk_sub hq (by omega) (fun i h1 h2 => by omega)).2
  refine g_eq (mk_sub hq (by omega) (fun i h1 h2 => by omega)).1 ?_
  refine g_putR2 hX (by omega) (by omega) hRk (by decide) xCl5 5 (by decide) (by decide) (by decide) kX5_43 dX5_init_65 (fun _ => rfl) (fun _ => rfl) (fun hRk => ?_)
  refine g_mr hRk rfl (mx_put (by decide) (by decide) (show xRL 8 18 0 5 = some 18 from rfl) (fun j h1 h2 => absurd h1 (by omega))) (fun hRk => ?_)
  refine g_aload_n hX dX5_init_68 rfl 0 rfl ?_
  refine g_iconst (v := nI 0) hX dX5_init_69 (by decide) ?_
  refine g_putI hX (by omega) (by decide) xCl5 6 (by decide) (by decide) (by decide) kX5_46 dX5_init_70 (by decide) (by decide) ?_
  refine g_mr hRk (xput_same ((congrFun (mxI_ge (Nat.le_refl _)) 6).trans (Ifin_v (by decide) (by decide)))) rfl (fun hRk => ?_)
  refine g_aload_n hX dX5_init_73 rfl 0 rfl ?_
  refine g_bipush (v := nI 24) hX dX5_init_74 (by decide) ?_
  refine g_newq2 hX (Or.inl ⟨rfl, rfl⟩) hA0 (xgw_in (List.mem_append_right _ (List.mem_of_getElem? (i := 87) (by decide +kernel))) (by decide +kernel)) rfl dX5_init_76 (by decide) (show xN 28 = 24 by decide) (by omega) hRk (xLr (by omega) xL0) (xSr (by omega) xS0) (Nat.le_of_ble_eq_true rfl) (Nat.le_of_ble_eq_true rfl) (fun hRk => ?_)
  refine g_mr hRk (mx_arrI (by omega) (by decide) (by decide)) (mx_newR (by omega) (by omega)) (fun hRk => ?_)
  refine g_putF2 hX hRt rfl (by omega) (by omega) hRk (by decide) xCl5 rfl 7 (by decide) (by decide) (by decide) (xgw_in (List.mem_append_right _ (List.mem_of_getElem? (i := 197) (by decide +kernel))) (by decide +kernel)) dX5_init_79 (fun _ => rfl) (fun _ => rfl) (fun hRk => ?_)
  refine g_mr hRk rfl (mx_put (by decide) (by decide) (show xRL 8 18 0 7 = some 28 from rfl) (fun j h1 h2 => by obtain rfl : j = 6 := (by omega); rfl)) (fun hRk => ?_)
  refine g_aload_n hX dX5_init_82 rfl 0 rfl ?_
  refine g_iconst (v := nI 0) hX dX5_init_83 (by decide) ?_
  refine g_putI hX (by omega) (by decide) xCl5 8 (by decide) (by decide) (by decide) kX5_54 dX5_init_84 rfl rfl ?_
  refine g_mr hRk (xput_same ((congrFun (mxI_ge (Nat.le_refl _)) 8).trans (Ifin_v (by decide) (by decide)))) rfl (fun hRk => ?_)
  refine g_aload_n hX dX5_init_87 rfl 0 rfl ?_
  refine g_iconst (v := nI 0) hX dX5_init_88 (by decide) ?_
  refine g_putI hX (by omega) (by decide) xCl5 9 (by decide) (by decide) (by decide) kX5_58 dX5_init_89 rfl rfl ?_
  refine g_mr hRk (xput_same ((congrFun (mxI_ge (Nat.le_refl _)) 9).trans (Ifin_v (by decide) (by decide)))) rfl (fun hRk => ?_)
  refine g_aload_n hX dX5_init_92 rfl 0 rfl ?_
  refine g_iconst (v := nI 2) hX dX5_init_93 (by decide) ?_
  refine g_newq2 hX (Or.inl ⟨rfl, rfl⟩) hA0 (xgw_in (List.mem_append_right _ (List.mem_of_getElem? (i := 87) (by decide +kernel))) (by decide +kernel)) rfl dX5_init_94 (by decide) (show xN 29 = 2 by decide) (by omega) hRk (xLr (by omega) xL0) (xSr (by omega) xS0) (Nat.le_of_ble_eq_true rfl) (Nat.le_of_ble_eq_true rfl) (fun hRk => ?_)
  refine g_mr hRk (mx_arrI (by omega) (by decide) (by decide)) (mx_newR (by omega) (by omega)) (fun hRk => ?_)
  refine g_putF2 hX hRt rfl (by omega) (by omega) hRk (by decide) xCl5 rfl 10 (by decide) (by decide) (by decide) (xgw_in (List.mem_append_right _ (List.mem_of_getElem? (i := 200) (by decide +kernel))) (by decide +kernel)) dX5_init_97 (fun _ => rfl) (fun _ => rfl) (fun hRk => ?_)
  refine g_mr hRk rfl (mx_put (by decide) (by decide) (show xRL 8 18 0 10 = some 29 from rfl) (fun j h1 h2 => by rcases (show j = 8 ∨ j = 9 by omega) with rfl | rfl <;> rfl)) (fun hRk => ?_)
  refine g_aload_n hX dX5_init_100 rfl 0 rfl ?_
  refine g_iconst (v := nI 2) hX dX5_init_101 (by decide) ?_
  refine g_newa2 (c := 9) hX .boolean .boolean (by simp) aW_z rfl dX5_init_102 (by decide) (show xN 30 = 2 by decide) (by omega) hRk (xLr (by omega) xL0) (xSr (by omega) xS0) (Nat.le_of_ble_eq_true rfl) (Nat.le_of_ble_eq_true rfl) (fun hRk => ?_)
  refine g_mr hRk (mx_arrI (by omega) (by decide) (by decide)) (mx_arrR (by omega) (by decide) (by decide)) (fun hRk => ?_)
  refine g_putF2 hX hRt rfl (by omega) (by omega) hRk (by decide) xCl5 rfl 11 (by decide) (by decide) (by decide) (xgw_in (List.mem_append_right _ (List.mem_of_getElem? (i := 201) (by decide +kernel))) (by decide +kernel)) dX5_init_104 (fun _ => rfl) (fun _ => rfl) (fun hRk => ?_)
  refine g_mr hRk rfl (mx_put (by decide) (by decide) (show xRL 8 18 0 11 = some 30 from rfl) (fun j h1 h2 => absurd h1 (by omega))) (fun hRk => ?_)
  refine g_aload_n hX dX5_init_107 rfl 0 rfl ?_
  refine g_iconst (v := nI 0) hX dX5_init_108 (by decide) ?_
  refine g_putI hX (by omega) (by decide) xCl5 12 (by decide) (by decide) (by decide) kX5_68 dX5_init_109 rfl rfl ?_
  refine g_mr hRk (xput_same ((congrFun (mxI_ge (Nat.le_refl _)) 12).trans (Ifin_v (by decide) (by decide)))) rfl (fun hRk => ?_)
  refine g_aload_n hX dX5_init_112 rfl 0 rfl ?_
  refine g_iconst (v := nI 0) hX dX5_init_113 (by decide) ?_
  refine g_putI hX (by omega) (by decide) xCl5 13 (by decide) (by decide) (by decide) kX5_71 dX5_init_114 rfl rfl ?_
  refine g_mr hRk (xput_same ((congrFun (mxI_ge (Nat.le_refl _)) 13).trans (Ifin_v (by decide) (by decide)))) rfl (fun hRk => ?_)
  have lp3 : ∀ (fuel k : Nat) (hk : k ≤ 2) (hRk : xRok (287 + 10 * k) (mxR R 0 12 8 24 k)), 2 - k < fuel → G X (287 + 10 * k) (286 + 10 * k) (2993 + 83 * k) (mxI I 0) (mxR R 0 12 8 24 k) 173 [(0, .ref 0), (1, .int (nI k))] [] := by
    intro fuel
    induction fuel with
    | zero => intro k hk hRk hf; omega
    | succ fuel ih =>
      intro k hk hRk hf
      refine g_iload_n hX dX5_init_173 rfl 1 rfl ?_
      refine g_iconst (v := nI 2) hX dX5_init_174 (by decide) ?_
      refine g_ci_ge (a := ((k : Nat) : Int)) (b := (2 : Int)) (tgt := 197) hX dX5_init_175 (by decide) (nI_toInt (by omega)) (by decide) (fun h0 => ?_) (fun h0 => ?_)
      · obtain rfl : k = 2 := by omega
        refine g_loc [0] rfl ?_
        exact g_vret hX hRt dX5_init_197 (Nat.le_of_ble_eq_true rfl) (Nat.le_of_ble_eq_true rfl) (mk_fin (n1 := 307) hRk (fun i h1 h2 k h3 => by rcases h3 with ⟨rfl, h3⟩ | ⟨rfl, h3⟩ | ⟨rfl, h3⟩ | ⟨rfl, h3⟩; (unfold xRL; rw [if_neg (by decide), if_pos rfl, List.getD_eq_getElem?_getD, List.getElem?_eq_none (by simpa using h3)]; rfl); exact (show (if k < 8 then some (31 + 2 * k) else none) = none from if_neg (by omega)); exact (show (if k < 24 then some (47 + 10 * k) else none) = none from if_neg (by omega)); exact (show (if k < 2 then some (287 + 10 * k) else none) = none from if_neg (by omega))))
      · have hk8 : k < 2 := by omega
        refine g_aload_n hX dX5_init_178 rfl 0 rfl ?_
        refine g_getR (j := 29) hX (by omega) (by decide) xCl5 10 (by decide) (by decide) kX5_61 dX5_init_179 ((mxR_y (by omega) (by omega)).trans rfl) ?_
        refine g_iload_n hX dX5_init_182 rfl 1 rfl ?_
        have hgk : xG (287 + 10 * k) := Or.inr (Or.inr ⟨24 + k, by omega, by omega⟩)
        refine g_new2 hX xCl0 nW0 (xgw_in (List.mem_append_right _ (List.mem_of_getElem? (i := 87) (by decide +kernel))) (by decide +kernel)) (xgw_in (List.mem_append_right _ (List.mem_of_getElem? (i := 88) (by decide +kernel))) (by decide +kernel)) (xgw_in (List.mem_append_right _ (List.mem_of_getElem? (i := 5) (by decide +kernel))) (by decide +kernel)) dX5_init_183 (xG_K0 hgk) (by omega) hRk (xLr (by omega) (xLi xL0)) (xSi (xSr (by omega) xS0)) (by omega) (by omega) (fun hRk => ?_)
        refine g_dup hX rfl dX5_init_186 ?_
        refine g_callI hX (fun l => c_X0_init l (g := 287 + 10 * k) (hg := hgk) xrow_e (va_up_self _ _ _) hRk) mX0_init rfl vX0_init lX5_38 dX5_init_187 (by decide) (Nat.le_of_ble_eq_true rfl) (by omega) (by omega) (xLr (by omega) (xLi xL0)) (xSr (by omega) (xSi (xSr (by omega) xS0))) (fun v n' I' R' hp => ?_)
        have hq := hp
        obtain ⟨hv0, hn0, -⟩ := hp
        subst hv0
        subst hn0
        refine ⟨rfl, ?_⟩
        have hRk := (mk_sub hq (by omega) (fun i h1 h2 => by omega)).2
        refine g_eq (mk_sub hq (by omega) (fun i h1 h2 => by omega)).1 ?_
        refine g_astq2 hX (Or.inl ⟨rfl, rfl⟩) (by omega) (by omega) hRk (show xK 29 = 10 by decide) (xG_K0 hgk) k rfl (show k < xN 29 by rw [show xN 29 = 2 by decide]; omega) dX5_init_190 (fun hRk => ?_)
        refine g_mr hRk rfl (mx_st29 rfl (xRL_images hk8)) (fun hRk => ?_)
        refine g_iinc (v := nI (k + 1)) (L' := [(0, .ref 0), (1, .int (nI (k + 1)))]) hX dX5_init_191 (by decide) 1 rfl (nI_add k 1) rfl ?_
        refine g_goto (tgt := 173) hX dX5_init_194 (by decide) ?_
        exact g_n hRk (show _ = 287 + 10 * (k + 1) by omega) (show _ ≤ 286 + 10 * (k + 1) by omega) (show _ ≤ 2993 + 83 * (k + 1) by omega) (fun hRk => ih (k + 1) (by omega) hRk (by omega))
  have lp2 : ∀ (fuel k : Nat) (hk : k ≤ 24) (hRk : xRok (47 + 10 * k) (mxR R 0 12 8 k 0)), 24 - k < fuel → G X (47 + 10 * k) (46 + 10 * k) (1001 + 83 * k) (mxI I 0) (mxR R 0 12 8 k 0) 146 [(0, .ref 0), (1, .int (nI k))] [] := by
    intro fuel
    induction fuel with
    | zero => intro k hk hRk hf; omega
    | succ fuel ih =>
      intro k hk hRk hf
      refine g_iload_n hX dX5_init_146 rfl 1 rfl ?_
      refine g_bipush (v := nI 24) hX dX5_init_147 (by decide) ?_
      refine g_ci_ge (a := ((k : Nat) : Int)) (b := (24 : Int)) (tgt := 171) hX dX5_init_149 (by decide) (nI_toInt (by omega)) (by decide) (fun h0 => ?_) (fun h0 => ?_)
      · obtain rfl : k = 24 := by omega
        refine g_loc [0] rfl ?_
        refine g_iconst (v := nI 0) hX dX5_init_171 (by decide) ?_
        refine g_istore_n (L' := [(0, .ref 0), (1, .int (nI 0))]) hX dX5_init_172 rfl (by decide) rfl ?_
        exact lp3 _ 0 (Nat.zero_le _) hRk (Nat.lt_succ_self _)
      · have hk8 : k < 24 := by omega
        refine g_aload_n hX dX5_init_152 rfl 0 rfl ?_
        refine g_getR (j := 28) hX (by omega) (by decide) xCl5 7 (by decide) (by decide) kX5_50 dX5_init_153 ((mxR_y (by omega) (by omega)).trans rfl) ?_
        refine g_iload_n hX dX5_init_156 rfl 1 rfl ?_
        have hgk : xG (47 + 10 * k) := Or.inr (Or.inr ⟨k, by omega, by omega⟩)
        refine g_new2 hX xCl0 nW0 (xgw_in (List.mem_append_right _ (List.mem_of_getElem? (i := 87) (by decide +kernel))) (by decide +kernel)) (xgw_in (List.mem_append_right _ (List.mem_of_getElem? (i := 88) (by decide +kernel))) (by decide +kernel)) (xgw_in (List.mem_append_right _ (List.mem_of_getElem? (i := 5) (by decide +kernel))) (by decide +kernel)) dX5_init_157 (xG_K0 hgk) (by omega) hRk (xLr (by omega) (xLi xL0)) (xSi (xSr (by omega) xS0)) (by omega) (by omega) (fun hRk => ?_)
        refine g_dup hX rfl dX5_init_160 ?_
        refine g_callI hX (fun l => c_X0_init l (g := 47 + 10 * k) (hg := hgk) xrow_e (va_up_self _ _ _) hRk) mX0_init rfl vX0_init lX5_38 dX5_init_161 (by decide) (Nat.le_of_ble_eq_true rfl) (by omega) (by omega) (xLr (by omega) (xLi xL0)) (xSr (by omega) (xSi (xSr (by omega) xS0))) (fun v n' I' R' hp => ?_)
        have hq := hp
        obtain ⟨hv0, hn0, -⟩ := hp
        subst hv0
        subst hn0
        refine ⟨rfl, ?_⟩
        have hRk := (mk_sub hq (by omega) (fun i h1 h2 => by omega)).2
        refine g_eq (mk_sub hq (by omega) (fun i h1 h2 => by omega)).1 ?_
        refine g_astq2 hX (Or.inl ⟨rfl, rfl⟩) (by omega) (by omega) hRk (show xK 28 = 10 by decide) (xG_K0 hgk) k rfl (show k < xN 28 by rw [show xN 28 = 24 by decide]; omega) dX5_init_164 (fun hRk => ?_)
        refine g_mr hRk rfl (mx_st28 rfl (xRL_days hk8)) (fun hRk => ?_)
        refine g_iinc (v := nI (k + 1)) (L' := [(0, .ref 0), (1, .int (nI (k + 1)))]) hX dX5_init_165 (by decide) 1 rfl (nI_add k 1) rfl ?_
        refine g_goto (tgt := 146) hX dX5_init_168 (by decide) ?_
        exact g_n hRk (show _ = 47 + 10 * (k + 1) by omega) (show _ ≤ 46 + 10 * (k + 1) by omega) (show _ ≤ 1001 + 83 * (k + 1) by omega) (fun hRk => ih (k + 1) (by omega) hRk (by omega))
  have lp1 : ∀ (fuel k : Nat) (hk : k ≤ 8) (hRk : xRok (31 + 2 * k) (mxR R 0 12 k 0 0)), 8 - k < fuel → G X (31 + 2 * k) (30 + 2 * k) (649 + 44 * k) (mxI I 0) (mxR R 0 12 k 0 0) 119 [(0, .ref 0), (1, .int (nI k))] [] := by
    intro fuel
    induction fuel with
    | zero => intro k hk hRk hf; omega
    | succ fuel ih =>
      intro k hk hRk hf
      refine g_iload_n hX dX5_init_119 rfl 1 rfl ?_
      refine g_bipush (v := nI 8) hX dX5_init_120 (by decide) ?_
      refine g_ci_ge (a := ((k : Nat) : Int)) (b := (8 : Int)) (tgt := 144) hX dX5_init_122 (by decide) (nI_toInt (by omega)) (by decide) (fun h0 => ?_) (fun h0 => ?_)
      · obtain rfl : k = 8 := by omega
        refine g_loc [0] rfl ?_
        refine g_iconst (v := nI 0) hX dX5_init_144 (by decide) ?_
        refine g_istore_n (L' := [(0, .ref 0), (1, .int (nI 0))]) hX dX5_init_145 rfl (by decide) rfl ?_
        exact lp2 _ 0 (Nat.zero_le _) hRk (Nat.lt_succ_self _)
      · have hk8 : k < 8 := by omega
        refine g_aload_n hX dX5_init_125 rfl 0 rfl ?_
        refine g_getR (j := 1) hX (by omega) (by decide) xCl5 0 (by decide) (by decide) kX5_11 dX5_init_126 ((mxR_y (by omega) (by omega)).trans rfl) ?_
        refine g_iload_n hX dX5_init_129 rfl 1 rfl ?_
        refine g_new2 hX xCl2 nW2 (xgw_in (List.mem_append_right _ (List.mem_of_getElem? (i := 23) (by decide +kernel))) (by decide +kernel)) (xgw_in (List.mem_append_right _ (List.mem_of_getElem? (i := 168) (by decide +kernel))) (by decide +kernel)) (xgw_in (List.mem_append_right _ (List.mem_of_getElem? (i := 6) (by decide +kernel))) (by decide +kernel)) dX5_init_130 (xW_K0 hk8) (by omega) hRk (xLr (by omega) (xLi xL0)) (xSi (xSr (by omega) xS0)) (by omega) (by omega) (fun hRk => ?_)
        refine g_dup hX rfl dX5_init_133 ?_
        refine g_callI hX (fun l => c_X2_init l (r := k) (hr := hk8) xrow_e (va_up_self _ _ _) hRk) mX2_init rfl vX2_init lX5_74 dX5_init_134 (by decide) (Nat.le_of_ble_eq_true rfl) (by omega) (by omega) (xLr (by omega) (xLi xL0)) (xSr (by omega) (xSi (xSr (by omega) xS0))) (fun v n' I' R' hp => ?_)
        have hq := hp
        obtain ⟨hv0, hn0, -⟩ := hp
        subst hv0
        subst hn0
        refine ⟨rfl, ?_⟩
        have hRk := (mk_sub hq (by omega) (fun i h1 h2 => by omega)).2
        refine g_eq (mk_sub hq (by omega) (fun i h1 h2 => by omega)).1 ?_
        refine g_astq2 hX (Or.inr ⟨rfl, rfl⟩) (by omega) (by omega) hRk (show xK 1 = 11 by decide) (xW_K0 hk8) k rfl (show k < xN 1 by rw [show xN 1 = 8 by decide]; omega) dX5_init_137 (fun hRk => ?_)
        refine g_mr hRk rfl (mx_st1 rfl (xRL_rows hk8)) (fun hRk => ?_)
        refine g_iinc (v := nI (k + 1)) (L' := [(0, .ref 0), (1, .int (nI (k + 1)))]) hX dX5_init_138 (by decide) 1 rfl (nI_add k 1) rfl ?_
        refine g_goto (tgt := 119) hX dX5_init_141 (by decide) ?_
        exact g_n hRk (show _ = 31 + 2 * (k + 1) by omega) (show _ ≤ 30 + 2 * (k + 1) by omega) (show _ ≤ 649 + 44 * (k + 1) by omega) (fun hRk => ih (k + 1) (by omega) hRk (by omega))
  refine g_iconst (v := nI 0) hX dX5_init_117 (by decide) ?_
  refine g_istore_n (L' := [(0, .ref 0), (1, .int (nI 0))]) hX dX5_init_118 rfl (by decide) rfl ?_
  exact lp1 _ 0 (Nat.zero_le _) hRk (Nat.lt_succ_self _)