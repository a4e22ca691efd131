theorem xL0 {n : Nat} : ∀ q ∈ ([] : List (Nat × Value)), xvok n q.2 := fun q h => by cases h
theorem xLc {n i : Nat} {v : Value} {L : List (Nat × Value)} (h : xvok n v) (t : ∀ q ∈ L, xvok n q.2) : ∀ q ∈ (i, v) :: L, xvok n q.2 := fun q hq => by
  rcases List.mem_cons.mp hq with e | hq
  · subst e; exact h
  · exact t q hq
theorem xS0 {n : Nat} : ∀ v ∈ ([] : List Value), xvok n v := fun q h => by cases h
theorem xSc {n : Nat} {v : Value} {L : List Value} (h : xvok n v) (t : ∀ q ∈ L, xvok n q) : ∀ q ∈ v :: L, xvok n q := fun q hq => by
  rcases List.mem_cons.mp hq with e | hq
  · subst e; exact h
  · exact t q hq
theorem xLr {n i o : Nat} {L : List (Nat × Value)} (h : o < n) (t : ∀ q ∈ L, xvok n q.2) : ∀ q ∈ (i, Value.ref o) :: L, xvok n q.2 := xLc (Or.inl h) t
theorem xLi {n i : Nat} {z : Int32} {L : List (Nat × Value)} (t : ∀ q ∈ L, xvok n q.2) : ∀ q ∈ (i, Value.int z) :: L, xvok n q.2 := xLc trivial t
theorem xSr {n o : Nat} {L : List Value} (h : o < n) (t : ∀ v ∈ L, xvok n v) : ∀ v ∈ Value.ref o :: L, xvok n v := xSc (Or.inl h) t
theorem xSi {n : Nat} {z : Int32} {L : List Value} (t : ∀ v ∈ L, xvok n v) : ∀ v ∈ Value.int z :: L, xvok n v := xSc trivial t
theorem mx_arrZ {I : xM} {o n : Nat} (ho : o < n) (h7 : 7 ≤ xK n) (h : n ≠ 308) : xrow (xrow (mxI I o) o (fun _ => 0)) n (fun _ => 0) = xrow (mxI I o) o (fun _ => 0) := by
  funext i
  by_cases e : i = n
  · subst e; rw [xrow_e, xrow_o (by omega), mxI_ge (by omega), Ifin_0 (by omega) h]
  · rw [xrow_o e]
theorem mx_lane {I : xM} : xput (xput (xput (xput (xput (xput (xput (xput (xrow (mxI I 307) 308 (fun _ => 0)) 308 0 (-1)) 308 1 (-1)) 308 2 (-1)) 308 3 (-1)) 308 4 (-1)) 308 5 (-1)) 308 6 (-1)) 308 7 (-1) = mxI I 307 := by
  funext i
  by_cases e : i = 308
  · subst e
    rw [mxI_ge (by decide)]
    funext k
    have hK : xK 308 ≠ 0 := by decide
    by_cases hk : k < 8
    · unfold Ifin
      rw [if_neg (fun q => hK q.1), if_pos ⟨rfl, hk⟩]
      rcases (show k = 0 ∨ k = 1 ∨ k = 2 ∨ k = 3 ∨ k = 4 ∨ k = 5 ∨ k = 6 ∨ k = 7 by omega) with rfl | rfl | rfl | rfl | rfl | rfl | rfl | rfl
      · exact xput_i (by decide) (xput_i (by decide) (xput_i (by decide) (xput_i (by decide) (xput_i (by decide) (xput_i (by decide) (xput_i (by decide) xput_e))))))
      · exact xput_i (by decide) (xput_i (by decide) (xput_i (by decide) (xput_i (by decide) (xput_i (by decide) (xput_i (by decide) xput_e)))))
      · exact xput_i (by decide) (xput_i (by decide) (xput_i (by decide) (xput_i (by decide) (xput_i (by decide) xput_e))))
      · exact xput_i (by decide) (xput_i (by decide) (xput_i (by decide) (xput_i (by decide) xput_e)))
      · exact xput_i (by decide) (xput_i (by decide) (xput_i (by decide) xput_e))
      · exact xput_i (by decide) (xput_i (by decide) xput_e)
      · exact xput_i (by decide) xput_e
      · exact xput_e
    · unfold Ifin
      rw [if_neg (fun q => hK q.1), if_neg (fun q => hk q.2)]
      refine xput_i (by omega) (xput_i (by omega) (xput_i (by omega) (xput_i (by omega) (xput_i (by omega) (xput_i (by omega) (xput_i (by omega) (xput_i (by omega) ?_)))))))
      rw [xrow_e]
  · rw [xput_ne e, xput_ne e, xput_ne e, xput_ne e, xput_ne e, xput_ne e, xput_ne e, xput_ne e, xrow_o e]
theorem xRL_gend {g k nw sp : Nat} (hg : xG g) (hk : 13 ≤ k) : xRL nw sp g k = none := by
  rw [xRL_g hg, List.getD_eq_getElem?_getD, List.getElem?_eq_none (by simpa using hk)]; rfl
theorem xRL_wn {r k nw sp : Nat} (h : r < 8) (hk : k ≠ 3) : xRL nw sp (31 + 2 * r) k = none := by
  have h2 := xW_K0 h
  have h0 : 31 + 2 * r ≠ 307 ∧ 31 + 2 * r ≠ 0 ∧ 31 + 2 * r ≠ 1 ∧ 31 + 2 * r ≠ 2 ∧ 31 + 2 * r ≠ 4 ∧ 31 + 2 * r ≠ 6 ∧ 31 + 2 * r ≠ 28 ∧ 31 + 2 * r ≠ 29 := by omega
  simp only [xRL, h2, h0.1, h0.2.1, h0.2.2.1, h0.2.2.2.1, h0.2.2.2.2.1, h0.2.2.2.2.2.1, h0.2.2.2.2.2.2.1, h0.2.2.2.2.2.2.2, if_false, if_true, show ¬ (2 : Nat) = 0 by decide, hk]
theorem c_X0_init (l : Launch) {I : xM} {R : xR} {g : Nat} (hg : xG g) (hI : I (g) = fun _ => 0) (hR : R (g) = fun _ => none) (hRk : xRok (g + 1) R) : xC l 1 9 68 yX0_init cX0_init 1 none (g + 1) [.ref (g)] I R (mkP (g) (g + 10) I R) := by
  refine xC_of (by decide) (Nat.le_of_ble_eq_true rfl) (fun X hXl hX hRt => ?_)
  have hX : xOK X RX0 cX0_init 1 1 9 68 := hX
  show G X (g + 1) 0 0 I R 0 [(0, .ref (g))] []
  refine g_eq (mx_in hI hR) ?_
  have hRk := mx_rok hRk
  have hg8 := xG_8 hg
  refine g_aload_n hX dX0_init_0 rfl 0 rfl ?_
  refine g_objInit hX joX0_3 jo_m jo_c (by decide) (Nat.le_of_ble_eq_true rfl) dX0_init_1 ?_
  refine g_aload_n hX dX0_init_4 rfl 0 rfl ?_
  refine g_bipush (v := nI 20) hX dX0_init_5 (by decide) ?_
  refine g_newa2 hX .int .int (by simp) aW_i rfl dX0_init_7 (xG_K1 hg) (xG_N1 hg) (by omega) hRk (xLr (by omega) xL0) (xSr (by omega) xS0) (Nat.le_of_ble_eq_true rfl) (Nat.le_of_ble_eq_true rfl) (fun hRk => ?_)
  refine g_mr hRk (mx_arrZ (by omega) (by rw [(xG_K1 hg)]; decide) (by omega)) (mx_arrR (by omega) (by rw [(xG_K1 hg)]; decide) (by rw [(xG_K1 hg)]; decide)) (fun hRk => ?_)
  refine g_putF2 hX hRt rfl (by omega) (by omega) hRk (xG_K0 hg) xCl0 rfl 0 (by decide) (by decide) (by decide) (xgw_in (List.mem_append_right _ (List.mem_of_getElem? (i := 94) (by decide +kernel))) (by decide +kernel)) dX0_init_9 (fun _ => rfl) (fun _ => rfl) (fun hRk => ?_)
  refine g_mr hRk rfl (mx_put (by rw [(xG_K0 hg)]; decide) (by decide) (xRL_g0 hg) (fun j h1 h2 => absurd h1 (by omega))) (fun hRk => ?_)
  refine g_aload_n hX dX0_init_12 rfl 0 rfl ?_
  refine g_iconst (v := nI 0) hX dX0_init_13 (by decide) ?_
  refine g_putI hX (by omega) (xG_K0 hg) xCl0 1 (by decide) (by decide) (by decide) kX0_15 dX0_init_14 rfl rfl ?_
  refine g_mr hRk (xput_same (congrFun xrow_e 1)) rfl (fun hRk => ?_)
  refine g_aload_n hX dX0_init_17 rfl 0 rfl ?_
  refine g_ldc (v := -1000000) hX cX0_19 dX0_init_18 ?_
  refine g_putI hX (by omega) (xG_K0 hg) xCl0 2 (by decide) (by decide) (by decide) kX0_20 dX0_init_20 rfl rfl ?_
  refine g_mr hRk (mx_lake (xG_K0 hg)) rfl (fun hRk => ?_)
  refine g_aload_n hX dX0_init_23 rfl 0 rfl ?_
  refine g_iconst (v := nI 0) hX dX0_init_24 (by decide) ?_
  refine g_putI hX (by omega) (xG_K0 hg) xCl0 3 (by decide) (by decide) (by decide) kX0_23 dX0_init_25 rfl rfl ?_
  refine g_mr hRk (xput_same ((congrFun (mxI_ge (Nat.le_refl _)) 3).trans (Ifin_v (by omega) (by decide)))) rfl (fun hRk => ?_)
  refine g_aload_n hX dX0_init_28 rfl 0 rfl ?_
  refine g_bipush (v := nI 6) hX dX0_init_29 (by decide) ?_
  refine g_newa2 hX .int .int (by simp) aW_i rfl dX0_init_31 (xG_K2 hg) (xG_N2 hg) (by omega) hRk (xLr (by omega) xL0) (xSr (by omega) xS0) (Nat.le_of_ble_eq_true rfl) (Nat.le_of_ble_eq_true rfl) (fun hRk => ?_)
  refine g_mr hRk (mx_arrI (by omega) (by rw [(xG_K2 hg)]; decide) (by omega)) (mx_arrR (by omega) (by rw [(xG_K2 hg)]; decide) (by rw [(xG_K2 hg)]; decide)) (fun hRk => ?_)
  refine g_putF2 hX hRt rfl (by omega) (by omega) hRk (xG_K0 hg) xCl0 rfl 4 (by decide) (by decide) (by decide) (xgw_in (List.mem_append_right _ (List.mem_of_getElem? (i := 108) (by decide +kernel))) (by decide +kernel)) dX0_init_33 (fun _ => rfl) (fun _ => rfl) (fun hRk => ?_)
  refine g_mr hRk rfl (mx_put (by rw [(xG_K0 hg)]; decide) (by decide) (xRL_g4 hg) (fun j h1 h2 => by rcases (show j = 1 ∨ j = 2 ∨ j = 3 by omega) with rfl | rfl | rfl; exact ((xRL_g hg 8 18 1).trans rfl); exact ((xRL_g hg 8 18 2).trans rfl); exact ((xRL_g hg 8 18 3).trans rfl))) (fun hRk => ?_)
  refine g_aload_n hX dX0_init_36 rfl 0 rfl ?_
  refine g_bipush (v := nI 6) hX dX0_init_37 (by decide) ?_
  refine g_newa2 hX .int .int (by simp) aW_i rfl dX0_init_39 (xG_K3 hg) (xG_N3 hg) (by omega) hRk (xLr (by omega) xL0) (xSr (by omega) xS0) (Nat.le_of_ble_eq_true rfl) (Nat.le_of_ble_eq_true rfl) (fun hRk => ?_)
  refine g_mr hRk (mx_arrI (by omega) (by rw [(xG_K3 hg)]; decide) (by omega)) (mx_arrR (by omega) (by rw [(xG_K3 hg)]; decide) (by rw [(xG_K3 hg)]; decide)) (fun hRk => ?_)
  refine g_putF2 hX hRt rfl (by omega) (by omega) hRk (xG_K0 hg) xCl0 rfl 5 (by decide) (by decide) (by decide) (xgw_in (List.mem_append_right _ (List.mem_of_getElem? (i := 110) (by decide +kernel))) (by decide +kernel)) dX0_init_41 (fun _ => rfl) (fun _ => rfl) (fun hRk => ?_)
  refine g_mr hRk rfl (mx_put (by rw [(xG_K0 hg)]; decide) (by decide) (xRL_g5 hg) (fun j h1 h2 => absurd h1 (by omega))) (fun hRk => ?_)
  refine g_aload_n hX dX0_init_44 rfl 0 rfl ?_
  refine g_bipush (v := nI 6) hX dX0_init_45 (by decide) ?_
  refine g_newa2 hX .int .int (by simp) aW_i rfl dX0_init_47 (xG_K4 hg) (xG_N4 hg) (by omega) hRk (xLr (by omega) xL0) (xSr (by omega) xS0) (Nat.le_of_ble_eq_true rfl) (Nat.le_of_ble_eq_true rfl) (fun hRk => ?_)
  refine g_mr hRk (mx_arrI (by omega) (by rw [(xG_K4 hg)]; decide) (by omega)) (mx_arrR (by omega) (by rw [(xG_K4 hg)]; decide) (by rw [(xG_K4 hg)]; decide)) (fun hRk => ?_)
  refine g_putF2 hX hRt rfl (by omega) (by omega) hRk (xG_K0 hg) xCl0 rfl 6 (by decide) (by decide) (by decide) (xgw_in (List.mem_append_right _ (List.mem_of_getElem? (i := 113) (by decide +kernel))) (by decide +kernel)) dX0_init_49 (fun _ => rfl) (fun _ => rfl) (fun hRk => ?_)
  refine g_mr hRk rfl (mx_put (by rw [(xG_K0 hg)]; decide) (by decide) (xRL_g6 hg) (fun j h1 h2 => absurd h1 (by omega))) (fun hRk => ?_)
  refine g_aload_n hX dX0_init_52 rfl 0 rfl ?_
  refine g_bipush (v := nI 6) hX dX0_init_53 (by decide) ?_
  refine g_newa2 hX .int .int (by simp) aW_i rfl dX0_init_55 (xG_K5 hg) (xG_N5 hg) (by omega) hRk (xLr (by omega) xL0) (xSr (by omega) xS0) (Nat.le_of_ble_eq_true rfl) (Nat.le_of_ble_eq_true rfl) (fun hRk => ?_)
  refine g_mr hRk (mx_arrI (by omega) (by rw [(xG_K5 hg)]; decide) (by omega)) (mx_arrR (by omega) (by rw [(xG_K5 hg)]; decide) (by rw [(xG_K5 hg)]; decide)) (fun hRk => ?_)
  refine g_putF2 hX hRt rfl (by omega) (by omega) hRk (xG_K0 hg) xCl0 rfl 7 (by decide) (by decide) (by decide) (xgw_in (List.mem_append_right _ (List.mem_of_getElem? (i := 114) (by decide +kernel))) (by decide +kernel)) dX0_init_57 (fun _ => rfl) (fun _ => rfl) (fun hRk => ?_)
  refine g_mr hRk rfl (mx_put (by rw [(xG_K0 hg)]; decide) (by decide) (xRL_g7 hg) (fun j h1 h2 => absurd h1 (by omega))) (fun hRk => ?_)
  refine g_aload_n hX dX0_init_60 rfl 0 rfl ?_
  refine g_bipush (v := nI 6) hX dX0_init_61 (by decide) ?_
  refine g_newa2 hX .int .int (by simp) aW_i rfl dX0_init_63 (xG_K6 hg) (xG_N6 hg) (by omega) hRk (xLr (by omega) xL0) (xSr (by omega) xS0) (Nat.le_of_ble_eq_true rfl) (Nat.le_of_ble_eq_true rfl) (fun hRk => ?_)
  refine g_mr hRk (mx_arrI (by omega) (by rw [(xG_K6 hg)]; decide) (by omega)) (mx_arrR (by omega) (by rw [(xG_K6 hg)]; decide) (by rw [(xG_K6 hg)]; decide)) (fun hRk => ?_)
  refine g_putF2 hX hRt rfl (by omega) (by omega) hRk (xG_K0 hg) xCl0 rfl 8 (by decide) (by decide) (by decide) (xgw_in (List.mem_append_right _ (List.mem_of_getElem? (i := 116) (by decide +kernel))) (by decide +kernel)) dX0_init_65 (fun _ => rfl) (fun _ => rfl) (fun hRk => ?_)
  refine g_mr hRk rfl (mx_put (by rw [(xG_K0 hg)]; decide) (by decide) (xRL_g8 hg) (fun j h1 h2 => absurd h1 (by omega))) (fun hRk => ?_)
  refine g_aload_n hX dX0_init_68 rfl 0 rfl ?_
  refine g_iconst (v := nI 0) hX dX0_init_69 (by decide) ?_
  refine g_putI hX (by omega) (xG_K0 hg) xCl0 9 (by decide) (by decide) (by decide) kX0_41 dX0_init_70 rfl rfl ?_
  refine g_mr hRk (xput_same ((congrFun (mxI_ge (Nat.le_refl _)) 9).trans (Ifin_v (by omega) (by decide)))) rfl (fun hRk => ?_)
  refine g_aload_n hX dX0_init_73 rfl 0 rfl ?_
  refine g_bipush (v := nI 6) hX dX0_init_74 (by decide) ?_
  refine g_newa2 hX .int .int (by simp) aW_i rfl dX0_init_76 (xG_K7 hg) (xG_N7 hg) (by omega) hRk (xLr (by omega) xL0) (xSr (by omega) xS0) (Nat.le_of_ble_eq_true rfl) (Nat.le_of_ble_eq_true rfl) (fun hRk => ?_)
  refine g_mr hRk (mx_arrI (by omega) (by rw [(xG_K7 hg)]; decide) (by omega)) (mx_arrR (by omega) (by rw [(xG_K7 hg)]; decide) (by rw [(xG_K7 hg)]; decide)) (fun hRk => ?_)
  refine g_putF2 hX hRt rfl (by omega) (by omega) hRk (xG_K0 hg) xCl0 rfl 10 (by decide) (by decide) (by decide) (xgw_in (List.mem_append_right _ (List.mem_of_getElem? (i := 122) (by decide +kernel))) (by decide +kernel)) dX0_init_78 (fun _ => rfl) (fun _ => rfl) (fun hRk => ?_)
  refine g_mr hRk rfl (mx_put (by rw [(xG_K0 hg)]; decide) (by decide) (xRL_g10 hg) (fun j h1 h2 => by obtain rfl : j = 9 := (by omega); exact ((xRL_g hg 8 18 9).trans rfl))) (fun hRk => ?_)
  refine g_aload_n hX dX0_init_81 rfl 0 rfl ?_
  refine g_bipush (v := nI 6) hX dX0_init_82 (by decide) ?_
  refine g_newa2 hX .int .int (by simp) aW_i rfl dX0_init_84 (xG_K8 hg) (xG_N8 hg) (by omega) hRk (xLr (by omega) xL0) (xSr (by omega) xS0) (Nat.le_of_ble_eq_true rfl) (Nat.le_of_ble_eq_true rfl) (fun hRk => ?_)
  refine g_mr hRk (mx_arrI (by omega) (by rw [(xG_K8 hg)]; decide) (by omega)) (mx_arrR (by omega) (by rw [(xG_K8 hg)]; decide) (by rw [(xG_K8 hg)]; decide)) (fun hRk => ?_)
  refine g_putF2 hX hRt rfl (by omega) (by omega) hRk (xG_K0 hg) xCl0 rfl 11 (by decide) (by decide) (by decide) (xgw_in (List.mem_append_right _ (List.mem_of_getElem? (i := 125) (by decide +kernel))) (by decide +kernel)) dX0_init_86 (fun _ => rfl) (fun _ => rfl) (fun hRk => ?_)
  refine g_mr hRk rfl (mx_put (by rw [(xG_K0 hg)]; decide) (by decide) (xRL_g11 hg) (fun j h1 h2 => absurd h1 (by omega))) (fun hRk => ?_)
  refine g_aload_n hX dX0_init_89 rfl 0 rfl ?_
  refine g_bipush (v := nI 6) hX dX0_init_90 (by decide) ?_
  refine g_newa2 hX .boolean .boolean (by simp) aW_z rfl dX0_init_92 (xG_K9 hg) (xG_N9 hg) (by omega) hRk (xLr (by omega) xL0) (xSr (by omega) xS0) (Nat.le_of_ble_eq_true rfl) (Nat.le_of_ble_eq_true rfl) (fun hRk => ?_)
  refine g_mr hRk (mx_arrI (by omega) (by rw [(xG_K9 hg)]; decide) (by omega)) (mx_arrR (by omega) (by rw [(xG_K9 hg)]; decide) (by rw [(xG_K9 hg)]; decide)) (fun hRk => ?_)
  refine g_putF2 hX hRt rfl (by omega) (by omega) hRk (xG_K0 hg) xCl0 rfl 12 (by decide) (by decide) (by decide) (xgw_in (List.mem_append_right _ (List.mem_of_getElem? (i := 126) (by decide +kernel))) (by decide +kernel)) dX0_init_94 (fun _ => rfl) (fun _ => rfl) (fun hRk => ?_)
  refine g_mr hRk rfl (mx_put (by rw [(xG_K0 hg)]; decide) (by decide) (xRL_g12 hg) (fun j h1 h2 => absurd h1 (by omega))) (fun hRk => ?_)
  refine g_aload_n hX dX0_init_97 rfl 0 rfl ?_
  refine g_iconst (v := nI 0) hX dX0_init_98 (by decide) ?_
  refine g_putI hX (by omega) (xG_K0 hg) xCl0 13 (by decide) (by decide) (by decide) kX0_54 dX0_init_99 rfl rfl ?_
  refine g_mr hRk (xput_same ((congrFun (mxI_ge (Nat.le_refl _)) 13).trans (Ifin_v (by omega) (by decide)))) rfl (fun hRk => ?_)
  refine g_aload_n hX dX0_init_102 rfl 0 rfl ?_
  refine g_iconst (v := nI 0) hX dX0_init_103 (by decide) ?_
  refine g_putI hX (by omega) (xG_K0 hg) xCl0 14 (by decide) (by decide) (by decide) kX0_57 dX0_init_104 (by decide) (by decide) ?_
  refine g_mr hRk (xput_same ((congrFun (mxI_ge (Nat.le_refl _)) 14).trans (Ifin_v (by omega) (by decide)))) rfl (fun hRk => ?_)
  exact g_vret hX hRt dX0_init_107 (Nat.le_of_ble_eq_true rfl) (Nat.le_of_ble_eq_true rfl) (mk_fin (n1 := g + 10) hRk (fun i h1 h2 k h3 => by rcases h3 with ⟨rfl, h3⟩ | ⟨rfl, h3⟩ | ⟨rfl, h3⟩ | ⟨rfl, h3⟩; exact xRL_gend hg h3; (exfalso; omega); (exfalso; rcases hg with hg | hg | ⟨q, h5, hg⟩ <;> omega); (exfalso; rcases hg with hg | hg | ⟨q, h5, hg⟩ <;> omega)))
theorem c_X2_init (l : Launch) {I : xM} {R : xR} {r : Nat} (hr : r < 8) (hI : I (31 + 2 * r) = fun _ => 0) (hR : R (31 + 2 * r) = fun _ => none) (hRk : xRok (31 + 2 * r + 1) R) : xC l 1 1 40 yX2_init cX2_init 1 none (31 + 2 * r + 1) [.ref (31 + 2 * r)] I R (mkP (31 + 2 * r) (31 + 2 * r + 2) I R) := by
  refine xC_of (by decide) (Nat.le_of_ble_eq_true rfl) (fun X hXl hX hRt => ?_)
  have hX : xOK X RX2 cX2_init 1 1 1 40 := hX
  show G X (31 + 2 * r + 1) 0 0 I R 0 [(0, .ref (31 + 2 * r))] []
  refine g_eq (mx_in hI hR) ?_
  have hRk := mx_rok hRk
  refine g_mr hRk (mx_in0 (by rw [xW_K0 hr]; decide) (by omega)) rfl (fun hRk => ?_)
  refine g_aload_n hX dX2_init_0 rfl 0 rfl ?_
  refine g_objInit hX joX2_3 jo_m jo_c (by decide) (Nat.le_of_ble_eq_true rfl) dX2_init_1 ?_
  refine g_aload_n hX dX2_init_4 rfl 0 rfl ?_
  refine g_iconst (v := nI 0) hX dX2_init_5 (by decide) ?_
  refine g_putI hX (by omega) (xW_K0 hr) xCl2 0 (by decide) (by decide) (by decide) kX2_9 dX2_init_6 (by decide) (by decide) ?_
  refine g_mr hRk (xput_same ((congrFun (mxI_ge (Nat.le_refl _)) 0).trans (Ifin_v (by omega) (by decide)))) rfl (fun hRk => ?_)
  refine g_aload_n hX dX2_init_9 rfl 0 rfl ?_
  refine g_iconst (v := nI 0) hX dX2_init_10 (by decide) ?_
  refine g_putI hX (by omega) (xW_K0 hr) xCl2 1 (by decide) (by decide) (by decide) kX2_15 dX2_init_11 rfl rfl ?_
  refine g_mr hRk (xput_same ((congrFun (mxI_ge (Nat.le_refl _)) 1).trans (Ifin_v (by omega) (by decide)))) rfl (fun hRk => ?_)
  refine g_aload_n hX dX2_init_14 rfl 0 rfl ?_
  refine g_iconst (v := nI 0) hX dX2_init_15 (by decide) ?_
  refine g_putI hX (by omega) (xW_K0 hr) xCl2 2 (by decide) (by decide) (by decide) kX2_19 dX2_init_16 rfl rfl ?_
  refine g_mr hRk (xput_same ((congrFun (mxI_ge (Nat.le_refl _)) 2).trans (congrFun (Ifin_0 (by rw [xW_K0 hr]; decide) (by omega)) 2))) rfl (fun hRk => ?_)
  refine g_aload_n hX dX2_init_19 rfl 0 rfl ?_
  refine g_bipush (v := nI 40) hX dX2_init_20 (by decide) ?_
  refine g_newa2 hX .int .int (by simp) aW_i rfl dX2_init_22 (show xK (31 + 2 * r + 1) = 8 by rw [show 31 + 2 * r + 1 = 32 + 2 * r by omega]; exact xW_K1 hr) (show xN (31 + 2 * r + 1) = 40 by rw [show 31 + 2 * r + 1 = 32 + 2 * r by omega]; exact xW_N1 hr) (by omega) hRk (xLr (by omega) xL0) (xSr (by omega) xS0) (Nat.le_of_ble_eq_true rfl) (Nat.le_of_ble_eq_true rfl) (fun hRk => ?_)
  refine g_mr hRk (mx_arrI (by omega) (by rw [(show xK (31 + 2 * r + 1) = 8 by rw [show 31 + 2 * r + 1 = 32 + 2 * r by omega]; exact xW_K1 hr)]; decide) (by omega)) (mx_arrR (by omega) (by rw [(show xK (31 + 2 * r + 1) = 8 by rw [show 31 + 2 * r + 1 = 32 + 2 * r by omega]; exact xW_K1 hr)]; decide) (by rw [(show xK (31 + 2 * r + 1) = 8 by rw [show 31 + 2 * r + 1 = 32 + 2 * r by omega]; exact xW_K1 hr)]; decide)) (fun hRk => ?_)
  refine g_putF2 hX hRt rfl (by omega) (by omega) hRk (xW_K0 hr) xCl2 rfl 3 (by decide) (by decide) (by decide) (xgw_in (List.mem_append_right _ (List.mem_of_getElem? (i := 179) (by decide +kernel))) (by decide +kernel)) dX2_init_24 (fun _ => rfl) (fun _ => rfl) (fun hRk => ?_)
  refine g_mr hRk rfl (mx_put (by rw [(xW_K0 hr)]; decide) (by decide) ((xRL_w hr).trans (congrArg some (by omega))) (fun j h1 h2 => by rcases (show j = 0 ∨ j = 1 ∨ j = 2 by omega) with rfl | rfl | rfl; exact (xRL_wn hr (by decide)); exact (xRL_wn hr (by decide)); exact (xRL_wn hr (by decide)))) (fun hRk => ?_)
  exact g_vret hX hRt dX2_init_27 (Nat.le_of_ble_eq_true rfl) (Nat.le_of_ble_eq_true rfl) (mk_fin (n1 := 31 + 2 * r + 2) hRk (fun i h1 h2 k h3 => by rcases h3 with ⟨rfl, h3⟩ | ⟨rfl, h3⟩ | ⟨rfl, h3⟩ | ⟨rfl, h3⟩; exact xRL_wn hr (by omega); (exfalso; omega); (exfalso; omega); (exfalso; omega)))
theorem c_X1_init (l : Launch) {I : xM} {R : xR}   (hI : I 2 = fun _ => 0) (hR : R 2 = fun _ => none) (hRk : xRok (3) R) : xC l 1 1 400 yX1_init cX1_init 1 none (3) [.ref 2] I R (mkP 2 (4) I R) := by
  refine xC_of (by decide) (Nat.le_of_ble_eq_true rfl) (fun X hXl hX hRt => ?_)
  have hX : xOK X RX1 cX1_init 1 1 1 400 := hX
  show G X (3) 0 0 I R 0 [(0, .ref 2)] []
  refine g_eq (mx_in hI hR) ?_
  have hRk := mx_rok hRk
  refine g_mr hRk (mx_in0 (by decide) (by decide)) rfl (fun hRk => ?_)
  refine g_aload_n hX dX1_init_0 rfl 0 rfl ?_
  refine g_objInit hX joX1_3 jo_m jo_c (by decide) (Nat.le_of_ble_eq_true rfl) dX1_init_1 ?_
  refine g_aload_n hX dX1_init_4 rfl 0 rfl ?_
  refine g_sipush (v := nI 400) hX dX1_init_5 (by decide) ?_
  refine g_newa2 hX .byte .byte (by simp) aW_b rfl dX1_init_8 (show xK 3 = 7 by decide) (show xN 3 = 400 by decide) (by omega) hRk (xLr (by omega) xL0) (xSr (by omega) xS0) (Nat.le_of_ble_eq_true rfl) (Nat.le_of_ble_eq_true rfl) (fun hRk => ?_)
  refine g_mr hRk (mx_arrI (by omega) (by rw [(show xK 3 = 7 by decide)]; decide) (by omega)) (mx_arrR (by omega) (by rw [(show xK 3 = 7 by decide)]; decide) (by rw [(show xK 3 = 7 by decide)]; decide)) (fun hRk => ?_)
  refine g_putF2 hX hRt rfl (by omega) (by omega) hRk (show xK 2 = 1 by decide) xCl1 rfl 0 (by decide) (by decide) (by decide) (xgw_in (List.mem_append_right _ (List.mem_of_getElem? (i := 31) (by decide +kernel))) (by decide +kernel)) dX1_init_10 (fun _ => rfl) (fun _ => rfl) (fun hRk => ?_)
  refine g_mr hRk rfl (mx_put (by rw [(show xK 2 = 1 by decide)]; decide) (by decide) rfl (fun j h1 h2 => absurd h1 (by omega))) (fun hRk => ?_)
  refine g_aload_n hX dX1_init_13 rfl 0 rfl ?_
  refine g_iconst (v := nI 0) hX dX1_init_14 (by decide) ?_
  refine g_putI hX (by omega) (show xK 2 = 1 by decide) xCl1 1 (by decide) (by decide) (by decide) kX1_15 dX1_init_15 rfl rfl ?_
  refine g_mr hRk (xput_same ((congrFun (mxI_ge (Nat.le_refl _)) 1).trans (Ifin_v (by decide) (by decide)))) rfl (fun hRk => ?_)
  refine g_aload_n hX dX1_init_18 rfl 0 rfl ?_
  refine g_iconst (v := nI 0) hX dX1_init_19 (by decide) ?_
  refine g_putI hX (by omega) (show xK 2 = 1 by decide) xCl1 2 (by decide) (by decide) (by decide) kX1_19 dX1_init_20 rfl rfl ?_
  refine g_mr hRk (xput_same ((congrFun (mxI_ge (Nat.le_refl _)) 2).trans (congrFun (Ifin_0 (by decide) (by decide)) 2))) rfl (fun hRk => ?_)
  refine g_aload_n hX dX1_init_23 rfl 0 rfl ?_
  refine g_iconst (v := nI 0) hX dX1_init_24 (by decide) ?_
  refine g_putI hX (by omega) (show xK 2 = 1 by decide) xCl1 3 (by decide) (by decide) (by decide) kX1_22 dX1_init_25 rfl rfl ?_
  refine g_mr hRk (xput_same ((congrFun (mxI_ge (Nat.le_refl _)) 3).trans (Ifin_v (by decide) (by decide)))) rfl (fun hRk => ?_)
  refine g_aload_n hX dX1_init_28 rfl 0 rfl ?_
  refine g_iconst (v := nI 0) hX dX1_init_29 (by decide) ?_
  refine g_putI hX (by omega) (show xK 2 = 1 by decide) xCl1 4 (by decide) (by decide) (by decide) kX1_25 dX1_init_30 rfl rfl ?_
  refine g_mr hRk (xput_same ((congrFun (mxI_ge (Nat.le_refl _)) 4).trans (Ifin_v (by decide) (by decide)))) rfl (fun hRk => ?_)
  refine g_aload_n hX dX1_init_33 rfl 0 rfl ?_
  refine g_iconst (v := nI 0) hX dX1_init_34 (by decide) ?_
  refine g_putI hX (by omega) (show xK 2 = 1 by decide) xCl1 5 (by decide) (by decide) (by decide) kX1_28 dX1_init_35 rfl rfl ?_
  refine g_mr hRk (xput_same ((congrFun (mxI_ge (Nat.le_refl _)) 5).trans (Ifin_v (by decide) (by decide)))) rfl (fun hRk => ?_)
  refine g_aload_n hX dX1_init_38 rfl 0 rfl ?_
  refine g_iconst (v := nI 0) hX dX1_init_39 (by decide) ?_
  refine g_putI hX (by omega) (show xK 2 = 1 by decide) xCl1 6 (by decide) (by decide) (by decide) kX1_31 dX1_init_40 rfl rfl ?_
  refine g_mr hRk (xput_same ((congrFun (mxI_ge (Nat.le_refl _)) 6).trans (Ifin_v (by decide) (by decide)))) rfl (fun hRk => ?_)
  refine g_aload_n hX dX1_init_43 rfl 0 rfl ?_
  refine g_iconst (v := nI 0) hX dX1_init_44 (by decide) ?_
  refine g_putI hX (by omega) (show xK 2 = 1 by decide) xCl1 7 (by decide) (by decide) (by decide) kX1_34 dX1_init_45 rfl rfl ?_
  refine g_mr hRk (xput_same ((congrFun (mxI_ge (Nat.le_refl _)) 7).trans (Ifin_v (by decide) (by decide)))) rfl (fun hRk => ?_)
  exact g_vret hX hRt dX1_init_48 (Nat.le_of_ble_eq_true rfl) (Nat.le_of_ble_eq_true rfl) (mk_fin (n1 := 4) hRk (fun i h1 h2 k h3 => by rcases h3 with ⟨rfl, h3⟩ | ⟨rfl, h3⟩ | ⟨rfl, h3⟩ | ⟨rfl, h3⟩; exact (show (if k = 0 then some 3 else none) = none from if_neg (by omega)); (exfalso; omega); (exfalso; omega); (exfalso; omega)))
theorem c_X3_init (l : Launch) {I : xM} {R : xR}   (hI : I 4 = fun _ => 0) (hR : R 4 = fun _ => none) (hRk : xRok (5) R) : xC l 1 1 20 yX3_init cX3_init 1 none (5) [.ref 4] I R (mkP 4 (6) I R) := by
  refine xC_of (by decide) (Nat.le_of_ble_eq_true rfl) (fun X hXl hX hRt => ?_)
  have hX : xOK X RX3 cX3_init 1 1 1 20 := hX
  show G X (5) 0 0 I R 0 [(0, .ref 4)] []
  refine g_eq (mx_in hI hR) ?_
  have hRk := mx_rok hRk
  refine g_mr hRk (mx_in0 (by decide) (by decide)) rfl (fun hRk => ?_)
  refine g_aload_n hX dX3_init_0 rfl 0 rfl ?_
  refine g_objInit hX joX3_3 jo_m jo_c (by decide) (Nat.le_of_ble_eq_true rfl) dX3_init_1 ?_
  refine g_aload_n hX dX3_init_4 rfl 0 rfl ?_
  refine g_bipush (v := nI 20) hX dX3_init_5 (by decide) ?_
  refine g_newa2 hX .int .int (by simp) aW_i rfl dX3_init_7 (show xK 5 = 8 by decide) (show xN 5 = 20 by decide) (by omega) hRk (xLr (by omega) xL0) (xSr (by omega) xS0) (Nat.le_of_ble_eq_true rfl) (Nat.le_of_ble_eq_true rfl) (fun hRk => ?_)
  refine g_mr hRk (mx_arrI (by omega) (by rw [(show xK 5 = 8 by decide)]; decide) (by omega)) (mx_arrR (by omega) (by rw [(show xK 5 = 8 by decide)]; decide) (by rw [(show xK 5 = 8 by decide)]; decide)) (fun hRk => ?_)
  refine g_putF2 hX hRt rfl (by omega) (by omega) hRk (show xK 4 = 3 by decide) xCl3 rfl 0 (by decide) (by decide) (by decide) (xgw_in (List.mem_append_right _ (List.mem_of_getElem? (i := 66) (by decide +kernel))) (by decide +kernel)) dX3_init_9 (fun _ => rfl) (fun _ => rfl) (fun hRk => ?_)
  refine g_mr hRk rfl (mx_put (by rw [(show xK 4 = 3 by decide)]; decide) (by decide) rfl (fun j h1 h2 => absurd h1 (by omega))) (fun hRk => ?_)
  exact g_vret hX hRt dX3_init_12 (Nat.le_of_ble_eq_true rfl) (Nat.le_of_ble_eq_true rfl) (mk_fin (n1 := 6) hRk (fun i h1 h2 k h3 => by rcases h3 with ⟨rfl, h3⟩ | ⟨rfl, h3⟩ | ⟨rfl, h3⟩ | ⟨rfl, h3⟩; exact (show (if k = 0 then some 5 else none) = none from if_neg (by omega)); (exfalso; omega); (exfalso; omega); (exfalso; omega)))
theorem c_X4_init (l : Launch) {I : xM} {R : xR}   (hI : I 6 = fun _ => 0) (hR : R 6 = fun _ => none) (hRk : xRok (7) R) : xC l 1 1 16 yX4_init cX4_init 1 none (7) [.ref 6] I R (mkP 6 (8) I R) := by
  refine xC_of (by decide) (Nat.le_of_ble_eq_true rfl) (fun X hXl hX hRt => ?_)
  have hX : xOK X RX4 cX4_init 1 1 1 16 := hX
  show G X (7) 0 0 I R 0 [(0, .ref 6)] []
  refine g_eq (mx_in hI hR) ?_
  have hRk := mx_rok hRk
  refine g_mr hRk (mx_in0 (by decide) (by decide)) rfl (fun hRk => ?_)
  refine g_aload_n hX dX4_init_0 rfl 0 rfl ?_
  refine g_objInit hX joX4_3 jo_m jo_c (by decide) (Nat.le_of_ble_eq_true rfl) dX4_init_1 ?_
  refine g_aload_n hX dX4_init_4 rfl 0 rfl ?_
  refine g_bipush (v := nI 16) hX dX4_init_5 (by decide) ?_
  refine g_newa2 hX .int .int (by simp) aW_i rfl dX4_init_7 (show xK 7 = 8 by decide) (show xN 7 = 16 by decide) (by omega) hRk (xLr (by omega) xL0) (xSr (by omega) xS0) (Nat.le_of_ble_eq_true rfl) (Nat.le_of_ble_eq_true rfl) (fun hRk => ?_)
  refine g_mr hRk (mx_arrI (by omega) (by rw [(show xK 7 = 8 by decide)]; decide) (by omega)) (mx_arrR (by omega) (by rw [(show xK 7 = 8 by decide)]; decide) (by rw [(show xK 7 = 8 by decide)]; decide)) (fun hRk => ?_)
  refine g_putF2 hX hRt rfl (by omega) (by omega) hRk (show xK 6 = 4 by decide) xCl4 rfl 0 (by decide) (by decide) (by decide) (xgw_in (List.mem_append_right _ (List.mem_of_getElem? (i := 78) (by decide +kernel))) (by decide +kernel)) dX4_init_9 (fun _ => rfl) (fun _ => rfl) (fun hRk => ?_)
  refine g_mr hRk rfl (mx_put (by rw [(show xK 6 = 4 by decide)]; decide) (by decide) rfl (fun j h1 h2 => absurd h1 (by omega))) (fun hRk => ?_)
  refine g_aload_n hX dX4_init_12 rfl 0 rfl ?_
  refine g_iconst (v := nI 0) hX dX4_init_13 (by decide) ?_
  refine g_putI hX (by omega) (show xK 6 = 4 by decide) xCl4 1 (by decide) (by decide) (by decide) kX4_15 dX4_init_14 rfl rfl ?_
  refine g_mr hRk (xput_same ((congrFun (mxI_ge (Nat.le_refl _)) 1).trans (Ifin_v (by decide) (by decide)))) rfl (fun hRk => ?_)
  exact g_vret hX hRt dX4_init_17 (Nat.le_of_ble_eq_true rfl) (Nat.le_of_ble_eq_true rfl) (mk_fin (n1 := 8) hRk (fun i h1 h2 k h3 => by rcases h3 with ⟨rfl, h3⟩ | ⟨rfl, h3⟩ | ⟨rfl, h3⟩ | ⟨rfl, h3⟩; exact (show (if k = 0 then some 7 else none) = none from if_neg (by omega)); (exfalso; omega); (exfalso; omega); (exfalso; omega)))
theorem c_X6_init (l : Launch) {I : xM} {R : xR}   (hI : I 307 = fun _ => 0) (hR : R 307 = fun _ => none) (hRk : xRok (308) R) : xC l 1 11 2833 yX6_init cX6_init 1 none (308) [.ref 307] I R (mkP 307 (319) I R) := by
  refine xC_of (by decide) (Nat.le_of_ble_eq_true rfl) (fun X hXl hX hRt => ?_)
  have hX : xOK X RX6 cX6_init 1 1 11 2833 := hX
  show G X (308) 0 0 I R 0 [(0, .ref 307)] []
  refine g_eq (mx_in hI hR) ?_
  have hRk := mx_rok hRk
  refine g_mr hRk (mx_in0 (by decide) (by decide)) rfl (fun hRk => ?_)
  refine g_aload_n hX dX6_init_0 rfl 0 rfl ?_
  refine g_objInit hX joX6_1 jo_m jo_c (by decide) (Nat.le_of_ble_eq_true rfl) dX6_init_1 ?_
  refine g_aload_n hX dX6_init_4 rfl 0 rfl ?_
  refine g_bipush (v := nI 8) hX dX6_init_5 (by decide) ?_
  refine g_newa2 hX .int .int (by simp) aW_i rfl dX6_init_7 (show xK 308 = 8 by decide) (show xN 308 = 8 by decide) (by omega) hRk (xLr (by omega) xL0) (xSr (by omega) xS0) (Nat.le_of_ble_eq_true rfl) (Nat.le_of_ble_eq_true rfl) (fun hRk => ?_)
  refine g_mr hRk rfl (mx_arrR (by omega) (by rw [(show xK 308 = 8 by decide)]; decide) (by rw [(show xK 308 = 8 by decide)]; decide)) (fun hRk => ?_)
  refine g_dup hX rfl dX6_init_9 ?_
  refine g_iconst (v := nI 0) hX dX6_init_10 (by decide) ?_
  refine g_iconst (v := (-1)) hX dX6_init_11 (by decide) ?_
  refine g_iast hX (by decide) (by decide) 0 rfl (by decide) dX6_init_12 ?_
  refine g_dup hX rfl dX6_init_13 ?_
  refine g_iconst (v := nI 1) hX dX6_init_14 (by decide) ?_
  refine g_iconst (v := (-1)) hX dX6_init_15 (by decide) ?_
  refine g_iast hX (by decide) (by decide) 1 rfl (by decide) dX6_init_16 ?_
  refine g_dup hX rfl dX6_init_17 ?_
  refine g_iconst (v := nI 2) hX dX6_init_18 (by decide) ?_
  refine g_iconst (v := (-1)) hX dX6_init_19 (by decide) ?_
  refine g_iast hX (by decide) (by decide) 2 rfl (by decide) dX6_init_20 ?_
  refine g_dup hX rfl dX6_init_21 ?_
  refine g_iconst (v := nI 3) hX dX6_init_22 (by decide) ?_
  refine g_iconst (v := (-1)) hX dX6_init_23 (by decide) ?_
  refine g_iast hX (by decide) (by decide) 3 rfl (by decide) dX6_init_24 ?_
  refine g_dup hX rfl dX6_init_25 ?_
  refine g_iconst (v := nI 4) hX dX6_init_26 (by decide) ?_
  refine g_iconst (v := (-1)) hX dX6_init_27 (by decide) ?_
  refine g_iast hX (by decide) (by decide) 4 rfl (by decide) dX6_init_28 ?_
  refine g_dup hX rfl dX6_init_29 ?_
  refine g_iconst (v := nI 5) hX dX6_init_30 (by decide) ?_
  refine g_iconst (v := (-1)) hX dX6_init_31 (by decide) ?_
  refine g_iast hX (by decide) (by decide) 5 rfl (by decide) dX6_init_32 ?_
  refine g_dup hX rfl dX6_init_33 ?_
  refine g_bipush (v := nI 6) hX dX6_init_34 (by decide) ?_
  refine g_iconst (v := (-1)) hX dX6_init_36 (by decide) ?_
  refine g_iast hX (by decide) (by decide) 6 rfl (by decide) dX6_init_37 ?_
  refine g_dup hX rfl dX6_init_38 ?_
  refine g_bipush (v := nI 7) hX dX6_init_39 (by decide) ?_
  refine g_iconst (v := (-1)) hX dX6_init_41 (by decide) ?_
  refine g_iast hX (by decide) (by decide) 7 rfl (by decide) dX6_init_42 ?_
  refine g_mr hRk mx_lane rfl (fun hRk => ?_)
  refine g_putF2 hX hRt rfl (by omega) (by omega) hRk (show xK 307 = 6 by decide) xCl6 rfl 2 (by decide) (by decide) (by decide) (xgw_in (List.mem_append_right _ (List.mem_of_getElem? (i := 690) (by decide +kernel))) (by decide +kernel)) dX6_init_43 (fun _ => rfl) (fun _ => rfl) (fun hRk => ?_)
  refine g_mr hRk rfl (mx_put (by rw [(show xK 307 = 6 by decide)]; decide) (by decide) rfl (fun j h1 h2 => by rcases (show j = 0 ∨ j = 1 by omega) with rfl | rfl; exact rfl; exact rfl)) (fun hRk => ?_)
  refine g_aload_n hX dX6_init_46 rfl 0 rfl ?_
  refine g_bipush (v := nI 8) hX dX6_init_47 (by decide) ?_
  refine g_newa2 hX .int .int (by simp) aW_i rfl dX6_init_49 (show xK 309 = 8 by decide) (show xN 309 = 8 by decide) (by omega) hRk (xLr (by omega) xL0) (xSr (by omega) xS0) (Nat.le_of_ble_eq_true rfl) (Nat.le_of_ble_eq_true rfl) (fun hRk => ?_)
  refine g_mr hRk (mx_arrI (by omega) (by rw [(show xK 309 = 8 by decide)]; decide) (by omega)) (mx_arrR (by omega) (by rw [(show xK 309 = 8 by decide)]; decide) (by rw [(show xK 309 = 8 by decide)]; decide)) (fun hRk => ?_)
  refine g_putF2 hX hRt rfl (by omega) (by omega) hRk (show xK 307 = 6 by decide) xCl6 rfl 3 (by decide) (by decide) (by decide) (xgw_in (List.mem_append_right _ (List.mem_of_getElem? (i := 691) (by decide +kernel))) (by decide +kernel)) dX6_init_51 (fun _ => rfl) (fun _ => rfl) (fun hRk => ?_)
  refine g_mr hRk rfl (mx_put (by rw [(show xK 307 = 6 by decide)]; decide) (by decide) rfl (fun j h1 h2 => absurd h1 (by omega))) (fun hRk => ?_)
  refine g_aload_n hX dX6_init_54 rfl 0 rfl ?_
  refine g_sipush (v := nI 320) hX dX6_init_55 (by decide) ?_
  refine g_newa2 hX .int .int (by simp) aW_i rfl dX6_init_58 (show xK 310 = 8 by decide) (show xN 310 = 320 by decide) (by omega) hRk (xLr (by omega) xL0) (xSr (by omega) xS0) (Nat.le_of_ble_eq_true rfl) (Nat.le_of_ble_eq_true rfl) (fun hRk => ?_)
  refine g_mr hRk (mx_arrI (by omega) (by rw [(show xK 310 = 8 by decide)]; decide) (by omega)) (mx_arrR (by omega) (by rw [(show xK 310 = 8 by decide)]; decide) (by rw [(show xK 310 = 8 by decide)]; decide)) (fun hRk => ?_)
  refine g_putF2 hX hRt rfl (by omega) (by omega) hRk (show xK 307 = 6 by decide) xCl6 rfl 4 (by decide) (by decide) (by decide) (xgw_in (List.mem_append_right _ (List.mem_of_getElem? (i := 692) (by decide +kernel))) (by decide +kernel)) dX6_init_60 (fun _ => rfl) (fun _ => rfl) (fun hRk => ?_)
  refine g_mr hRk rfl (mx_put (by rw [(show xK 307 = 6 by decide)]; decide) (by decide) rfl (fun j h1 h2 => absurd h1 (by omega))) (fun hRk => ?_)
  refine g_aload_n hX dX6_init_63 rfl 0 rfl ?_
  refine g_bipush (v := nI 74) hX dX6_init_64 (by decide) ?_
  refine g_newa2 hX .int .int (by simp) aW_i rfl dX6_init_66 (show xK 311 = 8 by decide) (show xN 311 = 74 by decide) (by omega) hRk (xLr (by omega) xL0) (xSr (by omega) xS0) (Nat.le_of_ble_eq_true rfl) (Nat.le_of_ble_eq_true rfl) (fun hRk => ?_)
  refine g_mr hRk (mx_arrI (by omega) (by rw [(show xK 311 = 8 by decide)]; decide) (by omega)) (mx_arrR (by omega) (by rw [(show xK 311 = 8 by decide)]; decide) (by rw [(show xK 311 = 8 by decide)]; decide)) (fun hRk => ?_)
  refine g_putF2 hX hRt rfl (by omega) (by omega) hRk (show xK 307 = 6 by decide) xCl6 rfl 5 (by decide) (by decide) (by decide) (xgw_in (List.mem_append_right _ (List.mem_of_getElem? (i := 693) (by decide +kernel))) (by decide +kernel)) dX6_init_68 (fun _ => rfl) (fun _ => rfl) (fun hRk => ?_)
  refine g_mr hRk rfl (mx_put (by rw [(show xK 307 = 6 by decide)]; decide) (by decide) rfl (fun j h1 h2 => absurd h1 (by omega))) (fun hRk => ?_)
  refine g_aload_n hX dX6_init_71 rfl 0 rfl ?_
  refine g_bipush (v := nI 74) hX dX6_init_72 (by decide) ?_
  refine g_newa2 hX .int .int (by simp) aW_i rfl dX6_init_74 (show xK 312 = 8 by decide) (show xN 312 = 74 by decide) (by omega) hRk (xLr (by omega) xL0) (xSr (by omega) xS0) (Nat.le_of_ble_eq_true rfl) (Nat.le_of_ble_eq_true rfl) (fun hRk => ?_)
  refine g_mr hRk (mx_arrI (by omega) (by rw [(show xK 312 = 8 by decide)]; decide) (by omega)) (mx_arrR (by omega) (by rw [(show xK 312 = 8 by decide)]; decide) (by rw [(show xK 312 = 8 by decide)]; decide)) (fun hRk => ?_)
  refine g_putF2 hX hRt rfl (by omega) (by omega) hRk (show xK 307 = 6 by decide) xCl6 rfl 6 (by decide) (by decide) (by decide) (xgw_in (List.mem_append_right _ (List.mem_of_getElem? (i := 694) (by decide +kernel))) (by decide +kernel)) dX6_init_76 (fun _ => rfl) (fun _ => rfl) (fun hRk => ?_)
  refine g_mr hRk rfl (mx_put (by rw [(show xK 307 = 6 by decide)]; decide) (by decide) rfl (fun j h1 h2 => absurd h1 (by omega))) (fun hRk => ?_)
  refine g_aload_n hX dX6_init_79 rfl 0 rfl ?_
  refine g_sipush (v := nI 1776) hX dX6_init_80 (by decide) ?_
  refine g_newa2 hX .int .int (by simp) aW_i rfl dX6_init_83 (show xK 313 = 8 by decide) (show xN 313 = 1776 by decide) (by omega) hRk (xLr (by omega) xL0) (xSr (by omega) xS0) (Nat.le_of_ble_eq_true rfl) (Nat.le_of_ble_eq_true rfl) (fun hRk => ?_)
  refine g_mr hRk (mx_arrI (by omega) (by rw [(show xK 313 = 8 by decide)]; decide) (by omega)) (mx_arrR (by omega) (by rw [(show xK 313 = 8 by decide)]; decide) (by rw [(show xK 313 = 8 by decide)]; decide)) (fun hRk => ?_)
  refine g_putF2 hX hRt rfl (by omega) (by omega) hRk (show xK 307 = 6 by decide) xCl6 rfl 8 (by decide) (by decide) (by decide) (xgw_in (List.mem_append_right _ (List.mem_of_getElem? (i := 696) (by decide +kernel))) (by decide +kernel)) dX6_init_85 (fun _ => rfl) (fun _ => rfl) (fun hRk => ?_)
  refine g_mr hRk rfl (mx_put (by rw [(show xK 307 = 6 by decide)]; decide) (by decide) rfl (fun j h1 h2 => by obtain rfl : j = 7 := (by omega); exact rfl)) (fun hRk => ?_)
  refine g_aload_n hX dX6_init_88 rfl 0 rfl ?_
  refine g_sipush (v := nI 400) hX dX6_init_89 (by decide) ?_
  refine g_newa2 hX .int .int (by simp) aW_i rfl dX6_init_92 (show xK 314 = 8 by decide) (show xN 314 = 400 by decide) (by omega) hRk (xLr (by omega) xL0) (xSr (by omega) xS0) (Nat.le_of_ble_eq_true rfl) (Nat.le_of_ble_eq_true rfl) (fun hRk => ?_)
  refine g_mr hRk (mx_arrI (by omega) (by rw [(show xK 314 = 8 by decide)]; decide) (by omega)) (mx_arrR (by omega) (by rw [(show xK 314 = 8 by decide)]; decide) (by rw [(show xK 314 = 8 by decide)]; decide)) (fun hRk => ?_)
  refine g_putF2 hX hRt rfl (by omega) (by omega) hRk (show xK 307 = 6 by decide) xCl6 rfl 10 (by decide) (by decide) (by decide) (xgw_in (List.mem_append_right _ (List.mem_of_getElem? (i := 698) (by decide +kernel))) (by decide +kernel)) dX6_init_94 (fun _ => rfl) (fun _ => rfl) (fun hRk => ?_)
  refine g_mr hRk rfl (mx_put (by rw [(show xK 307 = 6 by decide)]; decide) (by decide) rfl (fun j h1 h2 => by obtain rfl : j = 9 := (by omega); exact rfl)) (fun hRk => ?_)
  refine g_aload_n hX dX6_init_97 rfl 0 rfl ?_
  refine g_bipush (v := nI 7) hX dX6_init_98 (by decide) ?_
  refine g_newa2 hX .int .int (by simp) aW_i rfl dX6_init_100 (show xK 315 = 8 by decide) (show xN 315 = 7 by decide) (by omega) hRk (xLr (by omega) xL0) (xSr (by omega) xS0) (Nat.le_of_ble_eq_true rfl) (Nat.le_of_ble_eq_true rfl) (fun hRk => ?_)
  refine g_mr hRk (mx_arrI (by omega) (by rw [(show xK 315 = 8 by decide)]; decide) (by omega)) (mx_arrR (by omega) (by rw [(show xK 315 = 8 by decide)]; decide) (by rw [(show xK 315 = 8 by decide)]; decide)) (fun hRk => ?_)
  refine g_putF2 hX hRt rfl (by omega) (by omega) hRk (show xK 307 = 6 by decide) xCl6 rfl 20 (by decide) (by decide) (by decide) (xgw_in (List.mem_append_right _ (List.mem_of_getElem? (i := 708) (by decide +kernel))) (by decide +kernel)) dX6_init_102 (fun _ => rfl) (fun _ => rfl) (fun hRk => ?_)
  refine g_mr hRk rfl (mx_put (by rw [(show xK 307 = 6 by decide)]; decide) (by decide) rfl (fun j h1 h2 => by rcases (show j = 11 ∨ j = 12 ∨ j = 13 ∨ j = 14 ∨ j = 15 ∨ j = 16 ∨ j = 17 ∨ j = 18 ∨ j = 19 by omega) with rfl | rfl | rfl | rfl | rfl | rfl | rfl | rfl | rfl; exact rfl; exact rfl; exact rfl; exact rfl; exact rfl; exact rfl; exact rfl; exact rfl; exact rfl)) (fun hRk => ?_)
  refine g_aload_n hX dX6_init_105 rfl 0 rfl ?_
  refine g_iconst (v := nI 2) hX dX6_init_106 (by decide) ?_
  refine g_newa2 hX .boolean .boolean (by simp) aW_z rfl dX6_init_107 (show xK 316 = 9 by decide) (show xN 316 = 2 by decide) (by omega) hRk (xLr (by omega) xL0) (xSr (by omega) xS0) (Nat.le_of_ble_eq_true rfl) (Nat.le_of_ble_eq_true rfl) (fun hRk => ?_)
  refine g_mr hRk (mx_arrI (by omega) (by rw [(show xK 316 = 9 by decide)]; decide) (by omega)) (mx_arrR (by omega) (by rw [(show xK 316 = 9 by decide)]; decide) (by rw [(show xK 316 = 9 by decide)]; decide)) (fun hRk => ?_)
  refine g_putF2 hX hRt rfl (by omega) (by omega) hRk (show xK 307 = 6 by decide) xCl6 rfl 21 (by decide) (by decide) (by decide) (xgw_in (List.mem_append_right _ (List.mem_of_getElem? (i := 709) (by decide +kernel))) (by decide +kernel)) dX6_init_109 (fun _ => rfl) (fun _ => rfl) (fun hRk => ?_)
  refine g_mr hRk rfl (mx_put (by rw [(show xK 307 = 6 by decide)]; decide) (by decide) rfl (fun j h1 h2 => absurd h1 (by omega))) (fun hRk => ?_)
  refine g_aload_n hX dX6_init_112 rfl 0 rfl ?_
  refine g_sipush (v := nI 148) hX dX6_init_113 (by decide) ?_
  refine g_newa2 hX .int .int (by simp) aW_i rfl dX6_init_116 (show xK 317 = 8 by decide) (show xN 317 = 148 by decide) (by omega) hRk (xLr (by omega) xL0) (xSr (by omega) xS0) (Nat.le_of_ble_eq_true rfl) (Nat.le_of_ble_eq_true rfl) (fun hRk => ?_)
  refine g_mr hRk (mx_arrI (by omega) (by rw [(show xK 317 = 8 by decide)]; decide) (by omega)) (mx_arrR (by omega) (by rw [(show xK 317 = 8 by decide)]; decide) (by rw [(show xK 317 = 8 by decide)]; decide)) (fun hRk => ?_)
  refine g_putF2 hX hRt rfl (by omega) (by omega) hRk (show xK 307 = 6 by decide) xCl6 rfl 22 (by decide) (by decide) (by decide) (xgw_in (List.mem_append_right _ (List.mem_of_getElem? (i := 710) (by decide +kernel))) (by decide +kernel)) dX6_init_118 (fun _ => rfl) (fun _ => rfl) (fun hRk => ?_)
  refine g_mr hRk rfl (mx_put (by rw [(show xK 307 = 6 by decide)]; decide) (by decide) rfl (fun j h1 h2 => absurd h1 (by omega))) (fun hRk => ?_)
  refine g_aload_n hX dX6_init_121 rfl 0 rfl ?_
  refine g_bipush (v := nI 16) hX dX6_init_122 (by decide) ?_
  refine g_newa2 hX .int .int (by simp) aW_i rfl dX6_init_124 (show xK 318 = 8 by decide) (show xN 318 = 16 by decide) (by omega) hRk (xLr (by omega) xL0) (xSr (by omega) xS0) (Nat.le_of_ble_eq_true rfl) (Nat.le_of_ble_eq_true rfl) (fun hRk => ?_)
  refine g_mr hRk (mx_arrI (by omega) (by rw [(show xK 318 = 8 by decide)]; decide) (by omega)) (mx_arrR (by omega) (by rw [(show xK 318 = 8 by decide)]; decide) (by rw [(show xK 318 = 8 by decide)]; decide)) (fun hRk => ?_)
  refine g_putF2 hX hRt rfl (by omega) (by omega) hRk (show xK 307 = 6 by decide) xCl6 rfl 23 (by decide) (by decide) (by decide) (xgw_in (List.mem_append_right _ (List.mem_of_getElem? (i := 711) (by decide +kernel))) (by decide +kernel)) dX6_init_126 (fun _ => rfl) (fun _ => rfl) (fun hRk => ?_)
  refine g_mr hRk rfl (mx_put (by rw [(show xK 307 = 6 by decide)]; decide) (by decide) rfl (fun j h1 h2 => absurd h1 (by omega))) (fun hRk => ?_)
  exact g_vret hX hRt dX6_init_129 (Nat.le_of_ble_eq_true rfl) (Nat.le_of_ble_eq_true rfl) (mk_fin (n1 := 319) hRk (fun i h1 h2 k h3 => by rcases h3 with ⟨rfl, h3⟩ | ⟨rfl, h3⟩ | ⟨rfl, h3⟩ | ⟨rfl, h3⟩; (unfold xRL; rw [if_pos rfl, List.getD_eq_getElem?_getD, List.getElem?_eq_none (by simpa using h3)]; rfl); (exfalso; omega); (exfalso; omega); (exfalso; omega)))