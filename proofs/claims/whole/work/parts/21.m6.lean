theorem c_X6_areMet (l : Launch) {nw sp : Nat} {I : xM} {T S : Nat} {e : Int32} (hT : I 311 0 = nI T) (hT6 : T ≤ 6) (hS : I 311 1 = nI S) (hS6 : S ≤ 6) (hth : thP (I 311) S) : xC l 6 0 0 yX6_areMet cX6_areMet 4 (some .boolean) 319 [.ref 307, .int e] I (xRL nw sp) (xpI (xb (mtP (brF (I 311) (I 315) T) (I 311) S e)) 319 I (xRL nw sp)) := by
  refine xC_of (by decide) (Nat.le_of_ble_eq_true rfl) (fun X hXl hX hR => ?_)
  have hX : xOK X RX6 cX6_areMet 4 6 0 0 := hX
  show G X 319 0 0 I (xRL nw sp) 0 [(0, .ref 307), (1, .int e)] []
  refine g_iconst (v := nI 1) hX dX6_areMet_0 (by decide) ?_
  refine g_istore_n (L' := [(0, .ref 307), (1, .int e), (2, .int (nI 1))]) hX dX6_areMet_1 rfl (by decide) rfl ?_
  refine g_iconst (v := nI 0) hX dX6_areMet_2 (by decide) ?_
  refine g_istore_n (L' := [(0, .ref 307), (1, .int e), (2, .int (nI 1)), (3, .int (nI 0))]) hX dX6_areMet_3 rfl (by decide) rfl ?_
  have cut4 : ∀ (fuel : Nat) (r : Int32) (k : Nat) (hk : k ≤ S) (hr : r = xb (∀ u, u < k → (fun u => snP (brF (I 311) (I 315) T) (I 311) 0 e u ↔ (I 311 (56 + 3 * u + 2)).toInt = 1) u)), S - k < fuel → G X 319 0 0 I (xRL nw sp) 4 [(0, .ref 307), (1, .int e), (2, .int r), (3, .int (nI k))] [] := by
    intro fuel
    induction fuel with
    | zero => intro r k hk hr hfuel; omega
    | succ fuel ih =>
      intro r k hk hr hfuel
      refine g_iload_n hX dX6_areMet_4 rfl 3 rfl ?_
      refine g_aload_n hX dX6_areMet_5 rfl 0 rfl ?_
      refine g_getR (j := 311) hX (by decide) (by decide) xCl6 5 (by decide) (by decide) kX6_19 dX6_areMet_6 rfl ?_
      refine g_iconst (v := nI 1) hX dX6_areMet_9 (by decide) ?_
      refine g_iald (v := nI S) hX (by decide) (by decide) 1 rfl (by rw [(show xN 311 = 74 by decide)]; decide) dX6_areMet_10 hS ?_
      refine g_ci_ge (a := ((k : Nat) : Int)) (b := ((S : Nat) : Int)) (tgt := 62) hX dX6_areMet_11 (by decide) (nI_toInt (by omega)) (nI_toInt (by omega)) (fun h11 => ?_) (fun h11 => ?_)
      · refine g_iload_n hX dX6_areMet_62 rfl 2 rfl ?_
        exact g_zret hX hR dX6_areMet_63 (by rw [hr]; exact xb_nar) (by decide) (by decide) ⟨congrArg (fun z => some (Value.int z)) (by rw [hr, show k = S by omega]; rfl), rfl, rfl, rfl⟩
      · refine g_iload_n hX dX6_areMet_14 rfl 2 rfl ?_
        refine g_cz_eq (a := r.toInt) (tgt := 54) hX dX6_areMet_15 (by decide) rfl (fun h15 => ?_) (fun h15 => ?_)
        · refine g_iconst (v := nI 0) hX dX6_areMet_54 (by decide) ?_
          refine g_istore_n (L' := [(0, .ref 307), (1, .int e), (2, .int (nI 0)), (3, .int (nI k))]) hX dX6_areMet_55 rfl (by decide) rfl ?_
          refine g_iinc (v := nI (k + 1)) (L' := [(0, .ref 307), (1, .int e), (2, .int (nI 0)), (3, .int (nI (k + 1)))]) hX dX6_areMet_56 (by decide) 3 rfl (nI_add k 1) rfl ?_
          refine g_goto (tgt := 4) hX dX6_areMet_59 (by decide) ?_
          exact ih (nI 0) (k + 1) (by first | assumption | omega) (by first | exact all_t hr h15 ⟨fun _ => h39, fun _ => hs22⟩ | exact all_t hr h15 ⟨fun q => absurd q hs22, fun q => absurd q h39⟩ | exact all_f (fun q => absurd (q.mp hs22) h39) | exact all_f (fun q => hs22 (q.mpr h39)) | exact all_0 hr h15) (by omega)
        · refine g_aload_n hX dX6_areMet_18 rfl 0 rfl ?_
          refine g_iconst (v := nI 0) hX dX6_areMet_19 (by decide) ?_
          refine g_iload_n hX dX6_areMet_20 rfl 1 rfl ?_
          refine g_iload_n hX dX6_areMet_21 rfl 3 rfl ?_
          refine g_callVi hX (as := [.int (nI 0), .int e, .int (nI k)]) (fun l => c_X6_isSeen l (I := I) (s := 0) (k := k) (T := T) (S := S) (e := e) (hT := (by first | assumption | omega)) (hT6 := (by first | assumption | omega)) (hS := (by first | assumption | omega)) (hS6 := (by first | assumption | omega)) (hth := (by first | assumption | omega)) (hs := (by first | assumption | omega)) (hk := (by first | assumption | omega))) mX6_isSeen vX6_isSeen lX6_237 (by decide) (by decide) xCl6 rfl rfl dX6_areMet_22 rfl (by decide) (Nat.le_of_ble_eq_true rfl) (by decide) (by decide) ?_
          rcases Classical.em (snP (brF (I 311) (I 315) T) (I 311) 0 e k) with hs22 | hs22
          · refine g_top (y := nI 1) (xb_n1 hs22).symm ?_
            refine g_aload_n hX dX6_areMet_25 rfl 0 rfl ?_
            refine g_getR (j := 311) hX (by decide) (by decide) xCl6 5 (by decide) (by decide) kX6_19 dX6_areMet_26 rfl ?_
            refine g_bipush (v := nI 56) hX dX6_areMet_29 (by decide) ?_
            refine g_iconst (v := nI 3) hX dX6_areMet_31 (by decide) ?_
            refine g_iload_n hX dX6_areMet_32 rfl 3 rfl ?_
            refine g_imul (v := nI (3 * k)) hX dX6_areMet_33 (nI_mul 3 k) ?_
            refine g_iadd (v := nI (56 + (3 * k))) hX dX6_areMet_34 (nI_add 56 (3 * k)) ?_
            refine g_iconst (v := nI 2) hX dX6_areMet_35 (by decide) ?_
            refine g_iadd (v := nI ((56 + (3 * k)) + 2)) hX dX6_areMet_36 (nI_add (56 + (3 * k)) 2) ?_
            refine g_iald (v := I 311 ((56 + (3 * k)) + 2)) hX (by decide) (by decide) ((56 + (3 * k)) + 2) rfl (by rw [(show xN 311 = 74 by decide)]; omega) dX6_areMet_37 rfl ?_
            refine g_iconst (v := nI 1) hX dX6_areMet_38 (by decide) ?_
            refine g_ci_ne (a := (I 311 ((56 + (3 * k)) + 2)).toInt) (b := (1 : Int)) (tgt := 46) hX dX6_areMet_39 (by decide) rfl (by decide) (fun h39 => ?_) (fun h39 => ?_)
            · refine g_iconst (v := nI 0) hX dX6_areMet_46 (by decide) ?_
              refine g_ci_ne (a := (1 : Int)) (b := (0 : Int)) (tgt := 54) hX dX6_areMet_47 (by decide) (by decide) (by decide) (fun _ => ?_) (fun q => absurd q (by decide))
              refine g_iconst (v := nI 0) hX dX6_areMet_54 (by decide) ?_
              refine g_istore_n (L' := [(0, .ref 307), (1, .int e), (2, .int (nI 0)), (3, .int (nI k))]) hX dX6_areMet_55 rfl (by decide) rfl ?_
              refine g_iinc (v := nI (k + 1)) (L' := [(0, .ref 307), (1, .int e), (2, .int (nI 0)), (3, .int (nI (k + 1)))]) hX dX6_areMet_56 (by decide) 3 rfl (nI_add k 1) rfl ?_
              refine g_goto (tgt := 4) hX dX6_areMet_59 (by decide) ?_
              exact ih (nI 0) (k + 1) (by first | assumption | omega) (by first | exact all_t hr h15 ⟨fun _ => h39, fun _ => hs22⟩ | exact all_t hr h15 ⟨fun q => absurd q hs22, fun q => absurd q h39⟩ | exact all_f (fun q => absurd (q.mp hs22) h39) | exact all_f (fun q => hs22 (q.mpr h39)) | exact all_0 hr h15) (by omega)
            · refine g_iconst (v := nI 1) hX dX6_areMet_42 (by decide) ?_
              refine g_goto (tgt := 47) hX dX6_areMet_43 (by decide) ?_
              refine g_ci_ne (a := (1 : Int)) (b := (1 : Int)) (tgt := 54) hX dX6_areMet_47 (by decide) (by decide) (by decide) (fun q => absurd q (by decide)) (fun _ => ?_)
              refine g_iconst (v := nI 1) hX dX6_areMet_50 (by decide) ?_
              refine g_goto (tgt := 55) hX dX6_areMet_51 (by decide) ?_
              refine g_istore_n (L' := [(0, .ref 307), (1, .int e), (2, .int (nI 1)), (3, .int (nI k))]) hX dX6_areMet_55 rfl (by decide) rfl ?_
              refine g_iinc (v := nI (k + 1)) (L' := [(0, .ref 307), (1, .int e), (2, .int (nI 1)), (3, .int (nI (k + 1)))]) hX dX6_areMet_56 (by decide) 3 rfl (nI_add k 1) rfl ?_
              refine g_goto (tgt := 4) hX dX6_areMet_59 (by decide) ?_
              exact ih (nI 1) (k + 1) (by first | assumption | omega) (by first | exact all_t hr h15 ⟨fun _ => h39, fun _ => hs22⟩ | exact all_t hr h15 ⟨fun q => absurd q hs22, fun q => absurd q h39⟩ | exact all_f (fun q => absurd (q.mp hs22) h39) | exact all_f (fun q => hs22 (q.mpr h39)) | exact all_0 hr h15) (by omega)
          · refine g_top (y := nI 0) (xb_n0 hs22).symm ?_
            refine g_aload_n hX dX6_areMet_25 rfl 0 rfl ?_
            refine g_getR (j := 311) hX (by decide) (by decide) xCl6 5 (by decide) (by decide) kX6_19 dX6_areMet_26 rfl ?_
            refine g_bipush (v := nI 56) hX dX6_areMet_29 (by decide) ?_
            refine g_iconst (v := nI 3) hX dX6_areMet_31 (by decide) ?_
            refine g_iload_n hX dX6_areMet_32 rfl 3 rfl ?_
            refine g_imul (v := nI (3 * k)) hX dX6_areMet_33 (nI_mul 3 k) ?_
            refine g_iadd (v := nI (56 + (3 * k))) hX dX6_areMet_34 (nI_add 56 (3 * k)) ?_
            refine g_iconst (v := nI 2) hX dX6_areMet_35 (by decide) ?_
            refine g_iadd (v := nI ((56 + (3 * k)) + 2)) hX dX6_areMet_36 (nI_add (56 + (3 * k)) 2) ?_
            refine g_iald (v := I 311 ((56 + (3 * k)) + 2)) hX (by decide) (by decide) ((56 + (3 * k)) + 2) rfl (by rw [(show xN 311 = 74 by decide)]; omega) dX6_areMet_37 rfl ?_
            refine g_iconst (v := nI 1) hX dX6_areMet_38 (by decide) ?_
            refine g_ci_ne (a := (I 311 ((56 + (3 * k)) + 2)).toInt) (b := (1 : Int)) (tgt := 46) hX dX6_areMet_39 (by decide) rfl (by decide) (fun h39 => ?_) (fun h39 => ?_)
            · refine g_iconst (v := nI 0) hX dX6_areMet_46 (by decide) ?_
              refine g_ci_ne (a := (0 : Int)) (b := (0 : Int)) (tgt := 54) hX dX6_areMet_47 (by decide) (by decide) (by decide) (fun q => absurd q (by decide)) (fun _ => ?_)
              refine g_iconst (v := nI 1) hX dX6_areMet_50 (by decide) ?_
              refine g_goto (tgt := 55) hX dX6_areMet_51 (by decide) ?_
              refine g_istore_n (L' := [(0, .ref 307), (1, .int e), (2, .int (nI 1)), (3, .int (nI k))]) hX dX6_areMet_55 rfl (by decide) rfl ?_
              refine g_iinc (v := nI (k + 1)) (L' := [(0, .ref 307), (1, .int e), (2, .int (nI 1)), (3, .int (nI (k + 1)))]) hX dX6_areMet_56 (by decide) 3 rfl (nI_add k 1) rfl ?_
              refine g_goto (tgt := 4) hX dX6_areMet_59 (by decide) ?_
              exact ih (nI 1) (k + 1) (by first | assumption | omega) (by first | exact all_t hr h15 ⟨fun _ => h39, fun _ => hs22⟩ | exact all_t hr h15 ⟨fun q => absurd q hs22, fun q => absurd q h39⟩ | exact all_f (fun q => absurd (q.mp hs22) h39) | exact all_f (fun q => hs22 (q.mpr h39)) | exact all_0 hr h15) (by omega)
            · refine g_iconst (v := nI 1) hX dX6_areMet_42 (by decide) ?_
              refine g_goto (tgt := 47) hX dX6_areMet_43 (by decide) ?_
              refine g_ci_ne (a := (0 : Int)) (b := (1 : Int)) (tgt := 54) hX dX6_areMet_47 (by decide) (by decide) (by decide) (fun _ => ?_) (fun q => absurd q (by decide))
              refine g_iconst (v := nI 0) hX dX6_areMet_54 (by decide) ?_
              refine g_istore_n (L' := [(0, .ref 307), (1, .int e), (2, .int (nI 0)), (3, .int (nI k))]) hX dX6_areMet_55 rfl (by decide) rfl ?_
              refine g_iinc (v := nI (k + 1)) (L' := [(0, .ref 307), (1, .int e), (2, .int (nI 0)), (3, .int (nI (k + 1)))]) hX dX6_areMet_56 (by decide) 3 rfl (nI_add k 1) rfl ?_
              refine g_goto (tgt := 4) hX dX6_areMet_59 (by decide) ?_
              exact ih (nI 0) (k + 1) (by first | assumption | omega) (by first | exact all_t hr h15 ⟨fun _ => h39, fun _ => hs22⟩ | exact all_t hr h15 ⟨fun q => absurd q hs22, fun q => absurd q h39⟩ | exact all_f (fun q => absurd (q.mp hs22) h39) | exact all_f (fun q => hs22 (q.mpr h39)) | exact all_0 hr h15) (by omega)
  exact cut4 _ (nI 1) 0 (by first | assumption | omega) (xb_n1 (fun u hu => absurd hu (Nat.not_lt_zero u))) (Nat.lt_succ_self _)

theorem c_X6_metBy (l : Launch) {nw sp : Nat} {I : xM} {T S : Nat} {x : Int32} (hT : I 311 0 = nI T) (hT6 : T ≤ 6) (hS : I 311 1 = nI S) (hS6 : S ≤ 6) (hth : thP (I 311) S) : xC l 7 0 0 yX6_metBy cX6_metBy 4 (some .int) 319 [.ref 307, .int x] I (xRL nw sp) (xpI (bitsI (fun e => inP x e ∧ mtP (brF (I 311) (I 315) T) (I 311) S (nI e)) 31) 319 I (xRL nw sp)) := by
  refine xC_of (by decide) (Nat.le_of_ble_eq_true rfl) (fun X hXl hX hR => ?_)
  have hX : xOK X RX6 cX6_metBy 4 7 0 0 := hX
  show G X 319 0 0 I (xRL nw sp) 0 [(0, .ref 307), (1, .int x)] []
  refine g_iconst (v := nI 0) hX dX6_metBy_0 (by decide) ?_
  refine g_istore_n (L' := [(0, .ref 307), (1, .int x), (2, .int (nI 0))]) hX dX6_metBy_1 rfl (by decide) rfl ?_
  refine g_iconst (v := nI 0) hX dX6_metBy_2 (by decide) ?_
  refine g_istore_n (L' := [(0, .ref 307), (1, .int x), (2, .int (nI 0)), (3, .int (nI 0))]) hX dX6_metBy_3 rfl (by decide) rfl ?_
  have cut4 : ∀ (fuel : Nat) (b : Int32) (k : Nat) (hk : k ≤ 31) (hb : b = bitsI (fun e => inP x e ∧ mtP (brF (I 311) (I 315) T) (I 311) S (nI e)) k), 31 - k < fuel → G X 319 0 0 I (xRL nw sp) 4 [(0, .ref 307), (1, .int x), (2, .int b), (3, .int (nI k))] [] := by
    intro fuel
    induction fuel with
    | zero => intro b k hk hb hfuel; omega
    | succ fuel ih =>
      intro b k hk hb hfuel
      refine g_iload_n hX dX6_metBy_4 rfl 3 rfl ?_
      refine g_bipush (v := nI 31) hX dX6_metBy_5 (by decide) ?_
      refine g_ci_ge (a := ((k : Nat) : Int)) (b := (31 : Int)) (tgt := 43) hX dX6_metBy_7 (by decide) (nI_toInt (by omega)) (by decide) (fun h7 => ?_) (fun h7 => ?_)
      · refine g_iload_n hX dX6_metBy_43 rfl 2 rfl ?_
        exact g_iret hX hR dX6_metBy_44 (by decide) (by decide) ⟨congrArg (fun z => some (Value.int z)) (by rw [hb, show k = 31 by omega]), rfl, rfl, rfl⟩
      · refine g_iload_n hX dX6_metBy_10 rfl 2 rfl ?_
        refine g_iload_n hX dX6_metBy_11 rfl 1 rfl ?_
        refine g_iload_n hX dX6_metBy_12 rfl 3 rfl ?_
        refine g_ishr (v := x >>> ((nI k) &&& 31)) hX dX6_metBy_13 rfl ?_
        refine g_iconst (v := nI 1) hX dX6_metBy_14 (by decide) ?_
        refine g_iand (v := (x >>> ((nI k) &&& 31)) &&& (nI 1)) hX dX6_metBy_15 rfl ?_
        refine g_iconst (v := nI 1) hX dX6_metBy_16 (by decide) ?_
        refine g_ci_ne (a := ((x >>> ((nI k) &&& 31)) &&& (nI 1)).toInt) (b := (1 : Int)) (tgt := 34) hX dX6_metBy_17 (by decide) rfl (by decide) (fun h17 => ?_) (fun h17 => ?_)
        · refine g_iconst (v := nI 0) hX dX6_metBy_34 (by decide) ?_
          refine g_ior (v := b ||| (nI 0)) hX dX6_metBy_35 rfl ?_
          refine g_istore_n (L' := [(0, .ref 307), (1, .int x), (2, .int (b ||| (nI 0))), (3, .int (nI k))]) hX dX6_metBy_36 rfl (by decide) rfl ?_
          refine g_iinc (v := nI (k + 1)) (L' := [(0, .ref 307), (1, .int x), (2, .int (b ||| (nI 0))), (3, .int (nI (k + 1)))]) hX dX6_metBy_37 (by decide) 3 rfl (nI_add k 1) rfl ?_
          refine g_goto (tgt := 4) hX dX6_metBy_40 (by decide) ?_
          exact ih (b ||| (nI 0)) (k + 1) (by first | assumption | omega) (by first | exact bits_t hb ⟨h17, h25⟩ | exact bits_f hb (fun q => h25 q.2) | exact bits_f hb (fun q => h17 q.1)) (by omega)
        · refine g_aload_n hX dX6_metBy_20 rfl 0 rfl ?_
          refine g_iload_n hX dX6_metBy_21 rfl 3 rfl ?_
          refine g_callVi hX (as := [.int (nI k)]) (fun l => c_X6_areMet l (I := I) (T := T) (S := S) (e := (nI k)) (hT := (by first | assumption | omega)) (hT6 := (by first | assumption | omega)) (hS := (by first | assumption | omega)) (hS6 := (by first | assumption | omega)) (hth := (by first | assumption | omega))) mX6_areMet vX6_areMet lX6_253 (by decide) (by decide) xCl6 rfl rfl dX6_metBy_22 rfl (by decide) (Nat.le_of_ble_eq_true rfl) (by decide) (by decide) ?_
          refine g_cb_eq (tgt := 34) hX dX6_metBy_25 (by decide) (fun h25 => ?_) (fun h25 => ?_)
          · refine g_iconst (v := nI 0) hX dX6_metBy_34 (by decide) ?_
            refine g_ior (v := b ||| (nI 0)) hX dX6_metBy_35 rfl ?_
            refine g_istore_n (L' := [(0, .ref 307), (1, .int x), (2, .int (b ||| (nI 0))), (3, .int (nI k))]) hX dX6_metBy_36 rfl (by decide) rfl ?_
            refine g_iinc (v := nI (k + 1)) (L' := [(0, .ref 307), (1, .int x), (2, .int (b ||| (nI 0))), (3, .int (nI (k + 1)))]) hX dX6_metBy_37 (by decide) 3 rfl (nI_add k 1) rfl ?_
            refine g_goto (tgt := 4) hX dX6_metBy_40 (by decide) ?_
            exact ih (b ||| (nI 0)) (k + 1) (by first | assumption | omega) (by first | exact bits_t hb ⟨h17, h25⟩ | exact bits_f hb (fun q => h25 q.2) | exact bits_f hb (fun q => h17 q.1)) (by omega)
          · refine g_iconst (v := nI 1) hX dX6_metBy_28 (by decide) ?_
            refine g_iload_n hX dX6_metBy_29 rfl 3 rfl ?_
            refine g_ishl (v := (nI 1) <<< ((nI k) &&& 31)) hX dX6_metBy_30 rfl ?_
            refine g_goto (tgt := 35) hX dX6_metBy_31 (by decide) ?_
            refine g_ior (v := b ||| ((nI 1) <<< ((nI k) &&& 31))) hX dX6_metBy_35 rfl ?_
            refine g_istore_n (L' := [(0, .ref 307), (1, .int x), (2, .int (b ||| ((nI 1) <<< ((nI k) &&& 31)))), (3, .int (nI k))]) hX dX6_metBy_36 rfl (by decide) rfl ?_
            refine g_iinc (v := nI (k + 1)) (L' := [(0, .ref 307), (1, .int x), (2, .int (b ||| ((nI 1) <<< ((nI k) &&& 31)))), (3, .int (nI (k + 1)))]) hX dX6_metBy_37 (by decide) 3 rfl (nI_add k 1) rfl ?_
            refine g_goto (tgt := 4) hX dX6_metBy_40 (by decide) ?_
            exact ih (b ||| ((nI 1) <<< ((nI k) &&& 31))) (k + 1) (by first | assumption | omega) (by first | exact bits_t hb ⟨h17, h25⟩ | exact bits_f hb (fun q => h25 q.2) | exact bits_f hb (fun q => h17 q.1)) (by omega)
  exact cut4 _ (nI 0) 0 (by first | assumption | omega) rfl (Nat.lt_succ_self _)

theorem c_X6_areThings (l : Launch) {nw sp : Nat} {I : xM} {S : Nat} {x : Int32} (hS : I 311 1 = nI S) (hS6 : S ≤ 6) : xC l 2 0 0 yX6_areThings cX6_areThings 2 (some .boolean) 319 [.ref 307, .int x] I (xRL nw sp) (xpI (xb (0 ≤ x.toInt ∧ x.toInt < 2 ^ S)) 319 I (xRL nw sp)) := by
  refine xC_of (by decide) (Nat.le_of_ble_eq_true rfl) (fun X hXl hX hR => ?_)
  have hX : xOK X RX6 cX6_areThings 2 2 0 0 := hX
  show G X 319 0 0 I (xRL nw sp) 0 [(0, .ref 307), (1, .int x)] []
  obtain ⟨p, hp⟩ : ∃ p, p = 2 ^ S := ⟨_, rfl⟩
  have hp1 : 1 ≤ p := by rw [hp]; exact Nat.one_le_two_pow
  have hp2 : p ≤ 64 := by rw [hp]; exact Nat.pow_le_pow_right (by decide) hS6
  have hpi : ((2 : Int) ^ S) = (p : Int) := by rw [hp]; exact (Int.natCast_pow 2 S).symm
  refine g_iload_n hX dX6_areThings_0 rfl 1 rfl ?_
  refine g_i2l (v := x.toInt64) hX dX6_areThings_1 rfl ?_
  refine g_lconst (v := 0) hX dX6_areThings_2 (by decide) ?_
  refine g_iconst (v := nI 1) hX dX6_areThings_3 (by decide) ?_
  refine g_aload_n hX dX6_areThings_4 rfl 0 rfl ?_
  refine g_getR (j := 311) hX (by decide) (by decide) xCl6 5 (by decide) (by decide) kX6_19 dX6_areThings_5 rfl ?_
  refine g_iconst (v := nI 1) hX dX6_areThings_8 (by decide) ?_
  refine g_iald (v := nI S) hX (by decide) (by decide) 1 rfl (by rw [(show xN 311 = 74 by decide)]; decide) dX6_areThings_9 hS ?_
  refine g_ishl (v := nI p) hX dX6_areThings_10 (by rw [hp]; exact shl1_d S (by omega)) ?_
  refine g_iconst (v := nI 1) hX dX6_areThings_11 (by decide) ?_
  refine g_isub (v := nI (p - 1)) hX dX6_areThings_12 (nI_sub (show 1 ≤ p by omega)) ?_
  refine g_i2l (v := (nI (p - 1)).toInt64) hX dX6_areThings_13 rfl ?_
  refine g_callSi (as := [.long x.toInt64, .long 0, .long ((nI (p - 1)).toInt64)]) hX (fun l => c_X6_in l) mX6_in sX6_in lX6_54 rfl dX6_areThings_14 rfl (by decide) (Nat.le_of_ble_eq_true rfl) (by decide) (by decide) ?_
  refine g_top (y := xb ((0 : Int) ≤ x.toInt ∧ x.toInt ≤ ((p - 1 : Nat) : Int))) (xb_iffI ((i64_of _).trans rfl) (by decide) ((i64_of _).trans (nI_toInt (by omega)))) ?_
  exact g_zret hX hR dX6_areThings_17 xb_nar (by decide) (by decide) ⟨congrArg (fun z => some (Value.int z)) (xb_iff (by rw [hpi]; omega)), rfl, rfl, rfl⟩

theorem c_X6_kindOfSort (l : Launch) {nw sp : Nat} {I : xM} {s : Nat} (hs : s < 5) : xC l 1 0 0 yX6_kindOfSort cX6_kindOfSort 1 (some .int) 319 [.int (nI s)] I (xRL nw sp) (xpI (nI (ksN s)) 319 I (xRL nw sp)) := by
  refine xC_of (by decide) (Nat.le_of_ble_eq_true rfl) (fun X hXl hX hR => ?_)
  have hX : xOK X RX6 cX6_kindOfSort 1 1 0 0 := hX
  show G X 319 0 0 I (xRL nw sp) 0 [(0, .int (nI s))] []
  refine g_iload_n hX dX6_kindOfSort_0 rfl 0 rfl ?_
  refine g_cz_ne (a := ((s : Nat) : Int)) (tgt := 8) hX dX6_kindOfSort_1 (by decide) (nI_toInt (by omega)) (fun h1 => ?_) (fun h1 => ?_)
  · refine g_iload_n hX dX6_kindOfSort_8 rfl 0 rfl ?_
    refine g_iconst (v := nI 1) hX dX6_kindOfSort_9 (by decide) ?_
    refine g_ci_ne (a := ((s : Nat) : Int)) (b := (1 : Int)) (tgt := 17) hX dX6_kindOfSort_10 (by decide) (nI_toInt (by omega)) (by decide) (fun h10 => ?_) (fun h10 => ?_)
    · refine g_iload_n hX dX6_kindOfSort_17 rfl 0 rfl ?_
      refine g_iconst (v := nI 2) hX dX6_kindOfSort_18 (by decide) ?_
      refine g_ci_ne (a := ((s : Nat) : Int)) (b := (2 : Int)) (tgt := 26) hX dX6_kindOfSort_19 (by decide) (nI_toInt (by omega)) (by decide) (fun h19 => ?_) (fun h19 => ?_)
      · refine g_iload_n hX dX6_kindOfSort_26 rfl 0 rfl ?_
        refine g_iconst (v := nI 3) hX dX6_kindOfSort_27 (by decide) ?_
        refine g_ci_ne (a := ((s : Nat) : Int)) (b := (3 : Int)) (tgt := 35) hX dX6_kindOfSort_28 (by decide) (nI_toInt (by omega)) (by decide) (fun h28 => ?_) (fun h28 => ?_)
        · refine g_iconst (v := nI 5) hX dX6_kindOfSort_35 (by decide) ?_
          exact g_iret hX hR dX6_kindOfSort_36 (by decide) (by decide) ⟨congrArg (fun z => some (Value.int z)) (by first | (rw [ksN, if_pos (by omega)]) | (rw [ksN, if_neg (by omega), if_pos (by omega)]) | (rw [ksN, if_neg (by omega), if_neg (by omega), if_pos (by omega)]) | (rw [ksN, if_neg (by omega), if_neg (by omega), if_neg (by omega), if_pos (by omega)]) | (rw [ksN, if_neg (by omega), if_neg (by omega), if_neg (by omega), if_neg (by omega)])), rfl, rfl, rfl⟩
        · refine g_iconst (v := nI 4) hX dX6_kindOfSort_31 (by decide) ?_
          refine g_goto (tgt := 36) hX dX6_kindOfSort_32 (by decide) ?_
          exact g_iret hX hR dX6_kindOfSort_36 (by decide) (by decide) ⟨congrArg (fun z => some (Value.int z)) (by first | (rw [ksN, if_pos (by omega)]) | (rw [ksN, if_neg (by omega), if_pos (by omega)]) | (rw [ksN, if_neg (by omega), if_neg (by omega), if_pos (by omega)]) | (rw [ksN, if_neg (by omega), if_neg (by omega), if_neg (by omega), if_pos (by omega)]) | (rw [ksN, if_neg (by omega), if_neg (by omega), if_neg (by omega), if_neg (by omega)])), rfl, rfl, rfl⟩
      · refine g_iconst (v := nI 2) hX dX6_kindOfSort_22 (by decide) ?_
        refine g_goto (tgt := 36) hX dX6_kindOfSort_23 (by decide) ?_
        exact g_iret hX hR dX6_kindOfSort_36 (by decide) (by decide) ⟨congrArg (fun z => some (Value.int z)) (by first | (rw [ksN, if_pos (by omega)]) | (rw [ksN, if_neg (by omega), if_pos (by omega)]) | (rw [ksN, if_neg (by omega), if_neg (by omega), if_pos (by omega)]) | (rw [ksN, if_neg (by omega), if_neg (by omega), if_neg (by omega), if_pos (by omega)]) | (rw [ksN, if_neg (by omega), if_neg (by omega), if_neg (by omega), if_neg (by omega)])), rfl, rfl, rfl⟩
    · refine g_iconst (v := nI 3) hX dX6_kindOfSort_13 (by decide) ?_
      refine g_goto (tgt := 36) hX dX6_kindOfSort_14 (by decide) ?_
      exact g_iret hX hR dX6_kindOfSort_36 (by decide) (by decide) ⟨congrArg (fun z => some (Value.int z)) (by first | (rw [ksN, if_pos (by omega)]) | (rw [ksN, if_neg (by omega), if_pos (by omega)]) | (rw [ksN, if_neg (by omega), if_neg (by omega), if_pos (by omega)]) | (rw [ksN, if_neg (by omega), if_neg (by omega), if_neg (by omega), if_pos (by omega)]) | (rw [ksN, if_neg (by omega), if_neg (by omega), if_neg (by omega), if_neg (by omega)])), rfl, rfl, rfl⟩
  · refine g_iconst (v := nI 1) hX dX6_kindOfSort_4 (by decide) ?_
    refine g_goto (tgt := 36) hX dX6_kindOfSort_5 (by decide) ?_
    exact g_iret hX hR dX6_kindOfSort_36 (by decide) (by decide) ⟨congrArg (fun z => some (Value.int z)) (by first | (rw [ksN, if_pos (by omega)]) | (rw [ksN, if_neg (by omega), if_pos (by omega)]) | (rw [ksN, if_neg (by omega), if_neg (by omega), if_pos (by omega)]) | (rw [ksN, if_neg (by omega), if_neg (by omega), if_neg (by omega), if_pos (by omega)]) | (rw [ksN, if_neg (by omega), if_neg (by omega), if_neg (by omega), if_neg (by omega)])), rfl, rfl, rfl⟩

theorem c_X6_isOf (l : Launch) {nw sp : Nat} {I : xM} {x y : Int32}  : xC l 1 0 0 yX6_isOf cX6_isOf 2 (some .boolean) 319 [.int x, .int y] I (xRL nw sp) (xpI (xb (y.toInt = 0 ∨ x.toInt = y.toInt ∨ (y.toInt = 1 ∧ x.toInt = 2) ∨ (y.toInt = 4 ∧ x.toInt = 5))) 319 I (xRL nw sp)) := by
  refine xC_of (by decide) (Nat.le_of_ble_eq_true rfl) (fun X hXl hX hR => ?_)
  have hX : xOK X RX6 cX6_isOf 2 1 0 0 := hX
  show G X 319 0 0 I (xRL nw sp) 0 [(0, .int x), (1, .int y)] []
  refine g_iload_n hX dX6_isOf_0 rfl 1 rfl ?_
  refine g_cz_eq (a := y.toInt) (tgt := 29) hX dX6_isOf_1 (by decide) rfl (fun h1 => ?_) (fun h1 => ?_)
  · refine g_iconst (v := nI 1) hX dX6_isOf_29 (by decide) ?_
    refine g_goto (tgt := 34) hX dX6_isOf_30 (by decide) ?_
    exact g_zret hX hR dX6_isOf_34 (by decide) (by decide) (by decide) ⟨congrArg (fun z => some (Value.int z)) (xb_n1 (by omega)), rfl, rfl, rfl⟩
  · refine g_iload_n hX dX6_isOf_4 rfl 0 rfl ?_
    refine g_iload_n hX dX6_isOf_5 rfl 1 rfl ?_
    refine g_ci_eq (a := x.toInt) (b := y.toInt) (tgt := 29) hX dX6_isOf_6 (by decide) rfl rfl (fun h6 => ?_) (fun h6 => ?_)
    · refine g_iconst (v := nI 1) hX dX6_isOf_29 (by decide) ?_
      refine g_goto (tgt := 34) hX dX6_isOf_30 (by decide) ?_
      exact g_zret hX hR dX6_isOf_34 (by decide) (by decide) (by decide) ⟨congrArg (fun z => some (Value.int z)) (xb_n1 (by omega)), rfl, rfl, rfl⟩
    · refine g_iload_n hX dX6_isOf_9 rfl 1 rfl ?_
      refine g_iconst (v := nI 1) hX dX6_isOf_10 (by decide) ?_
      refine g_ci_ne (a := y.toInt) (b := (1 : Int)) (tgt := 19) hX dX6_isOf_11 (by decide) rfl (by decide) (fun h11 => ?_) (fun h11 => ?_)
      · refine g_iload_n hX dX6_isOf_19 rfl 1 rfl ?_
        refine g_iconst (v := nI 4) hX dX6_isOf_20 (by decide) ?_
        refine g_ci_ne (a := y.toInt) (b := (4 : Int)) (tgt := 33) hX dX6_isOf_21 (by decide) rfl (by decide) (fun h21 => ?_) (fun h21 => ?_)
        · refine g_iconst (v := nI 0) hX dX6_isOf_33 (by decide) ?_
          exact g_zret hX hR dX6_isOf_34 (by decide) (by decide) (by decide) ⟨congrArg (fun z => some (Value.int z)) (xb_n0 (by omega)), rfl, rfl, rfl⟩
        · refine g_iload_n hX dX6_isOf_24 rfl 0 rfl ?_
          refine g_iconst (v := nI 5) hX dX6_isOf_25 (by decide) ?_
          refine g_ci_ne (a := x.toInt) (b := (5 : Int)) (tgt := 33) hX dX6_isOf_26 (by decide) rfl (by decide) (fun h26 => ?_) (fun h26 => ?_)
          · refine g_iconst (v := nI 0) hX dX6_isOf_33 (by decide) ?_
            exact g_zret hX hR dX6_isOf_34 (by decide) (by decide) (by decide) ⟨congrArg (fun z => some (Value.int z)) (xb_n0 (by omega)), rfl, rfl, rfl⟩
          · refine g_iconst (v := nI 1) hX dX6_isOf_29 (by decide) ?_
            refine g_goto (tgt := 34) hX dX6_isOf_30 (by decide) ?_
            exact g_zret hX hR dX6_isOf_34 (by decide) (by decide) (by decide) ⟨congrArg (fun z => some (Value.int z)) (xb_n1 (by omega)), rfl, rfl, rfl⟩
      · refine g_iload_n hX dX6_isOf_14 rfl 0 rfl ?_
        refine g_iconst (v := nI 2) hX dX6_isOf_15 (by decide) ?_
        refine g_ci_eq (a := x.toInt) (b := (2 : Int)) (tgt := 29) hX dX6_isOf_16 (by decide) rfl (by decide) (fun h16 => ?_) (fun h16 => ?_)
        · refine g_iconst (v := nI 1) hX dX6_isOf_29 (by decide) ?_
          refine g_goto (tgt := 34) hX dX6_isOf_30 (by decide) ?_
          exact g_zret hX hR dX6_isOf_34 (by decide) (by decide) (by decide) ⟨congrArg (fun z => some (Value.int z)) (xb_n1 (by omega)), rfl, rfl, rfl⟩
        · refine g_iload_n hX dX6_isOf_19 rfl 1 rfl ?_
          refine g_iconst (v := nI 4) hX dX6_isOf_20 (by decide) ?_
          refine g_ci_ne (a := y.toInt) (b := (4 : Int)) (tgt := 33) hX dX6_isOf_21 (by decide) rfl (by decide) (fun h21 => ?_) (fun h21 => ?_)
          · refine g_iconst (v := nI 0) hX dX6_isOf_33 (by decide) ?_
            exact g_zret hX hR dX6_isOf_34 (by decide) (by decide) (by decide) ⟨congrArg (fun z => some (Value.int z)) (xb_n0 (by omega)), rfl, rfl, rfl⟩
          · refine g_iload_n hX dX6_isOf_24 rfl 0 rfl ?_
            refine g_iconst (v := nI 5) hX dX6_isOf_25 (by decide) ?_
            refine g_ci_ne (a := x.toInt) (b := (5 : Int)) (tgt := 33) hX dX6_isOf_26 (by decide) rfl (by decide) (fun h26 => ?_) (fun h26 => ?_)
            · refine g_iconst (v := nI 0) hX dX6_isOf_33 (by decide) ?_
              exact g_zret hX hR dX6_isOf_34 (by decide) (by decide) (by decide) ⟨congrArg (fun z => some (Value.int z)) (xb_n0 (by omega)), rfl, rfl, rfl⟩
            · refine g_iconst (v := nI 1) hX dX6_isOf_29 (by decide) ?_
              refine g_goto (tgt := 34) hX dX6_isOf_30 (by decide) ?_
              exact g_zret hX hR dX6_isOf_34 (by decide) (by decide) (by decide) ⟨congrArg (fun z => some (Value.int z)) (xb_n1 (by omega)), rfl, rfl, rfl⟩

theorem c_X6_isDoubled (l : Launch) {nw sp : Nat} {I : xM} {k T S F W : Nat} {e : Int32} (hT : I 311 0 = nI T) (hT6 : T ≤ 6) (hS : I 311 1 = nI S) (hS6 : S ≤ 6) (hth : thP (I 311) S) (hF : I 311 4 = nI F) (hF20 : F ≤ 20) (hW : I 311 5 = nI W) (hW20 : W ≤ 20) (hk : k < S) : xC l 6 0 0 yX6_isDoubled cX6_isDoubled 6 (some .boolean) 319 [.ref 307, .int e, .int (nI k)] I (xRL nw sp) (xpI (xb (dbP (brF (I 311) (I 315) T) (I 311) F W e k)) 319 I (xRL nw sp)) := by
  refine xC_of (by decide) (Nat.le_of_ble_eq_true rfl) (fun X hXl hX hR => ?_)
  have hX : xOK X RX6 cX6_isDoubled 6 6 0 0 := hX
  show G X 319 0 0 I (xRL nw sp) 0 [(0, .ref 307), (1, .int e), (2, .int (nI k))] []
  have hts := (hth k hk).1
  have hts2 := (hth k hk).2
  refine g_aload_n hX dX6_isDoubled_0 rfl 0 rfl ?_
  refine g_getR (j := 311) hX (by decide) (by decide) xCl6 5 (by decide) (by decide) kX6_19 dX6_isDoubled_1 rfl ?_
  refine g_bipush (v := nI 56) hX dX6_isDoubled_4 (by decide) ?_
  refine g_iconst (v := nI 3) hX dX6_isDoubled_6 (by decide) ?_
  refine g_iload_n hX dX6_isDoubled_7 rfl 2 rfl ?_
  refine g_imul (v := nI (3 * k)) hX dX6_isDoubled_8 (nI_mul 3 k) ?_
  refine g_iadd (v := nI (56 + (3 * k))) hX dX6_isDoubled_9 (nI_add 56 (3 * k)) ?_
  refine g_iald (v := nI (tsF (I 311) k)) hX (by decide) (by decide) (56 + (3 * k)) rfl (by rw [(show xN 311 = 74 by decide)]; omega) dX6_isDoubled_10 hts ?_
  refine g_istore_n (L' := [(0, .ref 307), (1, .int e), (2, .int (nI k)), (3, .int (nI (tsF (I 311) k)))]) hX dX6_isDoubled_11 rfl (by decide) rfl ?_
  refine g_iconst (v := nI 0) hX dX6_isDoubled_12 (by decide) ?_
  refine g_istore (L' := [(0, .ref 307), (1, .int e), (2, .int (nI k)), (3, .int (nI (tsF (I 311) k))), (4, .int (nI 0))]) hX dX6_isDoubled_13 (by decide) rfl ?_
  refine g_aload_n hX dX6_isDoubled_15 rfl 0 rfl ?_
  refine g_getR (j := 311) hX (by decide) (by decide) xCl6 5 (by decide) (by decide) kX6_19 dX6_isDoubled_16 rfl ?_
  refine g_iconst (v := nI 4) hX dX6_isDoubled_19 (by decide) ?_
  refine g_iald (v := nI F) hX (by decide) (by decide) 4 rfl (by rw [(show xN 311 = 74 by decide)]; decide) dX6_isDoubled_20 hF ?_
  refine g_istore (L' := [(0, .ref 307), (1, .int e), (2, .int (nI k)), (3, .int (nI (tsF (I 311) k))), (4, .int (nI 0)), (5, .int (nI F))]) hX dX6_isDoubled_21 (by decide) rfl ?_
  have cut23 : ∀ (fuel : Nat) (r : Int32) (m : Nat) (hm : F ≤ m) (hm2 : m ≤ W + 1 ∨ m = F) (hr : r = xb (∃ u, F ≤ u ∧ u < m ∧ (fun m => (0 < m ∧ m < tsF (I 311) k ∧ frP (brF (I 311) (I 315) T) 0 (I 311 (6 + 0) + e) m (I 311 (6 + m)) ∧ frP (brF (I 311) (I 315) T) m (I 311 (6 + m)) (tsF (I 311) k) (tpF (I 311) k))) u)), W + 1 - m < fuel → G X 319 0 0 I (xRL nw sp) 23 [(0, .ref 307), (1, .int e), (2, .int (nI k)), (3, .int (nI (tsF (I 311) k))), (4, .int r), (5, .int (nI m))] [] := by
    intro fuel
    induction fuel with
    | zero => intro r m hm hm2 hr hfuel; omega
    | succ fuel ih =>
      intro r m hm hm2 hr hfuel
      refine g_iload hX dX6_isDoubled_23 5 rfl ?_
      refine g_aload_n hX dX6_isDoubled_25 rfl 0 rfl ?_
      refine g_getR (j := 311) hX (by decide) (by decide) xCl6 5 (by decide) (by decide) kX6_19 dX6_isDoubled_26 rfl ?_
      refine g_iconst (v := nI 5) hX dX6_isDoubled_29 (by decide) ?_
      refine g_iald (v := nI W) hX (by decide) (by decide) 5 rfl (by rw [(show xN 311 = 74 by decide)]; decide) dX6_isDoubled_30 hW ?_
      refine g_ci_gt (a := ((m : Nat) : Int)) (b := ((W : Nat) : Int)) (tgt := 107) hX dX6_isDoubled_31 (by decide) (nI_toInt (by omega)) (nI_toInt (by omega)) (fun h31 => ?_) (fun h31 => ?_)
      · refine g_iload hX dX6_isDoubled_107 4 rfl ?_
        refine g_cz_eq (a := r.toInt) (tgt := 126) hX dX6_isDoubled_109 (by decide) rfl (fun h109 => ?_) (fun h109 => ?_)
        · refine g_iconst (v := nI 0) hX dX6_isDoubled_126 (by decide) ?_
          exact g_zret hX hR dX6_isDoubled_127 (by decide) (by decide) (by decide) ⟨congrArg (fun z => some (Value.int z)) (xb_n0 (by first | exact fun q => h119 q.2 | exact ⟨by obtain ⟨u, h1, h2, h3⟩ := xb_ne hr h109; exact ⟨u, h1, by omega, h3⟩, h119⟩ | exact fun q => by obtain ⟨⟨u, h1, h2, h3⟩, _⟩ := q; exact xb_eq0 hr h109 ⟨u, h1, by omega, h3⟩)), rfl, rfl, rfl⟩
        · refine g_aload_n hX dX6_isDoubled_112 rfl 0 rfl ?_
          refine g_iconst (v := nI 0) hX dX6_isDoubled_113 (by decide) ?_
          refine g_iload_n hX dX6_isDoubled_114 rfl 1 rfl ?_
          refine g_iload_n hX dX6_isDoubled_115 rfl 2 rfl ?_
          refine g_callVi hX (as := [.int (nI 0), .int e, .int (nI k)]) (fun l => c_X6_isSeen l (I := I) (s := 0) (k := k) (T := T) (S := S) (e := e) (hT := (by first | assumption | omega)) (hT6 := (by first | assumption | omega)) (hS := (by first | assumption | omega)) (hS6 := (by first | assumption | omega)) (hth := (by first | assumption | omega)) (hs := (by first | assumption | omega)) (hk := (by first | assumption | omega))) mX6_isSeen vX6_isSeen lX6_237 (by decide) (by decide) xCl6 rfl rfl dX6_isDoubled_116 rfl (by decide) (Nat.le_of_ble_eq_true rfl) (by decide) (by decide) ?_
          refine g_cb_eq (tgt := 126) hX dX6_isDoubled_119 (by decide) (fun h119 => ?_) (fun h119 => ?_)
          · refine g_iconst (v := nI 0) hX dX6_isDoubled_126 (by decide) ?_
            exact g_zret hX hR dX6_isDoubled_127 (by decide) (by decide) (by decide) ⟨congrArg (fun z => some (Value.int z)) (xb_n0 (by first | exact fun q => h119 q.2 | exact ⟨by obtain ⟨u, h1, h2, h3⟩ := xb_ne hr h109; exact ⟨u, h1, by omega, h3⟩, h119⟩ | exact fun q => by obtain ⟨⟨u, h1, h2, h3⟩, _⟩ := q; exact xb_eq0 hr h109 ⟨u, h1, by omega, h3⟩)), rfl, rfl, rfl⟩
          · refine g_iconst (v := nI 1) hX dX6_isDoubled_122 (by decide) ?_
            refine g_goto (tgt := 127) hX dX6_isDoubled_123 (by decide) ?_
            exact g_zret hX hR dX6_isDoubled_127 (by decide) (by decide) (by decide) ⟨congrArg (fun z => some (Value.int z)) (xb_n1 (by first | exact fun q => h119 q.2 | exact ⟨by obtain ⟨u, h1, h2, h3⟩ := xb_ne hr h109; exact ⟨u, h1, by omega, h3⟩, h119⟩ | exact fun q => by obtain ⟨⟨u, h1, h2, h3⟩, _⟩ := q; exact xb_eq0 hr h109 ⟨u, h1, by omega, h3⟩)), rfl, rfl, rfl⟩
      · refine g_iload hX dX6_isDoubled_34 4 rfl ?_
        refine g_cz_ne (a := r.toInt) (tgt := 94) hX dX6_isDoubled_36 (by decide) rfl (fun h36 => ?_) (fun h36 => ?_)
        · refine g_iconst (v := nI 1) hX dX6_isDoubled_94 (by decide) ?_
          refine g_goto (tgt := 99) hX dX6_isDoubled_95 (by decide) ?_
          refine g_istore (L' := [(0, .ref 307), (1, .int e), (2, .int (nI k)), (3, .int (nI (tsF (I 311) k))), (4, .int (nI 1)), (5, .int (nI m))]) hX dX6_isDoubled_99 (by decide) rfl ?_
          refine g_iinc (v := nI (m + 1)) (L' := [(0, .ref 307), (1, .int e), (2, .int (nI k)), (3, .int (nI (tsF (I 311) k))), (4, .int (nI 1)), (5, .int (nI (m + 1)))]) hX dX6_isDoubled_101 (by decide) 5 rfl (nI_add m 1) rfl ?_
          refine g_goto (tgt := 23) hX dX6_isDoubled_104 (by decide) ?_
          exact ih (nI 1) (m + 1) (by first | assumption | omega) (by first | assumption | omega) (by first | exact ex_k hr h36 | exact ex_t hm ⟨by omega, by omega, h70, h91⟩ | exact ex_f hr h36 (fun q => by omega) | exact ex_f hr h36 (fun q => h70 q.2.2.1) | exact ex_f hr h36 (fun q => h91 q.2.2.2)) (by omega)
        · refine g_iload hX dX6_isDoubled_39 5 rfl ?_
          refine g_cz_le (a := ((m : Nat) : Int)) (tgt := 98) hX dX6_isDoubled_41 (by decide) (nI_toInt (by omega)) (fun h41 => ?_) (fun h41 => ?_)
          · refine g_iconst (v := nI 0) hX dX6_isDoubled_98 (by decide) ?_
            refine g_istore (L' := [(0, .ref 307), (1, .int e), (2, .int (nI k)), (3, .int (nI (tsF (I 311) k))), (4, .int (nI 0)), (5, .int (nI m))]) hX dX6_isDoubled_99 (by decide) rfl ?_
            refine g_iinc (v := nI (m + 1)) (L' := [(0, .ref 307), (1, .int e), (2, .int (nI k)), (3, .int (nI (tsF (I 311) k))), (4, .int (nI 0)), (5, .int (nI (m + 1)))]) hX dX6_isDoubled_101 (by decide) 5 rfl (nI_add m 1) rfl ?_
            refine g_goto (tgt := 23) hX dX6_isDoubled_104 (by decide) ?_
            exact ih (nI 0) (m + 1) (by first | assumption | omega) (by first | assumption | omega) (by first | exact ex_k hr h36 | exact ex_t hm ⟨by omega, by omega, h70, h91⟩ | exact ex_f hr h36 (fun q => by omega) | exact ex_f hr h36 (fun q => h70 q.2.2.1) | exact ex_f hr h36 (fun q => h91 q.2.2.2)) (by omega)
          · refine g_iload hX dX6_isDoubled_44 5 rfl ?_
            refine g_iload_n hX dX6_isDoubled_46 rfl 3 rfl ?_
            refine g_ci_ge (a := ((m : Nat) : Int)) (b := ((tsF (I 311) k : Nat) : Int)) (tgt := 98) hX dX6_isDoubled_47 (by decide) (nI_toInt (by omega)) (nI_toInt (by omega)) (fun h47 => ?_) (fun h47 => ?_)
            · refine g_iconst (v := nI 0) hX dX6_isDoubled_98 (by decide) ?_
              refine g_istore (L' := [(0, .ref 307), (1, .int e), (2, .int (nI k)), (3, .int (nI (tsF (I 311) k))), (4, .int (nI 0)), (5, .int (nI m))]) hX dX6_isDoubled_99 (by decide) rfl ?_
              refine g_iinc (v := nI (m + 1)) (L' := [(0, .ref 307), (1, .int e), (2, .int (nI k)), (3, .int (nI (tsF (I 311) k))), (4, .int (nI 0)), (5, .int (nI (m + 1)))]) hX dX6_isDoubled_101 (by decide) 5 rfl (nI_add m 1) rfl ?_
              refine g_goto (tgt := 23) hX dX6_isDoubled_104 (by decide) ?_
              exact ih (nI 0) (m + 1) (by first | assumption | omega) (by first | assumption | omega) (by first | exact ex_k hr h36 | exact ex_t hm ⟨by omega, by omega, h70, h91⟩ | exact ex_f hr h36 (fun q => by omega) | exact ex_f hr h36 (fun q => h70 q.2.2.1) | exact ex_f hr h36 (fun q => h91 q.2.2.2)) (by omega)
            · refine g_aload_n hX dX6_isDoubled_50 rfl 0 rfl ?_
              refine g_iconst (v := nI 0) hX dX6_isDoubled_51 (by decide) ?_
              refine g_aload_n hX dX6_isDoubled_52 rfl 0 rfl ?_
              refine g_iconst (v := nI 0) hX dX6_isDoubled_53 (by decide) ?_
              refine g_callVi hX (as := [.int (nI 0)]) (fun l => c_X6_ground l (I := I) (q := 0) (hq := (by first | assumption | omega))) mX6_ground vX6_ground lX6_199 (by decide) (by decide) xCl6 rfl rfl dX6_isDoubled_54 rfl (by decide) (Nat.le_of_ble_eq_true rfl) (by decide) (by decide) ?_
              refine g_iload_n hX dX6_isDoubled_57 rfl 1 rfl ?_
              refine g_iadd (v := (I 311 (6 + 0)) + e) hX dX6_isDoubled_58 rfl ?_
              refine g_iload hX dX6_isDoubled_59 5 rfl ?_
              refine g_aload_n hX dX6_isDoubled_61 rfl 0 rfl ?_
              refine g_iload hX dX6_isDoubled_62 5 rfl ?_
              refine g_callVi hX (as := [.int (nI m)]) (fun l => c_X6_ground l (I := I) (q := m) (hq := (by first | assumption | omega))) mX6_ground vX6_ground lX6_199 (by decide) (by decide) xCl6 rfl rfl dX6_isDoubled_64 rfl (by decide) (Nat.le_of_ble_eq_true rfl) (by decide) (by decide) ?_
              refine g_callVi hX (as := [.int (nI 0), .int ((I 311 (6 + 0)) + e), .int (nI m), .int (I 311 (6 + m))]) (fun l => c_X6_isFree l (I := I) (a := 0) (c := m) (T := T) (x := ((I 311 (6 + 0)) + e)) (y := (I 311 (6 + m))) (hT := (by first | assumption | omega)) (hT6 := (by first | assumption | omega)) (ha := (by first | assumption | omega)) (hc := (by first | assumption | omega))) mX6_isFree vX6_isFree lX6_233 (by decide) (by decide) xCl6 rfl rfl dX6_isDoubled_67 rfl (by decide) (Nat.le_of_ble_eq_true rfl) (by decide) (by decide) ?_
              refine g_cb_eq (tgt := 98) hX dX6_isDoubled_70 (by decide) (fun h70 => ?_) (fun h70 => ?_)
              · refine g_iconst (v := nI 0) hX dX6_isDoubled_98 (by decide) ?_
                refine g_istore (L' := [(0, .ref 307), (1, .int e), (2, .int (nI k)), (3, .int (nI (tsF (I 311) k))), (4, .int (nI 0)), (5, .int (nI m))]) hX dX6_isDoubled_99 (by decide) rfl ?_
                refine g_iinc (v := nI (m + 1)) (L' := [(0, .ref 307), (1, .int e), (2, .int (nI k)), (3, .int (nI (tsF (I 311) k))), (4, .int (nI 0)), (5, .int (nI (m + 1)))]) hX dX6_isDoubled_101 (by decide) 5 rfl (nI_add m 1) rfl ?_
                refine g_goto (tgt := 23) hX dX6_isDoubled_104 (by decide) ?_
                exact ih (nI 0) (m + 1) (by first | assumption | omega) (by first | assumption | omega) (by first | exact ex_k hr h36 | exact ex_t hm ⟨by omega, by omega, h70, h91⟩ | exact ex_f hr h36 (fun q => by omega) | exact ex_f hr h36 (fun q => h70 q.2.2.1) | exact ex_f hr h36 (fun q => h91 q.2.2.2)) (by omega)
              · refine g_aload_n hX dX6_isDoubled_73 rfl 0 rfl ?_
                refine g_iload hX dX6_isDoubled_74 5 rfl ?_
                refine g_aload_n hX dX6_isDoubled_76 rfl 0 rfl ?_
                refine g_iload hX dX6_isDoubled_77 5 rfl ?_
                refine g_callVi hX (as := [.int (nI m)]) (fun l => c_X6_ground l (I := I) (q := m) (hq := (by first | assumption | omega))) mX6_ground vX6_ground lX6_199 (by decide) (by decide) xCl6 rfl rfl dX6_isDoubled_79 rfl (by decide) (Nat.le_of_ble_eq_true rfl) (by decide) (by decide) ?_
                refine g_iload_n hX dX6_isDoubled_82 rfl 3 rfl ?_
                refine g_aload_n hX dX6_isDoubled_83 rfl 0 rfl ?_
                refine g_iload_n hX dX6_isDoubled_84 rfl 2 rfl ?_
                refine g_callVi hX (as := [.int (nI k)]) (fun l => c_X6_top l (I := I) (k := k) (hk := (by first | assumption | omega)) (hts := (by first | assumption | omega)) (hts2 := (by first | assumption | omega))) mX6_top vX6_top lX6_230 (by decide) (by decide) xCl6 rfl rfl dX6_isDoubled_85 rfl (by decide) (Nat.le_of_ble_eq_true rfl) (by decide) (by decide) ?_
                refine g_callVi hX (as := [.int (nI m), .int (I 311 (6 + m)), .int (nI (tsF (I 311) k)), .int (tpF (I 311) k)]) (fun l => c_X6_isFree l (I := I) (a := m) (c := (tsF (I 311) k)) (T := T) (x := (I 311 (6 + m))) (y := (tpF (I 311) k)) (hT := (by first | assumption | omega)) (hT6 := (by first | assumption | omega)) (ha := (by first | assumption | omega)) (hc := (by first | assumption | omega))) mX6_isFree vX6_isFree lX6_233 (by decide) (by decide) xCl6 rfl rfl dX6_isDoubled_88 rfl (by decide) (Nat.le_of_ble_eq_true rfl) (by decide) (by decide) ?_
                refine g_cb_eq (tgt := 98) hX dX6_isDoubled_91 (by decide) (fun h91 => ?_) (fun h91 => ?_)
                · refine g_iconst (v := nI 0) hX dX6_isDoubled_98 (by decide) ?_
                  refine g_istore (L' := [(0, .ref 307), (1, .int e), (2, .int (nI k)), (3, .int (nI (tsF (I 311) k))), (4, .int (nI 0)), (5, .int (nI m))]) hX dX6_isDoubled_99 (by decide) rfl ?_
                  refine g_iinc (v := nI (m + 1)) (L' := [(0, .ref 307), (1, .int e), (2, .int (nI k)), (3, .int (nI (tsF (I 311) k))), (4, .int (nI 0)), (5, .int (nI (m + 1)))]) hX dX6_isDoubled_101 (by decide) 5 rfl (nI_add m 1) rfl ?_
                  refine g_goto (tgt := 23) hX dX6_isDoubled_104 (by decide) ?_
                  exact ih (nI 0) (m + 1) (by first | assumption | omega) (by first | assumption | omega) (by first | exact ex_k hr h36 | exact ex_t hm ⟨by omega, by omega, h70, h91⟩ | exact ex_f hr h36 (fun q => by omega) | exact ex_f hr h36 (fun q => h70 q.2.2.1) | exact ex_f hr h36 (fun q => h91 q.2.2.2)) (by omega)
                · refine g_iconst (v := nI 1) hX dX6_isDoubled_94 (by decide) ?_
                  refine g_goto (tgt := 99) hX dX6_isDoubled_95 (by decide) ?_
                  refine g_istore (L' := [(0, .ref 307), (1, .int e), (2, .int (nI k)), (3, .int (nI (tsF (I 311) k))), (4, .int (nI 1)), (5, .int (nI m))]) hX dX6_isDoubled_99 (by decide) rfl ?_
                  refine g_iinc (v := nI (m + 1)) (L' := [(0, .ref 307), (1, .int e), (2, .int (nI k)), (3, .int (nI (tsF (I 311) k))), (4, .int (nI 1)), (5, .int (nI (m + 1)))]) hX dX6_isDoubled_101 (by decide) 5 rfl (nI_add m 1) rfl ?_
                  refine g_goto (tgt := 23) hX dX6_isDoubled_104 (by decide) ?_
                  exact ih (nI 1) (m + 1) (by first | assumption | omega) (by first | assumption | omega) (by first | exact ex_k hr h36 | exact ex_t hm ⟨by omega, by omega, h70, h91⟩ | exact ex_f hr h36 (fun q => by omega) | exact ex_f hr h36 (fun q => h70 q.2.2.1) | exact ex_f hr h36 (fun q => h91 q.2.2.2)) (by omega)
  exact cut23 _ (nI 0) F (by first | assumption | omega) (by first | assumption | omega) (xb_n0 (fun q => by obtain ⟨u, h1, h2, _⟩ := q; omega)) (Nat.lt_succ_self _)

theorem c_X6_keep_lt (l : Launch) {nw sp : Nat} {I : xM} {D : Nat} (hD : I 307 9 = nI D) (hD24 : D < 24) : xC l 1 0 0 yX6_keep cX6_keep 2 none 319 [.ref 307] I (xRL nw sp) (xpV 319 (xput (xrow I 313 (xfill (I 313) (I 311) (74 * D) 74)) 307 9 (nI (D + 1))) (xRL nw sp)) := by
  refine xC_of (by decide) (Nat.le_of_ble_eq_true rfl) (fun X hXl hX hR => ?_)
  have hX : xOK X RX6 cX6_keep 2 1 0 0 := hX
  show G X 319 0 0 I (xRL nw sp) 0 [(0, .ref 307)] []
  refine g_aload_n hX dX6_keep_0 rfl 0 rfl ?_
  refine g_getI (v := nI D) hX (by decide) (by decide) xCl6 9 (by decide) (by decide) kX6_190 dX6_keep_1 hD ?_
  refine g_bipush (v := nI 24) hX dX6_keep_4 (by decide) ?_
  refine g_ci_ne (a := ((D : Nat) : Int)) (b := (24 : Int)) (tgt := 49) hX dX6_keep_6 (by decide) (nI_toInt (by omega)) (by decide) (fun h6 => ?_) (fun h6 => ?_)
  · refine g_iconst (v := nI 0) hX dX6_keep_49 (by decide) ?_
    refine g_istore_n (L' := [(0, .ref 307), (1, .int (nI 0))]) hX dX6_keep_50 rfl (by decide) rfl ?_
    have cut51 : ∀ (fuel : Nat) (k : Nat) (J : xM) (hk : k ≤ 74) (hJ : J = xrow I 313 (xfill (I 313) (I 311) (74 * D) k)) (hJD : J 307 9 = nI D), 74 - k < fuel → G X 319 0 0 J (xRL nw sp) 51 [(0, .ref 307), (1, .int (nI k))] [] := by
      intro fuel
      induction fuel with
      | zero => intro k J hk hJ hJD hfuel; omega
      | succ fuel ih =>
        intro k J hk hJ hJD hfuel
        refine g_iload_n hX dX6_keep_51 rfl 1 rfl ?_
        refine g_bipush (v := nI 74) hX dX6_keep_52 (by decide) ?_
        refine g_ci_ge (a := ((k : Nat) : Int)) (b := (74 : Int)) (tgt := 83) hX dX6_keep_54 (by decide) (nI_toInt (by omega)) (by decide) (fun h54 => ?_) (fun h54 => ?_)
        · refine g_aload_n hX dX6_keep_83 rfl 0 rfl ?_
          refine g_dup hX rfl dX6_keep_84 ?_
          refine g_getI (v := nI D) hX (by decide) (by decide) xCl6 9 (by decide) (by decide) kX6_190 dX6_keep_85 hJD ?_
          refine g_iconst (v := nI 1) hX dX6_keep_88 (by decide) ?_
          refine g_iadd (v := nI (D + 1)) hX dX6_keep_89 (nI_add D 1) ?_
          refine g_putI hX (by decide) (by decide) xCl6 9 (by decide) (by decide) (by decide) kX6_190 dX6_keep_90 rfl rfl ?_
          exact g_vret hX hR dX6_keep_93 (by decide) (by decide) ⟨rfl, rfl, (by rw [hJ, show k = 74 by omega]), rfl⟩
        · refine g_aload_n hX dX6_keep_57 rfl 0 rfl ?_
          refine g_getR (j := 313) hX (by decide) (by decide) xCl6 8 (by decide) (by decide) kX6_25 dX6_keep_58 rfl ?_
          refine g_bipush (v := nI 74) hX dX6_keep_61 (by decide) ?_
          refine g_aload_n hX dX6_keep_63 rfl 0 rfl ?_
          refine g_getI (v := nI D) hX (by decide) (by decide) xCl6 9 (by decide) (by decide) kX6_190 dX6_keep_64 hJD ?_
          refine g_imul (v := nI (74 * D)) hX dX6_keep_67 (nI_mul 74 D) ?_
          refine g_iload_n hX dX6_keep_68 rfl 1 rfl ?_
          refine g_iadd (v := nI ((74 * D) + k)) hX dX6_keep_69 (nI_add (74 * D) k) ?_
          refine g_aload_n hX dX6_keep_70 rfl 0 rfl ?_
          refine g_getR (j := 311) hX (by decide) (by decide) xCl6 5 (by decide) (by decide) kX6_19 dX6_keep_71 rfl ?_
          refine g_iload_n hX dX6_keep_74 rfl 1 rfl ?_
          refine g_iald (v := I 311 k) hX (by decide) (by decide) k rfl (by rw [(show xN 311 = 74 by decide)]; omega) dX6_keep_75 (by rw [hJ]; rfl) ?_
          refine g_iast hX (by decide) (by decide) ((74 * D) + k) rfl (by rw [(show xN 313 = 1776 by decide)]; omega) dX6_keep_76 ?_
          refine g_iinc (v := nI (k + 1)) (L' := [(0, .ref 307), (1, .int (nI (k + 1)))]) hX dX6_keep_77 (by decide) 1 rfl (nI_add k 1) rfl ?_
          refine g_goto (tgt := 51) hX dX6_keep_80 (by decide) ?_
          exact ih (k + 1) (xput J 313 ((74 * D) + k) (I 311 k)) (by first | assumption | omega) (xfill_step hJ rfl rfl) (xput_o (by decide) hJD) (by omega)
    exact cut51 _ 0 I (by first | assumption | omega) (xfill_start rfl) hD (Nat.lt_succ_self _)
  · exfalso; omega

theorem c_X6_keep_eq (l : Launch) {nw sp : Nat} {I : xM}  (hD : I 307 9 = nI 24) : xC l 1 0 0 yX6_keep cX6_keep 2 none 319 [.ref 307] I (xRL nw sp) (xpV 319 (xrow I 313 (xfill (xfill (I 313) (fun t => I 313 (t + 74)) 0 1702) (I 311) (74 * 23) 74)) (xRL nw sp)) := by
  refine xC_of (by decide) (Nat.le_of_ble_eq_true rfl) (fun X hXl hX hR => ?_)
  have hX : xOK X RX6 cX6_keep 2 1 0 0 := hX
  show G X 319 0 0 I (xRL nw sp) 0 [(0, .ref 307)] []
  refine g_aload_n hX dX6_keep_0 rfl 0 rfl ?_
  refine g_getI (v := nI 24) hX (by decide) (by decide) xCl6 9 (by decide) (by decide) kX6_190 dX6_keep_1 hD ?_
  refine g_bipush (v := nI 24) hX dX6_keep_4 (by decide) ?_
  refine g_ci_ne (a := (24 : Int)) (b := (24 : Int)) (tgt := 49) hX dX6_keep_6 (by decide) (by decide) (by decide) (fun q => absurd q (by decide)) (fun _ => ?_)
  refine g_iconst (v := nI 0) hX dX6_keep_9 (by decide) ?_
  refine g_istore_n (L' := [(0, .ref 307), (1, .int (nI 0))]) hX dX6_keep_10 rfl (by decide) rfl ?_
  have cut11 : ∀ (fuel : Nat) (k : Nat) (J : xM) (hk : k ≤ 1702) (hJ : J = xrow I 313 (xfill (I 313) (fun t => I 313 (t + 74)) 0 k)) (hJD : J 307 9 = nI 24), 1702 - k < fuel → G X 319 0 0 J (xRL nw sp) 11 [(0, .ref 307), (1, .int (nI k))] [] := by
    intro fuel
    induction fuel with
    | zero => intro k J hk hJ hJD hfuel; omega
    | succ fuel ih =>
      intro k J hk hJ hJD hfuel
      refine g_iload_n hX dX6_keep_11 rfl 1 rfl ?_
      refine g_sipush (v := nI 1702) hX dX6_keep_12 (by decide) ?_
      refine g_ci_ge (a := ((k : Nat) : Int)) (b := (1702 : Int)) (tgt := 39) hX dX6_keep_15 (by decide) (nI_toInt (by omega)) (by decide) (fun h15 => ?_) (fun h15 => ?_)
      · refine g_aload_n hX dX6_keep_39 rfl 0 rfl ?_
        refine g_dup hX rfl dX6_keep_40 ?_
        refine g_getI (v := nI 24) hX (by decide) (by decide) xCl6 9 (by decide) (by decide) kX6_190 dX6_keep_41 hJD ?_
        refine g_iconst (v := nI 1) hX dX6_keep_44 (by decide) ?_
        refine g_isub (v := nI 23) hX dX6_keep_45 (nI_sub (show 1 ≤ 24 by omega)) ?_
        refine g_putI hX (by decide) (by decide) xCl6 9 (by decide) (by decide) (by decide) kX6_190 dX6_keep_46 rfl rfl ?_
        refine g_iconst (v := nI 0) hX dX6_keep_49 (by decide) ?_
        refine g_istore_n (L' := [(0, .ref 307), (1, .int (nI 0))]) hX dX6_keep_50 rfl (by decide) rfl ?_
        have cut51 : ∀ (fuel51 : Nat) (k : Nat) (J : xM) (hk : k ≤ 74) (hJ : J = xput (xrow I 313 (xfill (xfill (I 313) (fun t => I 313 (t + 74)) 0 1702) (I 311) (74 * 23) k)) 307 9 (nI 23)) (hJD : J 307 9 = nI 23), 74 - k < fuel51 → G X 319 0 0 J (xRL nw sp) 51 [(0, .ref 307), (1, .int (nI k))] [] := by
          intro fuel51
          induction fuel51 with
          | zero => intro k J hk hJ hJD hfuel51; omega
          | succ fuel51 ih51 =>
            intro k J hk hJ hJD hfuel51
            refine g_iload_n hX dX6_keep_51 rfl 1 rfl ?_
            refine g_bipush (v := nI 74) hX dX6_keep_52 (by decide) ?_
            refine g_ci_ge (a := ((k : Nat) : Int)) (b := (74 : Int)) (tgt := 83) hX dX6_keep_54 (by decide) (nI_toInt (by omega)) (by decide) (fun h54 => ?_) (fun h54 => ?_)
            · refine g_aload_n hX dX6_keep_83 rfl 0 rfl ?_
              refine g_dup hX rfl dX6_keep_84 ?_
              refine g_getI (v := nI 23) hX (by decide) (by decide) xCl6 9 (by decide) (by decide) kX6_190 dX6_keep_85 hJD ?_
              refine g_iconst (v := nI 1) hX dX6_keep_88 (by decide) ?_
              refine g_iadd (v := nI 24) hX dX6_keep_89 (nI_add 23 1) ?_
              refine g_putI hX (by decide) (by decide) xCl6 9 (by decide) (by decide) (by decide) kX6_190 dX6_keep_90 rfl rfl ?_
              exact g_vret hX hR dX6_keep_93 (by decide) (by decide) ⟨rfl, rfl, (by rw [hJ, xput_twice, show k = 74 by omega]; exact xput_same hD), rfl⟩
            · refine g_aload_n hX dX6_keep_57 rfl 0 rfl ?_
              refine g_getR (j := 313) hX (by decide) (by decide) xCl6 8 (by decide) (by decide) kX6_25 dX6_keep_58 rfl ?_
              refine g_bipush (v := nI 74) hX dX6_keep_61 (by decide) ?_
              refine g_aload_n hX dX6_keep_63 rfl 0 rfl ?_
              refine g_getI (v := nI 23) hX (by decide) (by decide) xCl6 9 (by decide) (by decide) kX6_190 dX6_keep_64 hJD ?_
              refine g_imul (v := nI 1702) hX dX6_keep_67 (nI_mul 74 23) ?_
              refine g_iload_n hX dX6_keep_68 rfl 1 rfl ?_
              refine g_iadd (v := nI (1702 + k)) hX dX6_keep_69 (nI_add 1702 k) ?_
              refine g_aload_n hX dX6_keep_70 rfl 0 rfl ?_
              refine g_getR (j := 311) hX (by decide) (by decide) xCl6 5 (by decide) (by decide) kX6_19 dX6_keep_71 rfl ?_
              refine g_iload_n hX dX6_keep_74 rfl 1 rfl ?_
              refine g_iald (v := I 311 k) hX (by decide) (by decide) k rfl (by rw [(show xN 311 = 74 by decide)]; omega) dX6_keep_75 (by rw [hJ]; rfl) ?_
              refine g_iast hX (by decide) (by decide) (1702 + k) rfl (by rw [(show xN 313 = 1776 by decide)]; omega) dX6_keep_76 ?_
              refine g_iinc (v := nI (k + 1)) (L' := [(0, .ref 307), (1, .int (nI (k + 1)))]) hX dX6_keep_77 (by decide) 1 rfl (nI_add k 1) rfl ?_
              refine g_goto (tgt := 51) hX dX6_keep_80 (by decide) ?_
              exact ih51 (k + 1) (xput J 313 (1702 + k) (I 311 k)) (by first | assumption | omega) (by rw [hJ, xput_comm (I := xrow _ _ _) (a := 307) (b := 313) (by decide)]; exact congrArg (fun M => xput M 307 9 _) (xfill_step rfl rfl rfl)) (xput_o (by decide) hJD) (by omega)
        exact cut51 _ 0 (xput J 307 9 (nI 23)) (by first | assumption | omega) (by rw [hJ, show k = 1702 by omega]; exact congrArg (fun M => xput M 307 9 (nI 23)) ((xfill_start rfl).trans (xrow_row _ _ _ _))) xput_e (Nat.lt_succ_self _)
      · refine g_aload_n hX dX6_keep_18 rfl 0 rfl ?_
        refine g_getR (j := 313) hX (by decide) (by decide) xCl6 8 (by decide) (by decide) kX6_25 dX6_keep_19 rfl ?_
        refine g_iload_n hX dX6_keep_22 rfl 1 rfl ?_
        refine g_aload_n hX dX6_keep_23 rfl 0 rfl ?_
        refine g_getR (j := 313) hX (by decide) (by decide) xCl6 8 (by decide) (by decide) kX6_25 dX6_keep_24 rfl ?_
        refine g_iload_n hX dX6_keep_27 rfl 1 rfl ?_
        refine g_bipush (v := nI 74) hX dX6_keep_28 (by decide) ?_
        refine g_iadd (v := nI (k + 74)) hX dX6_keep_30 (nI_add k 74) ?_
        refine g_iald (v := I 313 (k + 74)) hX (by decide) (by decide) (k + 74) rfl (by rw [(show xN 313 = 1776 by decide)]; omega) dX6_keep_31 (by rw [hJ, xrow_e]; exact xfill_out (by omega)) ?_
        refine g_iast hX (by decide) (by decide) k rfl (by rw [(show xN 313 = 1776 by decide)]; omega) dX6_keep_32 ?_
        refine g_iinc (v := nI (k + 1)) (L' := [(0, .ref 307), (1, .int (nI (k + 1)))]) hX dX6_keep_33 (by decide) 1 rfl (nI_add k 1) rfl ?_
        refine g_goto (tgt := 11) hX dX6_keep_36 (by decide) ?_
        exact ih (k + 1) (xput J 313 k (I 313 (k + 74))) (by first | assumption | omega) (xfill_step hJ (Nat.zero_add _).symm rfl) (xput_o (by decide) hJD) (by omega)
  exact cut11 _ 0 I (by first | assumption | omega) (xfill_start rfl) hD (Nat.lt_succ_self _)
