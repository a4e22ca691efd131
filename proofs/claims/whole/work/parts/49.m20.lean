theorem gar_l {tp : Nat → Nat} {n : Nat} {I K1 : xM} {e : Nat × Nat} (h : rfS tp n (gB (xput I 307 0 (nI 0)) n) K1 (.inl e)) (e9 : psR tp n (.inr (lx tp n 0, bsF (I 312) 74)) = .inl e) : ((fun x J => ((∀ o, o ≠ 307 → o ≠ 312 → o ≠ 311 → J o = I o) ∧ (∀ j, (j = 0 ∨ j = 7 ∨ j = 9 ∨ (11 ≤ j ∧ j ≤ 19)) ∨ J 307 j = I 307 j) ∧ J 307 0 = nI 0 ∧ J 307 11 = nI 0) ∧ ((∃ e, psR tp n (.inr (lx tp n 0, bsF (I 312) 74)) = .inl e ∧ x = -1000100 - nI e.2 ∧ J 307 12 = nI e.1 ∧ J 307 7 = I 307 7 ∧ J 307 9 = I 307 9 ∧ J 311 = I 311) ∨ ∃ t f, psR tp n (.inr (lx tp n 0, bsF (I 312) 74)) = .inr (t, f) ∧ x = f 0 ∧ J 307 12 = I 307 12 ∧ J 307 7 = nI 1 ∧ J 307 9 = nI 0 ∧ ∀ i, i < 74 → J 311 i = f i))) (-1000100 - nI e.2) (xput K1 307 12 (nI e.1)) := by
  obtain ⟨⟨f1, f2⟩, -⟩ := h
  have b : ∀ j, j ≠ 0 → j ≠ 11 → j ≠ 13 → (gB (xput I 307 0 (nI 0)) n) 307 j = I 307 j := fun j a1 a2 a3 => (xput_i a2 rfl).trans ((xput_i a3 rfl).trans (xput_i a1 rfl))
  have bo : ∀ o, o ≠ 307 → (gB (xput I 307 0 (nI 0)) n) o = I o := fun o ho => (xput_ne ho).trans ((xput_ne ho).trans (xput_ne ho))
  refine ⟨⟨fun o h1 h2 h3 => (xput_ne h1).trans ((f1 o h1 h2).trans (bo o h1)), fun j => ?_, xput_i (by decide) ((f2 0 (by decide)).trans rfl), xput_i (by decide) ((f2 11 (by decide)).trans rfl)⟩, Or.inl ⟨e, e9, rfl, xput_e, xput_i (by decide) ((f2 7 (by decide)).trans (b 7 (by decide) (by decide) (by decide))), xput_i (by decide) ((f2 9 (by decide)).trans (b 9 (by decide) (by decide) (by decide))), (xput_ne (by decide)).trans ((f1 311 (by decide) (by decide)).trans (bo 311 (by decide)))⟩⟩
  by_cases hj : j = 0 ∨ j = 7 ∨ j = 9 ∨ (11 ≤ j ∧ j ≤ 19)
  · exact Or.inl hj
  · exact Or.inr (xput_i (by omega) ((f2 j (by omega)).trans (b j (by omega) (by omega) (by omega))))
theorem gar_r {tp : Nat → Nat} {n : Nat} {I K1 M : xM} {t : xT} {f : Nat → Int32} (h : rfS tp n (gB (xput I 307 0 (nI 0)) n) K1 (.inr (t, f))) (e9 : psR tp n (.inr (lx tp n 0, bsF (I 312) 74)) = .inr (t, f)) (hM : ∀ o, o ≠ 311 → M o = (xput (xput K1 307 7 (nI 1)) 307 9 (nI 0)) o) (hM2 : ∀ i, i < 74 → M 311 i = f i) : ((fun x J => ((∀ o, o ≠ 307 → o ≠ 312 → o ≠ 311 → J o = I o) ∧ (∀ j, (j = 0 ∨ j = 7 ∨ j = 9 ∨ (11 ≤ j ∧ j ≤ 19)) ∨ J 307 j = I 307 j) ∧ J 307 0 = nI 0 ∧ J 307 11 = nI 0) ∧ ((∃ e, psR tp n (.inr (lx tp n 0, bsF (I 312) 74)) = .inl e ∧ x = -1000100 - nI e.2 ∧ J 307 12 = nI e.1 ∧ J 307 7 = I 307 7 ∧ J 307 9 = I 307 9 ∧ J 311 = I 311) ∨ ∃ t f, psR tp n (.inr (lx tp n 0, bsF (I 312) 74)) = .inr (t, f) ∧ x = f 0 ∧ J 307 12 = I 307 12 ∧ J 307 7 = nI 1 ∧ J 307 9 = nI 0 ∧ ∀ i, i < 74 → J 311 i = f i))) (f 0) M := by
  obtain ⟨⟨f1, f2⟩, -⟩ := h
  have b : ∀ j, j ≠ 0 → j ≠ 11 → j ≠ 13 → (gB (xput I 307 0 (nI 0)) n) 307 j = I 307 j := fun j a1 a2 a3 => (xput_i a2 rfl).trans ((xput_i a3 rfl).trans (xput_i a1 rfl))
  have bo : ∀ o, o ≠ 307 → (gB (xput I 307 0 (nI 0)) n) o = I o := fun o ho => (xput_ne ho).trans ((xput_ne ho).trans (xput_ne ho))
  have m : ∀ j, j ≠ 7 → j ≠ 9 → M 307 j = K1 307 j := fun j a1 a2 => (congrFun (hM 307 (by decide)) j).trans ((xput_i a2 rfl).trans (xput_i a1 rfl))
  refine ⟨⟨fun o h1 h2 h3 => (hM o h3).trans ((xput_ne h1).trans ((xput_ne h1).trans ((f1 o h1 h2).trans (bo o h1)))), fun j => ?_, (m 0 (by decide) (by decide)).trans ((f2 0 (by decide)).trans rfl), (m 11 (by decide) (by decide)).trans ((f2 11 (by decide)).trans rfl)⟩, Or.inr ⟨t, f, e9, rfl, (m 12 (by decide) (by decide)).trans ((f2 12 (by decide)).trans (b 12 (by decide) (by decide) (by decide))), (congrFun (hM 307 (by decide)) 7).trans (xput_i (by decide) xput_e), (congrFun (hM 307 (by decide)) 9).trans xput_e, hM2⟩⟩
  by_cases hj : j = 0 ∨ j = 7 ∨ j = 9 ∨ (11 ≤ j ∧ j ≤ 19)
  · exact Or.inl hj
  · exact Or.inr ((m j (by omega) (by omega)).trans ((f2 j (by omega)).trans (b j (by omega) (by omega) (by omega))))
theorem c_X6_readGround (l : Launch) {nw sp : Nat} {I : xM} {tp : Nat → Nat} {n : Nat} {B : xM} {r : xS} (ht : tpP B tp n) (hr : rfS tp n B I r) : xC l 5 0 0 yX6_readGround cX6_readGround 2 none 319 [.ref 307] I (xRL nw sp) (xpW 319 (xRL nw sp) (fun J => rfS tp n B J (gndR tp n r))) := by
  refine xC_of (by decide) (Nat.le_of_ble_eq_true rfl) (fun X hXl hX hR => ?_)
  have hX : xOK X RX6 cX6_readGround 2 5 0 0 := hX
  show G X 319 0 0 I (xRL nw sp) 0 [(0, .ref 307)] []
  refine g_aload_n hX dX6_readGround_0 rfl 0 rfl ?_
  refine g_aload_n hX dX6_readGround_1 rfl 0 rfl ?_
  refine g_callVl hX (as := []) (fun l => c_X6_name l (I := I) (tp := tp) (n := n) (B := B) (r := r) (ht := ht) (hr := hr)) mX6_name vX6_name lX6_133 (by decide) (by decide) xCl6 rfl rfl dX6_readGround_2 rfl (by decide) (Nat.le_of_ble_eq_true rfl) (by decide) (by decide) ?_
  refine g_ldc2 (v := 113741193899620) hX cX6_137 dX6_readGround_5 ?_
  refine g_lcmp (v := lg_cmp (nmV tp r) (113741193899620)) hX dX6_readGround_8 rfl ?_
  refine g_cz_ne (a := (lg_cmp (nmV tp r) (113741193899620)).toInt) (tgt := 16) hX dX6_readGround_9 (by decide) rfl (fun h9 => ?_) (fun h9 => ?_)
  · have hw := fun q => h9 (lcmp_eq.mpr ((nm_Ground (rf_W hr)).mpr q))
    refine g_iconst (v := nI 0) hX dX6_readGround_16 (by decide) ?_
    refine g_callVrv hX (as := [.int (nI 0)]) (fun l => c_X6_must_0 l (I := I) (tp := tp) (n := n) (B := B) (r := r) (ht := (by first | assumption | omega)) (hr := hr)) mX6_must vX6_must lX6_119 (by decide) (by decide) xCl6 rfl rfl dX6_readGround_17 rfl (by decide) (Nat.le_of_ble_eq_true rfl) (by decide) (by decide) (fun K hK => ?_)
    have cut20 : ∀ (K0 : xM) (hG0 : rfS tp n B K0 (wrdR tp n wGround r)), G X 319 0 0 K0 (xRL nw sp) 20 [(0, .ref 307)] [] := by
      intro K0 hG0
      refine g_iconst (v := nI 0) hX dX6_readGround_20 (by decide) ?_
      refine g_istore_n (L' := [(0, .ref 307), (1, .int (nI 0))]) hX dX6_readGround_21 rfl (by decide) rfl ?_
      have cut22 : ∀ (fuel : Nat) (k : Nat) (K : xM) (hk : k ≤ 20) (hG : rfS tp n B K (grI tp n k (wrdR tp n wGround r))), 20 - k < fuel → G X 319 0 0 K (xRL nw sp) 22 [(0, .ref 307), (1, .int (nI k))] [] := by
        intro fuel
        induction fuel with
        | zero => intro k K hk hG hfuel; omega
        | succ fuel ih =>
          intro k K hk hG hfuel
          refine g_iload_n hX dX6_readGround_22 rfl 1 rfl ?_
          refine g_bipush (v := nI 20) hX dX6_readGround_23 (by decide) ?_
          refine g_ci_ge (a := ((k : Nat) : Int)) (b := (20 : Int)) (tgt := 50) hX dX6_readGround_25 (by decide) (nI_toInt (by omega)) (by decide) (fun h25 => ?_) (fun h25 => ?_)
          · obtain rfl : k = 20 := by omega
            refine g_aload_n hX dX6_readGround_50 rfl 0 rfl ?_
            refine g_callVrv hX (as := []) (fun l => c_X6_mustEnd l (I := K) (tp := tp) (n := n) (B := B) (r := grI tp n 20 (wrdR tp n wGround r)) (ht := (by first | assumption | omega)) (hr := hG)) mX6_mustEnd vX6_mustEnd lX6_143 (by decide) (by decide) xCl6 rfl rfl dX6_readGround_51 rfl (by decide) (Nat.le_of_ble_eq_true rfl) (by decide) (by decide) (fun K2 hG2 => ?_)
            exact g_vret hX hR dX6_readGround_54 (by decide) (by decide) ⟨rfl, rfl, hG2, rfl⟩
          · refine g_aload_n hX dX6_readGround_28 rfl 0 rfl ?_
            refine g_getR (j := 312) hX (by decide) (by decide) xCl6 6 (by decide) (by decide) kX6_22 dX6_readGround_29 rfl ?_
            refine g_bipush (v := nI 6) hX dX6_readGround_32 (by decide) ?_
            refine g_iload_n hX dX6_readGround_34 rfl 1 rfl ?_
            refine g_iadd (v := nI (6 + k)) hX dX6_readGround_35 (nI_add 6 k) ?_
            refine g_aload_n hX dX6_readGround_36 rfl 0 rfl ?_
            refine g_iconst (v := nI 0) hX dX6_readGround_37 (by decide) ?_
            refine g_bipush (v := nI 60) hX dX6_readGround_38 (by decide) ?_
            refine g_callVr hX (as := [.int (nI 0), .int (nI 60)]) (fun l => c_X6_number l (I := K) (tp := tp) (n := n) (B := B) (r := grI tp n k (wrdR tp n wGround r)) (lo := 0) (hi := 60) (ht := ht) (hr := hG) (hlo := (by decide)) (hhi := (by decide))) mX6_number vX6_number lX6_139 (by decide) (by decide) xCl6 rfl rfl dX6_readGround_40 rfl (by decide) (Nat.le_of_ble_eq_true rfl) (by decide) (by decide) (fun xK1 K1 hG1 => ?_)
            obtain ⟨rfl, hG1⟩ := hG1
            refine g_iast hX (by decide) (by decide) (6 + k) rfl (by rw [(show xN 312 = 74 by decide)]; omega) dX6_readGround_43 ?_
            refine g_iinc (v := nI (k + 1)) (L' := [(0, .ref 307), (1, .int (nI (k + 1)))]) hX dX6_readGround_44 (by decide) 1 rfl (nI_add k 1) rfl ?_
            refine g_goto (tgt := 22) hX dX6_readGround_47 (by decide) ?_
            exact ih (k + 1) (xput K1 312 (6 + k) (nI (figR tp (grI tp n k (wrdR tp n wGround r))))) (by first | assumption | omega) (rf_set hG1 _ _) (by omega)
      exact cut22 _ 0 K0 (by first | assumption | omega) hG0 (Nat.lt_succ_self _)
    exact cut20 K (by first | (rw [wrd_y hw, ← mus_1]; exact hK) | (rw [wrd_n hw, ← mus_0 (tp := tp) (n := n)]; exact hK))
  · have hw := (nm_Ground (rf_W hr)).mp (lcmp_eq.mp h9)
    refine g_iconst (v := nI 1) hX dX6_readGround_12 (by decide) ?_
    refine g_goto (tgt := 17) hX dX6_readGround_13 (by decide) ?_
    refine g_callVrv hX (as := [.int (nI 1)]) (fun l => c_X6_must_1 l (I := I) (tp := tp) (n := n) (B := B) (r := r) (ht := (by first | assumption | omega)) (hr := hr)) mX6_must vX6_must lX6_119 (by decide) (by decide) xCl6 rfl rfl dX6_readGround_17 rfl (by decide) (Nat.le_of_ble_eq_true rfl) (by decide) (by decide) (fun K hK => ?_)
    have cut20 : ∀ (K0 : xM) (hG0 : rfS tp n B K0 (wrdR tp n wGround r)), G X 319 0 0 K0 (xRL nw sp) 20 [(0, .ref 307)] [] := by
      intro K0 hG0
      refine g_iconst (v := nI 0) hX dX6_readGround_20 (by decide) ?_
      refine g_istore_n (L' := [(0, .ref 307), (1, .int (nI 0))]) hX dX6_readGround_21 rfl (by decide) rfl ?_
      have cut22 : ∀ (fuel : Nat) (k : Nat) (K : xM) (hk : k ≤ 20) (hG : rfS tp n B K (grI tp n k (wrdR tp n wGround r))), 20 - k < fuel → G X 319 0 0 K (xRL nw sp) 22 [(0, .ref 307), (1, .int (nI k))] [] := by
        intro fuel
        induction fuel with
        | zero => intro k K hk hG hfuel; omega
        | succ fuel ih =>
          intro k K hk hG hfuel
          refine g_iload_n hX dX6_readGround_22 rfl 1 rfl ?_
          refine g_bipush (v := nI 20) hX dX6_readGround_23 (by decide) ?_
          refine g_ci_ge (a := ((k : Nat) : Int)) (b := (20 : Int)) (tgt := 50) hX dX6_readGround_25 (by decide) (nI_toInt (by omega)) (by decide) (fun h25 => ?_) (fun h25 => ?_)
          · obtain rfl : k = 20 := by omega
            refine g_aload_n hX dX6_readGround_50 rfl 0 rfl ?_
            refine g_callVrv hX (as := []) (fun l => c_X6_mustEnd l (I := K) (tp := tp) (n := n) (B := B) (r := grI tp n 20 (wrdR tp n wGround r)) (ht := (by first | assumption | omega)) (hr := hG)) mX6_mustEnd vX6_mustEnd lX6_143 (by decide) (by decide) xCl6 rfl rfl dX6_readGround_51 rfl (by decide) (Nat.le_of_ble_eq_true rfl) (by decide) (by decide) (fun K2 hG2 => ?_)
            exact g_vret hX hR dX6_readGround_54 (by decide) (by decide) ⟨rfl, rfl, hG2, rfl⟩
          · refine g_aload_n hX dX6_readGround_28 rfl 0 rfl ?_
            refine g_getR (j := 312) hX (by decide) (by decide) xCl6 6 (by decide) (by decide) kX6_22 dX6_readGround_29 rfl ?_
            refine g_bipush (v := nI 6) hX dX6_readGround_32 (by decide) ?_
            refine g_iload_n hX dX6_readGround_34 rfl 1 rfl ?_
            refine g_iadd (v := nI (6 + k)) hX dX6_readGround_35 (nI_add 6 k) ?_
            refine g_aload_n hX dX6_readGround_36 rfl 0 rfl ?_
            refine g_iconst (v := nI 0) hX dX6_readGround_37 (by decide) ?_
            refine g_bipush (v := nI 60) hX dX6_readGround_38 (by decide) ?_
            refine g_callVr hX (as := [.int (nI 0), .int (nI 60)]) (fun l => c_X6_number l (I := K) (tp := tp) (n := n) (B := B) (r := grI tp n k (wrdR tp n wGround r)) (lo := 0) (hi := 60) (ht := ht) (hr := hG) (hlo := (by decide)) (hhi := (by decide))) mX6_number vX6_number lX6_139 (by decide) (by decide) xCl6 rfl rfl dX6_readGround_40 rfl (by decide) (Nat.le_of_ble_eq_true rfl) (by decide) (by decide) (fun xK1 K1 hG1 => ?_)
            obtain ⟨rfl, hG1⟩ := hG1
            refine g_iast hX (by decide) (by decide) (6 + k) rfl (by rw [(show xN 312 = 74 by decide)]; omega) dX6_readGround_43 ?_
            refine g_iinc (v := nI (k + 1)) (L' := [(0, .ref 307), (1, .int (nI (k + 1)))]) hX dX6_readGround_44 (by decide) 1 rfl (nI_add k 1) rfl ?_
            refine g_goto (tgt := 22) hX dX6_readGround_47 (by decide) ?_
            exact ih (k + 1) (xput K1 312 (6 + k) (nI (figR tp (grI tp n k (wrdR tp n wGround r))))) (by first | assumption | omega) (rf_set hG1 _ _) (by omega)
      exact cut22 _ 0 K0 (by first | assumption | omega) hG0 (Nat.lt_succ_self _)
    exact cut20 K (by first | (rw [wrd_y hw, ← mus_1]; exact hK) | (rw [wrd_n hw, ← mus_0 (tp := tp) (n := n)]; exact hK))

theorem c_X6_readLake (l : Launch) {nw sp : Nat} {I : xM} {tp : Nat → Nat} {n : Nat} {B : xM} {r : xS} (ht : tpP B tp n) (hr : rfS tp n B I r) : xC l 5 0 0 yX6_readLake cX6_readLake 3 none 319 [.ref 307] I (xRL nw sp) (xpW 319 (xRL nw sp) (fun J => rfS tp n B J (lakR tp n r))) := by
  refine xC_of (by decide) (Nat.le_of_ble_eq_true rfl) (fun X hXl hX hR => ?_)
  have hX : xOK X RX6 cX6_readLake 3 5 0 0 := hX
  show G X 319 0 0 I (xRL nw sp) 0 [(0, .ref 307)] []
  refine g_aload_n hX dX6_readLake_0 rfl 0 rfl ?_
  refine g_iconst (v := nI 1) hX dX6_readLake_1 (by decide) ?_
  refine g_callVrv hX (as := [.int (nI 1)]) (fun l => c_X6_must_1 l (I := I) (tp := tp) (n := n) (B := B) (r := r) (ht := (by first | assumption | omega)) (hr := (by first | assumption | omega))) mX6_must vX6_must lX6_119 (by decide) (by decide) xCl6 rfl rfl dX6_readLake_2 rfl (by decide) (Nat.le_of_ble_eq_true rfl) (by decide) (by decide) (fun K hK => ?_)
  rw [mus_1] at hK
  refine g_aload_n hX dX6_readLake_5 rfl 0 rfl ?_
  refine g_iconst (v := nI 0) hX dX6_readLake_6 (by decide) ?_
  refine g_bipush (v := nI 19) hX dX6_readLake_7 (by decide) ?_
  refine g_callVr hX (as := [.int (nI 0), .int (nI 19)]) (fun l => c_X6_number l (I := K) (tp := tp) (n := n) (B := B) (r := nexR tp n r) (lo := 0) (hi := 19) (ht := ht) (hr := hK) (hlo := (by decide)) (hhi := (by decide))) mX6_number vX6_number lX6_139 (by decide) (by decide) xCl6 rfl rfl dX6_readLake_9 rfl (by decide) (Nat.le_of_ble_eq_true rfl) (by decide) (by decide) (fun xK1 K1 h1 => ?_)
  obtain ⟨rfl, h1⟩ := h1
  refine g_istore_n (L' := [(0, .ref 307), (1, .int (nI (figR tp (nexR tp n r))))]) hX dX6_readLake_12 rfl (by decide) rfl ?_
  refine g_aload_n hX dX6_readLake_13 rfl 0 rfl ?_
  refine g_iload_n hX dX6_readLake_14 rfl 1 rfl ?_
  refine g_bipush (v := nI 19) hX dX6_readLake_15 (by decide) ?_
  refine g_callVr hX (as := [.int (nI (figR tp (nexR tp n r))), .int (nI 19)]) (fun l => c_X6_number l (I := K1) (tp := tp) (n := n) (B := B) (r := numR tp n 0 19 (nexR tp n r)) (lo := (figR tp (nexR tp n r))) (hi := 19) (ht := ht) (hr := h1) (hlo := (Nat.le_trans (rf_f hK) (by decide))) (hhi := (by decide))) mX6_number vX6_number lX6_139 (by decide) (by decide) xCl6 rfl rfl dX6_readLake_17 rfl (by decide) (Nat.le_of_ble_eq_true rfl) (by decide) (by decide) (fun xK2 K2 h2 => ?_)
  obtain ⟨rfl, h2⟩ := h2
  refine g_istore_n (L' := [(0, .ref 307), (1, .int (nI (figR tp (nexR tp n r)))), (2, .int (nI (figR tp (numR tp n 0 19 (nexR tp n r)))))]) hX dX6_readLake_20 rfl (by decide) rfl ?_
  refine g_aload_n hX dX6_readLake_21 rfl 0 rfl ?_
  refine g_callVrv hX (as := []) (fun l => c_X6_mustEnd l (I := K2) (tp := tp) (n := n) (B := B) (r := numR tp n (figR tp (nexR tp n r)) 19 (numR tp n 0 19 (nexR tp n r))) (ht := (by first | assumption | omega)) (hr := h2)) mX6_mustEnd vX6_mustEnd lX6_143 (by decide) (by decide) xCl6 rfl rfl dX6_readLake_22 rfl (by decide) (Nat.le_of_ble_eq_true rfl) (by decide) (by decide) (fun K3 h3 => ?_)
  refine g_aload_n hX dX6_readLake_25 rfl 0 rfl ?_
  refine g_getI (v := K3 307 18) hX (by decide) (by decide) xCl6 18 (by decide) (by decide) kX6_102 dX6_readLake_26 rfl ?_
  refine g_cz_ne (a := (K3 307 18).toInt) (tgt := 46) hX dX6_readLake_29 (by decide) rfl (fun h29 => ?_) (fun h29 => ?_)
  · exact g_vret hX hR dX6_readLake_46 (by decide) (by decide) ⟨rfl, rfl, (by first | exact lak_l h3 h29 | exact rf_set (rf_set h3 _ _) _ _), rfl⟩
  · refine g_aload_n hX dX6_readLake_32 rfl 0 rfl ?_
    refine g_getR (j := 312) hX (by decide) (by decide) xCl6 6 (by decide) (by decide) kX6_22 dX6_readLake_33 rfl ?_
    refine g_iconst (v := nI 4) hX dX6_readLake_36 (by decide) ?_
    refine g_iload_n hX dX6_readLake_37 rfl 1 rfl ?_
    refine g_iast hX (by decide) (by decide) 4 rfl (by rw [(show xN 312 = 74 by decide)]; decide) dX6_readLake_38 ?_
    refine g_aload_n hX dX6_readLake_39 rfl 0 rfl ?_
    refine g_getR (j := 312) hX (by decide) (by decide) xCl6 6 (by decide) (by decide) kX6_22 dX6_readLake_40 rfl ?_
    refine g_iconst (v := nI 5) hX dX6_readLake_43 (by decide) ?_
    refine g_iload_n hX dX6_readLake_44 rfl 2 rfl ?_
    refine g_iast hX (by decide) (by decide) 5 rfl (by rw [(show xN 312 = 74 by decide)]; decide) dX6_readLake_45 ?_
    exact g_vret hX hR dX6_readLake_46 (by decide) (by decide) ⟨rfl, rfl, (by first | exact lak_l h3 h29 | exact rf_set (rf_set h3 _ _) _ _), rfl⟩

theorem c_X6_readTree (l : Launch) {nw sp : Nat} {I : xM} {tp : Nat → Nat} {n : Nat} {B : xM} {r : xS} (ht : tpP B tp n) (hr : rfS tp n B I r) (hp : PIR r) : xC l 5 0 0 yX6_readTree cX6_readTree 6 none 319 [.ref 307] I (xRL nw sp) (xpW 319 (xRL nw sp) (fun J => rfS tp n B J (treR tp n r))) := by
  refine xC_of (by decide) (Nat.le_of_ble_eq_true rfl) (fun X hXl hX hR => ?_)
  have hX : xOK X RX6 cX6_readTree 6 5 0 0 := hX
  show G X 319 0 0 I (xRL nw sp) 0 [(0, .ref 307)] []
  refine g_aload_n hX dX6_readTree_0 rfl 0 rfl ?_
  refine g_iconst (v := nI 0) hX dX6_readTree_1 (by decide) ?_
  refine g_bipush (v := nI 6) hX dX6_readTree_2 (by decide) ?_
  refine g_callVrv hX (as := [.int (nI 0), .int (nI 6)]) (fun l => c_X6_begins l (I := I) (tp := tp) (n := n) (B := B) (r := r) (st := 0) (ht := (by first | assumption | omega)) (hr := hr) (hst := (by first | assumption | omega))) mX6_begins vX6_begins lX6_146 (by decide) (by decide) xCl6 rfl rfl dX6_readTree_4 rfl (by decide) (Nat.le_of_ble_eq_true rfl) (by decide) (by decide) (fun K1 h1 => ?_)
  refine g_aload_n hX dX6_readTree_7 rfl 0 rfl ?_
  refine g_callVl hX (as := []) (fun l => c_X6_name l (I := K1) (tp := tp) (n := n) (B := B) (r := begR tp n 0 r) (ht := ht) (hr := h1)) mX6_name vX6_name lX6_133 (by decide) (by decide) xCl6 rfl rfl dX6_readTree_8 rfl (by decide) (Nat.le_of_ble_eq_true rfl) (by decide) (by decide) ?_
  refine g_callSi hX (as := [.long (nmV tp (begR tp n 0 r))]) (fun l => c_X6_kindBy l (I := K1) (v := (nmV tp (begR tp n 0 r))) ) mX6_kindBy sX6_kindBy lX6_150 rfl dX6_readTree_11 rfl (by decide) (Nat.le_of_ble_eq_true rfl) (by decide) (by decide) ?_
  refine g_istore_n (L' := [(0, .ref 307), (1, .int (kbV (nmV tp (begR tp n 0 r))))]) hX dX6_readTree_14 rfl (by decide) rfl ?_
  refine g_aload_n hX dX6_readTree_15 rfl 0 rfl ?_
  refine g_getI (v := K1 307 18) hX (by decide) (by decide) xCl6 18 (by decide) (by decide) kX6_102 dX6_readTree_16 rfl ?_
  refine g_cz_ne (a := (K1 307 18).toInt) (tgt := 37) hX dX6_readTree_19 (by decide) rfl (fun h19 => ?_) (fun h19 => ?_)
  · have cut37 : ∀ (K : xM) (h2 : rfS tp n B K (kmR tp n (begR tp n 0 r))), G X 319 0 0 K (xRL nw sp) 37 [(0, .ref 307), (1, .int (kbV (nmV tp (begR tp n 0 r))))] [] := by
      intro K h2
      refine g_aload_n hX dX6_readTree_37 rfl 0 rfl ?_
      refine g_getI (v := K 307 18) hX (by decide) (by decide) xCl6 18 (by decide) (by decide) kX6_102 dX6_readTree_38 rfl ?_
      refine g_cz_ne (a := (K 307 18).toInt) (tgt := 68) hX dX6_readTree_41 (by decide) rfl (fun h41 => ?_) (fun h41 => ?_)
      · have cut68 : ∀ (K4 : xM) (h4 : rfS tp n B K4 (tr4 tp n r)), G X 319 0 0 K4 (xRL nw sp) 68 [(0, .ref 307), (1, .int (kbV (nmV tp (begR tp n 0 r))))] [] := by
          intro K4 h4
          refine g_aload_n hX dX6_readTree_68 rfl 0 rfl ?_
          refine g_iconst (v := nI 0) hX dX6_readTree_69 (by decide) ?_
          refine g_bipush (v := nI 19) hX dX6_readTree_70 (by decide) ?_
          refine g_callVr hX (as := [.int (nI 0), .int (nI 19)]) (fun l => c_X6_number l (I := K4) (tp := tp) (n := n) (B := B) (r := tr4 tp n r) (lo := 0) (hi := 19) (ht := ht) (hr := h4) (hlo := (by decide)) (hhi := (by decide))) mX6_number vX6_number lX6_139 (by decide) (by decide) xCl6 rfl rfl dX6_readTree_72 rfl (by decide) (Nat.le_of_ble_eq_true rfl) (by decide) (by decide) (fun xK5 K5 h5 => ?_)
          obtain ⟨rfl, h5⟩ := h5
          refine g_istore_n (L' := [(0, .ref 307), (1, .int (kbV (nmV tp (begR tp n 0 r)))), (2, .int (nI (figR tp (tr4 tp n r))))]) hX dX6_readTree_75 rfl (by decide) rfl ?_
          refine g_aload_n hX dX6_readTree_76 rfl 0 rfl ?_
          refine g_iconst (v := nI 1) hX dX6_readTree_77 (by decide) ?_
          refine g_bipush (v := nI 99) hX dX6_readTree_78 (by decide) ?_
          refine g_callVr hX (as := [.int (nI 1), .int (nI 99)]) (fun l => c_X6_number l (I := K5) (tp := tp) (n := n) (B := B) (r := tr3 tp n r) (lo := 1) (hi := 99) (ht := ht) (hr := h5) (hlo := (by decide)) (hhi := (by decide))) mX6_number vX6_number lX6_139 (by decide) (by decide) xCl6 rfl rfl dX6_readTree_80 rfl (by decide) (Nat.le_of_ble_eq_true rfl) (by decide) (by decide) (fun xK6 K6 h6 => ?_)
          obtain ⟨rfl, h6⟩ := h6
          refine g_istore_n (L' := [(0, .ref 307), (1, .int (kbV (nmV tp (begR tp n 0 r)))), (2, .int (nI (figR tp (tr4 tp n r)))), (3, .int (nI (figR tp (tr3 tp n r))))]) hX dX6_readTree_83 rfl (by decide) rfl ?_
          refine g_aload_n hX dX6_readTree_84 rfl 0 rfl ?_
          refine g_iconst (v := nI 0) hX dX6_readTree_85 (by decide) ?_
          refine g_bipush (v := nI 9) hX dX6_readTree_86 (by decide) ?_
          refine g_callVr hX (as := [.int (nI 0), .int (nI 9)]) (fun l => c_X6_number l (I := K6) (tp := tp) (n := n) (B := B) (r := tr2 tp n r) (lo := 0) (hi := 9) (ht := ht) (hr := h6) (hlo := (by decide)) (hhi := (by decide))) mX6_number vX6_number lX6_139 (by decide) (by decide) xCl6 rfl rfl dX6_readTree_88 rfl (by decide) (Nat.le_of_ble_eq_true rfl) (by decide) (by decide) (fun xK7 K7 h7 => ?_)
          obtain ⟨rfl, h7⟩ := h7
          refine g_istore (L' := [(0, .ref 307), (1, .int (kbV (nmV tp (begR tp n 0 r)))), (2, .int (nI (figR tp (tr4 tp n r)))), (3, .int (nI (figR tp (tr3 tp n r)))), (4, .int (nI (figR tp (tr2 tp n r))))]) hX dX6_readTree_91 (by decide) rfl ?_
          refine g_aload_n hX dX6_readTree_93 rfl 0 rfl ?_
          refine g_callVrv hX (as := []) (fun l => c_X6_mustEnd l (I := K7) (tp := tp) (n := n) (B := B) (r := numR tp n 0 9 (tr2 tp n r)) (ht := (by first | assumption | omega)) (hr := h7)) mX6_mustEnd vX6_mustEnd lX6_143 (by decide) (by decide) xCl6 rfl rfl dX6_readTree_94 rfl (by decide) (Nat.le_of_ble_eq_true rfl) (by decide) (by decide) (fun K8 h8 => ?_)
          refine g_aload_n hX dX6_readTree_97 rfl 0 rfl ?_
          refine g_getI (v := K8 307 18) hX (by decide) (by decide) xCl6 18 (by decide) (by decide) kX6_102 dX6_readTree_98 rfl ?_
          refine g_cz_ne (a := (K8 307 18).toInt) (tgt := 166) hX dX6_readTree_101 (by decide) rfl (fun h101 => ?_) (fun h101 => ?_)
          · exact g_vret hX hR dX6_readTree_166 (by decide) (by decide) ⟨rfl, rfl, (by first | exact adt_l h8 h101 | exact rf_adt h8), rfl⟩
          · have h8 : rfS tp n B K8 (tr1 tp n r) := h8
            obtain ⟨t, f, e8⟩ := rf_r h8 (by omega)
            obtain ⟨hT6, t0, e0⟩ := k_tr1 e8
            have hrow : f 0 = nI (rowT 0 r) := by subst e0; exact pi_r hp (by decide)
            have hr0 : K8 312 0 = nI (rowT 0 r) := by rw [e8] at h8; rw [(rf_i h8).2.2.2.2.2.2]; exact hrow
            have hT5 : rowT 0 r ≤ 5 := by have := pi_row hp (i := 0) (by decide); rw [hrow, nI_toInt (by omega)] at hT6; omega
            refine g_bipush (v := nI 26) hX dX6_readTree_104 (by decide) ?_
            refine g_iconst (v := nI 5) hX dX6_readTree_106 (by decide) ?_
            refine g_aload_n hX dX6_readTree_107 rfl 0 rfl ?_
            refine g_getR (j := 312) hX (by decide) (by decide) xCl6 6 (by decide) (by decide) kX6_22 dX6_readTree_108 rfl ?_
            refine g_iconst (v := nI 0) hX dX6_readTree_111 (by decide) ?_
            refine g_iald (v := nI (rowT 0 r)) hX (by decide) (by decide) 0 rfl (by rw [(show xN 312 = 74 by decide)]; decide) dX6_readTree_112 hr0 ?_
            refine g_imul (v := nI (5 * (rowT 0 r))) hX dX6_readTree_113 (nI_mul 5 (rowT 0 r)) ?_
            refine g_iadd (v := nI (26 + (5 * (rowT 0 r)))) hX dX6_readTree_114 (nI_add 26 (5 * (rowT 0 r))) ?_
            refine g_istore (L' := [(0, .ref 307), (1, .int (kbV (nmV tp (begR tp n 0 r)))), (2, .int (nI (figR tp (tr4 tp n r)))), (3, .int (nI (figR tp (tr3 tp n r)))), (4, .int (nI (figR tp (tr2 tp n r)))), (5, .int (nI (26 + (5 * (rowT 0 r)))))]) hX dX6_readTree_115 (by decide) rfl ?_
            refine g_aload_n hX dX6_readTree_117 rfl 0 rfl ?_
            refine g_getR (j := 312) hX (by decide) (by decide) xCl6 6 (by decide) (by decide) kX6_22 dX6_readTree_118 rfl ?_
            refine g_iload hX dX6_readTree_121 5 rfl ?_
            refine g_iload_n hX dX6_readTree_123 rfl 1 rfl ?_
            refine g_iast hX (by decide) (by decide) (26 + (5 * (rowT 0 r))) rfl (by rw [(show xN 312 = 74 by decide)]; omega) dX6_readTree_124 ?_
            refine g_aload_n hX dX6_readTree_125 rfl 0 rfl ?_
            refine g_getR (j := 312) hX (by decide) (by decide) xCl6 6 (by decide) (by decide) kX6_22 dX6_readTree_126 rfl ?_
            refine g_iload hX dX6_readTree_129 5 rfl ?_
            refine g_iconst (v := nI 1) hX dX6_readTree_131 (by decide) ?_
            refine g_iadd (v := nI ((26 + (5 * (rowT 0 r))) + 1)) hX dX6_readTree_132 (nI_add (26 + (5 * (rowT 0 r))) 1) ?_
            refine g_iload_n hX dX6_readTree_133 rfl 2 rfl ?_
            refine g_iast hX (by decide) (by decide) ((26 + (5 * (rowT 0 r))) + 1) rfl (by rw [(show xN 312 = 74 by decide)]; omega) dX6_readTree_134 ?_
            refine g_aload_n hX dX6_readTree_135 rfl 0 rfl ?_
            refine g_getR (j := 312) hX (by decide) (by decide) xCl6 6 (by decide) (by decide) kX6_22 dX6_readTree_136 rfl ?_
            refine g_iload hX dX6_readTree_139 5 rfl ?_
            refine g_iconst (v := nI 2) hX dX6_readTree_141 (by decide) ?_
            refine g_iadd (v := nI ((26 + (5 * (rowT 0 r))) + 2)) hX dX6_readTree_142 (nI_add (26 + (5 * (rowT 0 r))) 2) ?_
            refine g_iload_n hX dX6_readTree_143 rfl 3 rfl ?_
            refine g_iast hX (by decide) (by decide) ((26 + (5 * (rowT 0 r))) + 2) rfl (by rw [(show xN 312 = 74 by decide)]; omega) dX6_readTree_144 ?_
            refine g_aload_n hX dX6_readTree_145 rfl 0 rfl ?_
            refine g_getR (j := 312) hX (by decide) (by decide) xCl6 6 (by decide) (by decide) kX6_22 dX6_readTree_146 rfl ?_
            refine g_iload hX dX6_readTree_149 5 rfl ?_
            refine g_iconst (v := nI 3) hX dX6_readTree_151 (by decide) ?_
            refine g_iadd (v := nI ((26 + (5 * (rowT 0 r))) + 3)) hX dX6_readTree_152 (nI_add (26 + (5 * (rowT 0 r))) 3) ?_
            refine g_iload hX dX6_readTree_153 4 rfl ?_
            refine g_iast hX (by decide) (by decide) ((26 + (5 * (rowT 0 r))) + 3) rfl (by rw [(show xN 312 = 74 by decide)]; omega) dX6_readTree_155 ?_
            refine g_aload_n hX dX6_readTree_156 rfl 0 rfl ?_
            refine g_getR (j := 312) hX (by decide) (by decide) xCl6 6 (by decide) (by decide) kX6_22 dX6_readTree_157 rfl ?_
            refine g_iconst (v := nI 0) hX dX6_readTree_160 (by decide) ?_
            refine g_dup2 hX rfl rfl dX6_readTree_161 ?_
            refine g_iald (v := nI (rowT 0 r)) hX (by decide) (by decide) 0 rfl (by rw [(show xN 312 = 74 by decide)]; decide) dX6_readTree_162 (xput_i (by omega) (xput_i (by omega) (xput_i (by omega) (xput_i (by omega) hr0)))) ?_
            refine g_iconst (v := nI 1) hX dX6_readTree_163 (by decide) ?_
            refine g_iadd (v := nI ((rowT 0 r) + 1)) hX dX6_readTree_164 (nI_add (rowT 0 r) 1) ?_
            refine g_iast hX (by decide) (by decide) 0 rfl (by rw [(show xN 312 = 74 by decide)]; decide) dX6_readTree_165 ?_
            exact g_vret hX hR dX6_readTree_166 (by decide) (by decide) ⟨rfl, rfl, (by first | exact adt_l h8 h101 | exact rf_adt h8), rfl⟩
        exact cut68 K (dup_l h2 h41)
      · obtain ⟨t, f, e2⟩ := rf_r h2 (by omega)
        have hpi : PIR (.inr (t, f)) := by obtain ⟨-, t1, e1⟩ := k_km e2; obtain ⟨-, t0, e0⟩ := k_beg e1; subst e0; exact hp
        rw [e2] at h2
        obtain ⟨htw, c14, c15, c16, c17, c18, c12⟩ := rf_i h2
        have hrk := rtk_c t.1
        have ht4 := htw.2.2.1
        refine g_aload_n hX dX6_readTree_44 rfl 0 rfl ?_
        refine g_getI (v := nI (rtk t.1)) hX (by decide) (by decide) xCl6 15 (by decide) (by decide) kX6_90 dX6_readTree_45 c15 ?_
        refine g_iconst (v := nI 3) hX dX6_readTree_48 (by decide) ?_
        refine g_ci_ne (a := ((rtk t.1 : Nat) : Int)) (b := (3 : Int)) (tgt := 68) hX dX6_readTree_49 (by decide) (nI_toInt (by omega)) (by decide) (fun h49 => ?_) (fun h49 => ?_)
        · have cut68 : ∀ (K4 : xM) (h4 : rfS tp n B K4 (tr4 tp n r)), G X 319 0 0 K4 (xRL nw sp) 68 [(0, .ref 307), (1, .int (kbV (nmV tp (begR tp n 0 r))))] [] := by
            intro K4 h4
            refine g_aload_n hX dX6_readTree_68 rfl 0 rfl ?_
            refine g_iconst (v := nI 0) hX dX6_readTree_69 (by decide) ?_
            refine g_bipush (v := nI 19) hX dX6_readTree_70 (by decide) ?_
            refine g_callVr hX (as := [.int (nI 0), .int (nI 19)]) (fun l => c_X6_number l (I := K4) (tp := tp) (n := n) (B := B) (r := tr4 tp n r) (lo := 0) (hi := 19) (ht := ht) (hr := h4) (hlo := (by decide)) (hhi := (by decide))) mX6_number vX6_number lX6_139 (by decide) (by decide) xCl6 rfl rfl dX6_readTree_72 rfl (by decide) (Nat.le_of_ble_eq_true rfl) (by decide) (by decide) (fun xK5 K5 h5 => ?_)
            obtain ⟨rfl, h5⟩ := h5
            refine g_istore_n (L' := [(0, .ref 307), (1, .int (kbV (nmV tp (begR tp n 0 r)))), (2, .int (nI (figR tp (tr4 tp n r))))]) hX dX6_readTree_75 rfl (by decide) rfl ?_
            refine g_aload_n hX dX6_readTree_76 rfl 0 rfl ?_
            refine g_iconst (v := nI 1) hX dX6_readTree_77 (by decide) ?_
            refine g_bipush (v := nI 99) hX dX6_readTree_78 (by decide) ?_
            refine g_callVr hX (as := [.int (nI 1), .int (nI 99)]) (fun l => c_X6_number l (I := K5) (tp := tp) (n := n) (B := B) (r := tr3 tp n r) (lo := 1) (hi := 99) (ht := ht) (hr := h5) (hlo := (by decide)) (hhi := (by decide))) mX6_number vX6_number lX6_139 (by decide) (by decide) xCl6 rfl rfl dX6_readTree_80 rfl (by decide) (Nat.le_of_ble_eq_true rfl) (by decide) (by decide) (fun xK6 K6 h6 => ?_)
            obtain ⟨rfl, h6⟩ := h6
            refine g_istore_n (L' := [(0, .ref 307), (1, .int (kbV (nmV tp (begR tp n 0 r)))), (2, .int (nI (figR tp (tr4 tp n r)))), (3, .int (nI (figR tp (tr3 tp n r))))]) hX dX6_readTree_83 rfl (by decide) rfl ?_
            refine g_aload_n hX dX6_readTree_84 rfl 0 rfl ?_
            refine g_iconst (v := nI 0) hX dX6_readTree_85 (by decide) ?_
            refine g_bipush (v := nI 9) hX dX6_readTree_86 (by decide) ?_
            refine g_callVr hX (as := [.int (nI 0), .int (nI 9)]) (fun l => c_X6_number l (I := K6) (tp := tp) (n := n) (B := B) (r := tr2 tp n r) (lo := 0) (hi := 9) (ht := ht) (hr := h6) (hlo := (by decide)) (hhi := (by decide))) mX6_number vX6_number lX6_139 (by decide) (by decide) xCl6 rfl rfl dX6_readTree_88 rfl (by decide) (Nat.le_of_ble_eq_true rfl) (by decide) (by decide) (fun xK7 K7 h7 => ?_)
            obtain ⟨rfl, h7⟩ := h7
            refine g_istore (L' := [(0, .ref 307), (1, .int (kbV (nmV tp (begR tp n 0 r)))), (2, .int (nI (figR tp (tr4 tp n r)))), (3, .int (nI (figR tp (tr3 tp n r)))), (4, .int (nI (figR tp (tr2 tp n r))))]) hX dX6_readTree_91 (by decide) rfl ?_
            refine g_aload_n hX dX6_readTree_93 rfl 0 rfl ?_
            refine g_callVrv hX (as := []) (fun l => c_X6_mustEnd l (I := K7) (tp := tp) (n := n) (B := B) (r := numR tp n 0 9 (tr2 tp n r)) (ht := (by first | assumption | omega)) (hr := h7)) mX6_mustEnd vX6_mustEnd lX6_143 (by decide) (by decide) xCl6 rfl rfl dX6_readTree_94 rfl (by decide) (Nat.le_of_ble_eq_true rfl) (by decide) (by decide) (fun K8 h8 => ?_)
            refine g_aload_n hX dX6_readTree_97 rfl 0 rfl ?_
            refine g_getI (v := K8 307 18) hX (by decide) (by decide) xCl6 18 (by decide) (by decide) kX6_102 dX6_readTree_98 rfl ?_
            refine g_cz_ne (a := (K8 307 18).toInt) (tgt := 166) hX dX6_readTree_101 (by decide) rfl (fun h101 => ?_) (fun h101 => ?_)
            · exact g_vret hX hR dX6_readTree_166 (by decide) (by decide) ⟨rfl, rfl, (by first | exact adt_l h8 h101 | exact rf_adt h8), rfl⟩
            · have h8 : rfS tp n B K8 (tr1 tp n r) := h8
              obtain ⟨t, f, e8⟩ := rf_r h8 (by omega)
              obtain ⟨hT6, t0, e0⟩ := k_tr1 e8
              have hrow : f 0 = nI (rowT 0 r) := by subst e0; exact pi_r hp (by decide)
              have hr0 : K8 312 0 = nI (rowT 0 r) := by rw [e8] at h8; rw [(rf_i h8).2.2.2.2.2.2]; exact hrow
              have hT5 : rowT 0 r ≤ 5 := by have := pi_row hp (i := 0) (by decide); rw [hrow, nI_toInt (by omega)] at hT6; omega
              refine g_bipush (v := nI 26) hX dX6_readTree_104 (by decide) ?_
              refine g_iconst (v := nI 5) hX dX6_readTree_106 (by decide) ?_
              refine g_aload_n hX dX6_readTree_107 rfl 0 rfl ?_
              refine g_getR (j := 312) hX (by decide) (by decide) xCl6 6 (by decide) (by decide) kX6_22 dX6_readTree_108 rfl ?_
              refine g_iconst (v := nI 0) hX dX6_readTree_111 (by decide) ?_
              refine g_iald (v := nI (rowT 0 r)) hX (by decide) (by decide) 0 rfl (by rw [(show xN 312 = 74 by decide)]; decide) dX6_readTree_112 hr0 ?_
              refine g_imul (v := nI (5 * (rowT 0 r))) hX dX6_readTree_113 (nI_mul 5 (rowT 0 r)) ?_
              refine g_iadd (v := nI (26 + (5 * (rowT 0 r)))) hX dX6_readTree_114 (nI_add 26 (5 * (rowT 0 r))) ?_
              refine g_istore (L' := [(0, .ref 307), (1, .int (kbV (nmV tp (begR tp n 0 r)))), (2, .int (nI (figR tp (tr4 tp n r)))), (3, .int (nI (figR tp (tr3 tp n r)))), (4, .int (nI (figR tp (tr2 tp n r)))), (5, .int (nI (26 + (5 * (rowT 0 r)))))]) hX dX6_readTree_115 (by decide) rfl ?_
              refine g_aload_n hX dX6_readTree_117 rfl 0 rfl ?_
              refine g_getR (j := 312) hX (by decide) (by decide) xCl6 6 (by decide) (by decide) kX6_22 dX6_readTree_118 rfl ?_
              refine g_iload hX dX6_readTree_121 5 rfl ?_
              refine g_iload_n hX dX6_readTree_123 rfl 1 rfl ?_
              refine g_iast hX (by decide) (by decide) (26 + (5 * (rowT 0 r))) rfl (by rw [(show xN 312 = 74 by decide)]; omega) dX6_readTree_124 ?_
              refine g_aload_n hX dX6_readTree_125 rfl 0 rfl ?_
              refine g_getR (j := 312) hX (by decide) (by decide) xCl6 6 (by decide) (by decide) kX6_22 dX6_readTree_126 rfl ?_
              refine g_iload hX dX6_readTree_129 5 rfl ?_
              refine g_iconst (v := nI 1) hX dX6_readTree_131 (by decide) ?_
              refine g_iadd (v := nI ((26 + (5 * (rowT 0 r))) + 1)) hX dX6_readTree_132 (nI_add (26 + (5 * (rowT 0 r))) 1) ?_
              refine g_iload_n hX dX6_readTree_133 rfl 2 rfl ?_
              refine g_iast hX (by decide) (by decide) ((26 + (5 * (rowT 0 r))) + 1) rfl (by rw [(show xN 312 = 74 by decide)]; omega) dX6_readTree_134 ?_
              refine g_aload_n hX dX6_readTree_135 rfl 0 rfl ?_
              refine g_getR (j := 312) hX (by decide) (by decide) xCl6 6 (by decide) (by decide) kX6_22 dX6_readTree_136 rfl ?_
              refine g_iload hX dX6_readTree_139 5 rfl ?_
              refine g_iconst (v := nI 2) hX dX6_readTree_141 (by decide) ?_
              refine g_iadd (v := nI ((26 + (5 * (rowT 0 r))) + 2)) hX dX6_readTree_142 (nI_add (26 + (5 * (rowT 0 r))) 2) ?_
              refine g_iload_n hX dX6_readTree_143 rfl 3 rfl ?_
              refine g_iast hX (by decide) (by decide) ((26 + (5 * (rowT 0 r))) + 2) rfl (by rw [(show xN 312 = 74 by decide)]; omega) dX6_readTree_144 ?_
              refine g_aload_n hX dX6_readTree_145 rfl 0 rfl ?_
              refine g_getR (j := 312) hX (by decide) (by decide) xCl6 6 (by decide) (by decide) kX6_22 dX6_readTree_146 rfl ?_
              refine g_iload hX dX6_readTree_149 5 rfl ?_
              refine g_iconst (v := nI 3) hX dX6_readTree_151 (by decide) ?_
              refine g_iadd (v := nI ((26 + (5 * (rowT 0 r))) + 3)) hX dX6_readTree_152 (nI_add (26 + (5 * (rowT 0 r))) 3) ?_
              refine g_iload hX dX6_readTree_153 4 rfl ?_
              refine g_iast hX (by decide) (by decide) ((26 + (5 * (rowT 0 r))) + 3) rfl (by rw [(show xN 312 = 74 by decide)]; omega) dX6_readTree_155 ?_
              refine g_aload_n hX dX6_readTree_156 rfl 0 rfl ?_
              refine g_getR (j := 312) hX (by decide) (by decide) xCl6 6 (by decide) (by decide) kX6_22 dX6_readTree_157 rfl ?_
              refine g_iconst (v := nI 0) hX dX6_readTree_160 (by decide) ?_
              refine g_dup2 hX rfl rfl dX6_readTree_161 ?_
              refine g_iald (v := nI (rowT 0 r)) hX (by decide) (by decide) 0 rfl (by rw [(show xN 312 = 74 by decide)]; decide) dX6_readTree_162 (xput_i (by omega) (xput_i (by omega) (xput_i (by omega) (xput_i (by omega) hr0)))) ?_
              refine g_iconst (v := nI 1) hX dX6_readTree_163 (by decide) ?_
              refine g_iadd (v := nI ((rowT 0 r) + 1)) hX dX6_readTree_164 (nI_add (rowT 0 r) 1) ?_
              refine g_iast hX (by decide) (by decide) 0 rfl (by rw [(show xN 312 = 74 by decide)]; decide) dX6_readTree_165 ?_
              exact g_vret hX hR dX6_readTree_166 (by decide) (by decide) ⟨rfl, rfl, (by first | exact adt_l h8 h101 | exact rf_adt h8), rfl⟩
          exact cut68 K (by show rfS tp n B _ (dupR tp (kmR tp n (begR tp n 0 r))); rw [e2, dup_n (fun q => h49 (by have q1 : t.1 = 2 := q.1; omega))]; exact h2)
        · refine g_aload_n hX dX6_readTree_52 rfl 0 rfl ?_
          refine g_aload_n hX dX6_readTree_53 rfl 0 rfl ?_
          refine g_callVi hX (as := []) (fun l => c_X6_figures l (I := K) (tp := tp) (n := n) (B := B) (t := t) (f := f) (ht := ht) (hr := h2)) mX6_figures vX6_figures lX6_115 (by decide) (by decide) xCl6 rfl rfl dX6_readTree_54 rfl (by decide) (Nat.le_of_ble_eq_true rfl) (by decide) (by decide) ?_
          refine g_callVi hX (as := [.int (nI (figR tp (.inr (t, f))))]) (fun l => c_X6_isTold l (I := K) (v := (figR tp (.inr (t, f)))) (T := (rowT 0 (.inr (t, f)))) (hT := ((congrFun c12 0).trans (pi_r hpi (by decide)))) (hT6 := (pi_row hpi (by decide))) (hv9 := (fig_le htw))) mX6_isTold vX6_isTold lX6_154 (by decide) (by decide) xCl6 rfl rfl dX6_readTree_57 rfl (by decide) (Nat.le_of_ble_eq_true rfl) (by decide) (by decide) ?_
          refine g_cb_eq (tgt := 68) hX dX6_readTree_60 (by decide) (fun h60 => ?_) (fun h60 => ?_)
          · have cut68 : ∀ (K4 : xM) (h4 : rfS tp n B K4 (tr4 tp n r)), G X 319 0 0 K4 (xRL nw sp) 68 [(0, .ref 307), (1, .int (kbV (nmV tp (begR tp n 0 r))))] [] := by
              intro K4 h4
              refine g_aload_n hX dX6_readTree_68 rfl 0 rfl ?_
              refine g_iconst (v := nI 0) hX dX6_readTree_69 (by decide) ?_
              refine g_bipush (v := nI 19) hX dX6_readTree_70 (by decide) ?_
              refine g_callVr hX (as := [.int (nI 0), .int (nI 19)]) (fun l => c_X6_number l (I := K4) (tp := tp) (n := n) (B := B) (r := tr4 tp n r) (lo := 0) (hi := 19) (ht := ht) (hr := h4) (hlo := (by decide)) (hhi := (by decide))) mX6_number vX6_number lX6_139 (by decide) (by decide) xCl6 rfl rfl dX6_readTree_72 rfl (by decide) (Nat.le_of_ble_eq_true rfl) (by decide) (by decide) (fun xK5 K5 h5 => ?_)
              obtain ⟨rfl, h5⟩ := h5
              refine g_istore_n (L' := [(0, .ref 307), (1, .int (kbV (nmV tp (begR tp n 0 r)))), (2, .int (nI (figR tp (tr4 tp n r))))]) hX dX6_readTree_75 rfl (by decide) rfl ?_
              refine g_aload_n hX dX6_readTree_76 rfl 0 rfl ?_
              refine g_iconst (v := nI 1) hX dX6_readTree_77 (by decide) ?_
              refine g_bipush (v := nI 99) hX dX6_readTree_78 (by decide) ?_
              refine g_callVr hX (as := [.int (nI 1), .int (nI 99)]) (fun l => c_X6_number l (I := K5) (tp := tp) (n := n) (B := B) (r := tr3 tp n r) (lo := 1) (hi := 99) (ht := ht) (hr := h5) (hlo := (by decide)) (hhi := (by decide))) mX6_number vX6_number lX6_139 (by decide) (by decide) xCl6 rfl rfl dX6_readTree_80 rfl (by decide) (Nat.le_of_ble_eq_true rfl) (by decide) (by decide) (fun xK6 K6 h6 => ?_)
              obtain ⟨rfl, h6⟩ := h6
              refine g_istore_n (L' := [(0, .ref 307), (1, .int (kbV (nmV tp (begR tp n 0 r)))), (2, .int (nI (figR tp (tr4 tp n r)))), (3, .int (nI (figR tp (tr3 tp n r))))]) hX dX6_readTree_83 rfl (by decide) rfl ?_
              refine g_aload_n hX dX6_readTree_84 rfl 0 rfl ?_
              refine g_iconst (v := nI 0) hX dX6_readTree_85 (by decide) ?_
              refine g_bipush (v := nI 9) hX dX6_readTree_86 (by decide) ?_
              refine g_callVr hX (as := [.int (nI 0), .int (nI 9)]) (fun l => c_X6_number l (I := K6) (tp := tp) (n := n) (B := B) (r := tr2 tp n r) (lo := 0) (hi := 9) (ht := ht) (hr := h6) (hlo := (by decide)) (hhi := (by decide))) mX6_number vX6_number lX6_139 (by decide) (by decide) xCl6 rfl rfl dX6_readTree_88 rfl (by decide) (Nat.le_of_ble_eq_true rfl) (by decide) (by decide) (fun xK7 K7 h7 => ?_)
              obtain ⟨rfl, h7⟩ := h7
              refine g_istore (L' := [(0, .ref 307), (1, .int (kbV (nmV tp (begR tp n 0 r)))), (2, .int (nI (figR tp (tr4 tp n r)))), (3, .int (nI (figR tp (tr3 tp n r)))), (4, .int (nI (figR tp (tr2 tp n r))))]) hX dX6_readTree_91 (by decide) rfl ?_
              refine g_aload_n hX dX6_readTree_93 rfl 0 rfl ?_
              refine g_callVrv hX (as := []) (fun l => c_X6_mustEnd l (I := K7) (tp := tp) (n := n) (B := B) (r := numR tp n 0 9 (tr2 tp n r)) (ht := (by first | assumption | omega)) (hr := h7)) mX6_mustEnd vX6_mustEnd lX6_143 (by decide) (by decide) xCl6 rfl rfl dX6_readTree_94 rfl (by decide) (Nat.le_of_ble_eq_true rfl) (by decide) (by decide) (fun K8 h8 => ?_)
              refine g_aload_n hX dX6_readTree_97 rfl 0 rfl ?_
              refine g_getI (v := K8 307 18) hX (by decide) (by decide) xCl6 18 (by decide) (by decide) kX6_102 dX6_readTree_98 rfl ?_
              refine g_cz_ne (a := (K8 307 18).toInt) (tgt := 166) hX dX6_readTree_101 (by decide) rfl (fun h101 => ?_) (fun h101 => ?_)
              · exact g_vret hX hR dX6_readTree_166 (by decide) (by decide) ⟨rfl, rfl, (by first | exact adt_l h8 h101 | exact rf_adt h8), rfl⟩
              · have h8 : rfS tp n B K8 (tr1 tp n r) := h8
                obtain ⟨t, f, e8⟩ := rf_r h8 (by omega)
                obtain ⟨hT6, t0, e0⟩ := k_tr1 e8
                have hrow : f 0 = nI (rowT 0 r) := by subst e0; exact pi_r hp (by decide)
                have hr0 : K8 312 0 = nI (rowT 0 r) := by rw [e8] at h8; rw [(rf_i h8).2.2.2.2.2.2]; exact hrow
                have hT5 : rowT 0 r ≤ 5 := by have := pi_row hp (i := 0) (by decide); rw [hrow, nI_toInt (by omega)] at hT6; omega
                refine g_bipush (v := nI 26) hX dX6_readTree_104 (by decide) ?_
                refine g_iconst (v := nI 5) hX dX6_readTree_106 (by decide) ?_
                refine g_aload_n hX dX6_readTree_107 rfl 0 rfl ?_
                refine g_getR (j := 312) hX (by decide) (by decide) xCl6 6 (by decide) (by decide) kX6_22 dX6_readTree_108 rfl ?_
                refine g_iconst (v := nI 0) hX dX6_readTree_111 (by decide) ?_
                refine g_iald (v := nI (rowT 0 r)) hX (by decide) (by decide) 0 rfl (by rw [(show xN 312 = 74 by decide)]; decide) dX6_readTree_112 hr0 ?_
                refine g_imul (v := nI (5 * (rowT 0 r))) hX dX6_readTree_113 (nI_mul 5 (rowT 0 r)) ?_
                refine g_iadd (v := nI (26 + (5 * (rowT 0 r)))) hX dX6_readTree_114 (nI_add 26 (5 * (rowT 0 r))) ?_
                refine g_istore (L' := [(0, .ref 307), (1, .int (kbV (nmV tp (begR tp n 0 r)))), (2, .int (nI (figR tp (tr4 tp n r)))), (3, .int (nI (figR tp (tr3 tp n r)))), (4, .int (nI (figR tp (tr2 tp n r)))), (5, .int (nI (26 + (5 * (rowT 0 r)))))]) hX dX6_readTree_115 (by decide) rfl ?_
                refine g_aload_n hX dX6_readTree_117 rfl 0 rfl ?_
                refine g_getR (j := 312) hX (by decide) (by decide) xCl6 6 (by decide) (by decide) kX6_22 dX6_readTree_118 rfl ?_
                refine g_iload hX dX6_readTree_121 5 rfl ?_
                refine g_iload_n hX dX6_readTree_123 rfl 1 rfl ?_
                refine g_iast hX (by decide) (by decide) (26 + (5 * (rowT 0 r))) rfl (by rw [(show xN 312 = 74 by decide)]; omega) dX6_readTree_124 ?_
                refine g_aload_n hX dX6_readTree_125 rfl 0 rfl ?_
                refine g_getR (j := 312) hX (by decide) (by decide) xCl6 6 (by decide) (by decide) kX6_22 dX6_readTree_126 rfl ?_
                refine g_iload hX dX6_readTree_129 5 rfl ?_
                refine g_iconst (v := nI 1) hX dX6_readTree_131 (by decide) ?_
                refine g_iadd (v := nI ((26 + (5 * (rowT 0 r))) + 1)) hX dX6_readTree_132 (nI_add (26 + (5 * (rowT 0 r))) 1) ?_
                refine g_iload_n hX dX6_readTree_133 rfl 2 rfl ?_
                refine g_iast hX (by decide) (by decide) ((26 + (5 * (rowT 0 r))) + 1) rfl (by rw [(show xN 312 = 74 by decide)]; omega) dX6_readTree_134 ?_
                refine g_aload_n hX dX6_readTree_135 rfl 0 rfl ?_
                refine g_getR (j := 312) hX (by decide) (by decide) xCl6 6 (by decide) (by decide) kX6_22 dX6_readTree_136 rfl ?_
                refine g_iload hX dX6_readTree_139 5 rfl ?_
                refine g_iconst (v := nI 2) hX dX6_readTree_141 (by decide) ?_
                refine g_iadd (v := nI ((26 + (5 * (rowT 0 r))) + 2)) hX dX6_readTree_142 (nI_add (26 + (5 * (rowT 0 r))) 2) ?_
                refine g_iload_n hX dX6_readTree_143 rfl 3 rfl ?_
                refine g_iast hX (by decide) (by decide) ((26 + (5 * (rowT 0 r))) + 2) rfl (by rw [(show xN 312 = 74 by decide)]; omega) dX6_readTree_144 ?_
                refine g_aload_n hX dX6_readTree_145 rfl 0 rfl ?_
                refine g_getR (j := 312) hX (by decide) (by decide) xCl6 6 (by decide) (by decide) kX6_22 dX6_readTree_146 rfl ?_
                refine g_iload hX dX6_readTree_149 5 rfl ?_
                refine g_iconst (v := nI 3) hX dX6_readTree_151 (by decide) ?_
                refine g_iadd (v := nI ((26 + (5 * (rowT 0 r))) + 3)) hX dX6_readTree_152 (nI_add (26 + (5 * (rowT 0 r))) 3) ?_
                refine g_iload hX dX6_readTree_153 4 rfl ?_
                refine g_iast hX (by decide) (by decide) ((26 + (5 * (rowT 0 r))) + 3) rfl (by rw [(show xN 312 = 74 by decide)]; omega) dX6_readTree_155 ?_
                refine g_aload_n hX dX6_readTree_156 rfl 0 rfl ?_
                refine g_getR (j := 312) hX (by decide) (by decide) xCl6 6 (by decide) (by decide) kX6_22 dX6_readTree_157 rfl ?_
                refine g_iconst (v := nI 0) hX dX6_readTree_160 (by decide) ?_
                refine g_dup2 hX rfl rfl dX6_readTree_161 ?_
                refine g_iald (v := nI (rowT 0 r)) hX (by decide) (by decide) 0 rfl (by rw [(show xN 312 = 74 by decide)]; decide) dX6_readTree_162 (xput_i (by omega) (xput_i (by omega) (xput_i (by omega) (xput_i (by omega) hr0)))) ?_
                refine g_iconst (v := nI 1) hX dX6_readTree_163 (by decide) ?_
                refine g_iadd (v := nI ((rowT 0 r) + 1)) hX dX6_readTree_164 (nI_add (rowT 0 r) 1) ?_
                refine g_iast hX (by decide) (by decide) 0 rfl (by rw [(show xN 312 = 74 by decide)]; decide) dX6_readTree_165 ?_
                exact g_vret hX hR dX6_readTree_166 (by decide) (by decide) ⟨rfl, rfl, (by first | exact adt_l h8 h101 | exact rf_adt h8), rfl⟩
            exact cut68 K (by show rfS tp n B _ (dupR tp (kmR tp n (begR tp n 0 r))); rw [e2, dup_n (fun q => h60 (by obtain ⟨-, u, a, b, c⟩ := q; exact ⟨u, a, b, by rw [c12]; exact c⟩))]; exact h2)
          · refine g_aload_n hX dX6_readTree_63 rfl 0 rfl ?_
            refine g_iconst (v := nI 2) hX dX6_readTree_64 (by decide) ?_
            refine g_callVrv hX (as := [.int (nI 2)]) (fun l => c_X6_bad l (I := K) (tp := tp) (n := n) (B := B) (r := .inr (t, f)) (k := 2) (hr := h2) (hk := (by first | assumption | omega))) mX6_bad vX6_bad lX6_111 (by decide) (by decide) xCl6 rfl rfl dX6_readTree_65 rfl (by decide) (Nat.le_of_ble_eq_true rfl) (by decide) (by decide) (fun K3 h3 => ?_)
            have cut68 : ∀ (K4 : xM) (h4 : rfS tp n B K4 (tr4 tp n r)), G X 319 0 0 K4 (xRL nw sp) 68 [(0, .ref 307), (1, .int (kbV (nmV tp (begR tp n 0 r))))] [] := by
              intro K4 h4
              refine g_aload_n hX dX6_readTree_68 rfl 0 rfl ?_
              refine g_iconst (v := nI 0) hX dX6_readTree_69 (by decide) ?_
              refine g_bipush (v := nI 19) hX dX6_readTree_70 (by decide) ?_
              refine g_callVr hX (as := [.int (nI 0), .int (nI 19)]) (fun l => c_X6_number l (I := K4) (tp := tp) (n := n) (B := B) (r := tr4 tp n r) (lo := 0) (hi := 19) (ht := ht) (hr := h4) (hlo := (by decide)) (hhi := (by decide))) mX6_number vX6_number lX6_139 (by decide) (by decide) xCl6 rfl rfl dX6_readTree_72 rfl (by decide) (Nat.le_of_ble_eq_true rfl) (by decide) (by decide) (fun xK5 K5 h5 => ?_)
              obtain ⟨rfl, h5⟩ := h5
              refine g_istore_n (L' := [(0, .ref 307), (1, .int (kbV (nmV tp (begR tp n 0 r)))), (2, .int (nI (figR tp (tr4 tp n r))))]) hX dX6_readTree_75 rfl (by decide) rfl ?_
              refine g_aload_n hX dX6_readTree_76 rfl 0 rfl ?_
              refine g_iconst (v := nI 1) hX dX6_readTree_77 (by decide) ?_
              refine g_bipush (v := nI 99) hX dX6_readTree_78 (by decide) ?_
              refine g_callVr hX (as := [.int (nI 1), .int (nI 99)]) (fun l => c_X6_number l (I := K5) (tp := tp) (n := n) (B := B) (r := tr3 tp n r) (lo := 1) (hi := 99) (ht := ht) (hr := h5) (hlo := (by decide)) (hhi := (by decide))) mX6_number vX6_number lX6_139 (by decide) (by decide) xCl6 rfl rfl dX6_readTree_80 rfl (by decide) (Nat.le_of_ble_eq_true rfl) (by decide) (by decide) (fun xK6 K6 h6 => ?_)
              obtain ⟨rfl, h6⟩ := h6
              refine g_istore_n (L' := [(0, .ref 307), (1, .int (kbV (nmV tp (begR tp n 0 r)))), (2, .int (nI (figR tp (tr4 tp n r)))), (3, .int (nI (figR tp (tr3 tp n r))))]) hX dX6_readTree_83 rfl (by decide) rfl ?_
              refine g_aload_n hX dX6_readTree_84 rfl 0 rfl ?_
              refine g_iconst (v := nI 0) hX dX6_readTree_85 (by decide) ?_
              refine g_bipush (v := nI 9) hX dX6_readTree_86 (by decide) ?_
              refine g_callVr hX (as := [.int (nI 0), .int (nI 9)]) (fun l => c_X6_number l (I := K6) (tp := tp) (n := n) (B := B) (r := tr2 tp n r) (lo := 0) (hi := 9) (ht := ht) (hr := h6) (hlo := (by decide)) (hhi := (by decide))) mX6_number vX6_number lX6_139 (by decide) (by decide) xCl6 rfl rfl dX6_readTree_88 rfl (by decide) (Nat.le_of_ble_eq_true rfl) (by decide) (by decide) (fun xK7 K7 h7 => ?_)
              obtain ⟨rfl, h7⟩ := h7
              refine g_istore (L' := [(0, .ref 307), (1, .int (kbV (nmV tp (begR tp n 0 r)))), (2, .int (nI (figR tp (tr4 tp n r)))), (3, .int (nI (figR tp (tr3 tp n r)))), (4, .int (nI (figR tp (tr2 tp n r))))]) hX dX6_readTree_91 (by decide) rfl ?_
              refine g_aload_n hX dX6_readTree_93 rfl 0 rfl ?_
              refine g_callVrv hX (as := []) (fun l => c_X6_mustEnd l (I := K7) (tp := tp) (n := n) (B := B) (r := numR tp n 0 9 (tr2 tp n r)) (ht := (by first | assumption | omega)) (hr := h7)) mX6_mustEnd vX6_mustEnd lX6_143 (by decide) (by decide) xCl6 rfl rfl dX6_readTree_94 rfl (by decide) (Nat.le_of_ble_eq_true rfl) (by decide) (by decide) (fun K8 h8 => ?_)
              refine g_aload_n hX dX6_readTree_97 rfl 0 rfl ?_
              refine g_getI (v := K8 307 18) hX (by decide) (by decide) xCl6 18 (by decide) (by decide) kX6_102 dX6_readTree_98 rfl ?_
              refine g_cz_ne (a := (K8 307 18).toInt) (tgt := 166) hX dX6_readTree_101 (by decide) rfl (fun h101 => ?_) (fun h101 => ?_)
              · exact g_vret hX hR dX6_readTree_166 (by decide) (by decide) ⟨rfl, rfl, (by first | exact adt_l h8 h101 | exact rf_adt h8), rfl⟩
              · have h8 : rfS tp n B K8 (tr1 tp n r) := h8
                obtain ⟨t, f, e8⟩ := rf_r h8 (by omega)
                obtain ⟨hT6, t0, e0⟩ := k_tr1 e8
                have hrow : f 0 = nI (rowT 0 r) := by subst e0; exact pi_r hp (by decide)
                have hr0 : K8 312 0 = nI (rowT 0 r) := by rw [e8] at h8; rw [(rf_i h8).2.2.2.2.2.2]; exact hrow
                have hT5 : rowT 0 r ≤ 5 := by have := pi_row hp (i := 0) (by decide); rw [hrow, nI_toInt (by omega)] at hT6; omega
                refine g_bipush (v := nI 26) hX dX6_readTree_104 (by decide) ?_
                refine g_iconst (v := nI 5) hX dX6_readTree_106 (by decide) ?_
                refine g_aload_n hX dX6_readTree_107 rfl 0 rfl ?_
                refine g_getR (j := 312) hX (by decide) (by decide) xCl6 6 (by decide) (by decide) kX6_22 dX6_readTree_108 rfl ?_
                refine g_iconst (v := nI 0) hX dX6_readTree_111 (by decide) ?_
                refine g_iald (v := nI (rowT 0 r)) hX (by decide) (by decide) 0 rfl (by rw [(show xN 312 = 74 by decide)]; decide) dX6_readTree_112 hr0 ?_
                refine g_imul (v := nI (5 * (rowT 0 r))) hX dX6_readTree_113 (nI_mul 5 (rowT 0 r)) ?_
                refine g_iadd (v := nI (26 + (5 * (rowT 0 r)))) hX dX6_readTree_114 (nI_add 26 (5 * (rowT 0 r))) ?_
                refine g_istore (L' := [(0, .ref 307), (1, .int (kbV (nmV tp (begR tp n 0 r)))), (2, .int (nI (figR tp (tr4 tp n r)))), (3, .int (nI (figR tp (tr3 tp n r)))), (4, .int (nI (figR tp (tr2 tp n r)))), (5, .int (nI (26 + (5 * (rowT 0 r)))))]) hX dX6_readTree_115 (by decide) rfl ?_
                refine g_aload_n hX dX6_readTree_117 rfl 0 rfl ?_
                refine g_getR (j := 312) hX (by decide) (by decide) xCl6 6 (by decide) (by decide) kX6_22 dX6_readTree_118 rfl ?_
                refine g_iload hX dX6_readTree_121 5 rfl ?_
                refine g_iload_n hX dX6_readTree_123 rfl 1 rfl ?_
                refine g_iast hX (by decide) (by decide) (26 + (5 * (rowT 0 r))) rfl (by rw [(show xN 312 = 74 by decide)]; omega) dX6_readTree_124 ?_
                refine g_aload_n hX dX6_readTree_125 rfl 0 rfl ?_
                refine g_getR (j := 312) hX (by decide) (by decide) xCl6 6 (by decide) (by decide) kX6_22 dX6_readTree_126 rfl ?_
                refine g_iload hX dX6_readTree_129 5 rfl ?_
                refine g_iconst (v := nI 1) hX dX6_readTree_131 (by decide) ?_
                refine g_iadd (v := nI ((26 + (5 * (rowT 0 r))) + 1)) hX dX6_readTree_132 (nI_add (26 + (5 * (rowT 0 r))) 1) ?_
                refine g_iload_n hX dX6_readTree_133 rfl 2 rfl ?_
                refine g_iast hX (by decide) (by decide) ((26 + (5 * (rowT 0 r))) + 1) rfl (by rw [(show xN 312 = 74 by decide)]; omega) dX6_readTree_134 ?_
                refine g_aload_n hX dX6_readTree_135 rfl 0 rfl ?_
                refine g_getR (j := 312) hX (by decide) (by decide) xCl6 6 (by decide) (by decide) kX6_22 dX6_readTree_136 rfl ?_
                refine g_iload hX dX6_readTree_139 5 rfl ?_
                refine g_iconst (v := nI 2) hX dX6_readTree_141 (by decide) ?_
                refine g_iadd (v := nI ((26 + (5 * (rowT 0 r))) + 2)) hX dX6_readTree_142 (nI_add (26 + (5 * (rowT 0 r))) 2) ?_
                refine g_iload_n hX dX6_readTree_143 rfl 3 rfl ?_
                refine g_iast hX (by decide) (by decide) ((26 + (5 * (rowT 0 r))) + 2) rfl (by rw [(show xN 312 = 74 by decide)]; omega) dX6_readTree_144 ?_
                refine g_aload_n hX dX6_readTree_145 rfl 0 rfl ?_
                refine g_getR (j := 312) hX (by decide) (by decide) xCl6 6 (by decide) (by decide) kX6_22 dX6_readTree_146 rfl ?_
                refine g_iload hX dX6_readTree_149 5 rfl ?_
                refine g_iconst (v := nI 3) hX dX6_readTree_151 (by decide) ?_
                refine g_iadd (v := nI ((26 + (5 * (rowT 0 r))) + 3)) hX dX6_readTree_152 (nI_add (26 + (5 * (rowT 0 r))) 3) ?_
                refine g_iload hX dX6_readTree_153 4 rfl ?_
                refine g_iast hX (by decide) (by decide) ((26 + (5 * (rowT 0 r))) + 3) rfl (by rw [(show xN 312 = 74 by decide)]; omega) dX6_readTree_155 ?_
                refine g_aload_n hX dX6_readTree_156 rfl 0 rfl ?_
                refine g_getR (j := 312) hX (by decide) (by decide) xCl6 6 (by decide) (by decide) kX6_22 dX6_readTree_157 rfl ?_
                refine g_iconst (v := nI 0) hX dX6_readTree_160 (by decide) ?_
                refine g_dup2 hX rfl rfl dX6_readTree_161 ?_
                refine g_iald (v := nI (rowT 0 r)) hX (by decide) (by decide) 0 rfl (by rw [(show xN 312 = 74 by decide)]; decide) dX6_readTree_162 (xput_i (by omega) (xput_i (by omega) (xput_i (by omega) (xput_i (by omega) hr0)))) ?_
                refine g_iconst (v := nI 1) hX dX6_readTree_163 (by decide) ?_
                refine g_iadd (v := nI ((rowT 0 r) + 1)) hX dX6_readTree_164 (nI_add (rowT 0 r) 1) ?_
                refine g_iast hX (by decide) (by decide) 0 rfl (by rw [(show xN 312 = 74 by decide)]; decide) dX6_readTree_165 ?_
                exact g_vret hX hR dX6_readTree_166 (by decide) (by decide) ⟨rfl, rfl, (by first | exact adt_l h8 h101 | exact rf_adt h8), rfl⟩
            exact cut68 K3 (by show rfS tp n B _ (dupR tp (kmR tp n (begR tp n 0 r))); rw [e2, dup_y (show tdP tp (.inr (t, f)) from ⟨(show t.1 = 2 by omega), by obtain ⟨u, a, b, c⟩ := h60; exact ⟨u, a, b, by rw [← c12]; exact c⟩⟩)]; exact h3.1)
    exact cut37 K1 (km_l h1 h19)
  · refine g_aload_n hX dX6_readTree_22 rfl 0 rfl ?_
    refine g_iload_n hX dX6_readTree_23 rfl 1 rfl ?_
    refine g_ldc (v := -1000000) hX cX6_80 dX6_readTree_24 ?_
    refine g_ci_eq (a := (kbV (nmV tp (begR tp n 0 r))).toInt) (b := (-1000000 : Int)) (tgt := 33) hX dX6_readTree_26 (by decide) rfl (by decide) (fun h26 => ?_) (fun h26 => ?_)
    · refine g_iconst (v := nI 0) hX dX6_readTree_33 (by decide) ?_
      refine g_callVrv hX (as := [.int (nI 0)]) (fun l => c_X6_must_0 l (I := K1) (tp := tp) (n := n) (B := B) (r := begR tp n 0 r) (ht := (by first | assumption | omega)) (hr := h1)) mX6_must vX6_must lX6_119 (by decide) (by decide) xCl6 rfl rfl dX6_readTree_34 rfl (by decide) (Nat.le_of_ble_eq_true rfl) (by decide) (by decide) (fun K hK => ?_)
      have cut37 : ∀ (K : xM) (h2 : rfS tp n B K (kmR tp n (begR tp n 0 r))), G X 319 0 0 K (xRL nw sp) 37 [(0, .ref 307), (1, .int (kbV (nmV tp (begR tp n 0 r))))] [] := by
        intro K h2
        refine g_aload_n hX dX6_readTree_37 rfl 0 rfl ?_
        refine g_getI (v := K 307 18) hX (by decide) (by decide) xCl6 18 (by decide) (by decide) kX6_102 dX6_readTree_38 rfl ?_
        refine g_cz_ne (a := (K 307 18).toInt) (tgt := 68) hX dX6_readTree_41 (by decide) rfl (fun h41 => ?_) (fun h41 => ?_)
        · have cut68 : ∀ (K4 : xM) (h4 : rfS tp n B K4 (tr4 tp n r)), G X 319 0 0 K4 (xRL nw sp) 68 [(0, .ref 307), (1, .int (kbV (nmV tp (begR tp n 0 r))))] [] := by
            intro K4 h4
            refine g_aload_n hX dX6_readTree_68 rfl 0 rfl ?_
            refine g_iconst (v := nI 0) hX dX6_readTree_69 (by decide) ?_
            refine g_bipush (v := nI 19) hX dX6_readTree_70 (by decide) ?_
            refine g_callVr hX (as := [.int (nI 0), .int (nI 19)]) (fun l => c_X6_number l (I := K4) (tp := tp) (n := n) (B := B) (r := tr4 tp n r) (lo := 0) (hi := 19) (ht := ht) (hr := h4) (hlo := (by decide)) (hhi := (by decide))) mX6_number vX6_number lX6_139 (by decide) (by decide) xCl6 rfl rfl dX6_readTree_72 rfl (by decide) (Nat.le_of_ble_eq_true rfl) (by decide) (by decide) (fun xK5 K5 h5 => ?_)
            obtain ⟨rfl, h5⟩ := h5
            refine g_istore_n (L' := [(0, .ref 307), (1, .int (kbV (nmV tp (begR tp n 0 r)))), (2, .int (nI (figR tp (tr4 tp n r))))]) hX dX6_readTree_75 rfl (by decide) rfl ?_
            refine g_aload_n hX dX6_readTree_76 rfl 0 rfl ?_
            refine g_iconst (v := nI 1) hX dX6_readTree_77 (by decide) ?_
            refine g_bipush (v := nI 99) hX dX6_readTree_78 (by decide) ?_
            refine g_callVr hX (as := [.int (nI 1), .int (nI 99)]) (fun l => c_X6_number l (I := K5) (tp := tp) (n := n) (B := B) (r := tr3 tp n r) (lo := 1) (hi := 99) (ht := ht) (hr := h5) (hlo := (by decide)) (hhi := (by decide))) mX6_number vX6_number lX6_139 (by decide) (by decide) xCl6 rfl rfl dX6_readTree_80 rfl (by decide) (Nat.le_of_ble_eq_true rfl) (by decide) (by decide) (fun xK6 K6 h6 => ?_)
            obtain ⟨rfl, h6⟩ := h6
            refine g_istore_n (L' := [(0, .ref 307), (1, .int (kbV (nmV tp (begR tp n 0 r)))), (2, .int (nI (figR tp (tr4 tp n r)))), (3, .int (nI (figR tp (tr3 tp n r))))]) hX dX6_readTree_83 rfl (by decide) rfl ?_
            refine g_aload_n hX dX6_readTree_84 rfl 0 rfl ?_
            refine g_iconst (v := nI 0) hX dX6_readTree_85 (by decide) ?_
            refine g_bipush (v := nI 9) hX dX6_readTree_86 (by decide) ?_
            refine g_callVr hX (as := [.int (nI 0), .int (nI 9)]) (fun l => c_X6_number l (I := K6) (tp := tp) (n := n) (B := B) (r := tr2 tp n r) (lo := 0) (hi := 9) (ht := ht) (hr := h6) (hlo := (by decide)) (hhi := (by decide))) mX6_number vX6_number lX6_139 (by decide) (by decide) xCl6 rfl rfl dX6_readTree_88 rfl (by decide) (Nat.le_of_ble_eq_true rfl) (by decide) (by decide) (fun xK7 K7 h7 => ?_)
            obtain ⟨rfl, h7⟩ := h7
            refine g_istore (L' := [(0, .ref 307), (1, .int (kbV (nmV tp (begR tp n 0 r)))), (2, .int (nI (figR tp (tr4 tp n r)))), (3, .int (nI (figR tp (tr3 tp n r)))), (4, .int (nI (figR tp (tr2 tp n r))))]) hX dX6_readTree_91 (by decide) rfl ?_
            refine g_aload_n hX dX6_readTree_93 rfl 0 rfl ?_
            refine g_callVrv hX (as := []) (fun l => c_X6_mustEnd l (I := K7) (tp := tp) (n := n) (B := B) (r := numR tp n 0 9 (tr2 tp n r)) (ht := (by first | assumption | omega)) (hr := h7)) mX6_mustEnd vX6_mustEnd lX6_143 (by decide) (by decide) xCl6 rfl rfl dX6_readTree_94 rfl (by decide) (Nat.le_of_ble_eq_true rfl) (by decide) (by decide) (fun K8 h8 => ?_)
            refine g_aload_n hX dX6_readTree_97 rfl 0 rfl ?_
            refine g_getI (v := K8 307 18) hX (by decide) (by decide) xCl6 18 (by decide) (by decide) kX6_102 dX6_readTree_98 rfl ?_
            refine g_cz_ne (a := (K8 307 18).toInt) (tgt := 166) hX dX6_readTree_101 (by decide) rfl (fun h101 => ?_) (fun h101 => ?_)
            · exact g_vret hX hR dX6_readTree_166 (by decide) (by decide) ⟨rfl, rfl, (by first | exact adt_l h8 h101 | exact rf_adt h8), rfl⟩
            · have h8 : rfS tp n B K8 (tr1 tp n r) := h8
              obtain ⟨t, f, e8⟩ := rf_r h8 (by omega)
              obtain ⟨hT6, t0, e0⟩ := k_tr1 e8
              have hrow : f 0 = nI (rowT 0 r) := by subst e0; exact pi_r hp (by decide)
              have hr0 : K8 312 0 = nI (rowT 0 r) := by rw [e8] at h8; rw [(rf_i h8).2.2.2.2.2.2]; exact hrow
              have hT5 : rowT 0 r ≤ 5 := by have := pi_row hp (i := 0) (by decide); rw [hrow, nI_toInt (by omega)] at hT6; omega
              refine g_bipush (v := nI 26) hX dX6_readTree_104 (by decide) ?_
              refine g_iconst (v := nI 5) hX dX6_readTree_106 (by decide) ?_
              refine g_aload_n hX dX6_readTree_107 rfl 0 rfl ?_
              refine g_getR (j := 312) hX (by decide) (by decide) xCl6 6 (by decide) (by decide) kX6_22 dX6_readTree_108 rfl ?_
              refine g_iconst (v := nI 0) hX dX6_readTree_111 (by decide) ?_
              refine g_iald (v := nI (rowT 0 r)) hX (by decide) (by decide) 0 rfl (by rw [(show xN 312 = 74 by decide)]; decide) dX6_readTree_112 hr0 ?_
              refine g_imul (v := nI (5 * (rowT 0 r))) hX dX6_readTree_113 (nI_mul 5 (rowT 0 r)) ?_
              refine g_iadd (v := nI (26 + (5 * (rowT 0 r)))) hX dX6_readTree_114 (nI_add 26 (5 * (rowT 0 r))) ?_
              refine g_istore (L' := [(0, .ref 307), (1, .int (kbV (nmV tp (begR tp n 0 r)))), (2, .int (nI (figR tp (tr4 tp n r)))), (3, .int (nI (figR tp (tr3 tp n r)))), (4, .int (nI (figR tp (tr2 tp n r)))), (5, .int (nI (26 + (5 * (rowT 0 r)))))]) hX dX6_readTree_115 (by decide) rfl ?_
              refine g_aload_n hX dX6_readTree_117 rfl 0 rfl ?_
              refine g_getR (j := 312) hX (by decide) (by decide) xCl6 6 (by decide) (by decide) kX6_22 dX6_readTree_118 rfl ?_
              refine g_iload hX dX6_readTree_121 5 rfl ?_
              refine g_iload_n hX dX6_readTree_123 rfl 1 rfl ?_
              refine g_iast hX (by decide) (by decide) (26 + (5 * (rowT 0 r))) rfl (by rw [(show xN 312 = 74 by decide)]; omega) dX6_readTree_124 ?_
              refine g_aload_n hX dX6_readTree_125 rfl 0 rfl ?_
              refine g_getR (j := 312) hX (by decide) (by decide) xCl6 6 (by decide) (by decide) kX6_22 dX6_readTree_126 rfl ?_
              refine g_iload hX dX6_readTree_129 5 rfl ?_
              refine g_iconst (v := nI 1) hX dX6_readTree_131 (by decide) ?_
              refine g_iadd (v := nI ((26 + (5 * (rowT 0 r))) + 1)) hX dX6_readTree_132 (nI_add (26 + (5 * (rowT 0 r))) 1) ?_
              refine g_iload_n hX dX6_readTree_133 rfl 2 rfl ?_
              refine g_iast hX (by decide) (by decide) ((26 + (5 * (rowT 0 r))) + 1) rfl (by rw [(show xN 312 = 74 by decide)]; omega) dX6_readTree_134 ?_
              refine g_aload_n hX dX6_readTree_135 rfl 0 rfl ?_
              refine g_getR (j := 312) hX (by decide) (by decide) xCl6 6 (by decide) (by decide) kX6_22 dX6_readTree_136 rfl ?_
              refine g_iload hX dX6_readTree_139 5 rfl ?_
              refine g_iconst (v := nI 2) hX dX6_readTree_141 (by decide) ?_
              refine g_iadd (v := nI ((26 + (5 * (rowT 0 r))) + 2)) hX dX6_readTree_142 (nI_add (26 + (5 * (rowT 0 r))) 2) ?_
              refine g_iload_n hX dX6_readTree_143 rfl 3 rfl ?_
              refine g_iast hX (by decide) (by decide) ((26 + (5 * (rowT 0 r))) + 2) rfl (by rw [(show xN 312 = 74 by decide)]; omega) dX6_readTree_144 ?_
              refine g_aload_n hX dX6_readTree_145 rfl 0 rfl ?_
              refine g_getR (j := 312) hX (by decide) (by decide) xCl6 6 (by decide) (by decide) kX6_22 dX6_readTree_146 rfl ?_
              refine g_iload hX dX6_readTree_149 5 rfl ?_
              refine g_iconst (v := nI 3) hX dX6_readTree_151 (by decide) ?_
              refine g_iadd (v := nI ((26 + (5 * (rowT 0 r))) + 3)) hX dX6_readTree_152 (nI_add (26 + (5 * (rowT 0 r))) 3) ?_
              refine g_iload hX dX6_readTree_153 4 rfl ?_
              refine g_iast hX (by decide) (by decide) ((26 + (5 * (rowT 0 r))) + 3) rfl (by rw [(show xN 312 = 74 by decide)]; omega) dX6_readTree_155 ?_
              refine g_aload_n hX dX6_readTree_156 rfl 0 rfl ?_
              refine g_getR (j := 312) hX (by decide) (by decide) xCl6 6 (by decide) (by decide) kX6_22 dX6_readTree_157 rfl ?_
              refine g_iconst (v := nI 0) hX dX6_readTree_160 (by decide) ?_
              refine g_dup2 hX rfl rfl dX6_readTree_161 ?_
              refine g_iald (v := nI (rowT 0 r)) hX (by decide) (by decide) 0 rfl (by rw [(show xN 312 = 74 by decide)]; decide) dX6_readTree_162 (xput_i (by omega) (xput_i (by omega) (xput_i (by omega) (xput_i (by omega) hr0)))) ?_
              refine g_iconst (v := nI 1) hX dX6_readTree_163 (by decide) ?_
              refine g_iadd (v := nI ((rowT 0 r) + 1)) hX dX6_readTree_164 (nI_add (rowT 0 r) 1) ?_
              refine g_iast hX (by decide) (by decide) 0 rfl (by rw [(show xN 312 = 74 by decide)]; decide) dX6_readTree_165 ?_
              exact g_vret hX hR dX6_readTree_166 (by decide) (by decide) ⟨rfl, rfl, (by first | exact adt_l h8 h101 | exact rf_adt h8), rfl⟩
          exact cut68 K (dup_l h2 h41)
        · obtain ⟨t, f, e2⟩ := rf_r h2 (by omega)
          have hpi : PIR (.inr (t, f)) := by obtain ⟨-, t1, e1⟩ := k_km e2; obtain ⟨-, t0, e0⟩ := k_beg e1; subst e0; exact hp
          rw [e2] at h2
          obtain ⟨htw, c14, c15, c16, c17, c18, c12⟩ := rf_i h2
          have hrk := rtk_c t.1
          have ht4 := htw.2.2.1
          refine g_aload_n hX dX6_readTree_44 rfl 0 rfl ?_
          refine g_getI (v := nI (rtk t.1)) hX (by decide) (by decide) xCl6 15 (by decide) (by decide) kX6_90 dX6_readTree_45 c15 ?_
          refine g_iconst (v := nI 3) hX dX6_readTree_48 (by decide) ?_
          refine g_ci_ne (a := ((rtk t.1 : Nat) : Int)) (b := (3 : Int)) (tgt := 68) hX dX6_readTree_49 (by decide) (nI_toInt (by omega)) (by decide) (fun h49 => ?_) (fun h49 => ?_)
          · have cut68 : ∀ (K4 : xM) (h4 : rfS tp n B K4 (tr4 tp n r)), G X 319 0 0 K4 (xRL nw sp) 68 [(0, .ref 307), (1, .int (kbV (nmV tp (begR tp n 0 r))))] [] := by
              intro K4 h4
              refine g_aload_n hX dX6_readTree_68 rfl 0 rfl ?_
              refine g_iconst (v := nI 0) hX dX6_readTree_69 (by decide) ?_
              refine g_bipush (v := nI 19) hX dX6_readTree_70 (by decide) ?_
              refine g_callVr hX (as := [.int (nI 0), .int (nI 19)]) (fun l => c_X6_number l (I := K4) (tp := tp) (n := n) (B := B) (r := tr4 tp n r) (lo := 0) (hi := 19) (ht := ht) (hr := h4) (hlo := (by decide)) (hhi := (by decide))) mX6_number vX6_number lX6_139 (by decide) (by decide) xCl6 rfl rfl dX6_readTree_72 rfl (by decide) (Nat.le_of_ble_eq_true rfl) (by decide) (by decide) (fun xK5 K5 h5 => ?_)
              obtain ⟨rfl, h5⟩ := h5
              refine g_istore_n (L' := [(0, .ref 307), (1, .int (kbV (nmV tp (begR tp n 0 r)))), (2, .int (nI (figR tp (tr4 tp n r))))]) hX dX6_readTree_75 rfl (by decide) rfl ?_
              refine g_aload_n hX dX6_readTree_76 rfl 0 rfl ?_
              refine g_iconst (v := nI 1) hX dX6_readTree_77 (by decide) ?_
              refine g_bipush (v := nI 99) hX dX6_readTree_78 (by decide) ?_
              refine g_callVr hX (as := [.int (nI 1), .int (nI 99)]) (fun l => c_X6_number l (I := K5) (tp := tp) (n := n) (B := B) (r := tr3 tp n r) (lo := 1) (hi := 99) (ht := ht) (hr := h5) (hlo := (by decide)) (hhi := (by decide))) mX6_number vX6_number lX6_139 (by decide) (by decide) xCl6 rfl rfl dX6_readTree_80 rfl (by decide) (Nat.le_of_ble_eq_true rfl) (by decide) (by decide) (fun xK6 K6 h6 => ?_)
              obtain ⟨rfl, h6⟩ := h6
              refine g_istore_n (L' := [(0, .ref 307), (1, .int (kbV (nmV tp (begR tp n 0 r)))), (2, .int (nI (figR tp (tr4 tp n r)))), (3, .int (nI (figR tp (tr3 tp n r))))]) hX dX6_readTree_83 rfl (by decide) rfl ?_
              refine g_aload_n hX dX6_readTree_84 rfl 0 rfl ?_
              refine g_iconst (v := nI 0) hX dX6_readTree_85 (by decide) ?_
              refine g_bipush (v := nI 9) hX dX6_readTree_86 (by decide) ?_
              refine g_callVr hX (as := [.int (nI 0), .int (nI 9)]) (fun l => c_X6_number l (I := K6) (tp := tp) (n := n) (B := B) (r := tr2 tp n r) (lo := 0) (hi := 9) (ht := ht) (hr := h6) (hlo := (by decide)) (hhi := (by decide))) mX6_number vX6_number lX6_139 (by decide) (by decide) xCl6 rfl rfl dX6_readTree_88 rfl (by decide) (Nat.le_of_ble_eq_true rfl) (by decide) (by decide) (fun xK7 K7 h7 => ?_)
              obtain ⟨rfl, h7⟩ := h7
              refine g_istore (L' := [(0, .ref 307), (1, .int (kbV (nmV tp (begR tp n 0 r)))), (2, .int (nI (figR tp (tr4 tp n r)))), (3, .int (nI (figR tp (tr3 tp n r)))), (4, .int (nI (figR tp (tr2 tp n r))))]) hX dX6_readTree_91 (by decide) rfl ?_
              refine g_aload_n hX dX6_readTree_93 rfl 0 rfl ?_
              refine g_callVrv hX (as := []) (fun l => c_X6_mustEnd l (I := K7) (tp := tp) (n := n) (B := B) (r := numR tp n 0 9 (tr2 tp n r)) (ht := (by first | assumption | omega)) (hr := h7)) mX6_mustEnd vX6_mustEnd lX6_143 (by decide) (by decide) xCl6 rfl rfl dX6_readTree_94 rfl (by decide) (Nat.le_of_ble_eq_true rfl) (by decide) (by decide) (fun K8 h8 => ?_)
              refine g_aload_n hX dX6_readTree_97 rfl 0 rfl ?_
              refine g_getI (v := K8 307 18) hX (by decide) (by decide) xCl6 18 (by decide) (by decide) kX6_102 dX6_readTree_98 rfl ?_
              refine g_cz_ne (a := (K8 307 18).toInt) (tgt := 166) hX dX6_readTree_101 (by decide) rfl (fun h101 => ?_) (fun h101 => ?_)
              · exact g_vret hX hR dX6_readTree_166 (by decide) (by decide) ⟨rfl, rfl, (by first | exact adt_l h8 h101 | exact rf_adt h8), rfl⟩
              · have h8 : rfS tp n B K8 (tr1 tp n r) := h8
                obtain ⟨t, f, e8⟩ := rf_r h8 (by omega)
                obtain ⟨hT6, t0, e0⟩ := k_tr1 e8
                have hrow : f 0 = nI (rowT 0 r) := by subst e0; exact pi_r hp (by decide)
                have hr0 : K8 312 0 = nI (rowT 0 r) := by rw [e8] at h8; rw [(rf_i h8).2.2.2.2.2.2]; exact hrow
                have hT5 : rowT 0 r ≤ 5 := by have := pi_row hp (i := 0) (by decide); rw [hrow, nI_toInt (by omega)] at hT6; omega
                refine g_bipush (v := nI 26) hX dX6_readTree_104 (by decide) ?_
                refine g_iconst (v := nI 5) hX dX6_readTree_106 (by decide) ?_
                refine g_aload_n hX dX6_readTree_107 rfl 0 rfl ?_
                refine g_getR (j := 312) hX (by decide) (by decide) xCl6 6 (by decide) (by decide) kX6_22 dX6_readTree_108 rfl ?_
                refine g_iconst (v := nI 0) hX dX6_readTree_111 (by decide) ?_
                refine g_iald (v := nI (rowT 0 r)) hX (by decide) (by decide) 0 rfl (by rw [(show xN 312 = 74 by decide)]; decide) dX6_readTree_112 hr0 ?_
                refine g_imul (v := nI (5 * (rowT 0 r))) hX dX6_readTree_113 (nI_mul 5 (rowT 0 r)) ?_
                refine g_iadd (v := nI (26 + (5 * (rowT 0 r)))) hX dX6_readTree_114 (nI_add 26 (5 * (rowT 0 r))) ?_
                refine g_istore (L' := [(0, .ref 307), (1, .int (kbV (nmV tp (begR tp n 0 r)))), (2, .int (nI (figR tp (tr4 tp n r)))), (3, .int (nI (figR tp (tr3 tp n r)))), (4, .int (nI (figR tp (tr2 tp n r)))), (5, .int (nI (26 + (5 * (rowT 0 r)))))]) hX dX6_readTree_115 (by decide) rfl ?_
                refine g_aload_n hX dX6_readTree_117 rfl 0 rfl ?_
                refine g_getR (j := 312) hX (by decide) (by decide) xCl6 6 (by decide) (by decide) kX6_22 dX6_readTree_118 rfl ?_
                refine g_iload hX dX6_readTree_121 5 rfl ?_
                refine g_iload_n hX dX6_readTree_123 rfl 1 rfl ?_
                refine g_iast hX (by decide) (by decide) (26 + (5 * (rowT 0 r))) rfl (by rw [(show xN 312 = 74 by decide)]; omega) dX6_readTree_124 ?_
                refine g_aload_n hX dX6_readTree_125 rfl 0 rfl ?_
                refine g_getR (j := 312) hX (by decide) (by decide) xCl6 6 (by decide) (by decide) kX6_22 dX6_readTree_126 rfl ?_
                refine g_iload hX dX6_readTree_129 5 rfl ?_
                refine g_iconst (v := nI 1) hX dX6_readTree_131 (by decide) ?_
                refine g_iadd (v := nI ((26 + (5 * (rowT 0 r))) + 1)) hX dX6_readTree_132 (nI_add (26 + (5 * (rowT 0 r))) 1) ?_
                refine g_iload_n hX dX6_readTree_133 rfl 2 rfl ?_
                refine g_iast hX (by decide) (by decide) ((26 + (5 * (rowT 0 r))) + 1) rfl (by rw [(show xN 312 = 74 by decide)]; omega) dX6_readTree_134 ?_
                refine g_aload_n hX dX6_readTree_135 rfl 0 rfl ?_
                refine g_getR (j := 312) hX (by decide) (by decide) xCl6 6 (by decide) (by decide) kX6_22 dX6_readTree_136 rfl ?_
                refine g_iload hX dX6_readTree_139 5 rfl ?_
                refine g_iconst (v := nI 2) hX dX6_readTree_141 (by decide) ?_
                refine g_iadd (v := nI ((26 + (5 * (rowT 0 r))) + 2)) hX dX6_readTree_142 (nI_add (26 + (5 * (rowT 0 r))) 2) ?_
                refine g_iload_n hX dX6_readTree_143 rfl 3 rfl ?_
                refine g_iast hX (by decide) (by decide) ((26 + (5 * (rowT 0 r))) + 2) rfl (by rw [(show xN 312 = 74 by decide)]; omega) dX6_readTree_144 ?_
                refine g_aload_n hX dX6_readTree_145 rfl 0 rfl ?_
                refine g_getR (j := 312) hX (by decide) (by decide) xCl6 6 (by decide) (by decide) kX6_22 dX6_readTree_146 rfl ?_
                refine g_iload hX dX6_readTree_149 5 rfl ?_
                refine g_iconst (v := nI 3) hX dX6_readTree_151 (by decide) ?_
                refine g_iadd (v := nI ((26 + (5 * (rowT 0 r))) + 3)) hX dX6_readTree_152 (nI_add (26 + (5 * (rowT 0 r))) 3) ?_
                refine g_iload hX dX6_readTree_153 4 rfl ?_
                refine g_iast hX (by decide) (by decide) ((26 + (5 * (rowT 0 r))) + 3) rfl (by rw [(show xN 312 = 74 by decide)]; omega) dX6_readTree_155 ?_
                refine g_aload_n hX dX6_readTree_156 rfl 0 rfl ?_
                refine g_getR (j := 312) hX (by decide) (by decide) xCl6 6 (by decide) (by decide) kX6_22 dX6_readTree_157 rfl ?_
                refine g_iconst (v := nI 0) hX dX6_readTree_160 (by decide) ?_
                refine g_dup2 hX rfl rfl dX6_readTree_161 ?_
                refine g_iald (v := nI (rowT 0 r)) hX (by decide) (by decide) 0 rfl (by rw [(show xN 312 = 74 by decide)]; decide) dX6_readTree_162 (xput_i (by omega) (xput_i (by omega) (xput_i (by omega) (xput_i (by omega) hr0)))) ?_
                refine g_iconst (v := nI 1) hX dX6_readTree_163 (by decide) ?_
                refine g_iadd (v := nI ((rowT 0 r) + 1)) hX dX6_readTree_164 (nI_add (rowT 0 r) 1) ?_
                refine g_iast hX (by decide) (by decide) 0 rfl (by rw [(show xN 312 = 74 by decide)]; decide) dX6_readTree_165 ?_
                exact g_vret hX hR dX6_readTree_166 (by decide) (by decide) ⟨rfl, rfl, (by first | exact adt_l h8 h101 | exact rf_adt h8), rfl⟩
            exact cut68 K (by show rfS tp n B _ (dupR tp (kmR tp n (begR tp n 0 r))); rw [e2, dup_n (fun q => h49 (by have q1 : t.1 = 2 := q.1; omega))]; exact h2)
          · refine g_aload_n hX dX6_readTree_52 rfl 0 rfl ?_
            refine g_aload_n hX dX6_readTree_53 rfl 0 rfl ?_
            refine g_callVi hX (as := []) (fun l => c_X6_figures l (I := K) (tp := tp) (n := n) (B := B) (t := t) (f := f) (ht := ht) (hr := h2)) mX6_figures vX6_figures lX6_115 (by decide) (by decide) xCl6 rfl rfl dX6_readTree_54 rfl (by decide) (Nat.le_of_ble_eq_true rfl) (by decide) (by decide) ?_
            refine g_callVi hX (as := [.int (nI (figR tp (.inr (t, f))))]) (fun l => c_X6_isTold l (I := K) (v := (figR tp (.inr (t, f)))) (T := (rowT 0 (.inr (t, f)))) (hT := ((congrFun c12 0).trans (pi_r hpi (by decide)))) (hT6 := (pi_row hpi (by decide))) (hv9 := (fig_le htw))) mX6_isTold vX6_isTold lX6_154 (by decide) (by decide) xCl6 rfl rfl dX6_readTree_57 rfl (by decide) (Nat.le_of_ble_eq_true rfl) (by decide) (by decide) ?_
            refine g_cb_eq (tgt := 68) hX dX6_readTree_60 (by decide) (fun h60 => ?_) (fun h60 => ?_)
            · have cut68 : ∀ (K4 : xM) (h4 : rfS tp n B K4 (tr4 tp n r)), G X 319 0 0 K4 (xRL nw sp) 68 [(0, .ref 307), (1, .int (kbV (nmV tp (begR tp n 0 r))))] [] := by
                intro K4 h4
                refine g_aload_n hX dX6_readTree_68 rfl 0 rfl ?_
                refine g_iconst (v := nI 0) hX dX6_readTree_69 (by decide) ?_
                refine g_bipush (v := nI 19) hX dX6_readTree_70 (by decide) ?_
                refine g_callVr hX (as := [.int (nI 0), .int (nI 19)]) (fun l => c_X6_number l (I := K4) (tp := tp) (n := n) (B := B) (r := tr4 tp n r) (lo := 0) (hi := 19) (ht := ht) (hr := h4) (hlo := (by decide)) (hhi := (by decide))) mX6_number vX6_number lX6_139 (by decide) (by decide) xCl6 rfl rfl dX6_readTree_72 rfl (by decide) (Nat.le_of_ble_eq_true rfl) (by decide) (by decide) (fun xK5 K5 h5 => ?_)
                obtain ⟨rfl, h5⟩ := h5
                refine g_istore_n (L' := [(0, .ref 307), (1, .int (kbV (nmV tp (begR tp n 0 r)))), (2, .int (nI (figR tp (tr4 tp n r))))]) hX dX6_readTree_75 rfl (by decide) rfl ?_
                refine g_aload_n hX dX6_readTree_76 rfl 0 rfl ?_
                refine g_iconst (v := nI 1) hX dX6_readTree_77 (by decide) ?_
                refine g_bipush (v := nI 99) hX dX6_readTree_78 (by decide) ?_
                refine g_callVr hX (as := [.int (nI 1), .int (nI 99)]) (fun l => c_X6_number l (I := K5) (tp := tp) (n := n) (B := B) (r := tr3 tp n r) (lo := 1) (hi := 99) (ht := ht) (hr := h5) (hlo := (by decide)) (hhi := (by decide))) mX6_number vX6_number lX6_139 (by decide) (by decide) xCl6 rfl rfl dX6_readTree_80 rfl (by decide) (Nat.le_of_ble_eq_true rfl) (by decide) (by decide) (fun xK6 K6 h6 => ?_)
                obtain ⟨rfl, h6⟩ := h6
                refine g_istore_n (L' := [(0, .ref 307), (1, .int (kbV (nmV tp (begR tp n 0 r)))), (2, .int (nI (figR tp (tr4 tp n r)))), (3, .int (nI (figR tp (tr3 tp n r))))]) hX dX6_readTree_83 rfl (by decide) rfl ?_
                refine g_aload_n hX dX6_readTree_84 rfl 0 rfl ?_
                refine g_iconst (v := nI 0) hX dX6_readTree_85 (by decide) ?_
                refine g_bipush (v := nI 9) hX dX6_readTree_86 (by decide) ?_
                refine g_callVr hX (as := [.int (nI 0), .int (nI 9)]) (fun l => c_X6_number l (I := K6) (tp := tp) (n := n) (B := B) (r := tr2 tp n r) (lo := 0) (hi := 9) (ht := ht) (hr := h6) (hlo := (by decide)) (hhi := (by decide))) mX6_number vX6_number lX6_139 (by decide) (by decide) xCl6 rfl rfl dX6_readTree_88 rfl (by decide) (Nat.le_of_ble_eq_true rfl) (by decide) (by decide) (fun xK7 K7 h7 => ?_)
                obtain ⟨rfl, h7⟩ := h7
                refine g_istore (L' := [(0, .ref 307), (1, .int (kbV (nmV tp (begR tp n 0 r)))), (2, .int (nI (figR tp (tr4 tp n r)))), (3, .int (nI (figR tp (tr3 tp n r)))), (4, .int (nI (figR tp (tr2 tp n r))))]) hX dX6_readTree_91 (by decide) rfl ?_
                refine g_aload_n hX dX6_readTree_93 rfl 0 rfl ?_
                refine g_callVrv hX (as := []) (fun l => c_X6_mustEnd l (I := K7) (tp := tp) (n := n) (B := B) (r := numR tp n 0 9 (tr2 tp n r)) (ht := (by first | assumption | omega)) (hr := h7)) mX6_mustEnd vX6_mustEnd lX6_143 (by decide) (by decide) xCl6 rfl rfl dX6_readTree_94 rfl (by decide) (Nat.le_of_ble_eq_true rfl) (by decide) (by decide) (fun K8 h8 => ?_)
                refine g_aload_n hX dX6_readTree_97 rfl 0 rfl ?_
                refine g_getI (v := K8 307 18) hX (by decide) (by decide) xCl6 18 (by decide) (by decide) kX6_102 dX6_readTree_98 rfl ?_
                refine g_cz_ne (a := (K8 307 18).toInt) (tgt := 166) hX dX6_readTree_101 (by decide) rfl (fun h101 => ?_) (fun h101 => ?_)
                · exact g_vret hX hR dX6_readTree_166 (by decide) (by decide) ⟨rfl, rfl, (by first | exact adt_l h8 h101 | exact rf_adt h8), rfl⟩
                · have h8 : rfS tp n B K8 (tr1 tp n r) := h8
                  obtain ⟨t, f, e8⟩ := rf_r h8 (by omega)
                  obtain ⟨hT6, t0, e0⟩ := k_tr1 e8
                  have hrow : f 0 = nI (rowT 0 r) := by subst e0; exact pi_r hp (by decide)
                  have hr0 : K8 312 0 = nI (rowT 0 r) := by rw [e8] at h8; rw [(rf_i h8).2.2.2.2.2.2]; exact hrow
                  have hT5 : rowT 0 r ≤ 5 := by have := pi_row hp (i := 0) (by decide); rw [hrow, nI_toInt (by omega)] at hT6; omega
                  refine g_bipush (v := nI 26) hX dX6_readTree_104 (by decide) ?_
                  refine g_iconst (v := nI 5) hX dX6_readTree_106 (by decide) ?_
                  refine g_aload_n hX dX6_readTree_107 rfl 0 rfl ?_
                  refine g_getR (j := 312) hX (by decide) (by decide) xCl6 6 (by decide) (by decide) kX6_22 dX6_readTree_108 rfl ?_
                  refine g_iconst (v := nI 0) hX dX6_readTree_111 (by decide) ?_
                  refine g_iald (v := nI (rowT 0 r)) hX (by decide) (by decide) 0 rfl (by rw [(show xN 312 = 74 by decide)]; decide) dX6_readTree_112 hr0 ?_
                  refine g_imul (v := nI (5 * (rowT 0 r))) hX dX6_readTree_113 (nI_mul 5 (rowT 0 r)) ?_
                  refine g_iadd (v := nI (26 + (5 * (rowT 0 r)))) hX dX6_readTree_114 (nI_add 26 (5 * (rowT 0 r))) ?_
                  refine g_istore (L' := [(0, .ref 307), (1, .int (kbV (nmV tp (begR tp n 0 r)))), (2, .int (nI (figR tp (tr4 tp n r)))), (3, .int (nI (figR tp (tr3 tp n r)))), (4, .int (nI (figR tp (tr2 tp n r)))), (5, .int (nI (26 + (5 * (rowT 0 r)))))]) hX dX6_readTree_115 (by decide) rfl ?_
                  refine g_aload_n hX dX6_readTree_117 rfl 0 rfl ?_
                  refine g_getR (j := 312) hX (by decide) (by decide) xCl6 6 (by decide) (by decide) kX6_22 dX6_readTree_118 rfl ?_
                  refine g_iload hX dX6_readTree_121 5 rfl ?_
                  refine g_iload_n hX dX6_readTree_123 rfl 1 rfl ?_
                  refine g_iast hX (by decide) (by decide) (26 + (5 * (rowT 0 r))) rfl (by rw [(show xN 312 = 74 by decide)]; omega) dX6_readTree_124 ?_
                  refine g_aload_n hX dX6_readTree_125 rfl 0 rfl ?_
                  refine g_getR (j := 312) hX (by decide) (by decide) xCl6 6 (by decide) (by decide) kX6_22 dX6_readTree_126 rfl ?_
                  refine g_iload hX dX6_readTree_129 5 rfl ?_
                  refine g_iconst (v := nI 1) hX dX6_readTree_131 (by decide) ?_
                  refine g_iadd (v := nI ((26 + (5 * (rowT 0 r))) + 1)) hX dX6_readTree_132 (nI_add (26 + (5 * (rowT 0 r))) 1) ?_
                  refine g_iload_n hX dX6_readTree_133 rfl 2 rfl ?_
                  refine g_iast hX (by decide) (by decide) ((26 + (5 * (rowT 0 r))) + 1) rfl (by rw [(show xN 312 = 74 by decide)]; omega) dX6_readTree_134 ?_
                  refine g_aload_n hX dX6_readTree_135 rfl 0 rfl ?_
                  refine g_getR (j := 312) hX (by decide) (by decide) xCl6 6 (by decide) (by decide) kX6_22 dX6_readTree_136 rfl ?_
                  refine g_iload hX dX6_readTree_139 5 rfl ?_
                  refine g_iconst (v := nI 2) hX dX6_readTree_141 (by decide) ?_
                  refine g_iadd (v := nI ((26 + (5 * (rowT 0 r))) + 2)) hX dX6_readTree_142 (nI_add (26 + (5 * (rowT 0 r))) 2) ?_
                  refine g_iload_n hX dX6_readTree_143 rfl 3 rfl ?_
                  refine g_iast hX (by decide) (by decide) ((26 + (5 * (rowT 0 r))) + 2) rfl (by rw [(show xN 312 = 74 by decide)]; omega) dX6_readTree_144 ?_
                  refine g_aload_n hX dX6_readTree_145 rfl 0 rfl ?_
                  refine g_getR (j := 312) hX (by decide) (by decide) xCl6 6 (by decide) (by decide) kX6_22 dX6_readTree_146 rfl ?_
                  refine g_iload hX dX6_readTree_149 5 rfl ?_
                  refine g_iconst (v := nI 3) hX dX6_readTree_151 (by decide) ?_
                  refine g_iadd (v := nI ((26 + (5 * (rowT 0 r))) + 3)) hX dX6_readTree_152 (nI_add (26 + (5 * (rowT 0 r))) 3) ?_
                  refine g_iload hX dX6_readTree_153 4 rfl ?_
                  refine g_iast hX (by decide) (by decide) ((26 + (5 * (rowT 0 r))) + 3) rfl (by rw [(show xN 312 = 74 by decide)]; omega) dX6_readTree_155 ?_
                  refine g_aload_n hX dX6_readTree_156 rfl 0 rfl ?_
                  refine g_getR (j := 312) hX (by decide) (by decide) xCl6 6 (by decide) (by decide) kX6_22 dX6_readTree_157 rfl ?_
                  refine g_iconst (v := nI 0) hX dX6_readTree_160 (by decide) ?_
                  refine g_dup2 hX rfl rfl dX6_readTree_161 ?_
                  refine g_iald (v := nI (rowT 0 r)) hX (by decide) (by decide) 0 rfl (by rw [(show xN 312 = 74 by decide)]; decide) dX6_readTree_162 (xput_i (by omega) (xput_i (by omega) (xput_i (by omega) (xput_i (by omega) hr0)))) ?_
                  refine g_iconst (v := nI 1) hX dX6_readTree_163 (by decide) ?_
                  refine g_iadd (v := nI ((rowT 0 r) + 1)) hX dX6_readTree_164 (nI_add (rowT 0 r) 1) ?_
                  refine g_iast hX (by decide) (by decide) 0 rfl (by rw [(show xN 312 = 74 by decide)]; decide) dX6_readTree_165 ?_
                  exact g_vret hX hR dX6_readTree_166 (by decide) (by decide) ⟨rfl, rfl, (by first | exact adt_l h8 h101 | exact rf_adt h8), rfl⟩
              exact cut68 K (by show rfS tp n B _ (dupR tp (kmR tp n (begR tp n 0 r))); rw [e2, dup_n (fun q => h60 (by obtain ⟨-, u, a, b, c⟩ := q; exact ⟨u, a, b, by rw [c12]; exact c⟩))]; exact h2)
            · refine g_aload_n hX dX6_readTree_63 rfl 0 rfl ?_
              refine g_iconst (v := nI 2) hX dX6_readTree_64 (by decide) ?_
              refine g_callVrv hX (as := [.int (nI 2)]) (fun l => c_X6_bad l (I := K) (tp := tp) (n := n) (B := B) (r := .inr (t, f)) (k := 2) (hr := h2) (hk := (by first | assumption | omega))) mX6_bad vX6_bad lX6_111 (by decide) (by decide) xCl6 rfl rfl dX6_readTree_65 rfl (by decide) (Nat.le_of_ble_eq_true rfl) (by decide) (by decide) (fun K3 h3 => ?_)
              have cut68 : ∀ (K4 : xM) (h4 : rfS tp n B K4 (tr4 tp n r)), G X 319 0 0 K4 (xRL nw sp) 68 [(0, .ref 307), (1, .int (kbV (nmV tp (begR tp n 0 r))))] [] := by
                intro K4 h4
                refine g_aload_n hX dX6_readTree_68 rfl 0 rfl ?_
                refine g_iconst (v := nI 0) hX dX6_readTree_69 (by decide) ?_
                refine g_bipush (v := nI 19) hX dX6_readTree_70 (by decide) ?_
                refine g_callVr hX (as := [.int (nI 0), .int (nI 19)]) (fun l => c_X6_number l (I := K4) (tp := tp) (n := n) (B := B) (r := tr4 tp n r) (lo := 0) (hi := 19) (ht := ht) (hr := h4) (hlo := (by decide)) (hhi := (by decide))) mX6_number vX6_number lX6_139 (by decide) (by decide) xCl6 rfl rfl dX6_readTree_72 rfl (by decide) (Nat.le_of_ble_eq_true rfl) (by decide) (by decide) (fun xK5 K5 h5 => ?_)
                obtain ⟨rfl, h5⟩ := h5
                refine g_istore_n (L' := [(0, .ref 307), (1, .int (kbV (nmV tp (begR tp n 0 r)))), (2, .int (nI (figR tp (tr4 tp n r))))]) hX dX6_readTree_75 rfl (by decide) rfl ?_
                refine g_aload_n hX dX6_readTree_76 rfl 0 rfl ?_
                refine g_iconst (v := nI 1) hX dX6_readTree_77 (by decide) ?_
                refine g_bipush (v := nI 99) hX dX6_readTree_78 (by decide) ?_
                refine g_callVr hX (as := [.int (nI 1), .int (nI 99)]) (fun l => c_X6_number l (I := K5) (tp := tp) (n := n) (B := B) (r := tr3 tp n r) (lo := 1) (hi := 99) (ht := ht) (hr := h5) (hlo := (by decide)) (hhi := (by decide))) mX6_number vX6_number lX6_139 (by decide) (by decide) xCl6 rfl rfl dX6_readTree_80 rfl (by decide) (Nat.le_of_ble_eq_true rfl) (by decide) (by decide) (fun xK6 K6 h6 => ?_)
                obtain ⟨rfl, h6⟩ := h6
                refine g_istore_n (L' := [(0, .ref 307), (1, .int (kbV (nmV tp (begR tp n 0 r)))), (2, .int (nI (figR tp (tr4 tp n r)))), (3, .int (nI (figR tp (tr3 tp n r))))]) hX dX6_readTree_83 rfl (by decide) rfl ?_
                refine g_aload_n hX dX6_readTree_84 rfl 0 rfl ?_
                refine g_iconst (v := nI 0) hX dX6_readTree_85 (by decide) ?_
                refine g_bipush (v := nI 9) hX dX6_readTree_86 (by decide) ?_
                refine g_callVr hX (as := [.int (nI 0), .int (nI 9)]) (fun l => c_X6_number l (I := K6) (tp := tp) (n := n) (B := B) (r := tr2 tp n r) (lo := 0) (hi := 9) (ht := ht) (hr := h6) (hlo := (by decide)) (hhi := (by decide))) mX6_number vX6_number lX6_139 (by decide) (by decide) xCl6 rfl rfl dX6_readTree_88 rfl (by decide) (Nat.le_of_ble_eq_true rfl) (by decide) (by decide) (fun xK7 K7 h7 => ?_)
                obtain ⟨rfl, h7⟩ := h7
                refine g_istore (L' := [(0, .ref 307), (1, .int (kbV (nmV tp (begR tp n 0 r)))), (2, .int (nI (figR tp (tr4 tp n r)))), (3, .int (nI (figR tp (tr3 tp n r)))), (4, .int (nI (figR tp (tr2 tp n r))))]) hX dX6_readTree_91 (by decide) rfl ?_
                refine g_aload_n hX dX6_readTree_93 rfl 0 rfl ?_
                refine g_callVrv hX (as := []) (fun l => c_X6_mustEnd l (I := K7) (tp := tp) (n := n) (B := B) (r := numR tp n 0 9 (tr2 tp n r)) (ht := (by first | assumption | omega)) (hr := h7)) mX6_mustEnd vX6_mustEnd lX6_143 (by decide) (by decide) xCl6 rfl rfl dX6_readTree_94 rfl (by decide) (Nat.le_of_ble_eq_true rfl) (by decide) (by decide) (fun K8 h8 => ?_)
                refine g_aload_n hX dX6_readTree_97 rfl 0 rfl ?_
                refine g_getI (v := K8 307 18) hX (by decide) (by decide) xCl6 18 (by decide) (by decide) kX6_102 dX6_readTree_98 rfl ?_
                refine g_cz_ne (a := (K8 307 18).toInt) (tgt := 166) hX dX6_readTree_101 (by decide) rfl (fun h101 => ?_) (fun h101 => ?_)
                · exact g_vret hX hR dX6_readTree_166 (by decide) (by decide) ⟨rfl, rfl, (by first | exact adt_l h8 h101 | exact rf_adt h8), rfl⟩
                · have h8 : rfS tp n B K8 (tr1 tp n r) := h8
                  obtain ⟨t, f, e8⟩ := rf_r h8 (by omega)
                  obtain ⟨hT6, t0, e0⟩ := k_tr1 e8
                  have hrow : f 0 = nI (rowT 0 r) := by subst e0; exact pi_r hp (by decide)
                  have hr0 : K8 312 0 = nI (rowT 0 r) := by rw [e8] at h8; rw [(rf_i h8).2.2.2.2.2.2]; exact hrow
                  have hT5 : rowT 0 r ≤ 5 := by have := pi_row hp (i := 0) (by decide); rw [hrow, nI_toInt (by omega)] at hT6; omega
                  refine g_bipush (v := nI 26) hX dX6_readTree_104 (by decide) ?_
                  refine g_iconst (v := nI 5) hX dX6_readTree_106 (by decide) ?_
                  refine g_aload_n hX dX6_readTree_107 rfl 0 rfl ?_
                  refine g_getR (j := 312) hX (by decide) (by decide) xCl6 6 (by decide) (by decide) kX6_22 dX6_readTree_108 rfl ?_
                  refine g_iconst (v := nI 0) hX dX6_readTree_111 (by decide) ?_
                  refine g_iald (v := nI (rowT 0 r)) hX (by decide) (by decide) 0 rfl (by rw [(show xN 312 = 74 by decide)]; decide) dX6_readTree_112 hr0 ?_
                  refine g_imul (v := nI (5 * (rowT 0 r))) hX dX6_readTree_113 (nI_mul 5 (rowT 0 r)) ?_
                  refine g_iadd (v := nI (26 + (5 * (rowT 0 r)))) hX dX6_readTree_114 (nI_add 26 (5 * (rowT 0 r))) ?_
                  refine g_istore (L' := [(0, .ref 307), (1, .int (kbV (nmV tp (begR tp n 0 r)))), (2, .int (nI (figR tp (tr4 tp n r)))), (3, .int (nI (figR tp (tr3 tp n r)))), (4, .int (nI (figR tp (tr2 tp n r)))), (5, .int (nI (26 + (5 * (rowT 0 r)))))]) hX dX6_readTree_115 (by decide) rfl ?_
                  refine g_aload_n hX dX6_readTree_117 rfl 0 rfl ?_
                  refine g_getR (j := 312) hX (by decide) (by decide) xCl6 6 (by decide) (by decide) kX6_22 dX6_readTree_118 rfl ?_
                  refine g_iload hX dX6_readTree_121 5 rfl ?_
                  refine g_iload_n hX dX6_readTree_123 rfl 1 rfl ?_
                  refine g_iast hX (by decide) (by decide) (26 + (5 * (rowT 0 r))) rfl (by rw [(show xN 312 = 74 by decide)]; omega) dX6_readTree_124 ?_
                  refine g_aload_n hX dX6_readTree_125 rfl 0 rfl ?_
                  refine g_getR (j := 312) hX (by decide) (by decide) xCl6 6 (by decide) (by decide) kX6_22 dX6_readTree_126 rfl ?_
                  refine g_iload hX dX6_readTree_129 5 rfl ?_
                  refine g_iconst (v := nI 1) hX dX6_readTree_131 (by decide) ?_
                  refine g_iadd (v := nI ((26 + (5 * (rowT 0 r))) + 1)) hX dX6_readTree_132 (nI_add (26 + (5 * (rowT 0 r))) 1) ?_
                  refine g_iload_n hX dX6_readTree_133 rfl 2 rfl ?_
                  refine g_iast hX (by decide) (by decide) ((26 + (5 * (rowT 0 r))) + 1) rfl (by rw [(show xN 312 = 74 by decide)]; omega) dX6_readTree_134 ?_
                  refine g_aload_n hX dX6_readTree_135 rfl 0 rfl ?_
                  refine g_getR (j := 312) hX (by decide) (by decide) xCl6 6 (by decide) (by decide) kX6_22 dX6_readTree_136 rfl ?_
                  refine g_iload hX dX6_readTree_139 5 rfl ?_
                  refine g_iconst (v := nI 2) hX dX6_readTree_141 (by decide) ?_
                  refine g_iadd (v := nI ((26 + (5 * (rowT 0 r))) + 2)) hX dX6_readTree_142 (nI_add (26 + (5 * (rowT 0 r))) 2) ?_
                  refine g_iload_n hX dX6_readTree_143 rfl 3 rfl ?_
                  refine g_iast hX (by decide) (by decide) ((26 + (5 * (rowT 0 r))) + 2) rfl (by rw [(show xN 312 = 74 by decide)]; omega) dX6_readTree_144 ?_
                  refine g_aload_n hX dX6_readTree_145 rfl 0 rfl ?_
                  refine g_getR (j := 312) hX (by decide) (by decide) xCl6 6 (by decide) (by decide) kX6_22 dX6_readTree_146 rfl ?_
                  refine g_iload hX dX6_readTree_149 5 rfl ?_
                  refine g_iconst (v := nI 3) hX dX6_readTree_151 (by decide) ?_
                  refine g_iadd (v := nI ((26 + (5 * (rowT 0 r))) + 3)) hX dX6_readTree_152 (nI_add (26 + (5 * (rowT 0 r))) 3) ?_
                  refine g_iload hX dX6_readTree_153 4 rfl ?_
                  refine g_iast hX (by decide) (by decide) ((26 + (5 * (rowT 0 r))) + 3) rfl (by rw [(show xN 312 = 74 by decide)]; omega) dX6_readTree_155 ?_
                  refine g_aload_n hX dX6_readTree_156 rfl 0 rfl ?_
                  refine g_getR (j := 312) hX (by decide) (by decide) xCl6 6 (by decide) (by decide) kX6_22 dX6_readTree_157 rfl ?_
                  refine g_iconst (v := nI 0) hX dX6_readTree_160 (by decide) ?_
                  refine g_dup2 hX rfl rfl dX6_readTree_161 ?_
                  refine g_iald (v := nI (rowT 0 r)) hX (by decide) (by decide) 0 rfl (by rw [(show xN 312 = 74 by decide)]; decide) dX6_readTree_162 (xput_i (by omega) (xput_i (by omega) (xput_i (by omega) (xput_i (by omega) hr0)))) ?_
                  refine g_iconst (v := nI 1) hX dX6_readTree_163 (by decide) ?_
                  refine g_iadd (v := nI ((rowT 0 r) + 1)) hX dX6_readTree_164 (nI_add (rowT 0 r) 1) ?_
                  refine g_iast hX (by decide) (by decide) 0 rfl (by rw [(show xN 312 = 74 by decide)]; decide) dX6_readTree_165 ?_
                  exact g_vret hX hR dX6_readTree_166 (by decide) (by decide) ⟨rfl, rfl, (by first | exact adt_l h8 h101 | exact rf_adt h8), rfl⟩
              exact cut68 K3 (by show rfS tp n B _ (dupR tp (kmR tp n (begR tp n 0 r))); rw [e2, dup_y (show tdP tp (.inr (t, f)) from ⟨(show t.1 = 2 by omega), by obtain ⟨u, a, b, c⟩ := h60; exact ⟨u, a, b, by rw [← c12]; exact c⟩⟩)]; exact h3.1)
      exact cut37 K (by unfold kmR; first | (rw [if_pos (toInt_eq.mpr (h26.trans (by decide))), ← mus_0 (tp := tp) (n := n)]; exact hK) | (rw [if_neg (fun q => h26 ((toInt_eq.mp q).trans (by decide))), ← mus_1]; exact hK))
    · refine g_iconst (v := nI 1) hX dX6_readTree_29 (by decide) ?_
      refine g_goto (tgt := 34) hX dX6_readTree_30 (by decide) ?_
      refine g_callVrv hX (as := [.int (nI 1)]) (fun l => c_X6_must_1 l (I := K1) (tp := tp) (n := n) (B := B) (r := begR tp n 0 r) (ht := (by first | assumption | omega)) (hr := h1)) mX6_must vX6_must lX6_119 (by decide) (by decide) xCl6 rfl rfl dX6_readTree_34 rfl (by decide) (Nat.le_of_ble_eq_true rfl) (by decide) (by decide) (fun K hK => ?_)
      have cut37 : ∀ (K : xM) (h2 : rfS tp n B K (kmR tp n (begR tp n 0 r))), G X 319 0 0 K (xRL nw sp) 37 [(0, .ref 307), (1, .int (kbV (nmV tp (begR tp n 0 r))))] [] := by
        intro K h2
        refine g_aload_n hX dX6_readTree_37 rfl 0 rfl ?_
        refine g_getI (v := K 307 18) hX (by decide) (by decide) xCl6 18 (by decide) (by decide) kX6_102 dX6_readTree_38 rfl ?_
        refine g_cz_ne (a := (K 307 18).toInt) (tgt := 68) hX dX6_readTree_41 (by decide) rfl (fun h41 => ?_) (fun h41 => ?_)
        · have cut68 : ∀ (K4 : xM) (h4 : rfS tp n B K4 (tr4 tp n r)), G X 319 0 0 K4 (xRL nw sp) 68 [(0, .ref 307), (1, .int (kbV (nmV tp (begR tp n 0 r))))] [] := by
            intro K4 h4
            refine g_aload_n hX dX6_readTree_68 rfl 0 rfl ?_
            refine g_iconst (v := nI 0) hX dX6_readTree_69 (by decide) ?_
            refine g_bipush (v := nI 19) hX dX6_readTree_70 (by decide) ?_
            refine g_callVr hX (as := [.int (nI 0), .int (nI 19)]) (fun l => c_X6_number l (I := K4) (tp := tp) (n := n) (B := B) (r := tr4 tp n r) (lo := 0) (hi := 19) (ht := ht) (hr := h4) (hlo := (by decide)) (hhi := (by decide))) mX6_number vX6_number lX6_139 (by decide) (by decide) xCl6 rfl rfl dX6_readTree_72 rfl (by decide) (Nat.le_of_ble_eq_true rfl) (by decide) (by decide) (fun xK5 K5 h5 => ?_)
            obtain ⟨rfl, h5⟩ := h5
            refine g_istore_n (L' := [(0, .ref 307), (1, .int (kbV (nmV tp (begR tp n 0 r)))), (2, .int (nI (figR tp (tr4 tp n r))))]) hX dX6_readTree_75 rfl (by decide) rfl ?_
            refine g_aload_n hX dX6_readTree_76 rfl 0 rfl ?_
            refine g_iconst (v := nI 1) hX dX6_readTree_77 (by decide) ?_
            refine g_bipush (v := nI 99) hX dX6_readTree_78 (by decide) ?_
            refine g_callVr hX (as := [.int (nI 1), .int (nI 99)]) (fun l => c_X6_number l (I := K5) (tp := tp) (n := n) (B := B) (r := tr3 tp n r) (lo := 1) (hi := 99) (ht := ht) (hr := h5) (hlo := (by decide)) (hhi := (by decide))) mX6_number vX6_number lX6_139 (by decide) (by decide) xCl6 rfl rfl dX6_readTree_80 rfl (by decide) (Nat.le_of_ble_eq_true rfl) (by decide) (by decide) (fun xK6 K6 h6 => ?_)
            obtain ⟨rfl, h6⟩ := h6
            refine g_istore_n (L' := [(0, .ref 307), (1, .int (kbV (nmV tp (begR tp n 0 r)))), (2, .int (nI (figR tp (tr4 tp n r)))), (3, .int (nI (figR tp (tr3 tp n r))))]) hX dX6_readTree_83 rfl (by decide) rfl ?_
            refine g_aload_n hX dX6_readTree_84 rfl 0 rfl ?_
            refine g_iconst (v := nI 0) hX dX6_readTree_85 (by decide) ?_
            refine g_bipush (v := nI 9) hX dX6_readTree_86 (by decide) ?_
            refine g_callVr hX (as := [.int (nI 0), .int (nI 9)]) (fun l => c_X6_number l (I := K6) (tp := tp) (n := n) (B := B) (r := tr2 tp n r) (lo := 0) (hi := 9) (ht := ht) (hr := h6) (hlo := (by decide)) (hhi := (by decide))) mX6_number vX6_number lX6_139 (by decide) (by decide) xCl6 rfl rfl dX6_readTree_88 rfl (by decide) (Nat.le_of_ble_eq_true rfl) (by decide) (by decide) (fun xK7 K7 h7 => ?_)
            obtain ⟨rfl, h7⟩ := h7
            refine g_istore (L' := [(0, .ref 307), (1, .int (kbV (nmV tp (begR tp n 0 r)))), (2, .int (nI (figR tp (tr4 tp n r)))), (3, .int (nI (figR tp (tr3 tp n r)))), (4, .int (nI (figR tp (tr2 tp n r))))]) hX dX6_readTree_91 (by decide) rfl ?_
            refine g_aload_n hX dX6_readTree_93 rfl 0 rfl ?_
            refine g_callVrv hX (as := []) (fun l => c_X6_mustEnd l (I := K7) (tp := tp) (n := n) (B := B) (r := numR tp n 0 9 (tr2 tp n r)) (ht := (by first | assumption | omega)) (hr := h7)) mX6_mustEnd vX6_mustEnd lX6_143 (by decide) (by decide) xCl6 rfl rfl dX6_readTree_94 rfl (by decide) (Nat.le_of_ble_eq_true rfl) (by decide) (by decide) (fun K8 h8 => ?_)
            refine g_aload_n hX dX6_readTree_97 rfl 0 rfl ?_
            refine g_getI (v := K8 307 18) hX (by decide) (by decide) xCl6 18 (by decide) (by decide) kX6_102 dX6_readTree_98 rfl ?_
            refine g_cz_ne (a := (K8 307 18).toInt) (tgt := 166) hX dX6_readTree_101 (by decide) rfl (fun h101 => ?_) (fun h101 => ?_)
            · exact g_vret hX hR dX6_readTree_166 (by decide) (by decide) ⟨rfl, rfl, (by first | exact adt_l h8 h101 | exact rf_adt h8), rfl⟩
            · have h8 : rfS tp n B K8 (tr1 tp n r) := h8
              obtain ⟨t, f, e8⟩ := rf_r h8 (by omega)
              obtain ⟨hT6, t0, e0⟩ := k_tr1 e8
              have hrow : f 0 = nI (rowT 0 r) := by subst e0; exact pi_r hp (by decide)
              have hr0 : K8 312 0 = nI (rowT 0 r) := by rw [e8] at h8; rw [(rf_i h8).2.2.2.2.2.2]; exact hrow
              have hT5 : rowT 0 r ≤ 5 := by have := pi_row hp (i := 0) (by decide); rw [hrow, nI_toInt (by omega)] at hT6; omega
              refine g_bipush (v := nI 26) hX dX6_readTree_104 (by decide) ?_
              refine g_iconst (v := nI 5) hX dX6_readTree_106 (by decide) ?_
              refine g_aload_n hX dX6_readTree_107 rfl 0 rfl ?_
              refine g_getR (j := 312) hX (by decide) (by decide) xCl6 6 (by decide) (by decide) kX6_22 dX6_readTree_108 rfl ?_
              refine g_iconst (v := nI 0) hX dX6_readTree_111 (by decide) ?_
              refine g_iald (v := nI (rowT 0 r)) hX (by decide) (by decide) 0 rfl (by rw [(show xN 312 = 74 by decide)]; decide) dX6_readTree_112 hr0 ?_
              refine g_imul (v := nI (5 * (rowT 0 r))) hX dX6_readTree_113 (nI_mul 5 (rowT 0 r)) ?_
              refine g_iadd (v := nI (26 + (5 * (rowT 0 r)))) hX dX6_readTree_114 (nI_add 26 (5 * (rowT 0 r))) ?_
              refine g_istore (L' := [(0, .ref 307), (1, .int (kbV (nmV tp (begR tp n 0 r)))), (2, .int (nI (figR tp (tr4 tp n r)))), (3, .int (nI (figR tp (tr3 tp n r)))), (4, .int (nI (figR tp (tr2 tp n r)))), (5, .int (nI (26 + (5 * (rowT 0 r)))))]) hX dX6_readTree_115 (by decide) rfl ?_
              refine g_aload_n hX dX6_readTree_117 rfl 0 rfl ?_
              refine g_getR (j := 312) hX (by decide) (by decide) xCl6 6 (by decide) (by decide) kX6_22 dX6_readTree_118 rfl ?_
              refine g_iload hX dX6_readTree_121 5 rfl ?_
              refine g_iload_n hX dX6_readTree_123 rfl 1 rfl ?_
              refine g_iast hX (by decide) (by decide) (26 + (5 * (rowT 0 r))) rfl (by rw [(show xN 312 = 74 by decide)]; omega) dX6_readTree_124 ?_
              refine g_aload_n hX dX6_readTree_125 rfl 0 rfl ?_
              refine g_getR (j := 312) hX (by decide) (by decide) xCl6 6 (by decide) (by decide) kX6_22 dX6_readTree_126 rfl ?_
              refine g_iload hX dX6_readTree_129 5 rfl ?_
              refine g_iconst (v := nI 1) hX dX6_readTree_131 (by decide) ?_
              refine g_iadd (v := nI ((26 + (5 * (rowT 0 r))) + 1)) hX dX6_readTree_132 (nI_add (26 + (5 * (rowT 0 r))) 1) ?_
              refine g_iload_n hX dX6_readTree_133 rfl 2 rfl ?_
              refine g_iast hX (by decide) (by decide) ((26 + (5 * (rowT 0 r))) + 1) rfl (by rw [(show xN 312 = 74 by decide)]; omega) dX6_readTree_134 ?_
              refine g_aload_n hX dX6_readTree_135 rfl 0 rfl ?_
              refine g_getR (j := 312) hX (by decide) (by decide) xCl6 6 (by decide) (by decide) kX6_22 dX6_readTree_136 rfl ?_
              refine g_iload hX dX6_readTree_139 5 rfl ?_
              refine g_iconst (v := nI 2) hX dX6_readTree_141 (by decide) ?_
              refine g_iadd (v := nI ((26 + (5 * (rowT 0 r))) + 2)) hX dX6_readTree_142 (nI_add (26 + (5 * (rowT 0 r))) 2) ?_
              refine g_iload_n hX dX6_readTree_143 rfl 3 rfl ?_
              refine g_iast hX (by decide) (by decide) ((26 + (5 * (rowT 0 r))) + 2) rfl (by rw [(show xN 312 = 74 by decide)]; omega) dX6_readTree_144 ?_
              refine g_aload_n hX dX6_readTree_145 rfl 0 rfl ?_
              refine g_getR (j := 312) hX (by decide) (by decide) xCl6 6 (by decide) (by decide) kX6_22 dX6_readTree_146 rfl ?_
              refine g_iload hX dX6_readTree_149 5 rfl ?_
              refine g_iconst (v := nI 3) hX dX6_readTree_151 (by decide) ?_
              refine g_iadd (v := nI ((26 + (5 * (rowT 0 r))) + 3)) hX dX6_readTree_152 (nI_add (26 + (5 * (rowT 0 r))) 3) ?_
              refine g_iload hX dX6_readTree_153 4 rfl ?_
              refine g_iast hX (by decide) (by decide) ((26 + (5 * (rowT 0 r))) + 3) rfl (by rw [(show xN 312 = 74 by decide)]; omega) dX6_readTree_155 ?_
              refine g_aload_n hX dX6_readTree_156 rfl 0 rfl ?_
              refine g_getR (j := 312) hX (by decide) (by decide) xCl6 6 (by decide) (by decide) kX6_22 dX6_readTree_157 rfl ?_
              refine g_iconst (v := nI 0) hX dX6_readTree_160 (by decide) ?_
              refine g_dup2 hX rfl rfl dX6_readTree_161 ?_
              refine g_iald (v := nI (rowT 0 r)) hX (by decide) (by decide) 0 rfl (by rw [(show xN 312 = 74 by decide)]; decide) dX6_readTree_162 (xput_i (by omega) (xput_i (by omega) (xput_i (by omega) (xput_i (by omega) hr0)))) ?_
              refine g_iconst (v := nI 1) hX dX6_readTree_163 (by decide) ?_
              refine g_iadd (v := nI ((rowT 0 r) + 1)) hX dX6_readTree_164 (nI_add (rowT 0 r) 1) ?_
              refine g_iast hX (by decide) (by decide) 0 rfl (by rw [(show xN 312 = 74 by decide)]; decide) dX6_readTree_165 ?_
              exact g_vret hX hR dX6_readTree_166 (by decide) (by decide) ⟨rfl, rfl, (by first | exact adt_l h8 h101 | exact rf_adt h8), rfl⟩
          exact cut68 K (dup_l h2 h41)
        · obtain ⟨t, f, e2⟩ := rf_r h2 (by omega)
          have hpi : PIR (.inr (t, f)) := by obtain ⟨-, t1, e1⟩ := k_km e2; obtain ⟨-, t0, e0⟩ := k_beg e1; subst e0; exact hp
          rw [e2] at h2
          obtain ⟨htw, c14, c15, c16, c17, c18, c12⟩ := rf_i h2
          have hrk := rtk_c t.1
          have ht4 := htw.2.2.1
          refine g_aload_n hX dX6_readTree_44 rfl 0 rfl ?_
          refine g_getI (v := nI (rtk t.1)) hX (by decide) (by decide) xCl6 15 (by decide) (by decide) kX6_90 dX6_readTree_45 c15 ?_
          refine g_iconst (v := nI 3) hX dX6_readTree_48 (by decide) ?_
          refine g_ci_ne (a := ((rtk t.1 : Nat) : Int)) (b := (3 : Int)) (tgt := 68) hX dX6_readTree_49 (by decide) (nI_toInt (by omega)) (by decide) (fun h49 => ?_) (fun h49 => ?_)
          · have cut68 : ∀ (K4 : xM) (h4 : rfS tp n B K4 (tr4 tp n r)), G X 319 0 0 K4 (xRL nw sp) 68 [(0, .ref 307), (1, .int (kbV (nmV tp (begR tp n 0 r))))] [] := by
              intro K4 h4
              refine g_aload_n hX dX6_readTree_68 rfl 0 rfl ?_
              refine g_iconst (v := nI 0) hX dX6_readTree_69 (by decide) ?_
              refine g_bipush (v := nI 19) hX dX6_readTree_70 (by decide) ?_
              refine g_callVr hX (as := [.int (nI 0), .int (nI 19)]) (fun l => c_X6_number l (I := K4) (tp := tp) (n := n) (B := B) (r := tr4 tp n r) (lo := 0) (hi := 19) (ht := ht) (hr := h4) (hlo := (by decide)) (hhi := (by decide))) mX6_number vX6_number lX6_139 (by decide) (by decide) xCl6 rfl rfl dX6_readTree_72 rfl (by decide) (Nat.le_of_ble_eq_true rfl) (by decide) (by decide) (fun xK5 K5 h5 => ?_)
              obtain ⟨rfl, h5⟩ := h5
              refine g_istore_n (L' := [(0, .ref 307), (1, .int (kbV (nmV tp (begR tp n 0 r)))), (2, .int (nI (figR tp (tr4 tp n r))))]) hX dX6_readTree_75 rfl (by decide) rfl ?_
              refine g_aload_n hX dX6_readTree_76 rfl 0 rfl ?_
              refine g_iconst (v := nI 1) hX dX6_readTree_77 (by decide) ?_
              refine g_bipush (v := nI 99) hX dX6_readTree_78 (by decide) ?_
              refine g_callVr hX (as := [.int (nI 1), .int (nI 99)]) (fun l => c_X6_number l (I := K5) (tp := tp) (n := n) (B := B) (r := tr3 tp n r) (lo := 1) (hi := 99) (ht := ht) (hr := h5) (hlo := (by decide)) (hhi := (by decide))) mX6_number vX6_number lX6_139 (by decide) (by decide) xCl6 rfl rfl dX6_readTree_80 rfl (by decide) (Nat.le_of_ble_eq_true rfl) (by decide) (by decide) (fun xK6 K6 h6 => ?_)
              obtain ⟨rfl, h6⟩ := h6
              refine g_istore_n (L' := [(0, .ref 307), (1, .int (kbV (nmV tp (begR tp n 0 r)))), (2, .int (nI (figR tp (tr4 tp n r)))), (3, .int (nI (figR tp (tr3 tp n r))))]) hX dX6_readTree_83 rfl (by decide) rfl ?_
              refine g_aload_n hX dX6_readTree_84 rfl 0 rfl ?_
              refine g_iconst (v := nI 0) hX dX6_readTree_85 (by decide) ?_
              refine g_bipush (v := nI 9) hX dX6_readTree_86 (by decide) ?_
              refine g_callVr hX (as := [.int (nI 0), .int (nI 9)]) (fun l => c_X6_number l (I := K6) (tp := tp) (n := n) (B := B) (r := tr2 tp n r) (lo := 0) (hi := 9) (ht := ht) (hr := h6) (hlo := (by decide)) (hhi := (by decide))) mX6_number vX6_number lX6_139 (by decide) (by decide) xCl6 rfl rfl dX6_readTree_88 rfl (by decide) (Nat.le_of_ble_eq_true rfl) (by decide) (by decide) (fun xK7 K7 h7 => ?_)
              obtain ⟨rfl, h7⟩ := h7
              refine g_istore (L' := [(0, .ref 307), (1, .int (kbV (nmV tp (begR tp n 0 r)))), (2, .int (nI (figR tp (tr4 tp n r)))), (3, .int (nI (figR tp (tr3 tp n r)))), (4, .int (nI (figR tp (tr2 tp n r))))]) hX dX6_readTree_91 (by decide) rfl ?_
              refine g_aload_n hX dX6_readTree_93 rfl 0 rfl ?_
              refine g_callVrv hX (as := []) (fun l => c_X6_mustEnd l (I := K7) (tp := tp) (n := n) (B := B) (r := numR tp n 0 9 (tr2 tp n r)) (ht := (by first | assumption | omega)) (hr := h7)) mX6_mustEnd vX6_mustEnd lX6_143 (by decide) (by decide) xCl6 rfl rfl dX6_readTree_94 rfl (by decide) (Nat.le_of_ble_eq_true rfl) (by decide) (by decide) (fun K8 h8 => ?_)
              refine g_aload_n hX dX6_readTree_97 rfl 0 rfl ?_
              refine g_getI (v := K8 307 18) hX (by decide) (by decide) xCl6 18 (by decide) (by decide) kX6_102 dX6_readTree_98 rfl ?_
              refine g_cz_ne (a := (K8 307 18).toInt) (tgt := 166) hX dX6_readTree_101 (by decide) rfl (fun h101 => ?_) (fun h101 => ?_)
              · exact g_vret hX hR dX6_readTree_166 (by decide) (by decide) ⟨rfl, rfl, (by first | exact adt_l h8 h101 | exact rf_adt h8), rfl⟩
              · have h8 : rfS tp n B K8 (tr1 tp n r) := h8
                obtain ⟨t, f, e8⟩ := rf_r h8 (by omega)
                obtain ⟨hT6, t0, e0⟩ := k_tr1 e8
                have hrow : f 0 = nI (rowT 0 r) := by subst e0; exact pi_r hp (by decide)
                have hr0 : K8 312 0 = nI (rowT 0 r) := by rw [e8] at h8; rw [(rf_i h8).2.2.2.2.2.2]; exact hrow
                have hT5 : rowT 0 r ≤ 5 := by have := pi_row hp (i := 0) (by decide); rw [hrow, nI_toInt (by omega)] at hT6; omega
                refine g_bipush (v := nI 26) hX dX6_readTree_104 (by decide) ?_
                refine g_iconst (v := nI 5) hX dX6_readTree_106 (by decide) ?_
                refine g_aload_n hX dX6_readTree_107 rfl 0 rfl ?_
                refine g_getR (j := 312) hX (by decide) (by decide) xCl6 6 (by decide) (by decide) kX6_22 dX6_readTree_108 rfl ?_
                refine g_iconst (v := nI 0) hX dX6_readTree_111 (by decide) ?_
                refine g_iald (v := nI (rowT 0 r)) hX (by decide) (by decide) 0 rfl (by rw [(show xN 312 = 74 by decide)]; decide) dX6_readTree_112 hr0 ?_
                refine g_imul (v := nI (5 * (rowT 0 r))) hX dX6_readTree_113 (nI_mul 5 (rowT 0 r)) ?_
                refine g_iadd (v := nI (26 + (5 * (rowT 0 r)))) hX dX6_readTree_114 (nI_add 26 (5 * (rowT 0 r))) ?_
                refine g_istore (L' := [(0, .ref 307), (1, .int (kbV (nmV tp (begR tp n 0 r)))), (2, .int (nI (figR tp (tr4 tp n r)))), (3, .int (nI (figR tp (tr3 tp n r)))), (4, .int (nI (figR tp (tr2 tp n r)))), (5, .int (nI (26 + (5 * (rowT 0 r)))))]) hX dX6_readTree_115 (by decide) rfl ?_
                refine g_aload_n hX dX6_readTree_117 rfl 0 rfl ?_
                refine g_getR (j := 312) hX (by decide) (by decide) xCl6 6 (by decide) (by decide) kX6_22 dX6_readTree_118 rfl ?_
                refine g_iload hX dX6_readTree_121 5 rfl ?_
                refine g_iload_n hX dX6_readTree_123 rfl 1 rfl ?_
                refine g_iast hX (by decide) (by decide) (26 + (5 * (rowT 0 r))) rfl (by rw [(show xN 312 = 74 by decide)]; omega) dX6_readTree_124 ?_
                refine g_aload_n hX dX6_readTree_125 rfl 0 rfl ?_
                refine g_getR (j := 312) hX (by decide) (by decide) xCl6 6 (by decide) (by decide) kX6_22 dX6_readTree_126 rfl ?_
                refine g_iload hX dX6_readTree_129 5 rfl ?_
                refine g_iconst (v := nI 1) hX dX6_readTree_131 (by decide) ?_
                refine g_iadd (v := nI ((26 + (5 * (rowT 0 r))) + 1)) hX dX6_readTree_132 (nI_add (26 + (5 * (rowT 0 r))) 1) ?_
                refine g_iload_n hX dX6_readTree_133 rfl 2 rfl ?_
                refine g_iast hX (by decide) (by decide) ((26 + (5 * (rowT 0 r))) + 1) rfl (by rw [(show xN 312 = 74 by decide)]; omega) dX6_readTree_134 ?_
                refine g_aload_n hX dX6_readTree_135 rfl 0 rfl ?_
                refine g_getR (j := 312) hX (by decide) (by decide) xCl6 6 (by decide) (by decide) kX6_22 dX6_readTree_136 rfl ?_
                refine g_iload hX dX6_readTree_139 5 rfl ?_
                refine g_iconst (v := nI 2) hX dX6_readTree_141 (by decide) ?_
                refine g_iadd (v := nI ((26 + (5 * (rowT 0 r))) + 2)) hX dX6_readTree_142 (nI_add (26 + (5 * (rowT 0 r))) 2) ?_
                refine g_iload_n hX dX6_readTree_143 rfl 3 rfl ?_
                refine g_iast hX (by decide) (by decide) ((26 + (5 * (rowT 0 r))) + 2) rfl (by rw [(show xN 312 = 74 by decide)]; omega) dX6_readTree_144 ?_
                refine g_aload_n hX dX6_readTree_145 rfl 0 rfl ?_
                refine g_getR (j := 312) hX (by decide) (by decide) xCl6 6 (by decide) (by decide) kX6_22 dX6_readTree_146 rfl ?_
                refine g_iload hX dX6_readTree_149 5 rfl ?_
                refine g_iconst (v := nI 3) hX dX6_readTree_151 (by decide) ?_
                refine g_iadd (v := nI ((26 + (5 * (rowT 0 r))) + 3)) hX dX6_readTree_152 (nI_add (26 + (5 * (rowT 0 r))) 3) ?_
                refine g_iload hX dX6_readTree_153 4 rfl ?_
                refine g_iast hX (by decide) (by decide) ((26 + (5 * (rowT 0 r))) + 3) rfl (by rw [(show xN 312 = 74 by decide)]; omega) dX6_readTree_155 ?_
                refine g_aload_n hX dX6_readTree_156 rfl 0 rfl ?_
                refine g_getR (j := 312) hX (by decide) (by decide) xCl6 6 (by decide) (by decide) kX6_22 dX6_readTree_157 rfl ?_
                refine g_iconst (v := nI 0) hX dX6_readTree_160 (by decide) ?_
                refine g_dup2 hX rfl rfl dX6_readTree_161 ?_
                refine g_iald (v := nI (rowT 0 r)) hX (by decide) (by decide) 0 rfl (by rw [(show xN 312 = 74 by decide)]; decide) dX6_readTree_162 (xput_i (by omega) (xput_i (by omega) (xput_i (by omega) (xput_i (by omega) hr0)))) ?_
                refine g_iconst (v := nI 1) hX dX6_readTree_163 (by decide) ?_
                refine g_iadd (v := nI ((rowT 0 r) + 1)) hX dX6_readTree_164 (nI_add (rowT 0 r) 1) ?_
                refine g_iast hX (by decide) (by decide) 0 rfl (by rw [(show xN 312 = 74 by decide)]; decide) dX6_readTree_165 ?_
                exact g_vret hX hR dX6_readTree_166 (by decide) (by decide) ⟨rfl, rfl, (by first | exact adt_l h8 h101 | exact rf_adt h8), rfl⟩
            exact cut68 K (by show rfS tp n B _ (dupR tp (kmR tp n (begR tp n 0 r))); rw [e2, dup_n (fun q => h49 (by have q1 : t.1 = 2 := q.1; omega))]; exact h2)
          · refine g_aload_n hX dX6_readTree_52 rfl 0 rfl ?_
            refine g_aload_n hX dX6_readTree_53 rfl 0 rfl ?_
            refine g_callVi hX (as := []) (fun l => c_X6_figures l (I := K) (tp := tp) (n := n) (B := B) (t := t) (f := f) (ht := ht) (hr := h2)) mX6_figures vX6_figures lX6_115 (by decide) (by decide) xCl6 rfl rfl dX6_readTree_54 rfl (by decide) (Nat.le_of_ble_eq_true rfl) (by decide) (by decide) ?_
            refine g_callVi hX (as := [.int (nI (figR tp (.inr (t, f))))]) (fun l => c_X6_isTold l (I := K) (v := (figR tp (.inr (t, f)))) (T := (rowT 0 (.inr (t, f)))) (hT := ((congrFun c12 0).trans (pi_r hpi (by decide)))) (hT6 := (pi_row hpi (by decide))) (hv9 := (fig_le htw))) mX6_isTold vX6_isTold lX6_154 (by decide) (by decide) xCl6 rfl rfl dX6_readTree_57 rfl (by decide) (Nat.le_of_ble_eq_true rfl) (by decide) (by decide) ?_
            refine g_cb_eq (tgt := 68) hX dX6_readTree_60 (by decide) (fun h60 => ?_) (fun h60 => ?_)
            · have cut68 : ∀ (K4 : xM) (h4 : rfS tp n B K4 (tr4 tp n r)), G X 319 0 0 K4 (xRL nw sp) 68 [(0, .ref 307), (1, .int (kbV (nmV tp (begR tp n 0 r))))] [] := by
                intro K4 h4
                refine g_aload_n hX dX6_readTree_68 rfl 0 rfl ?_
                refine g_iconst (v := nI 0) hX dX6_readTree_69 (by decide) ?_
                refine g_bipush (v := nI 19) hX dX6_readTree_70 (by decide) ?_
                refine g_callVr hX (as := [.int (nI 0), .int (nI 19)]) (fun l => c_X6_number l (I := K4) (tp := tp) (n := n) (B := B) (r := tr4 tp n r) (lo := 0) (hi := 19) (ht := ht) (hr := h4) (hlo := (by decide)) (hhi := (by decide))) mX6_number vX6_number lX6_139 (by decide) (by decide) xCl6 rfl rfl dX6_readTree_72 rfl (by decide) (Nat.le_of_ble_eq_true rfl) (by decide) (by decide) (fun xK5 K5 h5 => ?_)
                obtain ⟨rfl, h5⟩ := h5
                refine g_istore_n (L' := [(0, .ref 307), (1, .int (kbV (nmV tp (begR tp n 0 r)))), (2, .int (nI (figR tp (tr4 tp n r))))]) hX dX6_readTree_75 rfl (by decide) rfl ?_
                refine g_aload_n hX dX6_readTree_76 rfl 0 rfl ?_
                refine g_iconst (v := nI 1) hX dX6_readTree_77 (by decide) ?_
                refine g_bipush (v := nI 99) hX dX6_readTree_78 (by decide) ?_
                refine g_callVr hX (as := [.int (nI 1), .int (nI 99)]) (fun l => c_X6_number l (I := K5) (tp := tp) (n := n) (B := B) (r := tr3 tp n r) (lo := 1) (hi := 99) (ht := ht) (hr := h5) (hlo := (by decide)) (hhi := (by decide))) mX6_number vX6_number lX6_139 (by decide) (by decide) xCl6 rfl rfl dX6_readTree_80 rfl (by decide) (Nat.le_of_ble_eq_true rfl) (by decide) (by decide) (fun xK6 K6 h6 => ?_)
                obtain ⟨rfl, h6⟩ := h6
                refine g_istore_n (L' := [(0, .ref 307), (1, .int (kbV (nmV tp (begR tp n 0 r)))), (2, .int (nI (figR tp (tr4 tp n r)))), (3, .int (nI (figR tp (tr3 tp n r))))]) hX dX6_readTree_83 rfl (by decide) rfl ?_
                refine g_aload_n hX dX6_readTree_84 rfl 0 rfl ?_
                refine g_iconst (v := nI 0) hX dX6_readTree_85 (by decide) ?_
                refine g_bipush (v := nI 9) hX dX6_readTree_86 (by decide) ?_
                refine g_callVr hX (as := [.int (nI 0), .int (nI 9)]) (fun l => c_X6_number l (I := K6) (tp := tp) (n := n) (B := B) (r := tr2 tp n r) (lo := 0) (hi := 9) (ht := ht) (hr := h6) (hlo := (by decide)) (hhi := (by decide))) mX6_number vX6_number lX6_139 (by decide) (by decide) xCl6 rfl rfl dX6_readTree_88 rfl (by decide) (Nat.le_of_ble_eq_true rfl) (by decide) (by decide) (fun xK7 K7 h7 => ?_)
                obtain ⟨rfl, h7⟩ := h7
                refine g_istore (L' := [(0, .ref 307), (1, .int (kbV (nmV tp (begR tp n 0 r)))), (2, .int (nI (figR tp (tr4 tp n r)))), (3, .int (nI (figR tp (tr3 tp n r)))), (4, .int (nI (figR tp (tr2 tp n r))))]) hX dX6_readTree_91 (by decide) rfl ?_
                refine g_aload_n hX dX6_readTree_93 rfl 0 rfl ?_
                refine g_callVrv hX (as := []) (fun l => c_X6_mustEnd l (I := K7) (tp := tp) (n := n) (B := B) (r := numR tp n 0 9 (tr2 tp n r)) (ht := (by first | assumption | omega)) (hr := h7)) mX6_mustEnd vX6_mustEnd lX6_143 (by decide) (by decide) xCl6 rfl rfl dX6_readTree_94 rfl (by decide) (Nat.le_of_ble_eq_true rfl) (by decide) (by decide) (fun K8 h8 => ?_)
                refine g_aload_n hX dX6_readTree_97 rfl 0 rfl ?_
                refine g_getI (v := K8 307 18) hX (by decide) (by decide) xCl6 18 (by decide) (by decide) kX6_102 dX6_readTree_98 rfl ?_
                refine g_cz_ne (a := (K8 307 18).toInt) (tgt := 166) hX dX6_readTree_101 (by decide) rfl (fun h101 => ?_) (fun h101 => ?_)
                · exact g_vret hX hR dX6_readTree_166 (by decide) (by decide) ⟨rfl, rfl, (by first | exact adt_l h8 h101 | exact rf_adt h8), rfl⟩
                · have h8 : rfS tp n B K8 (tr1 tp n r) := h8
                  obtain ⟨t, f, e8⟩ := rf_r h8 (by omega)
                  obtain ⟨hT6, t0, e0⟩ := k_tr1 e8
                  have hrow : f 0 = nI (rowT 0 r) := by subst e0; exact pi_r hp (by decide)
                  have hr0 : K8 312 0 = nI (rowT 0 r) := by rw [e8] at h8; rw [(rf_i h8).2.2.2.2.2.2]; exact hrow
                  have hT5 : rowT 0 r ≤ 5 := by have := pi_row hp (i := 0) (by decide); rw [hrow, nI_toInt (by omega)] at hT6; omega
                  refine g_bipush (v := nI 26) hX dX6_readTree_104 (by decide) ?_
                  refine g_iconst (v := nI 5) hX dX6_readTree_106 (by decide) ?_
                  refine g_aload_n hX dX6_readTree_107 rfl 0 rfl ?_
                  refine g_getR (j := 312) hX (by decide) (by decide) xCl6 6 (by decide) (by decide) kX6_22 dX6_readTree_108 rfl ?_
                  refine g_iconst (v := nI 0) hX dX6_readTree_111 (by decide) ?_
                  refine g_iald (v := nI (rowT 0 r)) hX (by decide) (by decide) 0 rfl (by rw [(show xN 312 = 74 by decide)]; decide) dX6_readTree_112 hr0 ?_
                  refine g_imul (v := nI (5 * (rowT 0 r))) hX dX6_readTree_113 (nI_mul 5 (rowT 0 r)) ?_
                  refine g_iadd (v := nI (26 + (5 * (rowT 0 r)))) hX dX6_readTree_114 (nI_add 26 (5 * (rowT 0 r))) ?_
                  refine g_istore (L' := [(0, .ref 307), (1, .int (kbV (nmV tp (begR tp n 0 r)))), (2, .int (nI (figR tp (tr4 tp n r)))), (3, .int (nI (figR tp (tr3 tp n r)))), (4, .int (nI (figR tp (tr2 tp n r)))), (5, .int (nI (26 + (5 * (rowT 0 r)))))]) hX dX6_readTree_115 (by decide) rfl ?_
                  refine g_aload_n hX dX6_readTree_117 rfl 0 rfl ?_
                  refine g_getR (j := 312) hX (by decide) (by decide) xCl6 6 (by decide) (by decide) kX6_22 dX6_readTree_118 rfl ?_
                  refine g_iload hX dX6_readTree_121 5 rfl ?_
                  refine g_iload_n hX dX6_readTree_123 rfl 1 rfl ?_
                  refine g_iast hX (by decide) (by decide) (26 + (5 * (rowT 0 r))) rfl (by rw [(show xN 312 = 74 by decide)]; omega) dX6_readTree_124 ?_
                  refine g_aload_n hX dX6_readTree_125 rfl 0 rfl ?_
                  refine g_getR (j := 312) hX (by decide) (by decide) xCl6 6 (by decide) (by decide) kX6_22 dX6_readTree_126 rfl ?_
                  refine g_iload hX dX6_readTree_129 5 rfl ?_
                  refine g_iconst (v := nI 1) hX dX6_readTree_131 (by decide) ?_
                  refine g_iadd (v := nI ((26 + (5 * (rowT 0 r))) + 1)) hX dX6_readTree_132 (nI_add (26 + (5 * (rowT 0 r))) 1) ?_
                  refine g_iload_n hX dX6_readTree_133 rfl 2 rfl ?_
                  refine g_iast hX (by decide) (by decide) ((26 + (5 * (rowT 0 r))) + 1) rfl (by rw [(show xN 312 = 74 by decide)]; omega) dX6_readTree_134 ?_
                  refine g_aload_n hX dX6_readTree_135 rfl 0 rfl ?_
                  refine g_getR (j := 312) hX (by decide) (by decide) xCl6 6 (by decide) (by decide) kX6_22 dX6_readTree_136 rfl ?_
                  refine g_iload hX dX6_readTree_139 5 rfl ?_
                  refine g_iconst (v := nI 2) hX dX6_readTree_141 (by decide) ?_
                  refine g_iadd (v := nI ((26 + (5 * (rowT 0 r))) + 2)) hX dX6_readTree_142 (nI_add (26 + (5 * (rowT 0 r))) 2) ?_
                  refine g_iload_n hX dX6_readTree_143 rfl 3 rfl ?_
                  refine g_iast hX (by decide) (by decide) ((26 + (5 * (rowT 0 r))) + 2) rfl (by rw [(show xN 312 = 74 by decide)]; omega) dX6_readTree_144 ?_
                  refine g_aload_n hX dX6_readTree_145 rfl 0 rfl ?_
                  refine g_getR (j := 312) hX (by decide) (by decide) xCl6 6 (by decide) (by decide) kX6_22 dX6_readTree_146 rfl ?_
                  refine g_iload hX dX6_readTree_149 5 rfl ?_
                  refine g_iconst (v := nI 3) hX dX6_readTree_151 (by decide) ?_
                  refine g_iadd (v := nI ((26 + (5 * (rowT 0 r))) + 3)) hX dX6_readTree_152 (nI_add (26 + (5 * (rowT 0 r))) 3) ?_
                  refine g_iload hX dX6_readTree_153 4 rfl ?_
                  refine g_iast hX (by decide) (by decide) ((26 + (5 * (rowT 0 r))) + 3) rfl (by rw [(show xN 312 = 74 by decide)]; omega) dX6_readTree_155 ?_
                  refine g_aload_n hX dX6_readTree_156 rfl 0 rfl ?_
                  refine g_getR (j := 312) hX (by decide) (by decide) xCl6 6 (by decide) (by decide) kX6_22 dX6_readTree_157 rfl ?_
                  refine g_iconst (v := nI 0) hX dX6_readTree_160 (by decide) ?_
                  refine g_dup2 hX rfl rfl dX6_readTree_161 ?_
                  refine g_iald (v := nI (rowT 0 r)) hX (by decide) (by decide) 0 rfl (by rw [(show xN 312 = 74 by decide)]; decide) dX6_readTree_162 (xput_i (by omega) (xput_i (by omega) (xput_i (by omega) (xput_i (by omega) hr0)))) ?_
                  refine g_iconst (v := nI 1) hX dX6_readTree_163 (by decide) ?_
                  refine g_iadd (v := nI ((rowT 0 r) + 1)) hX dX6_readTree_164 (nI_add (rowT 0 r) 1) ?_
                  refine g_iast hX (by decide) (by decide) 0 rfl (by rw [(show xN 312 = 74 by decide)]; decide) dX6_readTree_165 ?_
                  exact g_vret hX hR dX6_readTree_166 (by decide) (by decide) ⟨rfl, rfl, (by first | exact adt_l h8 h101 | exact rf_adt h8), rfl⟩
              exact cut68 K (by show rfS tp n B _ (dupR tp (kmR tp n (begR tp n 0 r))); rw [e2, dup_n (fun q => h60 (by obtain ⟨-, u, a, b, c⟩ := q; exact ⟨u, a, b, by rw [c12]; exact c⟩))]; exact h2)
            · refine g_aload_n hX dX6_readTree_63 rfl 0 rfl ?_
              refine g_iconst (v := nI 2) hX dX6_readTree_64 (by decide) ?_
              refine g_callVrv hX (as := [.int (nI 2)]) (fun l => c_X6_bad l (I := K) (tp := tp) (n := n) (B := B) (r := .inr (t, f)) (k := 2) (hr := h2) (hk := (by first | assumption | omega))) mX6_bad vX6_bad lX6_111 (by decide) (by decide) xCl6 rfl rfl dX6_readTree_65 rfl (by decide) (Nat.le_of_ble_eq_true rfl) (by decide) (by decide) (fun K3 h3 => ?_)
              have cut68 : ∀ (K4 : xM) (h4 : rfS tp n B K4 (tr4 tp n r)), G X 319 0 0 K4 (xRL nw sp) 68 [(0, .ref 307), (1, .int (kbV (nmV tp (begR tp n 0 r))))] [] := by
                intro K4 h4
                refine g_aload_n hX dX6_readTree_68 rfl 0 rfl ?_
                refine g_iconst (v := nI 0) hX dX6_readTree_69 (by decide) ?_
                refine g_bipush (v := nI 19) hX dX6_readTree_70 (by decide) ?_
                refine g_callVr hX (as := [.int (nI 0), .int (nI 19)]) (fun l => c_X6_number l (I := K4) (tp := tp) (n := n) (B := B) (r := tr4 tp n r) (lo := 0) (hi := 19) (ht := ht) (hr := h4) (hlo := (by decide)) (hhi := (by decide))) mX6_number vX6_number lX6_139 (by decide) (by decide) xCl6 rfl rfl dX6_readTree_72 rfl (by decide) (Nat.le_of_ble_eq_true rfl) (by decide) (by decide) (fun xK5 K5 h5 => ?_)
                obtain ⟨rfl, h5⟩ := h5
                refine g_istore_n (L' := [(0, .ref 307), (1, .int (kbV (nmV tp (begR tp n 0 r)))), (2, .int (nI (figR tp (tr4 tp n r))))]) hX dX6_readTree_75 rfl (by decide) rfl ?_
                refine g_aload_n hX dX6_readTree_76 rfl 0 rfl ?_
                refine g_iconst (v := nI 1) hX dX6_readTree_77 (by decide) ?_
                refine g_bipush (v := nI 99) hX dX6_readTree_78 (by decide) ?_
                refine g_callVr hX (as := [.int (nI 1), .int (nI 99)]) (fun l => c_X6_number l (I := K5) (tp := tp) (n := n) (B := B) (r := tr3 tp n r) (lo := 1) (hi := 99) (ht := ht) (hr := h5) (hlo := (by decide)) (hhi := (by decide))) mX6_number vX6_number lX6_139 (by decide) (by decide) xCl6 rfl rfl dX6_readTree_80 rfl (by decide) (Nat.le_of_ble_eq_true rfl) (by decide) (by decide) (fun xK6 K6 h6 => ?_)
                obtain ⟨rfl, h6⟩ := h6
                refine g_istore_n (L' := [(0, .ref 307), (1, .int (kbV (nmV tp (begR tp n 0 r)))), (2, .int (nI (figR tp (tr4 tp n r)))), (3, .int (nI (figR tp (tr3 tp n r))))]) hX dX6_readTree_83 rfl (by decide) rfl ?_
                refine g_aload_n hX dX6_readTree_84 rfl 0 rfl ?_
                refine g_iconst (v := nI 0) hX dX6_readTree_85 (by decide) ?_
                refine g_bipush (v := nI 9) hX dX6_readTree_86 (by decide) ?_
                refine g_callVr hX (as := [.int (nI 0), .int (nI 9)]) (fun l => c_X6_number l (I := K6) (tp := tp) (n := n) (B := B) (r := tr2 tp n r) (lo := 0) (hi := 9) (ht := ht) (hr := h6) (hlo := (by decide)) (hhi := (by decide))) mX6_number vX6_number lX6_139 (by decide) (by decide) xCl6 rfl rfl dX6_readTree_88 rfl (by decide) (Nat.le_of_ble_eq_true rfl) (by decide) (by decide) (fun xK7 K7 h7 => ?_)
                obtain ⟨rfl, h7⟩ := h7
                refine g_istore (L' := [(0, .ref 307), (1, .int (kbV (nmV tp (begR tp n 0 r)))), (2, .int (nI (figR tp (tr4 tp n r)))), (3, .int (nI (figR tp (tr3 tp n r)))), (4, .int (nI (figR tp (tr2 tp n r))))]) hX dX6_readTree_91 (by decide) rfl ?_
                refine g_aload_n hX dX6_readTree_93 rfl 0 rfl ?_
                refine g_callVrv hX (as := []) (fun l => c_X6_mustEnd l (I := K7) (tp := tp) (n := n) (B := B) (r := numR tp n 0 9 (tr2 tp n r)) (ht := (by first | assumption | omega)) (hr := h7)) mX6_mustEnd vX6_mustEnd lX6_143 (by decide) (by decide) xCl6 rfl rfl dX6_readTree_94 rfl (by decide) (Nat.le_of_ble_eq_true rfl) (by decide) (by decide) (fun K8 h8 => ?_)
                refine g_aload_n hX dX6_readTree_97 rfl 0 rfl ?_
                refine g_getI (v := K8 307 18) hX (by decide) (by decide) xCl6 18 (by decide) (by decide) kX6_102 dX6_readTree_98 rfl ?_
                refine g_cz_ne (a := (K8 307 18).toInt) (tgt := 166) hX dX6_readTree_101 (by decide) rfl (fun h101 => ?_) (fun h101 => ?_)
                · exact g_vret hX hR dX6_readTree_166 (by decide) (by decide) ⟨rfl, rfl, (by first | exact adt_l h8 h101 | exact rf_adt h8), rfl⟩
                · have h8 : rfS tp n B K8 (tr1 tp n r) := h8
                  obtain ⟨t, f, e8⟩ := rf_r h8 (by omega)
                  obtain ⟨hT6, t0, e0⟩ := k_tr1 e8
                  have hrow : f 0 = nI (rowT 0 r) := by subst e0; exact pi_r hp (by decide)
                  have hr0 : K8 312 0 = nI (rowT 0 r) := by rw [e8] at h8; rw [(rf_i h8).2.2.2.2.2.2]; exact hrow
                  have hT5 : rowT 0 r ≤ 5 := by have := pi_row hp (i := 0) (by decide); rw [hrow, nI_toInt (by omega)] at hT6; omega
                  refine g_bipush (v := nI 26) hX dX6_readTree_104 (by decide) ?_
                  refine g_iconst (v := nI 5) hX dX6_readTree_106 (by decide) ?_
                  refine g_aload_n hX dX6_readTree_107 rfl 0 rfl ?_
                  refine g_getR (j := 312) hX (by decide) (by decide) xCl6 6 (by decide) (by decide) kX6_22 dX6_readTree_108 rfl ?_
                  refine g_iconst (v := nI 0) hX dX6_readTree_111 (by decide) ?_
                  refine g_iald (v := nI (rowT 0 r)) hX (by decide) (by decide) 0 rfl (by rw [(show xN 312 = 74 by decide)]; decide) dX6_readTree_112 hr0 ?_
                  refine g_imul (v := nI (5 * (rowT 0 r))) hX dX6_readTree_113 (nI_mul 5 (rowT 0 r)) ?_
                  refine g_iadd (v := nI (26 + (5 * (rowT 0 r)))) hX dX6_readTree_114 (nI_add 26 (5 * (rowT 0 r))) ?_
                  refine g_istore (L' := [(0, .ref 307), (1, .int (kbV (nmV tp (begR tp n 0 r)))), (2, .int (nI (figR tp (tr4 tp n r)))), (3, .int (nI (figR tp (tr3 tp n r)))), (4, .int (nI (figR tp (tr2 tp n r)))), (5, .int (nI (26 + (5 * (rowT 0 r)))))]) hX dX6_readTree_115 (by decide) rfl ?_
                  refine g_aload_n hX dX6_readTree_117 rfl 0 rfl ?_
                  refine g_getR (j := 312) hX (by decide) (by decide) xCl6 6 (by decide) (by decide) kX6_22 dX6_readTree_118 rfl ?_
                  refine g_iload hX dX6_readTree_121 5 rfl ?_
                  refine g_iload_n hX dX6_readTree_123 rfl 1 rfl ?_
                  refine g_iast hX (by decide) (by decide) (26 + (5 * (rowT 0 r))) rfl (by rw [(show xN 312 = 74 by decide)]; omega) dX6_readTree_124 ?_
                  refine g_aload_n hX dX6_readTree_125 rfl 0 rfl ?_
                  refine g_getR (j := 312) hX (by decide) (by decide) xCl6 6 (by decide) (by decide) kX6_22 dX6_readTree_126 rfl ?_
                  refine g_iload hX dX6_readTree_129 5 rfl ?_
                  refine g_iconst (v := nI 1) hX dX6_readTree_131 (by decide) ?_
                  refine g_iadd (v := nI ((26 + (5 * (rowT 0 r))) + 1)) hX dX6_readTree_132 (nI_add (26 + (5 * (rowT 0 r))) 1) ?_
                  refine g_iload_n hX dX6_readTree_133 rfl 2 rfl ?_
                  refine g_iast hX (by decide) (by decide) ((26 + (5 * (rowT 0 r))) + 1) rfl (by rw [(show xN 312 = 74 by decide)]; omega) dX6_readTree_134 ?_
                  refine g_aload_n hX dX6_readTree_135 rfl 0 rfl ?_
                  refine g_getR (j := 312) hX (by decide) (by decide) xCl6 6 (by decide) (by decide) kX6_22 dX6_readTree_136 rfl ?_
                  refine g_iload hX dX6_readTree_139 5 rfl ?_
                  refine g_iconst (v := nI 2) hX dX6_readTree_141 (by decide) ?_
                  refine g_iadd (v := nI ((26 + (5 * (rowT 0 r))) + 2)) hX dX6_readTree_142 (nI_add (26 + (5 * (rowT 0 r))) 2) ?_
                  refine g_iload_n hX dX6_readTree_143 rfl 3 rfl ?_
                  refine g_iast hX (by decide) (by decide) ((26 + (5 * (rowT 0 r))) + 2) rfl (by rw [(show xN 312 = 74 by decide)]; omega) dX6_readTree_144 ?_
                  refine g_aload_n hX dX6_readTree_145 rfl 0 rfl ?_
                  refine g_getR (j := 312) hX (by decide) (by decide) xCl6 6 (by decide) (by decide) kX6_22 dX6_readTree_146 rfl ?_
                  refine g_iload hX dX6_readTree_149 5 rfl ?_
                  refine g_iconst (v := nI 3) hX dX6_readTree_151 (by decide) ?_
                  refine g_iadd (v := nI ((26 + (5 * (rowT 0 r))) + 3)) hX dX6_readTree_152 (nI_add (26 + (5 * (rowT 0 r))) 3) ?_
                  refine g_iload hX dX6_readTree_153 4 rfl ?_
                  refine g_iast hX (by decide) (by decide) ((26 + (5 * (rowT 0 r))) + 3) rfl (by rw [(show xN 312 = 74 by decide)]; omega) dX6_readTree_155 ?_
                  refine g_aload_n hX dX6_readTree_156 rfl 0 rfl ?_
                  refine g_getR (j := 312) hX (by decide) (by decide) xCl6 6 (by decide) (by decide) kX6_22 dX6_readTree_157 rfl ?_
                  refine g_iconst (v := nI 0) hX dX6_readTree_160 (by decide) ?_
                  refine g_dup2 hX rfl rfl dX6_readTree_161 ?_
                  refine g_iald (v := nI (rowT 0 r)) hX (by decide) (by decide) 0 rfl (by rw [(show xN 312 = 74 by decide)]; decide) dX6_readTree_162 (xput_i (by omega) (xput_i (by omega) (xput_i (by omega) (xput_i (by omega) hr0)))) ?_
                  refine g_iconst (v := nI 1) hX dX6_readTree_163 (by decide) ?_
                  refine g_iadd (v := nI ((rowT 0 r) + 1)) hX dX6_readTree_164 (nI_add (rowT 0 r) 1) ?_
                  refine g_iast hX (by decide) (by decide) 0 rfl (by rw [(show xN 312 = 74 by decide)]; decide) dX6_readTree_165 ?_
                  exact g_vret hX hR dX6_readTree_166 (by decide) (by decide) ⟨rfl, rfl, (by first | exact adt_l h8 h101 | exact rf_adt h8), rfl⟩
              exact cut68 K3 (by show rfS tp n B _ (dupR tp (kmR tp n (begR tp n 0 r))); rw [e2, dup_y (show tdP tp (.inr (t, f)) from ⟨(show t.1 = 2 by omega), by obtain ⟨u, a, b, c⟩ := h60; exact ⟨u, a, b, by rw [← c12]; exact c⟩⟩)]; exact h3.1)
      exact cut37 K (by unfold kmR; first | (rw [if_pos (toInt_eq.mpr (h26.trans (by decide))), ← mus_0 (tp := tp) (n := n)]; exact hK) | (rw [if_neg (fun q => h26 ((toInt_eq.mp q).trans (by decide))), ← mus_1]; exact hK))

theorem c_X6_readThing (l : Launch) {nw sp : Nat} {I : xM} {tp : Nat → Nat} {n : Nat} {B : xM} {r : xS} (ht : tpP B tp n) (hr : rfS tp n B I r) (hp : PIR r) : xC l 5 0 0 yX6_readThing cX6_readThing 5 none 319 [.ref 307] I (xRL nw sp) (xpW 319 (xRL nw sp) (fun J => rfS tp n B J (thiR tp n r))) := by
  refine xC_of (by decide) (Nat.le_of_ble_eq_true rfl) (fun X hXl hX hR => ?_)
  have hX : xOK X RX6 cX6_readThing 5 5 0 0 := hX
  show G X 319 0 0 I (xRL nw sp) 0 [(0, .ref 307)] []
  refine g_aload_n hX dX6_readThing_0 rfl 0 rfl ?_
  refine g_iconst (v := nI 1) hX dX6_readThing_1 (by decide) ?_
  refine g_bipush (v := nI 6) hX dX6_readThing_2 (by decide) ?_
  refine g_callVrv hX (as := [.int (nI 1), .int (nI 6)]) (fun l => c_X6_begins l (I := I) (tp := tp) (n := n) (B := B) (r := r) (st := 1) (ht := (by first | assumption | omega)) (hr := hr) (hst := (by first | assumption | omega))) mX6_begins vX6_begins lX6_146 (by decide) (by decide) xCl6 rfl rfl dX6_readThing_4 rfl (by decide) (Nat.le_of_ble_eq_true rfl) (by decide) (by decide) (fun K1 h1 => ?_)
  refine g_aload_n hX dX6_readThing_7 rfl 0 rfl ?_
  refine g_iconst (v := nI 0) hX dX6_readThing_8 (by decide) ?_
  refine g_bipush (v := nI 19) hX dX6_readThing_9 (by decide) ?_
  refine g_callVr hX (as := [.int (nI 0), .int (nI 19)]) (fun l => c_X6_number l (I := K1) (tp := tp) (n := n) (B := B) (r := th4 tp n r) (lo := 0) (hi := 19) (ht := ht) (hr := h1) (hlo := (by decide)) (hhi := (by decide))) mX6_number vX6_number lX6_139 (by decide) (by decide) xCl6 rfl rfl dX6_readThing_11 rfl (by decide) (Nat.le_of_ble_eq_true rfl) (by decide) (by decide) (fun xK2 K2 h2 => ?_)
  obtain ⟨rfl, h2⟩ := h2
  refine g_istore_n (L' := [(0, .ref 307), (1, .int (nI (figR tp (th4 tp n r))))]) hX dX6_readThing_14 rfl (by decide) rfl ?_
  refine g_aload_n hX dX6_readThing_15 rfl 0 rfl ?_
  refine g_iconst (v := nI 1) hX dX6_readThing_16 (by decide) ?_
  refine g_bipush (v := nI 99) hX dX6_readThing_17 (by decide) ?_
  refine g_callVr hX (as := [.int (nI 1), .int (nI 99)]) (fun l => c_X6_number l (I := K2) (tp := tp) (n := n) (B := B) (r := th3 tp n r) (lo := 1) (hi := 99) (ht := ht) (hr := h2) (hlo := (by decide)) (hhi := (by decide))) mX6_number vX6_number lX6_139 (by decide) (by decide) xCl6 rfl rfl dX6_readThing_19 rfl (by decide) (Nat.le_of_ble_eq_true rfl) (by decide) (by decide) (fun xK3 K3 h3 => ?_)
  obtain ⟨rfl, h3⟩ := h3
  refine g_istore_n (L' := [(0, .ref 307), (1, .int (nI (figR tp (th4 tp n r)))), (2, .int (nI (figR tp (th3 tp n r))))]) hX dX6_readThing_22 rfl (by decide) rfl ?_
  refine g_aload_n hX dX6_readThing_23 rfl 0 rfl ?_
  refine g_callVl hX (as := []) (fun l => c_X6_name l (I := K3) (tp := tp) (n := n) (B := B) (r := th2 tp n r) (ht := ht) (hr := h3)) mX6_name vX6_name lX6_133 (by decide) (by decide) xCl6 rfl rfl dX6_readThing_24 rfl (by decide) (Nat.le_of_ble_eq_true rfl) (by decide) (by decide) ?_
  refine g_ldc2 (v := 1936224119) hX cX6_157 dX6_readThing_27 ?_
  refine g_lcmp (v := lg_cmp (nmV tp (th2 tp n r)) (1936224119)) hX dX6_readThing_30 rfl ?_
  refine g_cz_ne (a := (lg_cmp (nmV tp (th2 tp n r)) (1936224119)).toInt) (tgt := 38) hX dX6_readThing_31 (by decide) rfl (fun h31 => ?_) (fun h31 => ?_)
  · have hw := fun q => h31 (lcmp_eq.mpr ((nm_Show (rf_W (r := th2 tp n r) h3)).mpr q))
    refine g_iconst (v := nI 0) hX dX6_readThing_38 (by decide) ?_
    refine g_istore_n (L' := [(0, .ref 307), (1, .int (nI (figR tp (th4 tp n r)))), (2, .int (nI (figR tp (th3 tp n r)))), (3, .int (nI 0))]) hX dX6_readThing_39 rfl (by decide) rfl ?_
    have cut40 : ∀ (s : Int32) (hs : s = xb (wrdP tp wShow (th2 tp n r))), G X 319 0 0 K3 (xRL nw sp) 40 [(0, .ref 307), (1, .int (nI (figR tp (th4 tp n r)))), (2, .int (nI (figR tp (th3 tp n r)))), (3, .int s)] [] := by
      intro s hs
      subst hs
      refine g_aload_n hX dX6_readThing_40 rfl 0 rfl ?_
      refine g_getI (v := K3 307 18) hX (by decide) (by decide) xCl6 18 (by decide) (by decide) kX6_102 dX6_readThing_41 rfl ?_
      refine g_cz_ne (a := (K3 307 18).toInt) (tgt := 71) hX dX6_readThing_44 (by decide) rfl (fun h44 => ?_) (fun h44 => ?_)
      · have cut71 : ∀ (K5 : xM) (h5 : rfS tp n B K5 (shmR tp n (th2 tp n r))), G X 319 0 0 K5 (xRL nw sp) 71 [(0, .ref 307), (1, .int (nI (figR tp (th4 tp n r)))), (2, .int (nI (figR tp (th3 tp n r)))), (3, .int (xb (wrdP tp wShow (th2 tp n r))))] [] := by
          intro K5 h5
          refine g_aload_n hX dX6_readThing_71 rfl 0 rfl ?_
          refine g_callVrv hX (as := []) (fun l => c_X6_mustEnd l (I := K5) (tp := tp) (n := n) (B := B) (r := shmR tp n (th2 tp n r)) (ht := (by first | assumption | omega)) (hr := h5)) mX6_mustEnd vX6_mustEnd lX6_143 (by decide) (by decide) xCl6 rfl rfl dX6_readThing_72 rfl (by decide) (Nat.le_of_ble_eq_true rfl) (by decide) (by decide) (fun K8 h8 => ?_)
          refine g_aload_n hX dX6_readThing_75 rfl 0 rfl ?_
          refine g_getI (v := K8 307 18) hX (by decide) (by decide) xCl6 18 (by decide) (by decide) kX6_102 dX6_readThing_76 rfl ?_
          refine g_cz_ne (a := (K8 307 18).toInt) (tgt := 141) hX dX6_readThing_79 (by decide) rfl (fun h79 => ?_) (fun h79 => ?_)
          · exact g_vret hX hR dX6_readThing_141 (by decide) (by decide) ⟨rfl, rfl, (by first | exact adh_l h8 h79 | exact rf_adh2 h8 (xb_n1 h122) | exact rf_adh2 h8 (xb_n0 h122)), rfl⟩
          · have h8 : rfS tp n B K8 (th1 tp n r) := h8
            obtain ⟨t, f, e8⟩ := rf_r h8 (by omega)
            obtain ⟨hT6, t0, e0⟩ := k_th1 e8
            have hrow : f 1 = nI (rowT 1 r) := by subst e0; exact pi_r hp (by decide)
            have hr0 : K8 312 1 = nI (rowT 1 r) := by rw [e8] at h8; rw [(rf_i h8).2.2.2.2.2.2]; exact hrow
            have hT5 : rowT 1 r ≤ 5 := by have := pi_row hp (i := 1) (by decide); rw [hrow, nI_toInt (by omega)] at hT6; omega
            refine g_bipush (v := nI 56) hX dX6_readThing_82 (by decide) ?_
            refine g_iconst (v := nI 3) hX dX6_readThing_84 (by decide) ?_
            refine g_aload_n hX dX6_readThing_85 rfl 0 rfl ?_
            refine g_getR (j := 312) hX (by decide) (by decide) xCl6 6 (by decide) (by decide) kX6_22 dX6_readThing_86 rfl ?_
            refine g_iconst (v := nI 1) hX dX6_readThing_89 (by decide) ?_
            refine g_iald (v := nI (rowT 1 r)) hX (by decide) (by decide) 1 rfl (by rw [(show xN 312 = 74 by decide)]; decide) dX6_readThing_90 hr0 ?_
            refine g_imul (v := nI (3 * (rowT 1 r))) hX dX6_readThing_91 (nI_mul 3 (rowT 1 r)) ?_
            refine g_iadd (v := nI (56 + (3 * (rowT 1 r)))) hX dX6_readThing_92 (nI_add 56 (3 * (rowT 1 r))) ?_
            refine g_istore (L' := [(0, .ref 307), (1, .int (nI (figR tp (th4 tp n r)))), (2, .int (nI (figR tp (th3 tp n r)))), (3, .int (xb (wrdP tp wShow (th2 tp n r)))), (4, .int (nI (56 + (3 * (rowT 1 r)))))]) hX dX6_readThing_93 (by decide) rfl ?_
            refine g_aload_n hX dX6_readThing_95 rfl 0 rfl ?_
            refine g_getR (j := 312) hX (by decide) (by decide) xCl6 6 (by decide) (by decide) kX6_22 dX6_readThing_96 rfl ?_
            refine g_iload hX dX6_readThing_99 4 rfl ?_
            refine g_iload_n hX dX6_readThing_101 rfl 1 rfl ?_
            refine g_iast hX (by decide) (by decide) (56 + (3 * (rowT 1 r))) rfl (by rw [(show xN 312 = 74 by decide)]; omega) dX6_readThing_102 ?_
            refine g_aload_n hX dX6_readThing_103 rfl 0 rfl ?_
            refine g_getR (j := 312) hX (by decide) (by decide) xCl6 6 (by decide) (by decide) kX6_22 dX6_readThing_104 rfl ?_
            refine g_iload hX dX6_readThing_107 4 rfl ?_
            refine g_iconst (v := nI 1) hX dX6_readThing_109 (by decide) ?_
            refine g_iadd (v := nI ((56 + (3 * (rowT 1 r))) + 1)) hX dX6_readThing_110 (nI_add (56 + (3 * (rowT 1 r))) 1) ?_
            refine g_iload_n hX dX6_readThing_111 rfl 2 rfl ?_
            refine g_iast hX (by decide) (by decide) ((56 + (3 * (rowT 1 r))) + 1) rfl (by rw [(show xN 312 = 74 by decide)]; omega) dX6_readThing_112 ?_
            refine g_aload_n hX dX6_readThing_113 rfl 0 rfl ?_
            refine g_getR (j := 312) hX (by decide) (by decide) xCl6 6 (by decide) (by decide) kX6_22 dX6_readThing_114 rfl ?_
            refine g_iload hX dX6_readThing_117 4 rfl ?_
            refine g_iconst (v := nI 2) hX dX6_readThing_119 (by decide) ?_
            refine g_iadd (v := nI ((56 + (3 * (rowT 1 r))) + 2)) hX dX6_readThing_120 (nI_add (56 + (3 * (rowT 1 r))) 2) ?_
            refine g_iload_n hX dX6_readThing_121 rfl 3 rfl ?_
            refine g_cb_eq (tgt := 129) hX dX6_readThing_122 (by decide) (fun h122 => ?_) (fun h122 => ?_)
            · refine g_iconst (v := nI 0) hX dX6_readThing_129 (by decide) ?_
              refine g_iast hX (by decide) (by decide) ((56 + (3 * (rowT 1 r))) + 2) rfl (by rw [(show xN 312 = 74 by decide)]; omega) dX6_readThing_130 ?_
              refine g_aload_n hX dX6_readThing_131 rfl 0 rfl ?_
              refine g_getR (j := 312) hX (by decide) (by decide) xCl6 6 (by decide) (by decide) kX6_22 dX6_readThing_132 rfl ?_
              refine g_iconst (v := nI 1) hX dX6_readThing_135 (by decide) ?_
              refine g_dup2 hX rfl rfl dX6_readThing_136 ?_
              refine g_iald (v := nI (rowT 1 r)) hX (by decide) (by decide) 1 rfl (by rw [(show xN 312 = 74 by decide)]; decide) dX6_readThing_137 (xput_i (by omega) (xput_i (by omega) (xput_i (by omega) hr0))) ?_
              refine g_iconst (v := nI 1) hX dX6_readThing_138 (by decide) ?_
              refine g_iadd (v := nI ((rowT 1 r) + 1)) hX dX6_readThing_139 (nI_add (rowT 1 r) 1) ?_
              refine g_iast hX (by decide) (by decide) 1 rfl (by rw [(show xN 312 = 74 by decide)]; decide) dX6_readThing_140 ?_
              exact g_vret hX hR dX6_readThing_141 (by decide) (by decide) ⟨rfl, rfl, (by first | exact adh_l h8 h79 | exact rf_adh2 h8 (xb_n1 h122) | exact rf_adh2 h8 (xb_n0 h122)), rfl⟩
            · refine g_iconst (v := nI 1) hX dX6_readThing_125 (by decide) ?_
              refine g_goto (tgt := 130) hX dX6_readThing_126 (by decide) ?_
              refine g_iast hX (by decide) (by decide) ((56 + (3 * (rowT 1 r))) + 2) rfl (by rw [(show xN 312 = 74 by decide)]; omega) dX6_readThing_130 ?_
              refine g_aload_n hX dX6_readThing_131 rfl 0 rfl ?_
              refine g_getR (j := 312) hX (by decide) (by decide) xCl6 6 (by decide) (by decide) kX6_22 dX6_readThing_132 rfl ?_
              refine g_iconst (v := nI 1) hX dX6_readThing_135 (by decide) ?_
              refine g_dup2 hX rfl rfl dX6_readThing_136 ?_
              refine g_iald (v := nI (rowT 1 r)) hX (by decide) (by decide) 1 rfl (by rw [(show xN 312 = 74 by decide)]; decide) dX6_readThing_137 (xput_i (by omega) (xput_i (by omega) (xput_i (by omega) hr0))) ?_
              refine g_iconst (v := nI 1) hX dX6_readThing_138 (by decide) ?_
              refine g_iadd (v := nI ((rowT 1 r) + 1)) hX dX6_readThing_139 (nI_add (rowT 1 r) 1) ?_
              refine g_iast hX (by decide) (by decide) 1 rfl (by rw [(show xN 312 = 74 by decide)]; decide) dX6_readThing_140 ?_
              exact g_vret hX hR dX6_readThing_141 (by decide) (by decide) ⟨rfl, rfl, (by first | exact adh_l h8 h79 | exact rf_adh2 h8 (xb_n1 h122) | exact rf_adh2 h8 (xb_n0 h122)), rfl⟩
        exact cut71 K3 (shm_l h3 h44)
      · refine g_aload_n hX dX6_readThing_47 rfl 0 rfl ?_
        refine g_iload_n hX dX6_readThing_48 rfl 3 rfl ?_
        refine g_cb_ne (tgt := 63) hX dX6_readThing_49 (by decide) (fun h49 => ?_) (fun h49 => ?_)
        · refine g_iconst (v := nI 1) hX dX6_readThing_63 (by decide) ?_
          refine g_goto (tgt := 68) hX dX6_readThing_64 (by decide) ?_
          refine g_callVrv hX (as := [.int (nI 1)]) (fun l => c_X6_must_1 l (I := K3) (tp := tp) (n := n) (B := B) (r := th2 tp n r) (ht := (by first | assumption | omega)) (hr := h3)) mX6_must vX6_must lX6_119 (by decide) (by decide) xCl6 rfl rfl dX6_readThing_68 rfl (by decide) (Nat.le_of_ble_eq_true rfl) (by decide) (by decide) (fun K hK => ?_)
          have cut71 : ∀ (K5 : xM) (h5 : rfS tp n B K5 (shmR tp n (th2 tp n r))), G X 319 0 0 K5 (xRL nw sp) 71 [(0, .ref 307), (1, .int (nI (figR tp (th4 tp n r)))), (2, .int (nI (figR tp (th3 tp n r)))), (3, .int (xb (wrdP tp wShow (th2 tp n r))))] [] := by
            intro K5 h5
            refine g_aload_n hX dX6_readThing_71 rfl 0 rfl ?_
            refine g_callVrv hX (as := []) (fun l => c_X6_mustEnd l (I := K5) (tp := tp) (n := n) (B := B) (r := shmR tp n (th2 tp n r)) (ht := (by first | assumption | omega)) (hr := h5)) mX6_mustEnd vX6_mustEnd lX6_143 (by decide) (by decide) xCl6 rfl rfl dX6_readThing_72 rfl (by decide) (Nat.le_of_ble_eq_true rfl) (by decide) (by decide) (fun K8 h8 => ?_)
            refine g_aload_n hX dX6_readThing_75 rfl 0 rfl ?_
            refine g_getI (v := K8 307 18) hX (by decide) (by decide) xCl6 18 (by decide) (by decide) kX6_102 dX6_readThing_76 rfl ?_
            refine g_cz_ne (a := (K8 307 18).toInt) (tgt := 141) hX dX6_readThing_79 (by decide) rfl (fun h79 => ?_) (fun h79 => ?_)
            · exact g_vret hX hR dX6_readThing_141 (by decide) (by decide) ⟨rfl, rfl, (by first | exact adh_l h8 h79 | exact rf_adh2 h8 (xb_n1 h122) | exact rf_adh2 h8 (xb_n0 h122)), rfl⟩
            · have h8 : rfS tp n B K8 (th1 tp n r) := h8
              obtain ⟨t, f, e8⟩ := rf_r h8 (by omega)
              obtain ⟨hT6, t0, e0⟩ := k_th1 e8
              have hrow : f 1 = nI (rowT 1 r) := by subst e0; exact pi_r hp (by decide)
              have hr0 : K8 312 1 = nI (rowT 1 r) := by rw [e8] at h8; rw [(rf_i h8).2.2.2.2.2.2]; exact hrow
              have hT5 : rowT 1 r ≤ 5 := by have := pi_row hp (i := 1) (by decide); rw [hrow, nI_toInt (by omega)] at hT6; omega
              refine g_bipush (v := nI 56) hX dX6_readThing_82 (by decide) ?_
              refine g_iconst (v := nI 3) hX dX6_readThing_84 (by decide) ?_
              refine g_aload_n hX dX6_readThing_85 rfl 0 rfl ?_
              refine g_getR (j := 312) hX (by decide) (by decide) xCl6 6 (by decide) (by decide) kX6_22 dX6_readThing_86 rfl ?_
              refine g_iconst (v := nI 1) hX dX6_readThing_89 (by decide) ?_
              refine g_iald (v := nI (rowT 1 r)) hX (by decide) (by decide) 1 rfl (by rw [(show xN 312 = 74 by decide)]; decide) dX6_readThing_90 hr0 ?_
              refine g_imul (v := nI (3 * (rowT 1 r))) hX dX6_readThing_91 (nI_mul 3 (rowT 1 r)) ?_
              refine g_iadd (v := nI (56 + (3 * (rowT 1 r)))) hX dX6_readThing_92 (nI_add 56 (3 * (rowT 1 r))) ?_
              refine g_istore (L' := [(0, .ref 307), (1, .int (nI (figR tp (th4 tp n r)))), (2, .int (nI (figR tp (th3 tp n r)))), (3, .int (xb (wrdP tp wShow (th2 tp n r)))), (4, .int (nI (56 + (3 * (rowT 1 r)))))]) hX dX6_readThing_93 (by decide) rfl ?_
              refine g_aload_n hX dX6_readThing_95 rfl 0 rfl ?_
              refine g_getR (j := 312) hX (by decide) (by decide) xCl6 6 (by decide) (by decide) kX6_22 dX6_readThing_96 rfl ?_
              refine g_iload hX dX6_readThing_99 4 rfl ?_
              refine g_iload_n hX dX6_readThing_101 rfl 1 rfl ?_
              refine g_iast hX (by decide) (by decide) (56 + (3 * (rowT 1 r))) rfl (by rw [(show xN 312 = 74 by decide)]; omega) dX6_readThing_102 ?_
              refine g_aload_n hX dX6_readThing_103 rfl 0 rfl ?_
              refine g_getR (j := 312) hX (by decide) (by decide) xCl6 6 (by decide) (by decide) kX6_22 dX6_readThing_104 rfl ?_
              refine g_iload hX dX6_readThing_107 4 rfl ?_
              refine g_iconst (v := nI 1) hX dX6_readThing_109 (by decide) ?_
              refine g_iadd (v := nI ((56 + (3 * (rowT 1 r))) + 1)) hX dX6_readThing_110 (nI_add (56 + (3 * (rowT 1 r))) 1) ?_
              refine g_iload_n hX dX6_readThing_111 rfl 2 rfl ?_
              refine g_iast hX (by decide) (by decide) ((56 + (3 * (rowT 1 r))) + 1) rfl (by rw [(show xN 312 = 74 by decide)]; omega) dX6_readThing_112 ?_
              refine g_aload_n hX dX6_readThing_113 rfl 0 rfl ?_
              refine g_getR (j := 312) hX (by decide) (by decide) xCl6 6 (by decide) (by decide) kX6_22 dX6_readThing_114 rfl ?_
              refine g_iload hX dX6_readThing_117 4 rfl ?_
              refine g_iconst (v := nI 2) hX dX6_readThing_119 (by decide) ?_
              refine g_iadd (v := nI ((56 + (3 * (rowT 1 r))) + 2)) hX dX6_readThing_120 (nI_add (56 + (3 * (rowT 1 r))) 2) ?_
              refine g_iload_n hX dX6_readThing_121 rfl 3 rfl ?_
              refine g_cb_eq (tgt := 129) hX dX6_readThing_122 (by decide) (fun h122 => ?_) (fun h122 => ?_)
              · refine g_iconst (v := nI 0) hX dX6_readThing_129 (by decide) ?_
                refine g_iast hX (by decide) (by decide) ((56 + (3 * (rowT 1 r))) + 2) rfl (by rw [(show xN 312 = 74 by decide)]; omega) dX6_readThing_130 ?_
                refine g_aload_n hX dX6_readThing_131 rfl 0 rfl ?_
                refine g_getR (j := 312) hX (by decide) (by decide) xCl6 6 (by decide) (by decide) kX6_22 dX6_readThing_132 rfl ?_
                refine g_iconst (v := nI 1) hX dX6_readThing_135 (by decide) ?_
                refine g_dup2 hX rfl rfl dX6_readThing_136 ?_
                refine g_iald (v := nI (rowT 1 r)) hX (by decide) (by decide) 1 rfl (by rw [(show xN 312 = 74 by decide)]; decide) dX6_readThing_137 (xput_i (by omega) (xput_i (by omega) (xput_i (by omega) hr0))) ?_
                refine g_iconst (v := nI 1) hX dX6_readThing_138 (by decide) ?_
                refine g_iadd (v := nI ((rowT 1 r) + 1)) hX dX6_readThing_139 (nI_add (rowT 1 r) 1) ?_
                refine g_iast hX (by decide) (by decide) 1 rfl (by rw [(show xN 312 = 74 by decide)]; decide) dX6_readThing_140 ?_
                exact g_vret hX hR dX6_readThing_141 (by decide) (by decide) ⟨rfl, rfl, (by first | exact adh_l h8 h79 | exact rf_adh2 h8 (xb_n1 h122) | exact rf_adh2 h8 (xb_n0 h122)), rfl⟩
              · refine g_iconst (v := nI 1) hX dX6_readThing_125 (by decide) ?_
                refine g_goto (tgt := 130) hX dX6_readThing_126 (by decide) ?_
                refine g_iast hX (by decide) (by decide) ((56 + (3 * (rowT 1 r))) + 2) rfl (by rw [(show xN 312 = 74 by decide)]; omega) dX6_readThing_130 ?_
                refine g_aload_n hX dX6_readThing_131 rfl 0 rfl ?_
                refine g_getR (j := 312) hX (by decide) (by decide) xCl6 6 (by decide) (by decide) kX6_22 dX6_readThing_132 rfl ?_
                refine g_iconst (v := nI 1) hX dX6_readThing_135 (by decide) ?_
                refine g_dup2 hX rfl rfl dX6_readThing_136 ?_
                refine g_iald (v := nI (rowT 1 r)) hX (by decide) (by decide) 1 rfl (by rw [(show xN 312 = 74 by decide)]; decide) dX6_readThing_137 (xput_i (by omega) (xput_i (by omega) (xput_i (by omega) hr0))) ?_
                refine g_iconst (v := nI 1) hX dX6_readThing_138 (by decide) ?_
                refine g_iadd (v := nI ((rowT 1 r) + 1)) hX dX6_readThing_139 (nI_add (rowT 1 r) 1) ?_
                refine g_iast hX (by decide) (by decide) 1 rfl (by rw [(show xN 312 = 74 by decide)]; decide) dX6_readThing_140 ?_
                exact g_vret hX hR dX6_readThing_141 (by decide) (by decide) ⟨rfl, rfl, (by first | exact adh_l h8 h79 | exact rf_adh2 h8 (xb_n1 h122) | exact rf_adh2 h8 (xb_n0 h122)), rfl⟩
          exact cut71 K (by first | (rw [shm_y (Or.inl h49), ← mus_1]; exact hK) | (rw [shm_y (Or.inr hw2), ← mus_1]; exact hK) | (rw [shm_n (fun q => q.elim h49 hw2), ← mus_0 (tp := tp) (n := n)]; exact hK))
        · refine g_aload_n hX dX6_readThing_52 rfl 0 rfl ?_
          refine g_callVl hX (as := []) (fun l => c_X6_name l (I := K3) (tp := tp) (n := n) (B := B) (r := th2 tp n r) (ht := ht) (hr := h3)) mX6_name vX6_name lX6_133 (by decide) (by decide) xCl6 rfl rfl dX6_readThing_53 rfl (by decide) (Nat.le_of_ble_eq_true rfl) (by decide) (by decide) ?_
          refine g_ldc2 (v := 1751737445) hX cX6_159 dX6_readThing_56 ?_
          refine g_lcmp (v := lg_cmp (nmV tp (th2 tp n r)) (1751737445)) hX dX6_readThing_59 rfl ?_
          refine g_cz_ne (a := (lg_cmp (nmV tp (th2 tp n r)) (1751737445)).toInt) (tgt := 67) hX dX6_readThing_60 (by decide) rfl (fun h60 => ?_) (fun h60 => ?_)
          · have hw2 := fun q => h60 (lcmp_eq.mpr ((nm_Hide (rf_W (r := th2 tp n r) h3)).mpr q))
            refine g_iconst (v := nI 0) hX dX6_readThing_67 (by decide) ?_
            refine g_callVrv hX (as := [.int (nI 0)]) (fun l => c_X6_must_0 l (I := K3) (tp := tp) (n := n) (B := B) (r := th2 tp n r) (ht := (by first | assumption | omega)) (hr := h3)) mX6_must vX6_must lX6_119 (by decide) (by decide) xCl6 rfl rfl dX6_readThing_68 rfl (by decide) (Nat.le_of_ble_eq_true rfl) (by decide) (by decide) (fun K hK => ?_)
            have cut71 : ∀ (K5 : xM) (h5 : rfS tp n B K5 (shmR tp n (th2 tp n r))), G X 319 0 0 K5 (xRL nw sp) 71 [(0, .ref 307), (1, .int (nI (figR tp (th4 tp n r)))), (2, .int (nI (figR tp (th3 tp n r)))), (3, .int (xb (wrdP tp wShow (th2 tp n r))))] [] := by
              intro K5 h5
              refine g_aload_n hX dX6_readThing_71 rfl 0 rfl ?_
              refine g_callVrv hX (as := []) (fun l => c_X6_mustEnd l (I := K5) (tp := tp) (n := n) (B := B) (r := shmR tp n (th2 tp n r)) (ht := (by first | assumption | omega)) (hr := h5)) mX6_mustEnd vX6_mustEnd lX6_143 (by decide) (by decide) xCl6 rfl rfl dX6_readThing_72 rfl (by decide) (Nat.le_of_ble_eq_true rfl) (by decide) (by decide) (fun K8 h8 => ?_)
              refine g_aload_n hX dX6_readThing_75 rfl 0 rfl ?_
              refine g_getI (v := K8 307 18) hX (by decide) (by decide) xCl6 18 (by decide) (by decide) kX6_102 dX6_readThing_76 rfl ?_
              refine g_cz_ne (a := (K8 307 18).toInt) (tgt := 141) hX dX6_readThing_79 (by decide) rfl (fun h79 => ?_) (fun h79 => ?_)
              · exact g_vret hX hR dX6_readThing_141 (by decide) (by decide) ⟨rfl, rfl, (by first | exact adh_l h8 h79 | exact rf_adh2 h8 (xb_n1 h122) | exact rf_adh2 h8 (xb_n0 h122)), rfl⟩
              · have h8 : rfS tp n B K8 (th1 tp n r) := h8
                obtain ⟨t, f, e8⟩ := rf_r h8 (by omega)
                obtain ⟨hT6, t0, e0⟩ := k_th1 e8
                have hrow : f 1 = nI (rowT 1 r) := by subst e0; exact pi_r hp (by decide)
                have hr0 : K8 312 1 = nI (rowT 1 r) := by rw [e8] at h8; rw [(rf_i h8).2.2.2.2.2.2]; exact hrow
                have hT5 : rowT 1 r ≤ 5 := by have := pi_row hp (i := 1) (by decide); rw [hrow, nI_toInt (by omega)] at hT6; omega
                refine g_bipush (v := nI 56) hX dX6_readThing_82 (by decide) ?_
                refine g_iconst (v := nI 3) hX dX6_readThing_84 (by decide) ?_
                refine g_aload_n hX dX6_readThing_85 rfl 0 rfl ?_
                refine g_getR (j := 312) hX (by decide) (by decide) xCl6 6 (by decide) (by decide) kX6_22 dX6_readThing_86 rfl ?_
                refine g_iconst (v := nI 1) hX dX6_readThing_89 (by decide) ?_
                refine g_iald (v := nI (rowT 1 r)) hX (by decide) (by decide) 1 rfl (by rw [(show xN 312 = 74 by decide)]; decide) dX6_readThing_90 hr0 ?_
                refine g_imul (v := nI (3 * (rowT 1 r))) hX dX6_readThing_91 (nI_mul 3 (rowT 1 r)) ?_
                refine g_iadd (v := nI (56 + (3 * (rowT 1 r)))) hX dX6_readThing_92 (nI_add 56 (3 * (rowT 1 r))) ?_
                refine g_istore (L' := [(0, .ref 307), (1, .int (nI (figR tp (th4 tp n r)))), (2, .int (nI (figR tp (th3 tp n r)))), (3, .int (xb (wrdP tp wShow (th2 tp n r)))), (4, .int (nI (56 + (3 * (rowT 1 r)))))]) hX dX6_readThing_93 (by decide) rfl ?_
                refine g_aload_n hX dX6_readThing_95 rfl 0 rfl ?_
                refine g_getR (j := 312) hX (by decide) (by decide) xCl6 6 (by decide) (by decide) kX6_22 dX6_readThing_96 rfl ?_
                refine g_iload hX dX6_readThing_99 4 rfl ?_
                refine g_iload_n hX dX6_readThing_101 rfl 1 rfl ?_
                refine g_iast hX (by decide) (by decide) (56 + (3 * (rowT 1 r))) rfl (by rw [(show xN 312 = 74 by decide)]; omega) dX6_readThing_102 ?_
                refine g_aload_n hX dX6_readThing_103 rfl 0 rfl ?_
                refine g_getR (j := 312) hX (by decide) (by decide) xCl6 6 (by decide) (by decide) kX6_22 dX6_readThing_104 rfl ?_
                refine g_iload hX dX6_readThing_107 4 rfl ?_
                refine g_iconst (v := nI 1) hX dX6_readThing_109 (by decide) ?_
                refine g_iadd (v := nI ((56 + (3 * (rowT 1 r))) + 1)) hX dX6_readThing_110 (nI_add (56 + (3 * (rowT 1 r))) 1) ?_
                refine g_iload_n hX dX6_readThing_111 rfl 2 rfl ?_
                refine g_iast hX (by decide) (by decide) ((56 + (3 * (rowT 1 r))) + 1) rfl (by rw [(show xN 312 = 74 by decide)]; omega) dX6_readThing_112 ?_
                refine g_aload_n hX dX6_readThing_113 rfl 0 rfl ?_
                refine g_getR (j := 312) hX (by decide) (by decide) xCl6 6 (by decide) (by decide) kX6_22 dX6_readThing_114 rfl ?_
                refine g_iload hX dX6_readThing_117 4 rfl ?_
                refine g_iconst (v := nI 2) hX dX6_readThing_119 (by decide) ?_
                refine g_iadd (v := nI ((56 + (3 * (rowT 1 r))) + 2)) hX dX6_readThing_120 (nI_add (56 + (3 * (rowT 1 r))) 2) ?_
                refine g_iload_n hX dX6_readThing_121 rfl 3 rfl ?_
                refine g_cb_eq (tgt := 129) hX dX6_readThing_122 (by decide) (fun h122 => ?_) (fun h122 => ?_)
                · refine g_iconst (v := nI 0) hX dX6_readThing_129 (by decide) ?_
                  refine g_iast hX (by decide) (by decide) ((56 + (3 * (rowT 1 r))) + 2) rfl (by rw [(show xN 312 = 74 by decide)]; omega) dX6_readThing_130 ?_
                  refine g_aload_n hX dX6_readThing_131 rfl 0 rfl ?_
                  refine g_getR (j := 312) hX (by decide) (by decide) xCl6 6 (by decide) (by decide) kX6_22 dX6_readThing_132 rfl ?_
                  refine g_iconst (v := nI 1) hX dX6_readThing_135 (by decide) ?_
                  refine g_dup2 hX rfl rfl dX6_readThing_136 ?_
                  refine g_iald (v := nI (rowT 1 r)) hX (by decide) (by decide) 1 rfl (by rw [(show xN 312 = 74 by decide)]; decide) dX6_readThing_137 (xput_i (by omega) (xput_i (by omega) (xput_i (by omega) hr0))) ?_
                  refine g_iconst (v := nI 1) hX dX6_readThing_138 (by decide) ?_
                  refine g_iadd (v := nI ((rowT 1 r) + 1)) hX dX6_readThing_139 (nI_add (rowT 1 r) 1) ?_
                  refine g_iast hX (by decide) (by decide) 1 rfl (by rw [(show xN 312 = 74 by decide)]; decide) dX6_readThing_140 ?_
                  exact g_vret hX hR dX6_readThing_141 (by decide) (by decide) ⟨rfl, rfl, (by first | exact adh_l h8 h79 | exact rf_adh2 h8 (xb_n1 h122) | exact rf_adh2 h8 (xb_n0 h122)), rfl⟩
                · refine g_iconst (v := nI 1) hX dX6_readThing_125 (by decide) ?_
                  refine g_goto (tgt := 130) hX dX6_readThing_126 (by decide) ?_
                  refine g_iast hX (by decide) (by decide) ((56 + (3 * (rowT 1 r))) + 2) rfl (by rw [(show xN 312 = 74 by decide)]; omega) dX6_readThing_130 ?_
                  refine g_aload_n hX dX6_readThing_131 rfl 0 rfl ?_
                  refine g_getR (j := 312) hX (by decide) (by decide) xCl6 6 (by decide) (by decide) kX6_22 dX6_readThing_132 rfl ?_
                  refine g_iconst (v := nI 1) hX dX6_readThing_135 (by decide) ?_
                  refine g_dup2 hX rfl rfl dX6_readThing_136 ?_
                  refine g_iald (v := nI (rowT 1 r)) hX (by decide) (by decide) 1 rfl (by rw [(show xN 312 = 74 by decide)]; decide) dX6_readThing_137 (xput_i (by omega) (xput_i (by omega) (xput_i (by omega) hr0))) ?_
                  refine g_iconst (v := nI 1) hX dX6_readThing_138 (by decide) ?_
                  refine g_iadd (v := nI ((rowT 1 r) + 1)) hX dX6_readThing_139 (nI_add (rowT 1 r) 1) ?_
                  refine g_iast hX (by decide) (by decide) 1 rfl (by rw [(show xN 312 = 74 by decide)]; decide) dX6_readThing_140 ?_
                  exact g_vret hX hR dX6_readThing_141 (by decide) (by decide) ⟨rfl, rfl, (by first | exact adh_l h8 h79 | exact rf_adh2 h8 (xb_n1 h122) | exact rf_adh2 h8 (xb_n0 h122)), rfl⟩
            exact cut71 K (by first | (rw [shm_y (Or.inl h49), ← mus_1]; exact hK) | (rw [shm_y (Or.inr hw2), ← mus_1]; exact hK) | (rw [shm_n (fun q => q.elim h49 hw2), ← mus_0 (tp := tp) (n := n)]; exact hK))
          · have hw2 := (nm_Hide (rf_W (r := th2 tp n r) h3)).mp (lcmp_eq.mp h60)
            refine g_iconst (v := nI 1) hX dX6_readThing_63 (by decide) ?_
            refine g_goto (tgt := 68) hX dX6_readThing_64 (by decide) ?_
            refine g_callVrv hX (as := [.int (nI 1)]) (fun l => c_X6_must_1 l (I := K3) (tp := tp) (n := n) (B := B) (r := th2 tp n r) (ht := (by first | assumption | omega)) (hr := h3)) mX6_must vX6_must lX6_119 (by decide) (by decide) xCl6 rfl rfl dX6_readThing_68 rfl (by decide) (Nat.le_of_ble_eq_true rfl) (by decide) (by decide) (fun K hK => ?_)
            have cut71 : ∀ (K5 : xM) (h5 : rfS tp n B K5 (shmR tp n (th2 tp n r))), G X 319 0 0 K5 (xRL nw sp) 71 [(0, .ref 307), (1, .int (nI (figR tp (th4 tp n r)))), (2, .int (nI (figR tp (th3 tp n r)))), (3, .int (xb (wrdP tp wShow (th2 tp n r))))] [] := by
              intro K5 h5
              refine g_aload_n hX dX6_readThing_71 rfl 0 rfl ?_
              refine g_callVrv hX (as := []) (fun l => c_X6_mustEnd l (I := K5) (tp := tp) (n := n) (B := B) (r := shmR tp n (th2 tp n r)) (ht := (by first | assumption | omega)) (hr := h5)) mX6_mustEnd vX6_mustEnd lX6_143 (by decide) (by decide) xCl6 rfl rfl dX6_readThing_72 rfl (by decide) (Nat.le_of_ble_eq_true rfl) (by decide) (by decide) (fun K8 h8 => ?_)
              refine g_aload_n hX dX6_readThing_75 rfl 0 rfl ?_
              refine g_getI (v := K8 307 18) hX (by decide) (by decide) xCl6 18 (by decide) (by decide) kX6_102 dX6_readThing_76 rfl ?_
              refine g_cz_ne (a := (K8 307 18).toInt) (tgt := 141) hX dX6_readThing_79 (by decide) rfl (fun h79 => ?_) (fun h79 => ?_)
              · exact g_vret hX hR dX6_readThing_141 (by decide) (by decide) ⟨rfl, rfl, (by first | exact adh_l h8 h79 | exact rf_adh2 h8 (xb_n1 h122) | exact rf_adh2 h8 (xb_n0 h122)), rfl⟩
              · have h8 : rfS tp n B K8 (th1 tp n r) := h8
                obtain ⟨t, f, e8⟩ := rf_r h8 (by omega)
                obtain ⟨hT6, t0, e0⟩ := k_th1 e8
                have hrow : f 1 = nI (rowT 1 r) := by subst e0; exact pi_r hp (by decide)
                have hr0 : K8 312 1 = nI (rowT 1 r) := by rw [e8] at h8; rw [(rf_i h8).2.2.2.2.2.2]; exact hrow
                have hT5 : rowT 1 r ≤ 5 := by have := pi_row hp (i := 1) (by decide); rw [hrow, nI_toInt (by omega)] at hT6; omega
                refine g_bipush (v := nI 56) hX dX6_readThing_82 (by decide) ?_
                refine g_iconst (v := nI 3) hX dX6_readThing_84 (by decide) ?_
                refine g_aload_n hX dX6_readThing_85 rfl 0 rfl ?_
                refine g_getR (j := 312) hX (by decide) (by decide) xCl6 6 (by decide) (by decide) kX6_22 dX6_readThing_86 rfl ?_
                refine g_iconst (v := nI 1) hX dX6_readThing_89 (by decide) ?_
                refine g_iald (v := nI (rowT 1 r)) hX (by decide) (by decide) 1 rfl (by rw [(show xN 312 = 74 by decide)]; decide) dX6_readThing_90 hr0 ?_
                refine g_imul (v := nI (3 * (rowT 1 r))) hX dX6_readThing_91 (nI_mul 3 (rowT 1 r)) ?_
                refine g_iadd (v := nI (56 + (3 * (rowT 1 r)))) hX dX6_readThing_92 (nI_add 56 (3 * (rowT 1 r))) ?_
                refine g_istore (L' := [(0, .ref 307), (1, .int (nI (figR tp (th4 tp n r)))), (2, .int (nI (figR tp (th3 tp n r)))), (3, .int (xb (wrdP tp wShow (th2 tp n r)))), (4, .int (nI (56 + (3 * (rowT 1 r)))))]) hX dX6_readThing_93 (by decide) rfl ?_
                refine g_aload_n hX dX6_readThing_95 rfl 0 rfl ?_
                refine g_getR (j := 312) hX (by decide) (by decide) xCl6 6 (by decide) (by decide) kX6_22 dX6_readThing_96 rfl ?_
                refine g_iload hX dX6_readThing_99 4 rfl ?_
                refine g_iload_n hX dX6_readThing_101 rfl 1 rfl ?_
                refine g_iast hX (by decide) (by decide) (56 + (3 * (rowT 1 r))) rfl (by rw [(show xN 312 = 74 by decide)]; omega) dX6_readThing_102 ?_
                refine g_aload_n hX dX6_readThing_103 rfl 0 rfl ?_
                refine g_getR (j := 312) hX (by decide) (by decide) xCl6 6 (by decide) (by decide) kX6_22 dX6_readThing_104 rfl ?_
                refine g_iload hX dX6_readThing_107 4 rfl ?_
                refine g_iconst (v := nI 1) hX dX6_readThing_109 (by decide) ?_
                refine g_iadd (v := nI ((56 + (3 * (rowT 1 r))) + 1)) hX dX6_readThing_110 (nI_add (56 + (3 * (rowT 1 r))) 1) ?_
                refine g_iload_n hX dX6_readThing_111 rfl 2 rfl ?_
                refine g_iast hX (by decide) (by decide) ((56 + (3 * (rowT 1 r))) + 1) rfl (by rw [(show xN 312 = 74 by decide)]; omega) dX6_readThing_112 ?_
                refine g_aload_n hX dX6_readThing_113 rfl 0 rfl ?_
                refine g_getR (j := 312) hX (by decide) (by decide) xCl6 6 (by decide) (by decide) kX6_22 dX6_readThing_114 rfl ?_
                refine g_iload hX dX6_readThing_117 4 rfl ?_
                refine g_iconst (v := nI 2) hX dX6_readThing_119 (by decide) ?_
                refine g_iadd (v := nI ((56 + (3 * (rowT 1 r))) + 2)) hX dX6_readThing_120 (nI_add (56 + (3 * (rowT 1 r))) 2) ?_
                refine g_iload_n hX dX6_readThing_121 rfl 3 rfl ?_
                refine g_cb_eq (tgt := 129) hX dX6_readThing_122 (by decide) (fun h122 => ?_) (fun h122 => ?_)
                · refine g_iconst (v := nI 0) hX dX6_readThing_129 (by decide) ?_
                  refine g_iast hX (by decide) (by decide) ((56 + (3 * (rowT 1 r))) + 2) rfl (by rw [(show xN 312 = 74 by decide)]; omega) dX6_readThing_130 ?_
                  refine g_aload_n hX dX6_readThing_131 rfl 0 rfl ?_
                  refine g_getR (j := 312) hX (by decide) (by decide) xCl6 6 (by decide) (by decide) kX6_22 dX6_readThing_132 rfl ?_
                  refine g_iconst (v := nI 1) hX dX6_readThing_135 (by decide) ?_
                  refine g_dup2 hX rfl rfl dX6_readThing_136 ?_
                  refine g_iald (v := nI (rowT 1 r)) hX (by decide) (by decide) 1 rfl (by rw [(show xN 312 = 74 by decide)]; decide) dX6_readThing_137 (xput_i (by omega) (xput_i (by omega) (xput_i (by omega) hr0))) ?_
                  refine g_iconst (v := nI 1) hX dX6_readThing_138 (by decide) ?_
                  refine g_iadd (v := nI ((rowT 1 r) + 1)) hX dX6_readThing_139 (nI_add (rowT 1 r) 1) ?_
                  refine g_iast hX (by decide) (by decide) 1 rfl (by rw [(show xN 312 = 74 by decide)]; decide) dX6_readThing_140 ?_
                  exact g_vret hX hR dX6_readThing_141 (by decide) (by decide) ⟨rfl, rfl, (by first | exact adh_l h8 h79 | exact rf_adh2 h8 (xb_n1 h122) | exact rf_adh2 h8 (xb_n0 h122)), rfl⟩
                · refine g_iconst (v := nI 1) hX dX6_readThing_125 (by decide) ?_
                  refine g_goto (tgt := 130) hX dX6_readThing_126 (by decide) ?_
                  refine g_iast hX (by decide) (by decide) ((56 + (3 * (rowT 1 r))) + 2) rfl (by rw [(show xN 312 = 74 by decide)]; omega) dX6_readThing_130 ?_
                  refine g_aload_n hX dX6_readThing_131 rfl 0 rfl ?_
                  refine g_getR (j := 312) hX (by decide) (by decide) xCl6 6 (by decide) (by decide) kX6_22 dX6_readThing_132 rfl ?_
                  refine g_iconst (v := nI 1) hX dX6_readThing_135 (by decide) ?_
                  refine g_dup2 hX rfl rfl dX6_readThing_136 ?_
                  refine g_iald (v := nI (rowT 1 r)) hX (by decide) (by decide) 1 rfl (by rw [(show xN 312 = 74 by decide)]; decide) dX6_readThing_137 (xput_i (by omega) (xput_i (by omega) (xput_i (by omega) hr0))) ?_
                  refine g_iconst (v := nI 1) hX dX6_readThing_138 (by decide) ?_
                  refine g_iadd (v := nI ((rowT 1 r) + 1)) hX dX6_readThing_139 (nI_add (rowT 1 r) 1) ?_
                  refine g_iast hX (by decide) (by decide) 1 rfl (by rw [(show xN 312 = 74 by decide)]; decide) dX6_readThing_140 ?_
                  exact g_vret hX hR dX6_readThing_141 (by decide) (by decide) ⟨rfl, rfl, (by first | exact adh_l h8 h79 | exact rf_adh2 h8 (xb_n1 h122) | exact rf_adh2 h8 (xb_n0 h122)), rfl⟩
            exact cut71 K (by first | (rw [shm_y (Or.inl h49), ← mus_1]; exact hK) | (rw [shm_y (Or.inr hw2), ← mus_1]; exact hK) | (rw [shm_n (fun q => q.elim h49 hw2), ← mus_0 (tp := tp) (n := n)]; exact hK))
    exact cut40 (nI 0) (by first | exact xb_n1 hw | exact xb_n0 hw)
  · have hw := (nm_Show (rf_W (r := th2 tp n r) h3)).mp (lcmp_eq.mp h31)
    refine g_iconst (v := nI 1) hX dX6_readThing_34 (by decide) ?_
    refine g_goto (tgt := 39) hX dX6_readThing_35 (by decide) ?_
    refine g_istore_n (L' := [(0, .ref 307), (1, .int (nI (figR tp (th4 tp n r)))), (2, .int (nI (figR tp (th3 tp n r)))), (3, .int (nI 1))]) hX dX6_readThing_39 rfl (by decide) rfl ?_
    have cut40 : ∀ (s : Int32) (hs : s = xb (wrdP tp wShow (th2 tp n r))), G X 319 0 0 K3 (xRL nw sp) 40 [(0, .ref 307), (1, .int (nI (figR tp (th4 tp n r)))), (2, .int (nI (figR tp (th3 tp n r)))), (3, .int s)] [] := by
      intro s hs
      subst hs
      refine g_aload_n hX dX6_readThing_40 rfl 0 rfl ?_
      refine g_getI (v := K3 307 18) hX (by decide) (by decide) xCl6 18 (by decide) (by decide) kX6_102 dX6_readThing_41 rfl ?_
      refine g_cz_ne (a := (K3 307 18).toInt) (tgt := 71) hX dX6_readThing_44 (by decide) rfl (fun h44 => ?_) (fun h44 => ?_)
      · have cut71 : ∀ (K5 : xM) (h5 : rfS tp n B K5 (shmR tp n (th2 tp n r))), G X 319 0 0 K5 (xRL nw sp) 71 [(0, .ref 307), (1, .int (nI (figR tp (th4 tp n r)))), (2, .int (nI (figR tp (th3 tp n r)))), (3, .int (xb (wrdP tp wShow (th2 tp n r))))] [] := by
          intro K5 h5
          refine g_aload_n hX dX6_readThing_71 rfl 0 rfl ?_
          refine g_callVrv hX (as := []) (fun l => c_X6_mustEnd l (I := K5) (tp := tp) (n := n) (B := B) (r := shmR tp n (th2 tp n r)) (ht := (by first | assumption | omega)) (hr := h5)) mX6_mustEnd vX6_mustEnd lX6_143 (by decide) (by decide) xCl6 rfl rfl dX6_readThing_72 rfl (by decide) (Nat.le_of_ble_eq_true rfl) (by decide) (by decide) (fun K8 h8 => ?_)
          refine g_aload_n hX dX6_readThing_75 rfl 0 rfl ?_
          refine g_getI (v := K8 307 18) hX (by decide) (by decide) xCl6 18 (by decide) (by decide) kX6_102 dX6_readThing_76 rfl ?_
          refine g_cz_ne (a := (K8 307 18).toInt) (tgt := 141) hX dX6_readThing_79 (by decide) rfl (fun h79 => ?_) (fun h79 => ?_)
          · exact g_vret hX hR dX6_readThing_141 (by decide) (by decide) ⟨rfl, rfl, (by first | exact adh_l h8 h79 | exact rf_adh2 h8 (xb_n1 h122) | exact rf_adh2 h8 (xb_n0 h122)), rfl⟩
          · have h8 : rfS tp n B K8 (th1 tp n r) := h8
            obtain ⟨t, f, e8⟩ := rf_r h8 (by omega)
            obtain ⟨hT6, t0, e0⟩ := k_th1 e8
            have hrow : f 1 = nI (rowT 1 r) := by subst e0; exact pi_r hp (by decide)
            have hr0 : K8 312 1 = nI (rowT 1 r) := by rw [e8] at h8; rw [(rf_i h8).2.2.2.2.2.2]; exact hrow
            have hT5 : rowT 1 r ≤ 5 := by have := pi_row hp (i := 1) (by decide); rw [hrow, nI_toInt (by omega)] at hT6; omega
            refine g_bipush (v := nI 56) hX dX6_readThing_82 (by decide) ?_
            refine g_iconst (v := nI 3) hX dX6_readThing_84 (by decide) ?_
            refine g_aload_n hX dX6_readThing_85 rfl 0 rfl ?_
            refine g_getR (j := 312) hX (by decide) (by decide) xCl6 6 (by decide) (by decide) kX6_22 dX6_readThing_86 rfl ?_
            refine g_iconst (v := nI 1) hX dX6_readThing_89 (by decide) ?_
            refine g_iald (v := nI (rowT 1 r)) hX (by decide) (by decide) 1 rfl (by rw [(show xN 312 = 74 by decide)]; decide) dX6_readThing_90 hr0 ?_
            refine g_imul (v := nI (3 * (rowT 1 r))) hX dX6_readThing_91 (nI_mul 3 (rowT 1 r)) ?_
            refine g_iadd (v := nI (56 + (3 * (rowT 1 r)))) hX dX6_readThing_92 (nI_add 56 (3 * (rowT 1 r))) ?_
            refine g_istore (L' := [(0, .ref 307), (1, .int (nI (figR tp (th4 tp n r)))), (2, .int (nI (figR tp (th3 tp n r)))), (3, .int (xb (wrdP tp wShow (th2 tp n r)))), (4, .int (nI (56 + (3 * (rowT 1 r)))))]) hX dX6_readThing_93 (by decide) rfl ?_
            refine g_aload_n hX dX6_readThing_95 rfl 0 rfl ?_
            refine g_getR (j := 312) hX (by decide) (by decide) xCl6 6 (by decide) (by decide) kX6_22 dX6_readThing_96 rfl ?_
            refine g_iload hX dX6_readThing_99 4 rfl ?_
            refine g_iload_n hX dX6_readThing_101 rfl 1 rfl ?_
            refine g_iast hX (by decide) (by decide) (56 + (3 * (rowT 1 r))) rfl (by rw [(show xN 312 = 74 by decide)]; omega) dX6_readThing_102 ?_
            refine g_aload_n hX dX6_readThing_103 rfl 0 rfl ?_
            refine g_getR (j := 312) hX (by decide) (by decide) xCl6 6 (by decide) (by decide) kX6_22 dX6_readThing_104 rfl ?_
            refine g_iload hX dX6_readThing_107 4 rfl ?_
            refine g_iconst (v := nI 1) hX dX6_readThing_109 (by decide) ?_
            refine g_iadd (v := nI ((56 + (3 * (rowT 1 r))) + 1)) hX dX6_readThing_110 (nI_add (56 + (3 * (rowT 1 r))) 1) ?_
            refine g_iload_n hX dX6_readThing_111 rfl 2 rfl ?_
            refine g_iast hX (by decide) (by decide) ((56 + (3 * (rowT 1 r))) + 1) rfl (by rw [(show xN 312 = 74 by decide)]; omega) dX6_readThing_112 ?_
            refine g_aload_n hX dX6_readThing_113 rfl 0 rfl ?_
            refine g_getR (j := 312) hX (by decide) (by decide) xCl6 6 (by decide) (by decide) kX6_22 dX6_readThing_114 rfl ?_
            refine g_iload hX dX6_readThing_117 4 rfl ?_
            refine g_iconst (v := nI 2) hX dX6_readThing_119 (by decide) ?_
            refine g_iadd (v := nI ((56 + (3 * (rowT 1 r))) + 2)) hX dX6_readThing_120 (nI_add (56 + (3 * (rowT 1 r))) 2) ?_
            refine g_iload_n hX dX6_readThing_121 rfl 3 rfl ?_
            refine g_cb_eq (tgt := 129) hX dX6_readThing_122 (by decide) (fun h122 => ?_) (fun h122 => ?_)
            · refine g_iconst (v := nI 0) hX dX6_readThing_129 (by decide) ?_
              refine g_iast hX (by decide) (by decide) ((56 + (3 * (rowT 1 r))) + 2) rfl (by rw [(show xN 312 = 74 by decide)]; omega) dX6_readThing_130 ?_
              refine g_aload_n hX dX6_readThing_131 rfl 0 rfl ?_
              refine g_getR (j := 312) hX (by decide) (by decide) xCl6 6 (by decide) (by decide) kX6_22 dX6_readThing_132 rfl ?_
              refine g_iconst (v := nI 1) hX dX6_readThing_135 (by decide) ?_
              refine g_dup2 hX rfl rfl dX6_readThing_136 ?_
              refine g_iald (v := nI (rowT 1 r)) hX (by decide) (by decide) 1 rfl (by rw [(show xN 312 = 74 by decide)]; decide) dX6_readThing_137 (xput_i (by omega) (xput_i (by omega) (xput_i (by omega) hr0))) ?_
              refine g_iconst (v := nI 1) hX dX6_readThing_138 (by decide) ?_
              refine g_iadd (v := nI ((rowT 1 r) + 1)) hX dX6_readThing_139 (nI_add (rowT 1 r) 1) ?_
              refine g_iast hX (by decide) (by decide) 1 rfl (by rw [(show xN 312 = 74 by decide)]; decide) dX6_readThing_140 ?_
              exact g_vret hX hR dX6_readThing_141 (by decide) (by decide) ⟨rfl, rfl, (by first | exact adh_l h8 h79 | exact rf_adh2 h8 (xb_n1 h122) | exact rf_adh2 h8 (xb_n0 h122)), rfl⟩
            · refine g_iconst (v := nI 1) hX dX6_readThing_125 (by decide) ?_
              refine g_goto (tgt := 130) hX dX6_readThing_126 (by decide) ?_
              refine g_iast hX (by decide) (by decide) ((56 + (3 * (rowT 1 r))) + 2) rfl (by rw [(show xN 312 = 74 by decide)]; omega) dX6_readThing_130 ?_
              refine g_aload_n hX dX6_readThing_131 rfl 0 rfl ?_
              refine g_getR (j := 312) hX (by decide) (by decide) xCl6 6 (by decide) (by decide) kX6_22 dX6_readThing_132 rfl ?_
              refine g_iconst (v := nI 1) hX dX6_readThing_135 (by decide) ?_
              refine g_dup2 hX rfl rfl dX6_readThing_136 ?_
              refine g_iald (v := nI (rowT 1 r)) hX (by decide) (by decide) 1 rfl (by rw [(show xN 312 = 74 by decide)]; decide) dX6_readThing_137 (xput_i (by omega) (xput_i (by omega) (xput_i (by omega) hr0))) ?_
              refine g_iconst (v := nI 1) hX dX6_readThing_138 (by decide) ?_
              refine g_iadd (v := nI ((rowT 1 r) + 1)) hX dX6_readThing_139 (nI_add (rowT 1 r) 1) ?_
              refine g_iast hX (by decide) (by decide) 1 rfl (by rw [(show xN 312 = 74 by decide)]; decide) dX6_readThing_140 ?_
              exact g_vret hX hR dX6_readThing_141 (by decide) (by decide) ⟨rfl, rfl, (by first | exact adh_l h8 h79 | exact rf_adh2 h8 (xb_n1 h122) | exact rf_adh2 h8 (xb_n0 h122)), rfl⟩
        exact cut71 K3 (shm_l h3 h44)
      · refine g_aload_n hX dX6_readThing_47 rfl 0 rfl ?_
        refine g_iload_n hX dX6_readThing_48 rfl 3 rfl ?_
        refine g_cb_ne (tgt := 63) hX dX6_readThing_49 (by decide) (fun h49 => ?_) (fun h49 => ?_)
        · refine g_iconst (v := nI 1) hX dX6_readThing_63 (by decide) ?_
          refine g_goto (tgt := 68) hX dX6_readThing_64 (by decide) ?_
          refine g_callVrv hX (as := [.int (nI 1)]) (fun l => c_X6_must_1 l (I := K3) (tp := tp) (n := n) (B := B) (r := th2 tp n r) (ht := (by first | assumption | omega)) (hr := h3)) mX6_must vX6_must lX6_119 (by decide) (by decide) xCl6 rfl rfl dX6_readThing_68 rfl (by decide) (Nat.le_of_ble_eq_true rfl) (by decide) (by decide) (fun K hK => ?_)
          have cut71 : ∀ (K5 : xM) (h5 : rfS tp n B K5 (shmR tp n (th2 tp n r))), G X 319 0 0 K5 (xRL nw sp) 71 [(0, .ref 307), (1, .int (nI (figR tp (th4 tp n r)))), (2, .int (nI (figR tp (th3 tp n r)))), (3, .int (xb (wrdP tp wShow (th2 tp n r))))] [] := by
            intro K5 h5
            refine g_aload_n hX dX6_readThing_71 rfl 0 rfl ?_
            refine g_callVrv hX (as := []) (fun l => c_X6_mustEnd l (I := K5) (tp := tp) (n := n) (B := B) (r := shmR tp n (th2 tp n r)) (ht := (by first | assumption | omega)) (hr := h5)) mX6_mustEnd vX6_mustEnd lX6_143 (by decide) (by decide) xCl6 rfl rfl dX6_readThing_72 rfl (by decide) (Nat.le_of_ble_eq_true rfl) (by decide) (by decide) (fun K8 h8 => ?_)
            refine g_aload_n hX dX6_readThing_75 rfl 0 rfl ?_
            refine g_getI (v := K8 307 18) hX (by decide) (by decide) xCl6 18 (by decide) (by decide) kX6_102 dX6_readThing_76 rfl ?_
            refine g_cz_ne (a := (K8 307 18).toInt) (tgt := 141) hX dX6_readThing_79 (by decide) rfl (fun h79 => ?_) (fun h79 => ?_)
            · exact g_vret hX hR dX6_readThing_141 (by decide) (by decide) ⟨rfl, rfl, (by first | exact adh_l h8 h79 | exact rf_adh2 h8 (xb_n1 h122) | exact rf_adh2 h8 (xb_n0 h122)), rfl⟩
            · have h8 : rfS tp n B K8 (th1 tp n r) := h8
              obtain ⟨t, f, e8⟩ := rf_r h8 (by omega)
              obtain ⟨hT6, t0, e0⟩ := k_th1 e8
              have hrow : f 1 = nI (rowT 1 r) := by subst e0; exact pi_r hp (by decide)
              have hr0 : K8 312 1 = nI (rowT 1 r) := by rw [e8] at h8; rw [(rf_i h8).2.2.2.2.2.2]; exact hrow
              have hT5 : rowT 1 r ≤ 5 := by have := pi_row hp (i := 1) (by decide); rw [hrow, nI_toInt (by omega)] at hT6; omega
              refine g_bipush (v := nI 56) hX dX6_readThing_82 (by decide) ?_
              refine g_iconst (v := nI 3) hX dX6_readThing_84 (by decide) ?_
              refine g_aload_n hX dX6_readThing_85 rfl 0 rfl ?_
              refine g_getR (j := 312) hX (by decide) (by decide) xCl6 6 (by decide) (by decide) kX6_22 dX6_readThing_86 rfl ?_
              refine g_iconst (v := nI 1) hX dX6_readThing_89 (by decide) ?_
              refine g_iald (v := nI (rowT 1 r)) hX (by decide) (by decide) 1 rfl (by rw [(show xN 312 = 74 by decide)]; decide) dX6_readThing_90 hr0 ?_
              refine g_imul (v := nI (3 * (rowT 1 r))) hX dX6_readThing_91 (nI_mul 3 (rowT 1 r)) ?_
              refine g_iadd (v := nI (56 + (3 * (rowT 1 r)))) hX dX6_readThing_92 (nI_add 56 (3 * (rowT 1 r))) ?_
              refine g_istore (L' := [(0, .ref 307), (1, .int (nI (figR tp (th4 tp n r)))), (2, .int (nI (figR tp (th3 tp n r)))), (3, .int (xb (wrdP tp wShow (th2 tp n r)))), (4, .int (nI (56 + (3 * (rowT 1 r)))))]) hX dX6_readThing_93 (by decide) rfl ?_
              refine g_aload_n hX dX6_readThing_95 rfl 0 rfl ?_
              refine g_getR (j := 312) hX (by decide) (by decide) xCl6 6 (by decide) (by decide) kX6_22 dX6_readThing_96 rfl ?_
              refine g_iload hX dX6_readThing_99 4 rfl ?_
              refine g_iload_n hX dX6_readThing_101 rfl 1 rfl ?_
              refine g_iast hX (by decide) (by decide) (56 + (3 * (rowT 1 r))) rfl (by rw [(show xN 312 = 74 by decide)]; omega) dX6_readThing_102 ?_
              refine g_aload_n hX dX6_readThing_103 rfl 0 rfl ?_
              refine g_getR (j := 312) hX (by decide) (by decide) xCl6 6 (by decide) (by decide) kX6_22 dX6_readThing_104 rfl ?_
              refine g_iload hX dX6_readThing_107 4 rfl ?_
              refine g_iconst (v := nI 1) hX dX6_readThing_109 (by decide) ?_
              refine g_iadd (v := nI ((56 + (3 * (rowT 1 r))) + 1)) hX dX6_readThing_110 (nI_add (56 + (3 * (rowT 1 r))) 1) ?_
              refine g_iload_n hX dX6_readThing_111 rfl 2 rfl ?_
              refine g_iast hX (by decide) (by decide) ((56 + (3 * (rowT 1 r))) + 1) rfl (by rw [(show xN 312 = 74 by decide)]; omega) dX6_readThing_112 ?_
              refine g_aload_n hX dX6_readThing_113 rfl 0 rfl ?_
              refine g_getR (j := 312) hX (by decide) (by decide) xCl6 6 (by decide) (by decide) kX6_22 dX6_readThing_114 rfl ?_
              refine g_iload hX dX6_readThing_117 4 rfl ?_
              refine g_iconst (v := nI 2) hX dX6_readThing_119 (by decide) ?_
              refine g_iadd (v := nI ((56 + (3 * (rowT 1 r))) + 2)) hX dX6_readThing_120 (nI_add (56 + (3 * (rowT 1 r))) 2) ?_
              refine g_iload_n hX dX6_readThing_121 rfl 3 rfl ?_
              refine g_cb_eq (tgt := 129) hX dX6_readThing_122 (by decide) (fun h122 => ?_) (fun h122 => ?_)
              · refine g_iconst (v := nI 0) hX dX6_readThing_129 (by decide) ?_
                refine g_iast hX (by decide) (by decide) ((56 + (3 * (rowT 1 r))) + 2) rfl (by rw [(show xN 312 = 74 by decide)]; omega) dX6_readThing_130 ?_
                refine g_aload_n hX dX6_readThing_131 rfl 0 rfl ?_
                refine g_getR (j := 312) hX (by decide) (by decide) xCl6 6 (by decide) (by decide) kX6_22 dX6_readThing_132 rfl ?_
                refine g_iconst (v := nI 1) hX dX6_readThing_135 (by decide) ?_
                refine g_dup2 hX rfl rfl dX6_readThing_136 ?_
                refine g_iald (v := nI (rowT 1 r)) hX (by decide) (by decide) 1 rfl (by rw [(show xN 312 = 74 by decide)]; decide) dX6_readThing_137 (xput_i (by omega) (xput_i (by omega) (xput_i (by omega) hr0))) ?_
                refine g_iconst (v := nI 1) hX dX6_readThing_138 (by decide) ?_
                refine g_iadd (v := nI ((rowT 1 r) + 1)) hX dX6_readThing_139 (nI_add (rowT 1 r) 1) ?_
                refine g_iast hX (by decide) (by decide) 1 rfl (by rw [(show xN 312 = 74 by decide)]; decide) dX6_readThing_140 ?_
                exact g_vret hX hR dX6_readThing_141 (by decide) (by decide) ⟨rfl, rfl, (by first | exact adh_l h8 h79 | exact rf_adh2 h8 (xb_n1 h122) | exact rf_adh2 h8 (xb_n0 h122)), rfl⟩
              · refine g_iconst (v := nI 1) hX dX6_readThing_125 (by decide) ?_
                refine g_goto (tgt := 130) hX dX6_readThing_126 (by decide) ?_
                refine g_iast hX (by decide) (by decide) ((56 + (3 * (rowT 1 r))) + 2) rfl (by rw [(show xN 312 = 74 by decide)]; omega) dX6_readThing_130 ?_
                refine g_aload_n hX dX6_readThing_131 rfl 0 rfl ?_
                refine g_getR (j := 312) hX (by decide) (by decide) xCl6 6 (by decide) (by decide) kX6_22 dX6_readThing_132 rfl ?_
                refine g_iconst (v := nI 1) hX dX6_readThing_135 (by decide) ?_
                refine g_dup2 hX rfl rfl dX6_readThing_136 ?_
                refine g_iald (v := nI (rowT 1 r)) hX (by decide) (by decide) 1 rfl (by rw [(show xN 312 = 74 by decide)]; decide) dX6_readThing_137 (xput_i (by omega) (xput_i (by omega) (xput_i (by omega) hr0))) ?_
                refine g_iconst (v := nI 1) hX dX6_readThing_138 (by decide) ?_
                refine g_iadd (v := nI ((rowT 1 r) + 1)) hX dX6_readThing_139 (nI_add (rowT 1 r) 1) ?_
                refine g_iast hX (by decide) (by decide) 1 rfl (by rw [(show xN 312 = 74 by decide)]; decide) dX6_readThing_140 ?_
                exact g_vret hX hR dX6_readThing_141 (by decide) (by decide) ⟨rfl, rfl, (by first | exact adh_l h8 h79 | exact rf_adh2 h8 (xb_n1 h122) | exact rf_adh2 h8 (xb_n0 h122)), rfl⟩
          exact cut71 K (by first | (rw [shm_y (Or.inl h49), ← mus_1]; exact hK) | (rw [shm_y (Or.inr hw2), ← mus_1]; exact hK) | (rw [shm_n (fun q => q.elim h49 hw2), ← mus_0 (tp := tp) (n := n)]; exact hK))
        · refine g_aload_n hX dX6_readThing_52 rfl 0 rfl ?_
          refine g_callVl hX (as := []) (fun l => c_X6_name l (I := K3) (tp := tp) (n := n) (B := B) (r := th2 tp n r) (ht := ht) (hr := h3)) mX6_name vX6_name lX6_133 (by decide) (by decide) xCl6 rfl rfl dX6_readThing_53 rfl (by decide) (Nat.le_of_ble_eq_true rfl) (by decide) (by decide) ?_
          refine g_ldc2 (v := 1751737445) hX cX6_159 dX6_readThing_56 ?_
          refine g_lcmp (v := lg_cmp (nmV tp (th2 tp n r)) (1751737445)) hX dX6_readThing_59 rfl ?_
          refine g_cz_ne (a := (lg_cmp (nmV tp (th2 tp n r)) (1751737445)).toInt) (tgt := 67) hX dX6_readThing_60 (by decide) rfl (fun h60 => ?_) (fun h60 => ?_)
          · have hw2 := fun q => h60 (lcmp_eq.mpr ((nm_Hide (rf_W (r := th2 tp n r) h3)).mpr q))
            refine g_iconst (v := nI 0) hX dX6_readThing_67 (by decide) ?_
            refine g_callVrv hX (as := [.int (nI 0)]) (fun l => c_X6_must_0 l (I := K3) (tp := tp) (n := n) (B := B) (r := th2 tp n r) (ht := (by first | assumption | omega)) (hr := h3)) mX6_must vX6_must lX6_119 (by decide) (by decide) xCl6 rfl rfl dX6_readThing_68 rfl (by decide) (Nat.le_of_ble_eq_true rfl) (by decide) (by decide) (fun K hK => ?_)
            have cut71 : ∀ (K5 : xM) (h5 : rfS tp n B K5 (shmR tp n (th2 tp n r))), G X 319 0 0 K5 (xRL nw sp) 71 [(0, .ref 307), (1, .int (nI (figR tp (th4 tp n r)))), (2, .int (nI (figR tp (th3 tp n r)))), (3, .int (xb (wrdP tp wShow (th2 tp n r))))] [] := by
              intro K5 h5
              refine g_aload_n hX dX6_readThing_71 rfl 0 rfl ?_
              refine g_callVrv hX (as := []) (fun l => c_X6_mustEnd l (I := K5) (tp := tp) (n := n) (B := B) (r := shmR tp n (th2 tp n r)) (ht := (by first | assumption | omega)) (hr := h5)) mX6_mustEnd vX6_mustEnd lX6_143 (by decide) (by decide) xCl6 rfl rfl dX6_readThing_72 rfl (by decide) (Nat.le_of_ble_eq_true rfl) (by decide) (by decide) (fun K8 h8 => ?_)
              refine g_aload_n hX dX6_readThing_75 rfl 0 rfl ?_
              refine g_getI (v := K8 307 18) hX (by decide) (by decide) xCl6 18 (by decide) (by decide) kX6_102 dX6_readThing_76 rfl ?_
              refine g_cz_ne (a := (K8 307 18).toInt) (tgt := 141) hX dX6_readThing_79 (by decide) rfl (fun h79 => ?_) (fun h79 => ?_)
              · exact g_vret hX hR dX6_readThing_141 (by decide) (by decide) ⟨rfl, rfl, (by first | exact adh_l h8 h79 | exact rf_adh2 h8 (xb_n1 h122) | exact rf_adh2 h8 (xb_n0 h122)), rfl⟩
              · have h8 : rfS tp n B K8 (th1 tp n r) := h8
                obtain ⟨t, f, e8⟩ := rf_r h8 (by omega)
                obtain ⟨hT6, t0, e0⟩ := k_th1 e8
                have hrow : f 1 = nI (rowT 1 r) := by subst e0; exact pi_r hp (by decide)
                have hr0 : K8 312 1 = nI (rowT 1 r) := by rw [e8] at h8; rw [(rf_i h8).2.2.2.2.2.2]; exact hrow
                have hT5 : rowT 1 r ≤ 5 := by have := pi_row hp (i := 1) (by decide); rw [hrow, nI_toInt (by omega)] at hT6; omega
                refine g_bipush (v := nI 56) hX dX6_readThing_82 (by decide) ?_
                refine g_iconst (v := nI 3) hX dX6_readThing_84 (by decide) ?_
                refine g_aload_n hX dX6_readThing_85 rfl 0 rfl ?_
                refine g_getR (j := 312) hX (by decide) (by decide) xCl6 6 (by decide) (by decide) kX6_22 dX6_readThing_86 rfl ?_
                refine g_iconst (v := nI 1) hX dX6_readThing_89 (by decide) ?_
                refine g_iald (v := nI (rowT 1 r)) hX (by decide) (by decide) 1 rfl (by rw [(show xN 312 = 74 by decide)]; decide) dX6_readThing_90 hr0 ?_
                refine g_imul (v := nI (3 * (rowT 1 r))) hX dX6_readThing_91 (nI_mul 3 (rowT 1 r)) ?_
                refine g_iadd (v := nI (56 + (3 * (rowT 1 r)))) hX dX6_readThing_92 (nI_add 56 (3 * (rowT 1 r))) ?_
                refine g_istore (L' := [(0, .ref 307), (1, .int (nI (figR tp (th4 tp n r)))), (2, .int (nI (figR tp (th3 tp n r)))), (3, .int (xb (wrdP tp wShow (th2 tp n r)))), (4, .int (nI (56 + (3 * (rowT 1 r)))))]) hX dX6_readThing_93 (by decide) rfl ?_
                refine g_aload_n hX dX6_readThing_95 rfl 0 rfl ?_
                refine g_getR (j := 312) hX (by decide) (by decide) xCl6 6 (by decide) (by decide) kX6_22 dX6_readThing_96 rfl ?_
                refine g_iload hX dX6_readThing_99 4 rfl ?_
                refine g_iload_n hX dX6_readThing_101 rfl 1 rfl ?_
                refine g_iast hX (by decide) (by decide) (56 + (3 * (rowT 1 r))) rfl (by rw [(show xN 312 = 74 by decide)]; omega) dX6_readThing_102 ?_
                refine g_aload_n hX dX6_readThing_103 rfl 0 rfl ?_
                refine g_getR (j := 312) hX (by decide) (by decide) xCl6 6 (by decide) (by decide) kX6_22 dX6_readThing_104 rfl ?_
                refine g_iload hX dX6_readThing_107 4 rfl ?_
                refine g_iconst (v := nI 1) hX dX6_readThing_109 (by decide) ?_
                refine g_iadd (v := nI ((56 + (3 * (rowT 1 r))) + 1)) hX dX6_readThing_110 (nI_add (56 + (3 * (rowT 1 r))) 1) ?_
                refine g_iload_n hX dX6_readThing_111 rfl 2 rfl ?_
                refine g_iast hX (by decide) (by decide) ((56 + (3 * (rowT 1 r))) + 1) rfl (by rw [(show xN 312 = 74 by decide)]; omega) dX6_readThing_112 ?_
                refine g_aload_n hX dX6_readThing_113 rfl 0 rfl ?_
                refine g_getR (j := 312) hX (by decide) (by decide) xCl6 6 (by decide) (by decide) kX6_22 dX6_readThing_114 rfl ?_
                refine g_iload hX dX6_readThing_117 4 rfl ?_
                refine g_iconst (v := nI 2) hX dX6_readThing_119 (by decide) ?_
                refine g_iadd (v := nI ((56 + (3 * (rowT 1 r))) + 2)) hX dX6_readThing_120 (nI_add (56 + (3 * (rowT 1 r))) 2) ?_
                refine g_iload_n hX dX6_readThing_121 rfl 3 rfl ?_
                refine g_cb_eq (tgt := 129) hX dX6_readThing_122 (by decide) (fun h122 => ?_) (fun h122 => ?_)
                · refine g_iconst (v := nI 0) hX dX6_readThing_129 (by decide) ?_
                  refine g_iast hX (by decide) (by decide) ((56 + (3 * (rowT 1 r))) + 2) rfl (by rw [(show xN 312 = 74 by decide)]; omega) dX6_readThing_130 ?_
                  refine g_aload_n hX dX6_readThing_131 rfl 0 rfl ?_
                  refine g_getR (j := 312) hX (by decide) (by decide) xCl6 6 (by decide) (by decide) kX6_22 dX6_readThing_132 rfl ?_
                  refine g_iconst (v := nI 1) hX dX6_readThing_135 (by decide) ?_
                  refine g_dup2 hX rfl rfl dX6_readThing_136 ?_
                  refine g_iald (v := nI (rowT 1 r)) hX (by decide) (by decide) 1 rfl (by rw [(show xN 312 = 74 by decide)]; decide) dX6_readThing_137 (xput_i (by omega) (xput_i (by omega) (xput_i (by omega) hr0))) ?_
                  refine g_iconst (v := nI 1) hX dX6_readThing_138 (by decide) ?_
                  refine g_iadd (v := nI ((rowT 1 r) + 1)) hX dX6_readThing_139 (nI_add (rowT 1 r) 1) ?_
                  refine g_iast hX (by decide) (by decide) 1 rfl (by rw [(show xN 312 = 74 by decide)]; decide) dX6_readThing_140 ?_
                  exact g_vret hX hR dX6_readThing_141 (by decide) (by decide) ⟨rfl, rfl, (by first | exact adh_l h8 h79 | exact rf_adh2 h8 (xb_n1 h122) | exact rf_adh2 h8 (xb_n0 h122)), rfl⟩
                · refine g_iconst (v := nI 1) hX dX6_readThing_125 (by decide) ?_
                  refine g_goto (tgt := 130) hX dX6_readThing_126 (by decide) ?_
                  refine g_iast hX (by decide) (by decide) ((56 + (3 * (rowT 1 r))) + 2) rfl (by rw [(show xN 312 = 74 by decide)]; omega) dX6_readThing_130 ?_
                  refine g_aload_n hX dX6_readThing_131 rfl 0 rfl ?_
                  refine g_getR (j := 312) hX (by decide) (by decide) xCl6 6 (by decide) (by decide) kX6_22 dX6_readThing_132 rfl ?_
                  refine g_iconst (v := nI 1) hX dX6_readThing_135 (by decide) ?_
                  refine g_dup2 hX rfl rfl dX6_readThing_136 ?_
                  refine g_iald (v := nI (rowT 1 r)) hX (by decide) (by decide) 1 rfl (by rw [(show xN 312 = 74 by decide)]; decide) dX6_readThing_137 (xput_i (by omega) (xput_i (by omega) (xput_i (by omega) hr0))) ?_
                  refine g_iconst (v := nI 1) hX dX6_readThing_138 (by decide) ?_
                  refine g_iadd (v := nI ((rowT 1 r) + 1)) hX dX6_readThing_139 (nI_add (rowT 1 r) 1) ?_
                  refine g_iast hX (by decide) (by decide) 1 rfl (by rw [(show xN 312 = 74 by decide)]; decide) dX6_readThing_140 ?_
                  exact g_vret hX hR dX6_readThing_141 (by decide) (by decide) ⟨rfl, rfl, (by first | exact adh_l h8 h79 | exact rf_adh2 h8 (xb_n1 h122) | exact rf_adh2 h8 (xb_n0 h122)), rfl⟩
            exact cut71 K (by first | (rw [shm_y (Or.inl h49), ← mus_1]; exact hK) | (rw [shm_y (Or.inr hw2), ← mus_1]; exact hK) | (rw [shm_n (fun q => q.elim h49 hw2), ← mus_0 (tp := tp) (n := n)]; exact hK))
          · have hw2 := (nm_Hide (rf_W (r := th2 tp n r) h3)).mp (lcmp_eq.mp h60)
            refine g_iconst (v := nI 1) hX dX6_readThing_63 (by decide) ?_
            refine g_goto (tgt := 68) hX dX6_readThing_64 (by decide) ?_
            refine g_callVrv hX (as := [.int (nI 1)]) (fun l => c_X6_must_1 l (I := K3) (tp := tp) (n := n) (B := B) (r := th2 tp n r) (ht := (by first | assumption | omega)) (hr := h3)) mX6_must vX6_must lX6_119 (by decide) (by decide) xCl6 rfl rfl dX6_readThing_68 rfl (by decide) (Nat.le_of_ble_eq_true rfl) (by decide) (by decide) (fun K hK => ?_)
            have cut71 : ∀ (K5 : xM) (h5 : rfS tp n B K5 (shmR tp n (th2 tp n r))), G X 319 0 0 K5 (xRL nw sp) 71 [(0, .ref 307), (1, .int (nI (figR tp (th4 tp n r)))), (2, .int (nI (figR tp (th3 tp n r)))), (3, .int (xb (wrdP tp wShow (th2 tp n r))))] [] := by
              intro K5 h5
              refine g_aload_n hX dX6_readThing_71 rfl 0 rfl ?_
              refine g_callVrv hX (as := []) (fun l => c_X6_mustEnd l (I := K5) (tp := tp) (n := n) (B := B) (r := shmR tp n (th2 tp n r)) (ht := (by first | assumption | omega)) (hr := h5)) mX6_mustEnd vX6_mustEnd lX6_143 (by decide) (by decide) xCl6 rfl rfl dX6_readThing_72 rfl (by decide) (Nat.le_of_ble_eq_true rfl) (by decide) (by decide) (fun K8 h8 => ?_)
              refine g_aload_n hX dX6_readThing_75 rfl 0 rfl ?_
              refine g_getI (v := K8 307 18) hX (by decide) (by decide) xCl6 18 (by decide) (by decide) kX6_102 dX6_readThing_76 rfl ?_
              refine g_cz_ne (a := (K8 307 18).toInt) (tgt := 141) hX dX6_readThing_79 (by decide) rfl (fun h79 => ?_) (fun h79 => ?_)
              · exact g_vret hX hR dX6_readThing_141 (by decide) (by decide) ⟨rfl, rfl, (by first | exact adh_l h8 h79 | exact rf_adh2 h8 (xb_n1 h122) | exact rf_adh2 h8 (xb_n0 h122)), rfl⟩
              · have h8 : rfS tp n B K8 (th1 tp n r) := h8
                obtain ⟨t, f, e8⟩ := rf_r h8 (by omega)
                obtain ⟨hT6, t0, e0⟩ := k_th1 e8
                have hrow : f 1 = nI (rowT 1 r) := by subst e0; exact pi_r hp (by decide)
                have hr0 : K8 312 1 = nI (rowT 1 r) := by rw [e8] at h8; rw [(rf_i h8).2.2.2.2.2.2]; exact hrow
                have hT5 : rowT 1 r ≤ 5 := by have := pi_row hp (i := 1) (by decide); rw [hrow, nI_toInt (by omega)] at hT6; omega
                refine g_bipush (v := nI 56) hX dX6_readThing_82 (by decide) ?_
                refine g_iconst (v := nI 3) hX dX6_readThing_84 (by decide) ?_
                refine g_aload_n hX dX6_readThing_85 rfl 0 rfl ?_
                refine g_getR (j := 312) hX (by decide) (by decide) xCl6 6 (by decide) (by decide) kX6_22 dX6_readThing_86 rfl ?_
                refine g_iconst (v := nI 1) hX dX6_readThing_89 (by decide) ?_
                refine g_iald (v := nI (rowT 1 r)) hX (by decide) (by decide) 1 rfl (by rw [(show xN 312 = 74 by decide)]; decide) dX6_readThing_90 hr0 ?_
                refine g_imul (v := nI (3 * (rowT 1 r))) hX dX6_readThing_91 (nI_mul 3 (rowT 1 r)) ?_
                refine g_iadd (v := nI (56 + (3 * (rowT 1 r)))) hX dX6_readThing_92 (nI_add 56 (3 * (rowT 1 r))) ?_
                refine g_istore (L' := [(0, .ref 307), (1, .int (nI (figR tp (th4 tp n r)))), (2, .int (nI (figR tp (th3 tp n r)))), (3, .int (xb (wrdP tp wShow (th2 tp n r)))), (4, .int (nI (56 + (3 * (rowT 1 r)))))]) hX dX6_readThing_93 (by decide) rfl ?_
                refine g_aload_n hX dX6_readThing_95 rfl 0 rfl ?_
                refine g_getR (j := 312) hX (by decide) (by decide) xCl6 6 (by decide) (by decide) kX6_22 dX6_readThing_96 rfl ?_
                refine g_iload hX dX6_readThing_99 4 rfl ?_
                refine g_iload_n hX dX6_readThing_101 rfl 1 rfl ?_
                refine g_iast hX (by decide) (by decide) (56 + (3 * (rowT 1 r))) rfl (by rw [(show xN 312 = 74 by decide)]; omega) dX6_readThing_102 ?_
                refine g_aload_n hX dX6_readThing_103 rfl 0 rfl ?_
                refine g_getR (j := 312) hX (by decide) (by decide) xCl6 6 (by decide) (by decide) kX6_22 dX6_readThing_104 rfl ?_
                refine g_iload hX dX6_readThing_107 4 rfl ?_
                refine g_iconst (v := nI 1) hX dX6_readThing_109 (by decide) ?_
                refine g_iadd (v := nI ((56 + (3 * (rowT 1 r))) + 1)) hX dX6_readThing_110 (nI_add (56 + (3 * (rowT 1 r))) 1) ?_
                refine g_iload_n hX dX6_readThing_111 rfl 2 rfl ?_
                refine g_iast hX (by decide) (by decide) ((56 + (3 * (rowT 1 r))) + 1) rfl (by rw [(show xN 312 = 74 by decide)]; omega) dX6_readThing_112 ?_
                refine g_aload_n hX dX6_readThing_113 rfl 0 rfl ?_
                refine g_getR (j := 312) hX (by decide) (by decide) xCl6 6 (by decide) (by decide) kX6_22 dX6_readThing_114 rfl ?_
                refine g_iload hX dX6_readThing_117 4 rfl ?_
                refine g_iconst (v := nI 2) hX dX6_readThing_119 (by decide) ?_
                refine g_iadd (v := nI ((56 + (3 * (rowT 1 r))) + 2)) hX dX6_readThing_120 (nI_add (56 + (3 * (rowT 1 r))) 2) ?_
                refine g_iload_n hX dX6_readThing_121 rfl 3 rfl ?_
                refine g_cb_eq (tgt := 129) hX dX6_readThing_122 (by decide) (fun h122 => ?_) (fun h122 => ?_)
                · refine g_iconst (v := nI 0) hX dX6_readThing_129 (by decide) ?_
                  refine g_iast hX (by decide) (by decide) ((56 + (3 * (rowT 1 r))) + 2) rfl (by rw [(show xN 312 = 74 by decide)]; omega) dX6_readThing_130 ?_
                  refine g_aload_n hX dX6_readThing_131 rfl 0 rfl ?_
                  refine g_getR (j := 312) hX (by decide) (by decide) xCl6 6 (by decide) (by decide) kX6_22 dX6_readThing_132 rfl ?_
                  refine g_iconst (v := nI 1) hX dX6_readThing_135 (by decide) ?_
                  refine g_dup2 hX rfl rfl dX6_readThing_136 ?_
                  refine g_iald (v := nI (rowT 1 r)) hX (by decide) (by decide) 1 rfl (by rw [(show xN 312 = 74 by decide)]; decide) dX6_readThing_137 (xput_i (by omega) (xput_i (by omega) (xput_i (by omega) hr0))) ?_
                  refine g_iconst (v := nI 1) hX dX6_readThing_138 (by decide) ?_
                  refine g_iadd (v := nI ((rowT 1 r) + 1)) hX dX6_readThing_139 (nI_add (rowT 1 r) 1) ?_
                  refine g_iast hX (by decide) (by decide) 1 rfl (by rw [(show xN 312 = 74 by decide)]; decide) dX6_readThing_140 ?_
                  exact g_vret hX hR dX6_readThing_141 (by decide) (by decide) ⟨rfl, rfl, (by first | exact adh_l h8 h79 | exact rf_adh2 h8 (xb_n1 h122) | exact rf_adh2 h8 (xb_n0 h122)), rfl⟩
                · refine g_iconst (v := nI 1) hX dX6_readThing_125 (by decide) ?_
                  refine g_goto (tgt := 130) hX dX6_readThing_126 (by decide) ?_
                  refine g_iast hX (by decide) (by decide) ((56 + (3 * (rowT 1 r))) + 2) rfl (by rw [(show xN 312 = 74 by decide)]; omega) dX6_readThing_130 ?_
                  refine g_aload_n hX dX6_readThing_131 rfl 0 rfl ?_
                  refine g_getR (j := 312) hX (by decide) (by decide) xCl6 6 (by decide) (by decide) kX6_22 dX6_readThing_132 rfl ?_
                  refine g_iconst (v := nI 1) hX dX6_readThing_135 (by decide) ?_
                  refine g_dup2 hX rfl rfl dX6_readThing_136 ?_
                  refine g_iald (v := nI (rowT 1 r)) hX (by decide) (by decide) 1 rfl (by rw [(show xN 312 = 74 by decide)]; decide) dX6_readThing_137 (xput_i (by omega) (xput_i (by omega) (xput_i (by omega) hr0))) ?_
                  refine g_iconst (v := nI 1) hX dX6_readThing_138 (by decide) ?_
                  refine g_iadd (v := nI ((rowT 1 r) + 1)) hX dX6_readThing_139 (nI_add (rowT 1 r) 1) ?_
                  refine g_iast hX (by decide) (by decide) 1 rfl (by rw [(show xN 312 = 74 by decide)]; decide) dX6_readThing_140 ?_
                  exact g_vret hX hR dX6_readThing_141 (by decide) (by decide) ⟨rfl, rfl, (by first | exact adh_l h8 h79 | exact rf_adh2 h8 (xb_n1 h122) | exact rf_adh2 h8 (xb_n0 h122)), rfl⟩
            exact cut71 K (by first | (rw [shm_y (Or.inl h49), ← mus_1]; exact hK) | (rw [shm_y (Or.inr hw2), ← mus_1]; exact hK) | (rw [shm_n (fun q => q.elim h49 hw2), ← mus_0 (tp := tp) (n := n)]; exact hK))
    exact cut40 (nI 1) (by first | exact xb_n1 hw | exact xb_n0 hw)

theorem c_X6_begin (l : Launch) {nw sp : Nat} {I : xM} {tp : Nat → Nat} {n : Nat} (hq : tpQ I tp n) : xC l 3 0 0 yX6_begin cX6_begin 1 none 319 [.ref 307] I (xRL nw sp) (xpW 319 (xRL nw sp) (fun J => rfS tp n (gB I n) J (.inr (lx tp n 0, I 312)))) := by
  refine xC_of (by decide) (Nat.le_of_ble_eq_true rfl) (fun X hXl hX hR => ?_)
  have hX : xOK X RX6 cX6_begin 1 3 0 0 := hX
  show G X 319 0 0 I (xRL nw sp) 0 [(0, .ref 307)] []
  refine g_aload_n hX dX6_begin_0 rfl 0 rfl ?_
  refine g_aload_n hX dX6_begin_1 rfl 0 rfl ?_
  refine g_getI (v := nI n) hX (by decide) (by decide) xCl6 11 (by decide) (by decide) kX6_71 dX6_begin_2 hq.1 ?_
  refine g_putI hX (by decide) (by decide) xCl6 13 (by decide) (by decide) (by decide) kX6_77 dX6_begin_5 rfl rfl ?_
  refine g_aload_n hX dX6_begin_8 rfl 0 rfl ?_
  refine g_iconst (v := nI 0) hX dX6_begin_9 (by decide) ?_
  refine g_putI hX (by decide) (by decide) xCl6 11 (by decide) (by decide) (by decide) kX6_71 dX6_begin_10 rfl rfl ?_
  refine g_aload_n hX dX6_begin_13 rfl 0 rfl ?_
  refine g_iconst (v := nI 0) hX dX6_begin_14 (by decide) ?_
  refine g_putI hX (by decide) (by decide) xCl6 14 (by decide) (by decide) (by decide) kX6_81 dX6_begin_15 rfl rfl ?_
  refine g_aload_n hX dX6_begin_18 rfl 0 rfl ?_
  refine g_iconst (v := nI 0) hX dX6_begin_19 (by decide) ?_
  refine g_putI hX (by decide) (by decide) xCl6 18 (by decide) (by decide) (by decide) kX6_102 dX6_begin_20 rfl rfl ?_
  refine g_aload_n hX dX6_begin_23 rfl 0 rfl ?_
  refine g_callVrv hX (as := []) (fun l => c_X6_next l (I := (xput (xput (xput (xput I 307 13 (nI n)) 307 11 (nI 0)) 307 14 (nI 0)) 307 18 (nI 0))) (tp := tp) (n := n) (p0 := 0) (ht := ⟨xput_i (by decide) (xput_i (by decide) (tq_B hq).1), hq.2.1, fun k hk => ⟨xput_o (by decide) (xput_o (by decide) ((tq_B hq).2.2 k hk).1), (hq.2.2 k hk).2⟩⟩) (hp0 := (Nat.zero_le n)) (hc0 := (xput_i (by decide) xput_e))) mX6_next vX6_next lX6_105 (by decide) (by decide) xCl6 rfl rfl dX6_begin_24 rfl (by decide) (Nat.le_of_ble_eq_true rfl) (by decide) (by decide) (fun K hK => ?_)
  exact g_vret hX hR dX6_begin_27 (by decide) (by decide) ⟨rfl, rfl, (beg_rf hK), rfl⟩

theorem c_X6_garden (l : Launch) {nw sp : Nat} {I : xM} {tp : Nat → Nat} {n : Nat} (hq : tpQ I tp n) : xC l 6 0 0 yX6_garden cX6_garden 2 (some .int) 319 [.ref 307] I (xRL nw sp) (xpR 319 (xRL nw sp) (fun x J => ((∀ o, o ≠ 307 → o ≠ 312 → o ≠ 311 → J o = I o) ∧ (∀ j, (j = 0 ∨ j = 7 ∨ j = 9 ∨ (11 ≤ j ∧ j ≤ 19)) ∨ J 307 j = I 307 j) ∧ J 307 0 = nI 0 ∧ J 307 11 = nI 0) ∧ ((∃ e, psR tp n (.inr (lx tp n 0, bsF (I 312) 74)) = .inl e ∧ x = -1000100 - nI e.2 ∧ J 307 12 = nI e.1 ∧ J 307 7 = I 307 7 ∧ J 307 9 = I 307 9 ∧ J 311 = I 311) ∨ ∃ t f, psR tp n (.inr (lx tp n 0, bsF (I 312) 74)) = .inr (t, f) ∧ x = f 0 ∧ J 307 12 = I 307 12 ∧ J 307 7 = nI 1 ∧ J 307 9 = nI 0 ∧ ∀ i, i < 74 → J 311 i = f i))) := by
  refine xC_of (by decide) (Nat.le_of_ble_eq_true rfl) (fun X hXl hX hR => ?_)
  have hX : xOK X RX6 cX6_garden 2 6 0 0 := hX
  show G X 319 0 0 I (xRL nw sp) 0 [(0, .ref 307)] []
  have htB := tq_B (I := xput I 307 0 (nI 0)) (tp := tp) (n := n) ⟨xput_i (by decide) hq.1, hq.2.1, fun k hk => ⟨xput_o (by decide) (hq.2.2 k hk).1, (hq.2.2 k hk).2⟩⟩
  refine g_aload_n hX dX6_garden_0 rfl 0 rfl ?_
  refine g_iconst (v := nI 0) hX dX6_garden_1 (by decide) ?_
  refine g_putI hX (by decide) (by decide) xCl6 0 (by decide) (by decide) (by decide) kX6_44 dX6_garden_2 rfl rfl ?_
  refine g_aload_n hX dX6_garden_5 rfl 0 rfl ?_
  refine g_callVrv hX (as := []) (fun l => c_X6_begin l (I := (xput I 307 0 (nI 0))) (tp := tp) (n := n) (hq := ⟨xput_i (by decide) hq.1, hq.2.1, fun k hk => ⟨xput_o (by decide) (hq.2.2 k hk).1, (hq.2.2 k hk).2⟩⟩)) mX6_begin vX6_begin lX6_161 (by decide) (by decide) xCl6 rfl rfl dX6_garden_6 rfl (by decide) (Nat.le_of_ble_eq_true rfl) (by decide) (by decide) (fun K hbeg => ?_)
  refine g_iconst (v := nI 0) hX dX6_garden_9 (by decide) ?_
  refine g_istore_n (L' := [(0, .ref 307), (1, .int (nI 0))]) hX dX6_garden_10 rfl (by decide) rfl ?_
  have cut11 : ∀ (fuel : Nat) (k : Nat) (K : xM) (hk : k ≤ 74) (hb : rfS tp n (gB (xput I 307 0 (nI 0)) n) K (.inr (lx tp n 0, bsF (I 312) k))), 74 - k < fuel → G X 319 0 0 K (xRL nw sp) 11 [(0, .ref 307), (1, .int (nI k))] [] := by
    intro fuel
    induction fuel with
    | zero => intro k K hk hb hfuel; omega
    | succ fuel ih =>
      intro k K hk hb hfuel
      refine g_iload_n hX dX6_garden_11 rfl 1 rfl ?_
      refine g_bipush (v := nI 74) hX dX6_garden_12 (by decide) ?_
      refine g_ci_ge (a := ((k : Nat) : Int)) (b := (74 : Int)) (tgt := 40) hX dX6_garden_14 (by decide) (nI_toInt (by omega)) (by decide) (fun h14 => ?_) (fun h14 => ?_)
      · obtain rfl : k = 74 := by omega
        have cut40 : ∀ (K0 : xM) (hb0 : rfS tp n (gB (xput I 307 0 (nI 0)) n) K0 (.inr (lx tp n 0, bsF (I 312) 74))), G X 319 0 0 K0 (xRL nw sp) 40 [(0, .ref 307)] [] := by
          intro K0 hb0
          refine g_aload_n hX dX6_garden_40 rfl 0 rfl ?_
          refine g_callVrv hX (as := []) (fun l => c_X6_readGround l (I := K0) (tp := tp) (n := n) (B := (gB (xput I 307 0 (nI 0)) n)) (r := (.inr (lx tp n 0, bsF (I 312) 74))) (ht := htB) (hr := hb0)) mX6_readGround vX6_readGround lX6_164 (by decide) (by decide) xCl6 rfl rfl dX6_garden_41 rfl (by decide) (Nat.le_of_ble_eq_true rfl) (by decide) (by decide) (fun K1 h1 => ?_)
          refine g_aload_n hX dX6_garden_44 rfl 0 rfl ?_
          refine g_callVl hX (as := []) (fun l => c_X6_name l (I := K1) (tp := tp) (n := n) (B := (gB (xput I 307 0 (nI 0)) n)) (r := gndR tp n (.inr (lx tp n 0, bsF (I 312) 74))) (ht := htB) (hr := h1)) mX6_name vX6_name lX6_133 (by decide) (by decide) xCl6 rfl rfl dX6_garden_45 rfl (by decide) (Nat.le_of_ble_eq_true rfl) (by decide) (by decide) ?_
          refine g_ldc2 (v := 1818323813) hX cX6_167 dX6_garden_48 ?_
          refine g_lcmp (v := lg_cmp (nmV tp (gndR tp n (.inr (lx tp n 0, bsF (I 312) 74)))) (1818323813)) hX dX6_garden_51 rfl ?_
          refine g_cz_ne (a := (lg_cmp (nmV tp (gndR tp n (.inr (lx tp n 0, bsF (I 312) 74)))) (1818323813)).toInt) (tgt := 59) hX dX6_garden_52 (by decide) rfl (fun h52 => ?_) (fun h52 => ?_)
          · have hw := fun q => h52 (lcmp_eq.mpr ((nm_Lake (rf_W h1)).mpr q))
            have cut59 : ∀ (fuel59 : Nat) (q : xS) (K : xM) (hpi : PIR q) (hq2 : rfS tp n (gB (xput I 307 0 (nI 0)) n) K q) (hm : trI tp n 7 q = trI tp n 7 (lakO tp n (gndR tp n (.inr (lx tp n 0, bsF (I 312) 74))))), mT 0 q < fuel59 → G X 319 0 0 K (xRL nw sp) 59 [(0, .ref 307)] [] := by
              intro fuel59
              induction fuel59 with
              | zero => intro q K hpi hq2 hm hfuel59; omega
              | succ fuel59 ih59 =>
                intro q K hpi hq2 hm hfuel59
                refine g_aload_n hX dX6_garden_59 rfl 0 rfl ?_
                refine g_callVl hX (as := []) (fun l => c_X6_name l (I := K) (tp := tp) (n := n) (B := (gB (xput I 307 0 (nI 0)) n)) (r := q) (ht := htB) (hr := hq2)) mX6_name vX6_name lX6_133 (by decide) (by decide) xCl6 rfl rfl dX6_garden_60 rfl (by decide) (Nat.le_of_ble_eq_true rfl) (by decide) (by decide) ?_
                refine g_ldc2 (v := 1953654117) hX cX6_172 dX6_garden_63 ?_
                refine g_lcmp (v := lg_cmp (nmV tp q) (1953654117)) hX dX6_garden_66 rfl ?_
                refine g_cz_ne (a := (lg_cmp (nmV tp q) (1953654117)).toInt) (tgt := 77) hX dX6_garden_67 (by decide) rfl (fun h67 => ?_) (fun h67 => ?_)
                · have hw2 := fun q => h67 (lcmp_eq.mpr ((nm_Tree (rf_W hq2)).mpr q))
                  have cut77 : ∀ (fuel77 : Nat) (q : xS) (K : xM) (hpi : PIR q) (hq2 : rfS tp n (gB (xput I 307 0 (nI 0)) n) K q) (hm : thI tp n 7 q = thI tp n 7 (trI tp n 7 (lakO tp n (gndR tp n (.inr (lx tp n 0, bsF (I 312) 74)))))), mT 1 q < fuel77 → G X 319 0 0 K (xRL nw sp) 77 [(0, .ref 307)] [] := by
                    intro fuel77
                    induction fuel77 with
                    | zero => intro q K hpi hq2 hm hfuel77; omega
                    | succ fuel77 ih77 =>
                      intro q K hpi hq2 hm hfuel77
                      refine g_aload_n hX dX6_garden_77 rfl 0 rfl ?_
                      refine g_callVl hX (as := []) (fun l => c_X6_name l (I := K) (tp := tp) (n := n) (B := (gB (xput I 307 0 (nI 0)) n)) (r := q) (ht := htB) (hr := hq2)) mX6_name vX6_name lX6_133 (by decide) (by decide) xCl6 rfl rfl dX6_garden_78 rfl (by decide) (Nat.le_of_ble_eq_true rfl) (by decide) (by decide) ?_
                      refine g_ldc2 (v := 499967946343) hX cX6_177 dX6_garden_81 ?_
                      refine g_lcmp (v := lg_cmp (nmV tp q) (499967946343)) hX dX6_garden_84 rfl ?_
                      refine g_cz_ne (a := (lg_cmp (nmV tp q) (499967946343)).toInt) (tgt := 95) hX dX6_garden_85 (by decide) rfl (fun h85 => ?_) (fun h85 => ?_)
                      · have hw2 := fun q => h85 (lcmp_eq.mpr ((nm_Thing (rf_W hq2)).mpr q))
                        refine g_aload_n hX dX6_garden_95 rfl 0 rfl ?_
                        refine g_getI (v := K 307 18) hX (by decide) (by decide) xCl6 18 (by decide) (by decide) kX6_102 dX6_garden_96 rfl ?_
                        refine g_cz_ne (a := (K 307 18).toInt) (tgt := 115) hX dX6_garden_99 (by decide) rfl (fun h99 => ?_) (fun h99 => ?_)
                        · have cut115 : ∀ (K1 : xM) (hE : rfS tp n (gB (xput I 307 0 (nI 0)) n) K1 (psR tp n (.inr (lx tp n 0, bsF (I 312) 74)))), G X 319 0 0 K1 (xRL nw sp) 115 [(0, .ref 307)] [] := by
                            intro K1 hE
                            refine g_aload_n hX dX6_garden_115 rfl 0 rfl ?_
                            refine g_getI (v := K1 307 18) hX (by decide) (by decide) xCl6 18 (by decide) (by decide) kX6_102 dX6_garden_116 rfl ?_
                            refine g_cz_le (a := (K1 307 18).toInt) (tgt := 138) hX dX6_garden_119 (by decide) rfl (fun h119 => ?_) (fun h119 => ?_)
                            · obtain ⟨t, f, e9⟩ := rf_r hE (by omega)
                              have hE2 := hE
                              rw [e9] at hE2
                              have hin := rf_i hE2
                              refine g_aload_n hX dX6_garden_138 rfl 0 rfl ?_
                              refine g_iconst (v := nI 1) hX dX6_garden_139 (by decide) ?_
                              refine g_putI hX (by decide) (by decide) xCl6 7 (by decide) (by decide) (by decide) kX6_186 dX6_garden_140 (by decide) (by decide) ?_
                              refine g_aload_n hX dX6_garden_143 rfl 0 rfl ?_
                              refine g_iconst (v := nI 0) hX dX6_garden_144 (by decide) ?_
                              refine g_putI hX (by decide) (by decide) xCl6 9 (by decide) (by decide) (by decide) kX6_190 dX6_garden_145 rfl rfl ?_
                              refine g_iconst (v := nI 0) hX dX6_garden_148 (by decide) ?_
                              refine g_istore_n (L' := [(0, .ref 307), (1, .int (nI 0))]) hX dX6_garden_149 rfl (by decide) rfl ?_
                              have cut150 : ∀ (fuel150 : Nat) (k : Nat) (M : xM) (hk : k ≤ 74) (hM : ∀ o, o ≠ 311 → M o = (xput (xput K1 307 7 (nI 1)) 307 9 (nI 0)) o) (hM2 : ∀ i, i < k → M 311 i = f i), 74 - k < fuel150 → G X 319 0 0 M (xRL nw sp) 150 [(0, .ref 307), (1, .int (nI k))] [] := by
                                intro fuel150
                                induction fuel150 with
                                | zero => intro k M hk hM hM2 hfuel150; omega
                                | succ fuel150 ih150 =>
                                  intro k M hk hM hM2 hfuel150
                                  refine g_iload_n hX dX6_garden_150 rfl 1 rfl ?_
                                  refine g_bipush (v := nI 74) hX dX6_garden_151 (by decide) ?_
                                  refine g_ci_ge (a := ((k : Nat) : Int)) (b := (74 : Int)) (tgt := 174) hX dX6_garden_153 (by decide) (nI_toInt (by omega)) (by decide) (fun h153 => ?_) (fun h153 => ?_)
                                  · refine g_aload_n hX dX6_garden_174 rfl 0 rfl ?_
                                    refine g_getR (j := 311) hX (by decide) (by decide) xCl6 5 (by decide) (by decide) kX6_19 dX6_garden_175 rfl ?_
                                    refine g_iconst (v := nI 0) hX dX6_garden_178 (by decide) ?_
                                    refine g_iald (v := f 0) hX (by decide) (by decide) 0 rfl (by rw [(show xN 311 = 74 by decide)]; decide) dX6_garden_179 (hM2 0 (by omega)) ?_
                                    exact g_iret hX hR dX6_garden_180 (by decide) (by decide) ⟨_, rfl, rfl, (gar_r hE2 e9 hM (fun i hi => hM2 i (by omega))), rfl⟩
                                  · refine g_aload_n hX dX6_garden_156 rfl 0 rfl ?_
                                    refine g_getR (j := 311) hX (by decide) (by decide) xCl6 5 (by decide) (by decide) kX6_19 dX6_garden_157 rfl ?_
                                    refine g_iload_n hX dX6_garden_160 rfl 1 rfl ?_
                                    refine g_aload_n hX dX6_garden_161 rfl 0 rfl ?_
                                    refine g_getR (j := 312) hX (by decide) (by decide) xCl6 6 (by decide) (by decide) kX6_22 dX6_garden_162 rfl ?_
                                    refine g_iload_n hX dX6_garden_165 rfl 1 rfl ?_
                                    refine g_iald (v := f k) hX (by decide) (by decide) k rfl (by rw [(show xN 312 = 74 by decide)]; omega) dX6_garden_166 (by rw [hM 312 (by decide)]; exact (xput_o (by decide) (xput_o (by decide) (congrFun hin.2.2.2.2.2.2 k)))) ?_
                                    refine g_iast hX (by decide) (by decide) k rfl (by rw [(show xN 311 = 74 by decide)]; omega) dX6_garden_167 ?_
                                    refine g_iinc (v := nI (k + 1)) (L' := [(0, .ref 307), (1, .int (nI (k + 1)))]) hX dX6_garden_168 (by decide) 1 rfl (nI_add k 1) rfl ?_
                                    refine g_goto (tgt := 150) hX dX6_garden_171 (by decide) ?_
                                    exact ih150 (k + 1) (xput M 311 k (f k)) (by first | assumption | omega) (fun o ho => (xput_ne ho).trans (hM o ho)) (fun i hi => by by_cases e : i = k; exact e ▸ xput_e; exact xput_i e (hM2 i (by omega))) (by omega)
                              exact cut150 _ 0 (xput (xput K1 307 7 (nI 1)) 307 9 (nI 0)) (by first | assumption | omega) (fun _ _ => rfl) (fun i hi => absurd hi (Nat.not_lt_zero i)) (Nat.lt_succ_self _)
                            · obtain ⟨e, e9⟩ := rf_l hE (by omega)
                              have hE2 := hE
                              rw [e9] at hE2
                              have hin := rf_inl hE2
                              refine g_aload_n hX dX6_garden_122 rfl 0 rfl ?_
                              refine g_aload_n hX dX6_garden_123 rfl 0 rfl ?_
                              refine g_getI (v := nI e.1) hX (by decide) (by decide) xCl6 18 (by decide) (by decide) kX6_102 dX6_garden_124 hin.2.1 ?_
                              refine g_putI hX (by decide) (by decide) xCl6 12 (by decide) (by decide) (by decide) kX6_182 dX6_garden_127 rfl rfl ?_
                              refine g_ldc (v := -1000100) hX cX6_185 dX6_garden_130 ?_
                              refine g_aload_n hX dX6_garden_132 rfl 0 rfl ?_
                              refine g_getI (v := nI e.2) hX (by decide) (by decide) xCl6 19 (by decide) (by decide) kX6_108 dX6_garden_133 (xput_i (by decide) hin.2.2) ?_
                              refine g_isub (v := -1000100 - nI e.2) hX dX6_garden_136 rfl ?_
                              exact g_iret hX hR dX6_garden_137 (by decide) (by decide) ⟨_, rfl, rfl, (gar_l hE2 e9), rfl⟩
                          exact cut115 K (by show rfS tp n _ _ (endR (thI tp n 7 (trI tp n 7 (lakO tp n (gndR tp n (.inr (lx tp n 0, bsF (I 312) 74))))))); rw [← hm, thI_n hw2]; exact end_l hq2 h99)
                        · obtain ⟨t, f9, e9⟩ := rf_r hq2 (by omega)
                          rw [e9] at hq2
                          obtain ⟨htw, c14, c15, c16, c17, c18, c12⟩ := rf_i hq2
                          have hrk := rtk_c t.1
                          have ht4 := htw.2.2.1
                          refine g_aload_n hX dX6_garden_102 rfl 0 rfl ?_
                          refine g_getI (v := nI (rtk t.1)) hX (by decide) (by decide) xCl6 15 (by decide) (by decide) kX6_90 dX6_garden_103 c15 ?_
                          refine g_iconst (v := nI 1) hX dX6_garden_106 (by decide) ?_
                          refine g_ci_eq (a := ((rtk t.1 : Nat) : Int)) (b := (1 : Int)) (tgt := 115) hX dX6_garden_107 (by decide) (nI_toInt (by omega)) (by decide) (fun h107 => ?_) (fun h107 => ?_)
                          · have cut115 : ∀ (K1 : xM) (hE : rfS tp n (gB (xput I 307 0 (nI 0)) n) K1 (psR tp n (.inr (lx tp n 0, bsF (I 312) 74)))), G X 319 0 0 K1 (xRL nw sp) 115 [(0, .ref 307)] [] := by
                              intro K1 hE
                              refine g_aload_n hX dX6_garden_115 rfl 0 rfl ?_
                              refine g_getI (v := K1 307 18) hX (by decide) (by decide) xCl6 18 (by decide) (by decide) kX6_102 dX6_garden_116 rfl ?_
                              refine g_cz_le (a := (K1 307 18).toInt) (tgt := 138) hX dX6_garden_119 (by decide) rfl (fun h119 => ?_) (fun h119 => ?_)
                              · obtain ⟨t, f, e9⟩ := rf_r hE (by omega)
                                have hE2 := hE
                                rw [e9] at hE2
                                have hin := rf_i hE2
                                refine g_aload_n hX dX6_garden_138 rfl 0 rfl ?_
                                refine g_iconst (v := nI 1) hX dX6_garden_139 (by decide) ?_
                                refine g_putI hX (by decide) (by decide) xCl6 7 (by decide) (by decide) (by decide) kX6_186 dX6_garden_140 (by decide) (by decide) ?_
                                refine g_aload_n hX dX6_garden_143 rfl 0 rfl ?_
                                refine g_iconst (v := nI 0) hX dX6_garden_144 (by decide) ?_
                                refine g_putI hX (by decide) (by decide) xCl6 9 (by decide) (by decide) (by decide) kX6_190 dX6_garden_145 rfl rfl ?_
                                refine g_iconst (v := nI 0) hX dX6_garden_148 (by decide) ?_
                                refine g_istore_n (L' := [(0, .ref 307), (1, .int (nI 0))]) hX dX6_garden_149 rfl (by decide) rfl ?_
                                have cut150 : ∀ (fuel150 : Nat) (k : Nat) (M : xM) (hk : k ≤ 74) (hM : ∀ o, o ≠ 311 → M o = (xput (xput K1 307 7 (nI 1)) 307 9 (nI 0)) o) (hM2 : ∀ i, i < k → M 311 i = f i), 74 - k < fuel150 → G X 319 0 0 M (xRL nw sp) 150 [(0, .ref 307), (1, .int (nI k))] [] := by
                                  intro fuel150
                                  induction fuel150 with
                                  | zero => intro k M hk hM hM2 hfuel150; omega
                                  | succ fuel150 ih150 =>
                                    intro k M hk hM hM2 hfuel150
                                    refine g_iload_n hX dX6_garden_150 rfl 1 rfl ?_
                                    refine g_bipush (v := nI 74) hX dX6_garden_151 (by decide) ?_
                                    refine g_ci_ge (a := ((k : Nat) : Int)) (b := (74 : Int)) (tgt := 174) hX dX6_garden_153 (by decide) (nI_toInt (by omega)) (by decide) (fun h153 => ?_) (fun h153 => ?_)
                                    · refine g_aload_n hX dX6_garden_174 rfl 0 rfl ?_
                                      refine g_getR (j := 311) hX (by decide) (by decide) xCl6 5 (by decide) (by decide) kX6_19 dX6_garden_175 rfl ?_
                                      refine g_iconst (v := nI 0) hX dX6_garden_178 (by decide) ?_
                                      refine g_iald (v := f 0) hX (by decide) (by decide) 0 rfl (by rw [(show xN 311 = 74 by decide)]; decide) dX6_garden_179 (hM2 0 (by omega)) ?_
                                      exact g_iret hX hR dX6_garden_180 (by decide) (by decide) ⟨_, rfl, rfl, (gar_r hE2 e9 hM (fun i hi => hM2 i (by omega))), rfl⟩
                                    · refine g_aload_n hX dX6_garden_156 rfl 0 rfl ?_
                                      refine g_getR (j := 311) hX (by decide) (by decide) xCl6 5 (by decide) (by decide) kX6_19 dX6_garden_157 rfl ?_
                                      refine g_iload_n hX dX6_garden_160 rfl 1 rfl ?_
                                      refine g_aload_n hX dX6_garden_161 rfl 0 rfl ?_
                                      refine g_getR (j := 312) hX (by decide) (by decide) xCl6 6 (by decide) (by decide) kX6_22 dX6_garden_162 rfl ?_
                                      refine g_iload_n hX dX6_garden_165 rfl 1 rfl ?_
                                      refine g_iald (v := f k) hX (by decide) (by decide) k rfl (by rw [(show xN 312 = 74 by decide)]; omega) dX6_garden_166 (by rw [hM 312 (by decide)]; exact (xput_o (by decide) (xput_o (by decide) (congrFun hin.2.2.2.2.2.2 k)))) ?_
                                      refine g_iast hX (by decide) (by decide) k rfl (by rw [(show xN 311 = 74 by decide)]; omega) dX6_garden_167 ?_
                                      refine g_iinc (v := nI (k + 1)) (L' := [(0, .ref 307), (1, .int (nI (k + 1)))]) hX dX6_garden_168 (by decide) 1 rfl (nI_add k 1) rfl ?_
                                      refine g_goto (tgt := 150) hX dX6_garden_171 (by decide) ?_
                                      exact ih150 (k + 1) (xput M 311 k (f k)) (by first | assumption | omega) (fun o ho => (xput_ne ho).trans (hM o ho)) (fun i hi => by by_cases e : i = k; exact e ▸ xput_e; exact xput_i e (hM2 i (by omega))) (by omega)
                                exact cut150 _ 0 (xput (xput K1 307 7 (nI 1)) 307 9 (nI 0)) (by first | assumption | omega) (fun _ _ => rfl) (fun i hi => absurd hi (Nat.not_lt_zero i)) (Nat.lt_succ_self _)
                              · obtain ⟨e, e9⟩ := rf_l hE (by omega)
                                have hE2 := hE
                                rw [e9] at hE2
                                have hin := rf_inl hE2
                                refine g_aload_n hX dX6_garden_122 rfl 0 rfl ?_
                                refine g_aload_n hX dX6_garden_123 rfl 0 rfl ?_
                                refine g_getI (v := nI e.1) hX (by decide) (by decide) xCl6 18 (by decide) (by decide) kX6_102 dX6_garden_124 hin.2.1 ?_
                                refine g_putI hX (by decide) (by decide) xCl6 12 (by decide) (by decide) (by decide) kX6_182 dX6_garden_127 rfl rfl ?_
                                refine g_ldc (v := -1000100) hX cX6_185 dX6_garden_130 ?_
                                refine g_aload_n hX dX6_garden_132 rfl 0 rfl ?_
                                refine g_getI (v := nI e.2) hX (by decide) (by decide) xCl6 19 (by decide) (by decide) kX6_108 dX6_garden_133 (xput_i (by decide) hin.2.2) ?_
                                refine g_isub (v := -1000100 - nI e.2) hX dX6_garden_136 rfl ?_
                                exact g_iret hX hR dX6_garden_137 (by decide) (by decide) ⟨_, rfl, rfl, (gar_l hE2 e9), rfl⟩
                            exact cut115 K (by show rfS tp n _ _ (endR (thI tp n 7 (trI tp n 7 (lakO tp n (gndR tp n (.inr (lx tp n 0, bsF (I 312) 74))))))); rw [← hm, thI_n hw2, e9, end_y (show tkR (.inr (t, f9)) 0 from (show t.1 = 0 by omega))]; exact hq2)
                          · refine g_aload_n hX dX6_garden_110 rfl 0 rfl ?_
                            refine g_iconst (v := nI 1) hX dX6_garden_111 (by decide) ?_
                            refine g_callVrv hX (as := [.int (nI 1)]) (fun l => c_X6_bad l (I := K) (tp := tp) (n := n) (B := (gB (xput I 307 0 (nI 0)) n)) (r := .inr (t, f9)) (k := 1) (hr := hq2) (hk := (by first | assumption | omega))) mX6_bad vX6_bad lX6_111 (by decide) (by decide) xCl6 rfl rfl dX6_garden_112 rfl (by decide) (Nat.le_of_ble_eq_true rfl) (by decide) (by decide) (fun K2 h4 => ?_)
                            have cut115 : ∀ (K1 : xM) (hE : rfS tp n (gB (xput I 307 0 (nI 0)) n) K1 (psR tp n (.inr (lx tp n 0, bsF (I 312) 74)))), G X 319 0 0 K1 (xRL nw sp) 115 [(0, .ref 307)] [] := by
                              intro K1 hE
                              refine g_aload_n hX dX6_garden_115 rfl 0 rfl ?_
                              refine g_getI (v := K1 307 18) hX (by decide) (by decide) xCl6 18 (by decide) (by decide) kX6_102 dX6_garden_116 rfl ?_
                              refine g_cz_le (a := (K1 307 18).toInt) (tgt := 138) hX dX6_garden_119 (by decide) rfl (fun h119 => ?_) (fun h119 => ?_)
                              · obtain ⟨t, f, e9⟩ := rf_r hE (by omega)
                                have hE2 := hE
                                rw [e9] at hE2
                                have hin := rf_i hE2
                                refine g_aload_n hX dX6_garden_138 rfl 0 rfl ?_
                                refine g_iconst (v := nI 1) hX dX6_garden_139 (by decide) ?_
                                refine g_putI hX (by decide) (by decide) xCl6 7 (by decide) (by decide) (by decide) kX6_186 dX6_garden_140 (by decide) (by decide) ?_
                                refine g_aload_n hX dX6_garden_143 rfl 0 rfl ?_
                                refine g_iconst (v := nI 0) hX dX6_garden_144 (by decide) ?_
                                refine g_putI hX (by decide) (by decide) xCl6 9 (by decide) (by decide) (by decide) kX6_190 dX6_garden_145 rfl rfl ?_
                                refine g_iconst (v := nI 0) hX dX6_garden_148 (by decide) ?_
                                refine g_istore_n (L' := [(0, .ref 307), (1, .int (nI 0))]) hX dX6_garden_149 rfl (by decide) rfl ?_
                                have cut150 : ∀ (fuel150 : Nat) (k : Nat) (M : xM) (hk : k ≤ 74) (hM : ∀ o, o ≠ 311 → M o = (xput (xput K1 307 7 (nI 1)) 307 9 (nI 0)) o) (hM2 : ∀ i, i < k → M 311 i = f i), 74 - k < fuel150 → G X 319 0 0 M (xRL nw sp) 150 [(0, .ref 307), (1, .int (nI k))] [] := by
                                  intro fuel150
                                  induction fuel150 with
                                  | zero => intro k M hk hM hM2 hfuel150; omega
                                  | succ fuel150 ih150 =>
                                    intro k M hk hM hM2 hfuel150
                                    refine g_iload_n hX dX6_garden_150 rfl 1 rfl ?_
                                    refine g_bipush (v := nI 74) hX dX6_garden_151 (by decide) ?_
                                    refine g_ci_ge (a := ((k : Nat) : Int)) (b := (74 : Int)) (tgt := 174) hX dX6_garden_153 (by decide) (nI_toInt (by omega)) (by decide) (fun h153 => ?_) (fun h153 => ?_)
                                    · refine g_aload_n hX dX6_garden_174 rfl 0 rfl ?_
                                      refine g_getR (j := 311) hX (by decide) (by decide) xCl6 5 (by decide) (by decide) kX6_19 dX6_garden_175 rfl ?_
                                      refine g_iconst (v := nI 0) hX dX6_garden_178 (by decide) ?_
                                      refine g_iald (v := f 0) hX (by decide) (by decide) 0 rfl (by rw [(show xN 311 = 74 by decide)]; decide) dX6_garden_179 (hM2 0 (by omega)) ?_
                                      exact g_iret hX hR dX6_garden_180 (by decide) (by decide) ⟨_, rfl, rfl, (gar_r hE2 e9 hM (fun i hi => hM2 i (by omega))), rfl⟩
                                    · refine g_aload_n hX dX6_garden_156 rfl 0 rfl ?_
                                      refine g_getR (j := 311) hX (by decide) (by decide) xCl6 5 (by decide) (by decide) kX6_19 dX6_garden_157 rfl ?_
                                      refine g_iload_n hX dX6_garden_160 rfl 1 rfl ?_
                                      refine g_aload_n hX dX6_garden_161 rfl 0 rfl ?_
                                      refine g_getR (j := 312) hX (by decide) (by decide) xCl6 6 (by decide) (by decide) kX6_22 dX6_garden_162 rfl ?_
                                      refine g_iload_n hX dX6_garden_165 rfl 1 rfl ?_
                                      refine g_iald (v := f k) hX (by decide) (by decide) k rfl (by rw [(show xN 312 = 74 by decide)]; omega) dX6_garden_166 (by rw [hM 312 (by decide)]; exact (xput_o (by decide) (xput_o (by decide) (congrFun hin.2.2.2.2.2.2 k)))) ?_
                                      refine g_iast hX (by decide) (by decide) k rfl (by rw [(show xN 311 = 74 by decide)]; omega) dX6_garden_167 ?_
                                      refine g_iinc (v := nI (k + 1)) (L' := [(0, .ref 307), (1, .int (nI (k + 1)))]) hX dX6_garden_168 (by decide) 1 rfl (nI_add k 1) rfl ?_
                                      refine g_goto (tgt := 150) hX dX6_garden_171 (by decide) ?_
                                      exact ih150 (k + 1) (xput M 311 k (f k)) (by first | assumption | omega) (fun o ho => (xput_ne ho).trans (hM o ho)) (fun i hi => by by_cases e : i = k; exact e ▸ xput_e; exact xput_i e (hM2 i (by omega))) (by omega)
                                exact cut150 _ 0 (xput (xput K1 307 7 (nI 1)) 307 9 (nI 0)) (by first | assumption | omega) (fun _ _ => rfl) (fun i hi => absurd hi (Nat.not_lt_zero i)) (Nat.lt_succ_self _)
                              · obtain ⟨e, e9⟩ := rf_l hE (by omega)
                                have hE2 := hE
                                rw [e9] at hE2
                                have hin := rf_inl hE2
                                refine g_aload_n hX dX6_garden_122 rfl 0 rfl ?_
                                refine g_aload_n hX dX6_garden_123 rfl 0 rfl ?_
                                refine g_getI (v := nI e.1) hX (by decide) (by decide) xCl6 18 (by decide) (by decide) kX6_102 dX6_garden_124 hin.2.1 ?_
                                refine g_putI hX (by decide) (by decide) xCl6 12 (by decide) (by decide) (by decide) kX6_182 dX6_garden_127 rfl rfl ?_
                                refine g_ldc (v := -1000100) hX cX6_185 dX6_garden_130 ?_
                                refine g_aload_n hX dX6_garden_132 rfl 0 rfl ?_
                                refine g_getI (v := nI e.2) hX (by decide) (by decide) xCl6 19 (by decide) (by decide) kX6_108 dX6_garden_133 (xput_i (by decide) hin.2.2) ?_
                                refine g_isub (v := -1000100 - nI e.2) hX dX6_garden_136 rfl ?_
                                exact g_iret hX hR dX6_garden_137 (by decide) (by decide) ⟨_, rfl, rfl, (gar_l hE2 e9), rfl⟩
                            exact cut115 K2 (by show rfS tp n _ _ (endR (thI tp n 7 (trI tp n 7 (lakO tp n (gndR tp n (.inr (lx tp n 0, bsF (I 312) 74))))))); rw [← hm, thI_n hw2, e9, end_n (show ¬ tkR (.inr (t, f9)) 0 from fun z => h107 (by have z1 : t.1 = 0 := z; omega))]; exact h4.1)
                      · have hw2 := (nm_Thing (rf_W hq2)).mp (lcmp_eq.mp h85)
                        refine g_aload_n hX dX6_garden_88 rfl 0 rfl ?_
                        refine g_callVrv hX (as := []) (fun l => c_X6_readThing l (I := K) (tp := tp) (n := n) (B := (gB (xput I 307 0 (nI 0)) n)) (r := q) (ht := htB) (hr := hq2) (hp := hpi)) mX6_readThing vX6_readThing lX6_179 (by decide) (by decide) xCl6 rfl rfl dX6_garden_89 rfl (by decide) (Nat.le_of_ble_eq_true rfl) (by decide) (by decide) (fun K2 h3 => ?_)
                        refine g_goto (tgt := 77) hX dX6_garden_92 (by decide) ?_
                        exact ih77 (thiR tp n q) K2 (thi_c hpi).1 h3 ((th7_y hpi hw2).symm.trans hm) (th7_m (n := n) hpi hw2 |> fun z => by omega)
                  exact cut77 _ q K hpi hq2 (by rw [← hm, trI_n hw2]) (Nat.lt_succ_self _)
                · have hw2 := (nm_Tree (rf_W hq2)).mp (lcmp_eq.mp h67)
                  refine g_aload_n hX dX6_garden_70 rfl 0 rfl ?_
                  refine g_callVrv hX (as := []) (fun l => c_X6_readTree l (I := K) (tp := tp) (n := n) (B := (gB (xput I 307 0 (nI 0)) n)) (r := q) (ht := htB) (hr := hq2) (hp := hpi)) mX6_readTree vX6_readTree lX6_174 (by decide) (by decide) xCl6 rfl rfl dX6_garden_71 rfl (by decide) (Nat.le_of_ble_eq_true rfl) (by decide) (by decide) (fun K2 h3 => ?_)
                  refine g_goto (tgt := 59) hX dX6_garden_74 (by decide) ?_
                  exact ih59 (treR tp n q) K2 (tre_c hpi).1 h3 ((tr7_y hpi hw2).symm.trans hm) (tr7_m (n := n) hpi hw2 |> fun z => by omega)
            exact cut59 _ (lakO tp n (gndR tp n (.inr (lx tp n 0, bsF (I 312) 74)))) K1 (pi_lako (pi_gnd pi_bs)) (by rw [lako_n hw]; exact h1) rfl (Nat.lt_succ_self _)
          · have hw := (nm_Lake (rf_W h1)).mp (lcmp_eq.mp h52)
            refine g_aload_n hX dX6_garden_55 rfl 0 rfl ?_
            refine g_callVrv hX (as := []) (fun l => c_X6_readLake l (I := K1) (tp := tp) (n := n) (B := (gB (xput I 307 0 (nI 0)) n)) (r := gndR tp n (.inr (lx tp n 0, bsF (I 312) 74))) (ht := htB) (hr := h1)) mX6_readLake vX6_readLake lX6_169 (by decide) (by decide) xCl6 rfl rfl dX6_garden_56 rfl (by decide) (Nat.le_of_ble_eq_true rfl) (by decide) (by decide) (fun K2 h2 => ?_)
            have cut59 : ∀ (fuel59 : Nat) (q : xS) (K : xM) (hpi : PIR q) (hq2 : rfS tp n (gB (xput I 307 0 (nI 0)) n) K q) (hm : trI tp n 7 q = trI tp n 7 (lakO tp n (gndR tp n (.inr (lx tp n 0, bsF (I 312) 74))))), mT 0 q < fuel59 → G X 319 0 0 K (xRL nw sp) 59 [(0, .ref 307)] [] := by
              intro fuel59
              induction fuel59 with
              | zero => intro q K hpi hq2 hm hfuel59; omega
              | succ fuel59 ih59 =>
                intro q K hpi hq2 hm hfuel59
                refine g_aload_n hX dX6_garden_59 rfl 0 rfl ?_
                refine g_callVl hX (as := []) (fun l => c_X6_name l (I := K) (tp := tp) (n := n) (B := (gB (xput I 307 0 (nI 0)) n)) (r := q) (ht := htB) (hr := hq2)) mX6_name vX6_name lX6_133 (by decide) (by decide) xCl6 rfl rfl dX6_garden_60 rfl (by decide) (Nat.le_of_ble_eq_true rfl) (by decide) (by decide) ?_
                refine g_ldc2 (v := 1953654117) hX cX6_172 dX6_garden_63 ?_
                refine g_lcmp (v := lg_cmp (nmV tp q) (1953654117)) hX dX6_garden_66 rfl ?_
                refine g_cz_ne (a := (lg_cmp (nmV tp q) (1953654117)).toInt) (tgt := 77) hX dX6_garden_67 (by decide) rfl (fun h67 => ?_) (fun h67 => ?_)
                · have hw2 := fun q => h67 (lcmp_eq.mpr ((nm_Tree (rf_W hq2)).mpr q))
                  have cut77 : ∀ (fuel77 : Nat) (q : xS) (K : xM) (hpi : PIR q) (hq2 : rfS tp n (gB (xput I 307 0 (nI 0)) n) K q) (hm : thI tp n 7 q = thI tp n 7 (trI tp n 7 (lakO tp n (gndR tp n (.inr (lx tp n 0, bsF (I 312) 74)))))), mT 1 q < fuel77 → G X 319 0 0 K (xRL nw sp) 77 [(0, .ref 307)] [] := by
                    intro fuel77
                    induction fuel77 with
                    | zero => intro q K hpi hq2 hm hfuel77; omega
                    | succ fuel77 ih77 =>
                      intro q K hpi hq2 hm hfuel77
                      refine g_aload_n hX dX6_garden_77 rfl 0 rfl ?_
                      refine g_callVl hX (as := []) (fun l => c_X6_name l (I := K) (tp := tp) (n := n) (B := (gB (xput I 307 0 (nI 0)) n)) (r := q) (ht := htB) (hr := hq2)) mX6_name vX6_name lX6_133 (by decide) (by decide) xCl6 rfl rfl dX6_garden_78 rfl (by decide) (Nat.le_of_ble_eq_true rfl) (by decide) (by decide) ?_
                      refine g_ldc2 (v := 499967946343) hX cX6_177 dX6_garden_81 ?_
                      refine g_lcmp (v := lg_cmp (nmV tp q) (499967946343)) hX dX6_garden_84 rfl ?_
                      refine g_cz_ne (a := (lg_cmp (nmV tp q) (499967946343)).toInt) (tgt := 95) hX dX6_garden_85 (by decide) rfl (fun h85 => ?_) (fun h85 => ?_)
                      · have hw2 := fun q => h85 (lcmp_eq.mpr ((nm_Thing (rf_W hq2)).mpr q))
                        refine g_aload_n hX dX6_garden_95 rfl 0 rfl ?_
                        refine g_getI (v := K 307 18) hX (by decide) (by decide) xCl6 18 (by decide) (by decide) kX6_102 dX6_garden_96 rfl ?_
                        refine g_cz_ne (a := (K 307 18).toInt) (tgt := 115) hX dX6_garden_99 (by decide) rfl (fun h99 => ?_) (fun h99 => ?_)
                        · have cut115 : ∀ (K1 : xM) (hE : rfS tp n (gB (xput I 307 0 (nI 0)) n) K1 (psR tp n (.inr (lx tp n 0, bsF (I 312) 74)))), G X 319 0 0 K1 (xRL nw sp) 115 [(0, .ref 307)] [] := by
                            intro K1 hE
                            refine g_aload_n hX dX6_garden_115 rfl 0 rfl ?_
                            refine g_getI (v := K1 307 18) hX (by decide) (by decide) xCl6 18 (by decide) (by decide) kX6_102 dX6_garden_116 rfl ?_
                            refine g_cz_le (a := (K1 307 18).toInt) (tgt := 138) hX dX6_garden_119 (by decide) rfl (fun h119 => ?_) (fun h119 => ?_)
                            · obtain ⟨t, f, e9⟩ := rf_r hE (by omega)
                              have hE2 := hE
                              rw [e9] at hE2
                              have hin := rf_i hE2
                              refine g_aload_n hX dX6_garden_138 rfl 0 rfl ?_
                              refine g_iconst (v := nI 1) hX dX6_garden_139 (by decide) ?_
                              refine g_putI hX (by decide) (by decide) xCl6 7 (by decide) (by decide) (by decide) kX6_186 dX6_garden_140 (by decide) (by decide) ?_
                              refine g_aload_n hX dX6_garden_143 rfl 0 rfl ?_
                              refine g_iconst (v := nI 0) hX dX6_garden_144 (by decide) ?_
                              refine g_putI hX (by decide) (by decide) xCl6 9 (by decide) (by decide) (by decide) kX6_190 dX6_garden_145 rfl rfl ?_
                              refine g_iconst (v := nI 0) hX dX6_garden_148 (by decide) ?_
                              refine g_istore_n (L' := [(0, .ref 307), (1, .int (nI 0))]) hX dX6_garden_149 rfl (by decide) rfl ?_
                              have cut150 : ∀ (fuel150 : Nat) (k : Nat) (M : xM) (hk : k ≤ 74) (hM : ∀ o, o ≠ 311 → M o = (xput (xput K1 307 7 (nI 1)) 307 9 (nI 0)) o) (hM2 : ∀ i, i < k → M 311 i = f i), 74 - k < fuel150 → G X 319 0 0 M (xRL nw sp) 150 [(0, .ref 307), (1, .int (nI k))] [] := by
                                intro fuel150
                                induction fuel150 with
                                | zero => intro k M hk hM hM2 hfuel150; omega
                                | succ fuel150 ih150 =>
                                  intro k M hk hM hM2 hfuel150
                                  refine g_iload_n hX dX6_garden_150 rfl 1 rfl ?_
                                  refine g_bipush (v := nI 74) hX dX6_garden_151 (by decide) ?_
                                  refine g_ci_ge (a := ((k : Nat) : Int)) (b := (74 : Int)) (tgt := 174) hX dX6_garden_153 (by decide) (nI_toInt (by omega)) (by decide) (fun h153 => ?_) (fun h153 => ?_)
                                  · refine g_aload_n hX dX6_garden_174 rfl 0 rfl ?_
                                    refine g_getR (j := 311) hX (by decide) (by decide) xCl6 5 (by decide) (by decide) kX6_19 dX6_garden_175 rfl ?_
                                    refine g_iconst (v := nI 0) hX dX6_garden_178 (by decide) ?_
                                    refine g_iald (v := f 0) hX (by decide) (by decide) 0 rfl (by rw [(show xN 311 = 74 by decide)]; decide) dX6_garden_179 (hM2 0 (by omega)) ?_
                                    exact g_iret hX hR dX6_garden_180 (by decide) (by decide) ⟨_, rfl, rfl, (gar_r hE2 e9 hM (fun i hi => hM2 i (by omega))), rfl⟩
                                  · refine g_aload_n hX dX6_garden_156 rfl 0 rfl ?_
                                    refine g_getR (j := 311) hX (by decide) (by decide) xCl6 5 (by decide) (by decide) kX6_19 dX6_garden_157 rfl ?_
                                    refine g_iload_n hX dX6_garden_160 rfl 1 rfl ?_
                                    refine g_aload_n hX dX6_garden_161 rfl 0 rfl ?_
                                    refine g_getR (j := 312) hX (by decide) (by decide) xCl6 6 (by decide) (by decide) kX6_22 dX6_garden_162 rfl ?_
                                    refine g_iload_n hX dX6_garden_165 rfl 1 rfl ?_
                                    refine g_iald (v := f k) hX (by decide) (by decide) k rfl (by rw [(show xN 312 = 74 by decide)]; omega) dX6_garden_166 (by rw [hM 312 (by decide)]; exact (xput_o (by decide) (xput_o (by decide) (congrFun hin.2.2.2.2.2.2 k)))) ?_
                                    refine g_iast hX (by decide) (by decide) k rfl (by rw [(show xN 311 = 74 by decide)]; omega) dX6_garden_167 ?_
                                    refine g_iinc (v := nI (k + 1)) (L' := [(0, .ref 307), (1, .int (nI (k + 1)))]) hX dX6_garden_168 (by decide) 1 rfl (nI_add k 1) rfl ?_
                                    refine g_goto (tgt := 150) hX dX6_garden_171 (by decide) ?_
                                    exact ih150 (k + 1) (xput M 311 k (f k)) (by first | assumption | omega) (fun o ho => (xput_ne ho).trans (hM o ho)) (fun i hi => by by_cases e : i = k; exact e ▸ xput_e; exact xput_i e (hM2 i (by omega))) (by omega)
                              exact cut150 _ 0 (xput (xput K1 307 7 (nI 1)) 307 9 (nI 0)) (by first | assumption | omega) (fun _ _ => rfl) (fun i hi => absurd hi (Nat.not_lt_zero i)) (Nat.lt_succ_self _)
                            · obtain ⟨e, e9⟩ := rf_l hE (by omega)
                              have hE2 := hE
                              rw [e9] at hE2
                              have hin := rf_inl hE2
                              refine g_aload_n hX dX6_garden_122 rfl 0 rfl ?_
                              refine g_aload_n hX dX6_garden_123 rfl 0 rfl ?_
                              refine g_getI (v := nI e.1) hX (by decide) (by decide) xCl6 18 (by decide) (by decide) kX6_102 dX6_garden_124 hin.2.1 ?_
                              refine g_putI hX (by decide) (by decide) xCl6 12 (by decide) (by decide) (by decide) kX6_182 dX6_garden_127 rfl rfl ?_
                              refine g_ldc (v := -1000100) hX cX6_185 dX6_garden_130 ?_
                              refine g_aload_n hX dX6_garden_132 rfl 0 rfl ?_
                              refine g_getI (v := nI e.2) hX (by decide) (by decide) xCl6 19 (by decide) (by decide) kX6_108 dX6_garden_133 (xput_i (by decide) hin.2.2) ?_
                              refine g_isub (v := -1000100 - nI e.2) hX dX6_garden_136 rfl ?_
                              exact g_iret hX hR dX6_garden_137 (by decide) (by decide) ⟨_, rfl, rfl, (gar_l hE2 e9), rfl⟩
                          exact cut115 K (by show rfS tp n _ _ (endR (thI tp n 7 (trI tp n 7 (lakO tp n (gndR tp n (.inr (lx tp n 0, bsF (I 312) 74))))))); rw [← hm, thI_n hw2]; exact end_l hq2 h99)
                        · obtain ⟨t, f9, e9⟩ := rf_r hq2 (by omega)
                          rw [e9] at hq2
                          obtain ⟨htw, c14, c15, c16, c17, c18, c12⟩ := rf_i hq2
                          have hrk := rtk_c t.1
                          have ht4 := htw.2.2.1
                          refine g_aload_n hX dX6_garden_102 rfl 0 rfl ?_
                          refine g_getI (v := nI (rtk t.1)) hX (by decide) (by decide) xCl6 15 (by decide) (by decide) kX6_90 dX6_garden_103 c15 ?_
                          refine g_iconst (v := nI 1) hX dX6_garden_106 (by decide) ?_
                          refine g_ci_eq (a := ((rtk t.1 : Nat) : Int)) (b := (1 : Int)) (tgt := 115) hX dX6_garden_107 (by decide) (nI_toInt (by omega)) (by decide) (fun h107 => ?_) (fun h107 => ?_)
                          · have cut115 : ∀ (K1 : xM) (hE : rfS tp n (gB (xput I 307 0 (nI 0)) n) K1 (psR tp n (.inr (lx tp n 0, bsF (I 312) 74)))), G X 319 0 0 K1 (xRL nw sp) 115 [(0, .ref 307)] [] := by
                              intro K1 hE
                              refine g_aload_n hX dX6_garden_115 rfl 0 rfl ?_
                              refine g_getI (v := K1 307 18) hX (by decide) (by decide) xCl6 18 (by decide) (by decide) kX6_102 dX6_garden_116 rfl ?_
                              refine g_cz_le (a := (K1 307 18).toInt) (tgt := 138) hX dX6_garden_119 (by decide) rfl (fun h119 => ?_) (fun h119 => ?_)
                              · obtain ⟨t, f, e9⟩ := rf_r hE (by omega)
                                have hE2 := hE
                                rw [e9] at hE2
                                have hin := rf_i hE2
                                refine g_aload_n hX dX6_garden_138 rfl 0 rfl ?_
                                refine g_iconst (v := nI 1) hX dX6_garden_139 (by decide) ?_
                                refine g_putI hX (by decide) (by decide) xCl6 7 (by decide) (by decide) (by decide) kX6_186 dX6_garden_140 (by decide) (by decide) ?_
                                refine g_aload_n hX dX6_garden_143 rfl 0 rfl ?_
                                refine g_iconst (v := nI 0) hX dX6_garden_144 (by decide) ?_
                                refine g_putI hX (by decide) (by decide) xCl6 9 (by decide) (by decide) (by decide) kX6_190 dX6_garden_145 rfl rfl ?_
                                refine g_iconst (v := nI 0) hX dX6_garden_148 (by decide) ?_
                                refine g_istore_n (L' := [(0, .ref 307), (1, .int (nI 0))]) hX dX6_garden_149 rfl (by decide) rfl ?_
                                have cut150 : ∀ (fuel150 : Nat) (k : Nat) (M : xM) (hk : k ≤ 74) (hM : ∀ o, o ≠ 311 → M o = (xput (xput K1 307 7 (nI 1)) 307 9 (nI 0)) o) (hM2 : ∀ i, i < k → M 311 i = f i), 74 - k < fuel150 → G X 319 0 0 M (xRL nw sp) 150 [(0, .ref 307), (1, .int (nI k))] [] := by
                                  intro fuel150
                                  induction fuel150 with
                                  | zero => intro k M hk hM hM2 hfuel150; omega
                                  | succ fuel150 ih150 =>
                                    intro k M hk hM hM2 hfuel150
                                    refine g_iload_n hX dX6_garden_150 rfl 1 rfl ?_
                                    refine g_bipush (v := nI 74) hX dX6_garden_151 (by decide) ?_
                                    refine g_ci_ge (a := ((k : Nat) : Int)) (b := (74 : Int)) (tgt := 174) hX dX6_garden_153 (by decide) (nI_toInt (by omega)) (by decide) (fun h153 => ?_) (fun h153 => ?_)
                                    · refine g_aload_n hX dX6_garden_174 rfl 0 rfl ?_
                                      refine g_getR (j := 311) hX (by decide) (by decide) xCl6 5 (by decide) (by decide) kX6_19 dX6_garden_175 rfl ?_
                                      refine g_iconst (v := nI 0) hX dX6_garden_178 (by decide) ?_
                                      refine g_iald (v := f 0) hX (by decide) (by decide) 0 rfl (by rw [(show xN 311 = 74 by decide)]; decide) dX6_garden_179 (hM2 0 (by omega)) ?_
                                      exact g_iret hX hR dX6_garden_180 (by decide) (by decide) ⟨_, rfl, rfl, (gar_r hE2 e9 hM (fun i hi => hM2 i (by omega))), rfl⟩
                                    · refine g_aload_n hX dX6_garden_156 rfl 0 rfl ?_
                                      refine g_getR (j := 311) hX (by decide) (by decide) xCl6 5 (by decide) (by decide) kX6_19 dX6_garden_157 rfl ?_
                                      refine g_iload_n hX dX6_garden_160 rfl 1 rfl ?_
                                      refine g_aload_n hX dX6_garden_161 rfl 0 rfl ?_
                                      refine g_getR (j := 312) hX (by decide) (by decide) xCl6 6 (by decide) (by decide) kX6_22 dX6_garden_162 rfl ?_
                                      refine g_iload_n hX dX6_garden_165 rfl 1 rfl ?_
                                      refine g_iald (v := f k) hX (by decide) (by decide) k rfl (by rw [(show xN 312 = 74 by decide)]; omega) dX6_garden_166 (by rw [hM 312 (by decide)]; exact (xput_o (by decide) (xput_o (by decide) (congrFun hin.2.2.2.2.2.2 k)))) ?_
                                      refine g_iast hX (by decide) (by decide) k rfl (by rw [(show xN 311 = 74 by decide)]; omega) dX6_garden_167 ?_
                                      refine g_iinc (v := nI (k + 1)) (L' := [(0, .ref 307), (1, .int (nI (k + 1)))]) hX dX6_garden_168 (by decide) 1 rfl (nI_add k 1) rfl ?_
                                      refine g_goto (tgt := 150) hX dX6_garden_171 (by decide) ?_
                                      exact ih150 (k + 1) (xput M 311 k (f k)) (by first | assumption | omega) (fun o ho => (xput_ne ho).trans (hM o ho)) (fun i hi => by by_cases e : i = k; exact e ▸ xput_e; exact xput_i e (hM2 i (by omega))) (by omega)
                                exact cut150 _ 0 (xput (xput K1 307 7 (nI 1)) 307 9 (nI 0)) (by first | assumption | omega) (fun _ _ => rfl) (fun i hi => absurd hi (Nat.not_lt_zero i)) (Nat.lt_succ_self _)
                              · obtain ⟨e, e9⟩ := rf_l hE (by omega)
                                have hE2 := hE
                                rw [e9] at hE2
                                have hin := rf_inl hE2
                                refine g_aload_n hX dX6_garden_122 rfl 0 rfl ?_
                                refine g_aload_n hX dX6_garden_123 rfl 0 rfl ?_
                                refine g_getI (v := nI e.1) hX (by decide) (by decide) xCl6 18 (by decide) (by decide) kX6_102 dX6_garden_124 hin.2.1 ?_
                                refine g_putI hX (by decide) (by decide) xCl6 12 (by decide) (by decide) (by decide) kX6_182 dX6_garden_127 rfl rfl ?_
                                refine g_ldc (v := -1000100) hX cX6_185 dX6_garden_130 ?_
                                refine g_aload_n hX dX6_garden_132 rfl 0 rfl ?_
                                refine g_getI (v := nI e.2) hX (by decide) (by decide) xCl6 19 (by decide) (by decide) kX6_108 dX6_garden_133 (xput_i (by decide) hin.2.2) ?_
                                refine g_isub (v := -1000100 - nI e.2) hX dX6_garden_136 rfl ?_
                                exact g_iret hX hR dX6_garden_137 (by decide) (by decide) ⟨_, rfl, rfl, (gar_l hE2 e9), rfl⟩
                            exact cut115 K (by show rfS tp n _ _ (endR (thI tp n 7 (trI tp n 7 (lakO tp n (gndR tp n (.inr (lx tp n 0, bsF (I 312) 74))))))); rw [← hm, thI_n hw2, e9, end_y (show tkR (.inr (t, f9)) 0 from (show t.1 = 0 by omega))]; exact hq2)
                          · refine g_aload_n hX dX6_garden_110 rfl 0 rfl ?_
                            refine g_iconst (v := nI 1) hX dX6_garden_111 (by decide) ?_
                            refine g_callVrv hX (as := [.int (nI 1)]) (fun l => c_X6_bad l (I := K) (tp := tp) (n := n) (B := (gB (xput I 307 0 (nI 0)) n)) (r := .inr (t, f9)) (k := 1) (hr := hq2) (hk := (by first | assumption | omega))) mX6_bad vX6_bad lX6_111 (by decide) (by decide) xCl6 rfl rfl dX6_garden_112 rfl (by decide) (Nat.le_of_ble_eq_true rfl) (by decide) (by decide) (fun K2 h4 => ?_)
                            have cut115 : ∀ (K1 : xM) (hE : rfS tp n (gB (xput I 307 0 (nI 0)) n) K1 (psR tp n (.inr (lx tp n 0, bsF (I 312) 74)))), G X 319 0 0 K1 (xRL nw sp) 115 [(0, .ref 307)] [] := by
                              intro K1 hE
                              refine g_aload_n hX dX6_garden_115 rfl 0 rfl ?_
                              refine g_getI (v := K1 307 18) hX (by decide) (by decide) xCl6 18 (by decide) (by decide) kX6_102 dX6_garden_116 rfl ?_
                              refine g_cz_le (a := (K1 307 18).toInt) (tgt := 138) hX dX6_garden_119 (by decide) rfl (fun h119 => ?_) (fun h119 => ?_)
                              · obtain ⟨t, f, e9⟩ := rf_r hE (by omega)
                                have hE2 := hE
                                rw [e9] at hE2
                                have hin := rf_i hE2
                                refine g_aload_n hX dX6_garden_138 rfl 0 rfl ?_
                                refine g_iconst (v := nI 1) hX dX6_garden_139 (by decide) ?_
                                refine g_putI hX (by decide) (by decide) xCl6 7 (by decide) (by decide) (by decide) kX6_186 dX6_garden_140 (by decide) (by decide) ?_
                                refine g_aload_n hX dX6_garden_143 rfl 0 rfl ?_
                                refine g_iconst (v := nI 0) hX dX6_garden_144 (by decide) ?_
                                refine g_putI hX (by decide) (by decide) xCl6 9 (by decide) (by decide) (by decide) kX6_190 dX6_garden_145 rfl rfl ?_
                                refine g_iconst (v := nI 0) hX dX6_garden_148 (by decide) ?_
                                refine g_istore_n (L' := [(0, .ref 307), (1, .int (nI 0))]) hX dX6_garden_149 rfl (by decide) rfl ?_
                                have cut150 : ∀ (fuel150 : Nat) (k : Nat) (M : xM) (hk : k ≤ 74) (hM : ∀ o, o ≠ 311 → M o = (xput (xput K1 307 7 (nI 1)) 307 9 (nI 0)) o) (hM2 : ∀ i, i < k → M 311 i = f i), 74 - k < fuel150 → G X 319 0 0 M (xRL nw sp) 150 [(0, .ref 307), (1, .int (nI k))] [] := by
                                  intro fuel150
                                  induction fuel150 with
                                  | zero => intro k M hk hM hM2 hfuel150; omega
                                  | succ fuel150 ih150 =>
                                    intro k M hk hM hM2 hfuel150
                                    refine g_iload_n hX dX6_garden_150 rfl 1 rfl ?_
                                    refine g_bipush (v := nI 74) hX dX6_garden_151 (by decide) ?_
                                    refine g_ci_ge (a := ((k : Nat) : Int)) (b := (74 : Int)) (tgt := 174) hX dX6_garden_153 (by decide) (nI_toInt (by omega)) (by decide) (fun h153 => ?_) (fun h153 => ?_)
                                    · refine g_aload_n hX dX6_garden_174 rfl 0 rfl ?_
                                      refine g_getR (j := 311) hX (by decide) (by decide) xCl6 5 (by decide) (by decide) kX6_19 dX6_garden_175 rfl ?_
                                      refine g_iconst (v := nI 0) hX dX6_garden_178 (by decide) ?_
                                      refine g_iald (v := f 0) hX (by decide) (by decide) 0 rfl (by rw [(show xN 311 = 74 by decide)]; decide) dX6_garden_179 (hM2 0 (by omega)) ?_
                                      exact g_iret hX hR dX6_garden_180 (by decide) (by decide) ⟨_, rfl, rfl, (gar_r hE2 e9 hM (fun i hi => hM2 i (by omega))), rfl⟩
                                    · refine g_aload_n hX dX6_garden_156 rfl 0 rfl ?_
                                      refine g_getR (j := 311) hX (by decide) (by decide) xCl6 5 (by decide) (by decide) kX6_19 dX6_garden_157 rfl ?_
                                      refine g_iload_n hX dX6_garden_160 rfl 1 rfl ?_
                                      refine g_aload_n hX dX6_garden_161 rfl 0 rfl ?_
                                      refine g_getR (j := 312) hX (by decide) (by decide) xCl6 6 (by decide) (by decide) kX6_22 dX6_garden_162 rfl ?_
                                      refine g_iload_n hX dX6_garden_165 rfl 1 rfl ?_
                                      refine g_iald (v := f k) hX (by decide) (by decide) k rfl (by rw [(show xN 312 = 74 by decide)]; omega) dX6_garden_166 (by rw [hM 312 (by decide)]; exact (xput_o (by decide) (xput_o (by decide) (congrFun hin.2.2.2.2.2.2 k)))) ?_
                                      refine g_iast hX (by decide) (by decide) k rfl (by rw [(show xN 311 = 74 by decide)]; omega) dX6_garden_167 ?_
                                      refine g_iinc (v := nI (k + 1)) (L' := [(0, .ref 307), (1, .int (nI (k + 1)))]) hX dX6_garden_168 (by decide) 1 rfl (nI_add k 1) rfl ?_
                                      refine g_goto (tgt := 150) hX dX6_garden_171 (by decide) ?_
                                      exact ih150 (k + 1) (xput M 311 k (f k)) (by first | assumption | omega) (fun o ho => (xput_ne ho).trans (hM o ho)) (fun i hi => by by_cases e : i = k; exact e ▸ xput_e; exact xput_i e (hM2 i (by omega))) (by omega)
                                exact cut150 _ 0 (xput (xput K1 307 7 (nI 1)) 307 9 (nI 0)) (by first | assumption | omega) (fun _ _ => rfl) (fun i hi => absurd hi (Nat.not_lt_zero i)) (Nat.lt_succ_self _)
                              · obtain ⟨e, e9⟩ := rf_l hE (by omega)
                                have hE2 := hE
                                rw [e9] at hE2
                                have hin := rf_inl hE2
                                refine g_aload_n hX dX6_garden_122 rfl 0 rfl ?_
                                refine g_aload_n hX dX6_garden_123 rfl 0 rfl ?_
                                refine g_getI (v := nI e.1) hX (by decide) (by decide) xCl6 18 (by decide) (by decide) kX6_102 dX6_garden_124 hin.2.1 ?_
                                refine g_putI hX (by decide) (by decide) xCl6 12 (by decide) (by decide) (by decide) kX6_182 dX6_garden_127 rfl rfl ?_
                                refine g_ldc (v := -1000100) hX cX6_185 dX6_garden_130 ?_
                                refine g_aload_n hX dX6_garden_132 rfl 0 rfl ?_
                                refine g_getI (v := nI e.2) hX (by decide) (by decide) xCl6 19 (by decide) (by decide) kX6_108 dX6_garden_133 (xput_i (by decide) hin.2.2) ?_
                                refine g_isub (v := -1000100 - nI e.2) hX dX6_garden_136 rfl ?_
                                exact g_iret hX hR dX6_garden_137 (by decide) (by decide) ⟨_, rfl, rfl, (gar_l hE2 e9), rfl⟩
                            exact cut115 K2 (by show rfS tp n _ _ (endR (thI tp n 7 (trI tp n 7 (lakO tp n (gndR tp n (.inr (lx tp n 0, bsF (I 312) 74))))))); rw [← hm, thI_n hw2, e9, end_n (show ¬ tkR (.inr (t, f9)) 0 from fun z => h107 (by have z1 : t.1 = 0 := z; omega))]; exact h4.1)
                      · have hw2 := (nm_Thing (rf_W hq2)).mp (lcmp_eq.mp h85)
                        refine g_aload_n hX dX6_garden_88 rfl 0 rfl ?_
                        refine g_callVrv hX (as := []) (fun l => c_X6_readThing l (I := K) (tp := tp) (n := n) (B := (gB (xput I 307 0 (nI 0)) n)) (r := q) (ht := htB) (hr := hq2) (hp := hpi)) mX6_readThing vX6_readThing lX6_179 (by decide) (by decide) xCl6 rfl rfl dX6_garden_89 rfl (by decide) (Nat.le_of_ble_eq_true rfl) (by decide) (by decide) (fun K2 h3 => ?_)
                        refine g_goto (tgt := 77) hX dX6_garden_92 (by decide) ?_
                        exact ih77 (thiR tp n q) K2 (thi_c hpi).1 h3 ((th7_y hpi hw2).symm.trans hm) (th7_m (n := n) hpi hw2 |> fun z => by omega)
                  exact cut77 _ q K hpi hq2 (by rw [← hm, trI_n hw2]) (Nat.lt_succ_self _)
                · have hw2 := (nm_Tree (rf_W hq2)).mp (lcmp_eq.mp h67)
                  refine g_aload_n hX dX6_garden_70 rfl 0 rfl ?_
                  refine g_callVrv hX (as := []) (fun l => c_X6_readTree l (I := K) (tp := tp) (n := n) (B := (gB (xput I 307 0 (nI 0)) n)) (r := q) (ht := htB) (hr := hq2) (hp := hpi)) mX6_readTree vX6_readTree lX6_174 (by decide) (by decide) xCl6 rfl rfl dX6_garden_71 rfl (by decide) (Nat.le_of_ble_eq_true rfl) (by decide) (by decide) (fun K2 h3 => ?_)
                  refine g_goto (tgt := 59) hX dX6_garden_74 (by decide) ?_
                  exact ih59 (treR tp n q) K2 (tre_c hpi).1 h3 ((tr7_y hpi hw2).symm.trans hm) (tr7_m (n := n) hpi hw2 |> fun z => by omega)
            exact cut59 _ (lakO tp n (gndR tp n (.inr (lx tp n 0, bsF (I 312) 74)))) K2 (pi_lako (pi_gnd pi_bs)) (by rw [lako_y hw]; exact h2) rfl (Nat.lt_succ_self _)
        refine g_loc [0] rfl ?_
        exact cut40 K hb
      · refine g_aload_n hX dX6_garden_17 rfl 0 rfl ?_
        refine g_getR (j := 312) hX (by decide) (by decide) xCl6 6 (by decide) (by decide) kX6_22 dX6_garden_18 rfl ?_
        refine g_iload_n hX dX6_garden_21 rfl 1 rfl ?_
        refine g_iload_n hX dX6_garden_22 rfl 1 rfl ?_
        refine g_iconst (v := nI 4) hX dX6_garden_23 (by decide) ?_
        refine g_ci_ne (a := ((k : Nat) : Int)) (b := (4 : Int)) (tgt := 32) hX dX6_garden_24 (by decide) (nI_toInt (by omega)) (by decide) (fun h24 => ?_) (fun h24 => ?_)
        · refine g_iconst (v := nI 0) hX dX6_garden_32 (by decide) ?_
          refine g_iast hX (by decide) (by decide) k rfl (by rw [(show xN 312 = 74 by decide)]; omega) dX6_garden_33 ?_
          refine g_iinc (v := nI (k + 1)) (L' := [(0, .ref 307), (1, .int (nI (k + 1)))]) hX dX6_garden_34 (by decide) 1 rfl (nI_add k 1) rfl ?_
          refine g_goto (tgt := 11) hX dX6_garden_37 (by decide) ?_
          exact ih (k + 1) (xput K 312 k (nI 0)) (by first | assumption | omega) (rf_bs hb (by first | (rw [if_pos (by omega)]) | (rw [if_neg (by omega)]))) (by omega)
        · refine g_bipush (v := nI 20) hX dX6_garden_27 (by decide) ?_
          refine g_goto (tgt := 33) hX dX6_garden_29 (by decide) ?_
          refine g_iast hX (by decide) (by decide) k rfl (by rw [(show xN 312 = 74 by decide)]; omega) dX6_garden_33 ?_
          refine g_iinc (v := nI (k + 1)) (L' := [(0, .ref 307), (1, .int (nI (k + 1)))]) hX dX6_garden_34 (by decide) 1 rfl (nI_add k 1) rfl ?_
          refine g_goto (tgt := 11) hX dX6_garden_37 (by decide) ?_
          exact ih (k + 1) (xput K 312 k (nI 20)) (by first | assumption | omega) (rf_bs hb (by first | (rw [if_pos (by omega)]) | (rw [if_neg (by omega)]))) (by omega)
  exact cut11 _ 0 K (by first | assumption | omega) (by rw [bsF_0]; exact hbeg) (Nat.lt_succ_self _)
