/-! FROM THE ENTRY TO THE LOOP: both are made -/
section
variable {X : xX} {kc ks : Nat}
theorem lc_open (hX : xOK X RL cL_law 4 25 600000 7302250) (ha0 : va_AO RX0 X.1.2.2.2.2.1) (ha2 : va_AO RX2 X.1.2.2.2.2.1) (kk : G X 319 600000 7302250 Ifin (xRL 8 18) 18 [(0, .ref 5000000), (1, .ref 0), (2, .ref 307), (3, .int (nI 0))] []) : G X 0 0 0 (fun _ _ => 0) (fun _ _ => none) 0 [(0, .ref 5000000)] [] := by
  have hL : ∀ n, ∀ q ∈ ([(0, .ref 5000000)] : List (Nat × Value)), xvok n q.2 := fun n => xLc (Or.inr (Nat.le_of_ble_eq_true rfl)) xL0
  refine g_new2 hX xCl5 nW5 (xgw_in (List.mem_append_right _ (List.mem_of_getElem? (i := 15) (by decide +kernel))) (by decide +kernel)) (xgw_in (List.mem_append_right _ (List.mem_of_getElem? (i := 16) (by decide +kernel))) (by decide +kernel)) (xgw_in (List.mem_append_right _ (List.mem_of_getElem? (i := 1) (by decide +kernel))) (by decide +kernel)) dL_law_0 (by decide) (by omega) (fun i k j h => absurd h (by omega)) (hL 0) xS0 (Nat.le_of_ble_eq_true rfl) (Nat.le_of_ble_eq_true rfl) (fun hRk => ?_)
  refine g_dup hX rfl dL_law_3 ?_
  refine g_callI2 hX ha0 ha2 (fun l => c_X5_init l xrow_e (va_up_self _ _ _)) mX5_init rfl vX5_init lL_9 dL_law_4 (by decide) (Nat.le_of_ble_eq_true rfl) (Nat.le_of_ble_eq_true rfl) (Nat.le_of_ble_eq_true rfl) (hL 1) (xSr (by omega) xS0) (fun v n' I' R' hp => ?_)
  obtain ⟨rfl, rfl, hRk, -, h5⟩ := hp
  refine ⟨rfl, ?_⟩
  refine g_astore_n (L' := [(0, .ref 5000000), (1, .ref 0)]) hX dL_law_7 rfl (by decide) rfl ?_
  have hL2 : ∀ n, 0 < n → ∀ q ∈ ([(0, .ref 5000000), (1, .ref 0)] : List (Nat × Value)), xvok n q.2 := fun n hn => xLc (Or.inr (Nat.le_of_ble_eq_true rfl)) (xLr hn xL0)
  refine g_new2 hX xCl6 nW6 (xgw_in (List.mem_append_right _ (List.mem_of_getElem? (i := 682) (by decide +kernel))) (by decide +kernel)) (xgw_in (List.mem_append_right _ (List.mem_of_getElem? (i := 683) (by decide +kernel))) (by decide +kernel)) (xgw_in (List.mem_append_right _ (List.mem_of_getElem? (i := 7) (by decide +kernel))) (by decide +kernel)) dL_law_8 (by decide) (by omega) hRk (hL2 307 (by omega)) xS0 (Nat.le_of_ble_eq_true rfl) (Nat.le_of_ble_eq_true rfl) (fun hRk => ?_)
  refine g_dup hX rfl dL_law_11 ?_
  refine g_callI hX (fun l => c_X6_init l xrow_e (va_up_self _ _ _) hRk) mX6_init rfl vX6_init lL_12 dL_law_12 (by decide) (Nat.le_of_ble_eq_true rfl) (Nat.le_of_ble_eq_true rfl) (Nat.le_of_ble_eq_true rfl) (hL2 308 (by omega)) (xSr (by omega) xS0) (fun v n' I2 R2 hp => ?_)
  obtain ⟨rfl, rfl, -, h6, h7⟩ := hp
  refine ⟨rfl, ?_⟩
  have he : ∀ i, i < 319 → I2 i = Ifin i ∧ R2 i = xRL 8 18 i := by
    intro i hi
    by_cases h : i < 307
    · obtain ⟨e1, e2⟩ := h6 i h
      obtain ⟨e3, e4⟩ := h5 i (by omega) h
      rw [e1, e2, xrow_o (by omega), va_up_ne _ _ (by omega), e3, e4]
      exact ⟨rfl, rfl⟩
    · exact h7 i (by omega) hi
  refine g_eq (I' := Ifin) (R' := xRL 8 18) (fun i hi => by rw [(he i hi).1, (he i hi).2]; exact ⟨fun _ _ _ => ⟨rfl, rfl⟩, fun _ _ => rfl, fun _ => rfl⟩) ?_
  refine g_widen (cs' := 600000) (sl' := 7302250) (Nat.le_of_ble_eq_true rfl) (Nat.le_of_ble_eq_true rfl) ?_
  refine g_astore_n (L' := [(0, .ref 5000000), (1, .ref 0), (2, .ref 307)]) hX dL_law_15 rfl (by decide) rfl ?_
  refine g_iconst (v := nI 0) hX dL_law_16 (by decide) ?_
  exact g_istore_n (L' := [(0, .ref 5000000), (1, .ref 0), (2, .ref 307), (3, .int (nI 0))]) hX dL_law_17 rfl (by decide) rfl kk
end
