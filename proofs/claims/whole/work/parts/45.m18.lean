theorem ch_nar0 : ∀ b, b < 128 → (nI b).toUInt32.toUInt16.toUInt32.toInt32 = nI b := by decide +kernel
theorem ch_nar {b : Nat} (hb : b < 128) : narrow .char (.int (nI b)) = .int (nI b) := congrArg Value.int (ch_nar0 b hb)
theorem c_J0_coder_7d493 (l : Launch) {nw sp : Nat} {I : xM} {k : Nat} (hk : k < 11) : xC l 1 0 0 yJ0_coder_7d493 cJ0_coder_7d493 1 (some .byte) 319 [.ref (2000000 + k)] I (xRL nw sp) (xpI (nI 0) 319 I (xRL nw sp)) := by
  refine xC_of (by decide) (Nat.le_of_ble_eq_true rfl) (fun X hXl hX hR => ?_)
  have hX : xOK X RJ0 cJ0_coder_7d493 1 1 0 0 := hX
  show G X 319 0 0 I (xRL nw sp) 0 [(0, .ref (2000000 + k))] []
  refine g_scmp hX kJ0_38 dJ0_coder_7d493_0 ?_
  refine g_cz_eq (a := (1 : Int)) (tgt := 13) hX dJ0_coder_7d493_3 (by decide) (by decide) (fun q => absurd q (by decide)) (fun _ => ?_)
  refine g_aload_n hX dJ0_coder_7d493_6 rfl 0 rfl ?_
  refine g_scod k hX hk kJ0_15 dJ0_coder_7d493_7 ?_
  refine g_goto (tgt := 14) hX dJ0_coder_7d493_10 (by decide) ?_
  exact g_zret hX hR dJ0_coder_7d493_14 (by decide) (by decide) (by decide) ⟨congrArg (fun z => some (Value.int z)) rfl, rfl, rfl, rfl⟩

theorem c_J0_isLatin1_aae02 (l : Launch) {nw sp : Nat} {I : xM} {k : Nat} (hk : k < 11) : xC l 1 0 0 yJ0_isLatin1_aae02 cJ0_isLatin1_aae02 1 (some .boolean) 319 [.ref (2000000 + k)] I (xRL nw sp) (xpI (nI 1) 319 I (xRL nw sp)) := by
  refine xC_of (by decide) (Nat.le_of_ble_eq_true rfl) (fun X hXl hX hR => ?_)
  have hX : xOK X RJ0 cJ0_isLatin1_aae02 1 1 0 0 := hX
  show G X 319 0 0 I (xRL nw sp) 0 [(0, .ref (2000000 + k))] []
  refine g_scmp hX kJ0_38 dJ0_isLatin1_aae02_0 ?_
  refine g_cz_eq (a := (1 : Int)) (tgt := 17) hX dJ0_isLatin1_aae02_3 (by decide) (by decide) (fun q => absurd q (by decide)) (fun _ => ?_)
  refine g_aload_n hX dJ0_isLatin1_aae02_6 rfl 0 rfl ?_
  refine g_scod k hX hk kJ0_15 dJ0_isLatin1_aae02_7 ?_
  refine g_cz_ne (a := (0 : Int)) (tgt := 17) hX dJ0_isLatin1_aae02_10 (by decide) (by decide) (fun q => absurd q (by decide)) (fun _ => ?_)
  refine g_iconst (v := nI 1) hX dJ0_isLatin1_aae02_13 (by decide) ?_
  refine g_goto (tgt := 18) hX dJ0_isLatin1_aae02_14 (by decide) ?_
  exact g_zret hX hR dJ0_isLatin1_aae02_18 (by decide) (by decide) (by decide) ⟨congrArg (fun z => some (Value.int z)) rfl, rfl, rfl, rfl⟩

theorem c_J0_length_8abf5 (l : Launch) {nw sp : Nat} {I : xM} {k : Nat} (hk : k < 11) : xC l 2 0 0 yJ0_length_8abf5 cJ0_length_8abf5 1 (some .int) 319 [.ref (2000000 + k)] I (xRL nw sp) (xpI (nI (wln k)) 319 I (xRL nw sp)) := by
  refine xC_of (by decide) (Nat.le_of_ble_eq_true rfl) (fun X hXl hX hR => ?_)
  have hX : xOK X RJ0 cJ0_length_8abf5 1 2 0 0 := hX
  show G X 319 0 0 I (xRL nw sp) 0 [(0, .ref (2000000 + k))] []
  refine g_aload_n hX dJ0_length_8abf5_0 rfl 0 rfl ?_
  refine g_sval k hX hk kJ0_9 dJ0_length_8abf5_1 ?_
  refine g_slen k hX hk dJ0_length_8abf5_4 ?_
  refine g_aload_n hX dJ0_length_8abf5_5 rfl 0 rfl ?_
  refine g_callTi k hX (as := []) (fun l => c_J0_coder_7d493 l (I := I) (k := k) (hk := hk)) mJ0_coder_7d493 vJ0_coder_7d493 lJ0_335 hk rfl rfl dJ0_length_8abf5_6 rfl (by decide) (Nat.le_of_ble_eq_true rfl) (by decide) (by decide) ?_
  refine g_ishr (v := nI (wln k)) hX dJ0_length_8abf5_9 (sh0 _) ?_
  exact g_iret hX hR dJ0_length_8abf5_10 (by decide) (by decide) ⟨congrArg (fun z => some (Value.int z)) rfl, rfl, rfl, rfl⟩

theorem c_J3_ci_0 (l : Launch) {nw sp : Nat} {I : xM} {i m : Nat} (hi : i < m) (hm : m < 8) : xC l 1 0 0 yJ3_checkIndex_8e157 cJ3_checkIndex_8e157 3 (some .int) 319 [.int (nI i), .int (nI m), .null] I (xRL nw sp) (xpI (nI i) 319 I (xRL nw sp)) := by
  refine xC_of (by decide) (Nat.le_of_ble_eq_true rfl) (fun X hXl hX hR => ?_)
  have hX : xOK X RJ3 cJ3_checkIndex_8e157 3 1 0 0 := hX
  show G X 319 0 0 I (xRL nw sp) 0 [(0, .int (nI i)), (1, .int (nI m)), (2, .null)] []
  refine g_iload_n hX dJ3_checkIndex_8e157_0 rfl 0 rfl ?_
  refine g_cz_lt (a := ((i : Nat) : Int)) (tgt := 9) hX dJ3_checkIndex_8e157_1 (by decide) (nI_toInt (by omega)) (fun h1 => ?_) (fun h1 => ?_)
  · exfalso; omega
  · refine g_iload_n hX dJ3_checkIndex_8e157_4 rfl 0 rfl ?_
    refine g_iload_n hX dJ3_checkIndex_8e157_5 rfl 1 rfl ?_
    refine g_ci_lt (a := ((i : Nat) : Int)) (b := ((m : Nat) : Int)) (tgt := 16) hX dJ3_checkIndex_8e157_6 (by decide) (nI_toInt (by omega)) (nI_toInt (by omega)) (fun h6 => ?_) (fun h6 => ?_)
    · refine g_iload_n hX dJ3_checkIndex_8e157_16 rfl 0 rfl ?_
      exact g_iret hX hR dJ3_checkIndex_8e157_17 (by decide) (by decide) ⟨congrArg (fun z => some (Value.int z)) rfl, rfl, rfl, rfl⟩
    · exfalso; omega

theorem c_J3_ci_r (l : Launch) {nw sp : Nat} {I : xM} {i m : Nat} (hi : i < m) (hm : m < 8) : xC l 1 0 0 yJ3_checkIndex_8e157 cJ3_checkIndex_8e157 3 (some .int) 319 [.int (nI i), .int (nI m), .ref 4000000] I (xRL nw sp) (xpI (nI i) 319 I (xRL nw sp)) := by
  refine xC_of (by decide) (Nat.le_of_ble_eq_true rfl) (fun X hXl hX hR => ?_)
  have hX : xOK X RJ3 cJ3_checkIndex_8e157 3 1 0 0 := hX
  show G X 319 0 0 I (xRL nw sp) 0 [(0, .int (nI i)), (1, .int (nI m)), (2, .ref 4000000)] []
  refine g_iload_n hX dJ3_checkIndex_8e157_0 rfl 0 rfl ?_
  refine g_cz_lt (a := ((i : Nat) : Int)) (tgt := 9) hX dJ3_checkIndex_8e157_1 (by decide) (nI_toInt (by omega)) (fun h1 => ?_) (fun h1 => ?_)
  · exfalso; omega
  · refine g_iload_n hX dJ3_checkIndex_8e157_4 rfl 0 rfl ?_
    refine g_iload_n hX dJ3_checkIndex_8e157_5 rfl 1 rfl ?_
    refine g_ci_lt (a := ((i : Nat) : Int)) (b := ((m : Nat) : Int)) (tgt := 16) hX dJ3_checkIndex_8e157_6 (by decide) (nI_toInt (by omega)) (nI_toInt (by omega)) (fun h6 => ?_) (fun h6 => ?_)
    · refine g_iload_n hX dJ3_checkIndex_8e157_16 rfl 0 rfl ?_
      exact g_iret hX hR dJ3_checkIndex_8e157_17 (by decide) (by decide) ⟨congrArg (fun z => some (Value.int z)) rfl, rfl, rfl, rfl⟩
    · exfalso; omega

theorem c_J0_checkIndex_df160 (l : Launch) {nw sp : Nat} {I : xM} {i m : Nat} (hi : i < m) (hm : m < 8) : xC l 2 0 0 yJ0_checkIndex_df160 cJ0_checkIndex_df160 2 none 319 [.int (nI i), .int (nI m)] I (xRL nw sp) (xpV 319 I (xRL nw sp)) := by
  refine xC_of (by decide) (Nat.le_of_ble_eq_true rfl) (fun X hXl hX hR => ?_)
  have hX : xOK X RJ0 cJ0_checkIndex_df160 2 2 0 0 := hX
  show G X 319 0 0 I (xRL nw sp) 0 [(0, .int (nI i)), (1, .int (nI m))] []
  refine g_iload_n hX dJ0_checkIndex_df160_0 rfl 0 rfl ?_
  refine g_iload_n hX dJ0_checkIndex_df160_1 rfl 1 rfl ?_
  refine g_sfor hX kJ0_1053 dJ0_checkIndex_df160_2 ?_ ?_
  · refine g_callSi hX (as := [.int (nI i), .int (nI m), .null]) (fun l => c_J3_ci_0 l (I := I) (i := i) (m := m) (hi := (by first | assumption | omega)) (hm := (by first | assumption | omega))) mJ3_checkIndex_8e157 sJ3_checkIndex_8e157 lJ0_1059 rfl dJ0_checkIndex_df160_5 rfl (by decide) (Nat.le_of_ble_eq_true rfl) (by decide) (by decide) ?_
    refine g_pop hX rfl dJ0_checkIndex_df160_8 ?_
    exact g_vret hX hR dJ0_checkIndex_df160_9 (by decide) (by decide) ⟨rfl, rfl, rfl, rfl⟩
  · refine g_callSi hX (as := [.int (nI i), .int (nI m), .ref 4000000]) (fun l => c_J3_ci_r l (I := I) (i := i) (m := m) (hi := (by first | assumption | omega)) (hm := (by first | assumption | omega))) mJ3_checkIndex_8e157 sJ3_checkIndex_8e157 lJ0_1059 rfl dJ0_checkIndex_df160_5 rfl (by decide) (Nat.le_of_ble_eq_true rfl) (by decide) (by decide) ?_
    refine g_pop hX rfl dJ0_checkIndex_df160_8 ?_
    exact g_vret hX hR dJ0_checkIndex_df160_9 (by decide) (by decide) ⟨rfl, rfl, rfl, rfl⟩

theorem c_J1_charAt_3b067 (l : Launch) {nw sp : Nat} {I : xM} {k i : Nat} (hk : k < 11) (hi : i < wln k) : xC l 3 0 0 yJ1_charAt_3b067 cJ1_charAt_3b067 2 (some .char) 319 [.ref (3000000 + k), .int (nI i)] I (xRL nw sp) (xpI (nI (wby k i)) 319 I (xRL nw sp)) := by
  refine xC_of (by decide) (Nat.le_of_ble_eq_true rfl) (fun X hXl hX hR => ?_)
  have hX : xOK X RJ1 cJ1_charAt_3b067 2 3 0 0 := hX
  show G X 319 0 0 I (xRL nw sp) 0 [(0, .ref (3000000 + k)), (1, .int (nI i))] []
  have hw := wln_1 k hk
  have hb := wby_e k hk i hi
  refine g_iload_n hX dJ1_charAt_3b067_0 rfl 1 rfl ?_
  refine g_aload_n hX dJ1_charAt_3b067_1 rfl 0 rfl ?_
  refine g_slen k hX hk dJ1_charAt_3b067_2 ?_
  refine g_callSv hX (as := [.int (nI i), .int (nI (wln k))]) (fun l => c_J0_checkIndex_df160 l (I := I) (i := i) (m := (wln k)) (hi := (by first | assumption | omega)) (hm := hw.2)) mJ0_checkIndex_df160 sJ0_checkIndex_df160 lJ1_9 rfl dJ1_charAt_3b067_3 rfl (by decide) (Nat.le_of_ble_eq_true rfl) (by decide) (by decide) ?_
  refine g_aload_n hX dJ1_charAt_3b067_6 rfl 0 rfl ?_
  refine g_iload_n hX dJ1_charAt_3b067_7 rfl 1 rfl ?_
  refine g_sbald k hX hk i rfl (by omega) dJ1_charAt_3b067_8 ?_
  refine g_sipush (v := nI 255) hX dJ1_charAt_3b067_9 (by decide) ?_
  refine g_iand (v := nI (wby k i)) hX dJ1_charAt_3b067_12 (and255 _ hb.2).1 ?_
  refine g_i2c (v := nI (wby k i)) hX dJ1_charAt_3b067_13 (and255 _ hb.2).2 ?_
  exact g_zret hX hR dJ1_charAt_3b067_14 (ch_nar hb.2) (by decide) (by decide) ⟨congrArg (fun z => some (Value.int z)) rfl, rfl, rfl, rfl⟩

theorem c_J0_charAt_5068e (l : Launch) {nw sp : Nat} {I : xM} {k i : Nat} (hk : k < 11) (hi : i < wln k) : xC l 4 0 0 yJ0_charAt_5068e cJ0_charAt_5068e 2 (some .char) 319 [.ref (2000000 + k), .int (nI i)] I (xRL nw sp) (xpI (nI (wby k i)) 319 I (xRL nw sp)) := by
  refine xC_of (by decide) (Nat.le_of_ble_eq_true rfl) (fun X hXl hX hR => ?_)
  have hX : xOK X RJ0 cJ0_charAt_5068e 2 4 0 0 := hX
  show G X 319 0 0 I (xRL nw sp) 0 [(0, .ref (2000000 + k)), (1, .int (nI i))] []
  have hb := wby_e k hk i hi
  refine g_aload_n hX dJ0_charAt_5068e_0 rfl 0 rfl ?_
  refine g_callTi k hX (as := []) (fun l => c_J0_isLatin1_aae02 l (I := I) (k := k) (hk := hk)) mJ0_isLatin1_aae02 vJ0_isLatin1_aae02 lJ0_492 hk rfl rfl dJ0_charAt_5068e_1 rfl (by decide) (Nat.le_of_ble_eq_true rfl) (by decide) (by decide) ?_
  refine g_cz_eq (a := (1 : Int)) (tgt := 16) hX dJ0_charAt_5068e_4 (by decide) (by decide) (fun q => absurd q (by decide)) (fun _ => ?_)
  refine g_aload_n hX dJ0_charAt_5068e_7 rfl 0 rfl ?_
  refine g_sval k hX hk kJ0_9 dJ0_charAt_5068e_8 ?_
  refine g_iload_n hX dJ0_charAt_5068e_11 rfl 1 rfl ?_
  refine g_callSi hX (as := [.ref (3000000 + k), .int (nI i)]) (fun l => c_J1_charAt_3b067 l (I := I) (k := k) (i := i) (hk := hk) (hi := (by first | assumption | omega))) mJ1_charAt_3b067 sJ1_charAt_3b067 lJ0_495 rfl dJ0_charAt_5068e_12 rfl (by decide) (Nat.le_of_ble_eq_true rfl) (by decide) (by decide) ?_
  exact g_zret hX hR dJ0_charAt_5068e_15 (ch_nar hb.2) (by decide) (by decide) ⟨congrArg (fun z => some (Value.int z)) rfl, rfl, rfl, rfl⟩
