/-! WHAT THE START GIVES -/
section
variable {args : Array Value} {s : State}
theorem st_K (hts : ∀ w ∈ lw_tbl, w.before args s = true) : ∃ (D : va_G) (cy : Nat → ClassId), va_K D vwCl (xty cy) s := by
  obtain ⟨c0, i0, k0⟩ := u_known (C := RX0) (T := TX0) (N := 15) (n := 15) hts (fun w h => xgw_tbl (xCl0.2.2.2.1 w h)) (hts _ (List.mem_append_right _ (List.mem_of_getElem? (i := 88) (by decide +kernel))))
  obtain ⟨c1, i1, k1⟩ := u_known (C := RX1) (T := TX1) (N := 8) (n := 8) hts (fun w h => xgw_tbl (xCl1.2.2.2.1 w h)) (hts _ (List.mem_append_right _ (List.mem_of_getElem? (i := 26) (by decide +kernel))))
  obtain ⟨c2, i2, k2⟩ := u_known (C := RX2) (T := TX2) (N := 4) (n := 4) hts (fun w h => xgw_tbl (xCl2.2.2.2.1 w h)) (hts _ (List.mem_append_right _ (List.mem_of_getElem? (i := 168) (by decide +kernel))))
  obtain ⟨c3, i3, k3⟩ := u_known (C := RX3) (T := TX3) (N := 1) (n := 1) hts (fun w h => xgw_tbl (xCl3.2.2.2.1 w h)) (hts _ (List.mem_append_right _ (List.mem_of_getElem? (i := 61) (by decide +kernel))))
  obtain ⟨c4, i4, k4⟩ := u_known (C := RX4) (T := TX4) (N := 2) (n := 2) hts (fun w h => xgw_tbl (xCl4.2.2.2.1 w h)) (hts _ (List.mem_append_right _ (List.mem_of_getElem? (i := 73) (by decide +kernel))))
  obtain ⟨c5, i5, k5⟩ := u_known (C := RX5) (T := TX5) (N := 14) (n := 14) hts (fun w h => xgw_tbl (xCl5.2.2.2.1 w h)) (hts _ (List.mem_append_right _ (List.mem_of_getElem? (i := 16) (by decide +kernel))))
  obtain ⟨c6, i6, k6⟩ := u_known (C := RX6) (T := TX6) (N := 25) (n := 25) hts (fun w h => xgw_tbl (xCl6.2.2.2.1 w h)) (hts _ (List.mem_append_right _ (List.mem_of_getElem? (i := 683) (by decide +kernel))))
  obtain ⟨a7, q7, p7, f7, g7, h7⟩ := Cond.arrayClass_spec (args := args) (first := s) (o := none) (s := s) (idx := []) (hts _ (xgw_tbl aW_b))
  obtain ⟨a8, q8, p8, f8, g8, h8⟩ := Cond.arrayClass_spec (args := args) (first := s) (o := none) (s := s) (idx := []) (hts _ (xgw_tbl aW_i))
  obtain ⟨a9, q9, p9, f9, g9, h9⟩ := Cond.arrayClass_spec (args := args) (first := s) (o := none) (s := s) (idx := []) (hts _ (xgw_tbl aW_z))
  obtain ⟨pa, aa, qa, fa, -, ga, ha, na⟩ := Cond.arrayOver_spec (args := args) (first := s) (o := none) (s := s) (idx := []) (n := RX0) (hts _ (List.mem_append_right _ (List.mem_of_getElem? (i := 167) (by decide +kernel))))
  obtain ⟨pb, ab, qb, fb, -, gb, hb, nb⟩ := Cond.arrayOver_spec (args := args) (first := s) (o := none) (s := s) (idx := []) (n := RX2) (hts _ (List.mem_append_right _ (List.mem_of_getElem? (i := 24) (by decide +kernel))))
  refine ⟨(fun k => [c0, c1, c2, c3, c4, c5, c6].getD k 0, fun k => [i0, i1, i2, i3, i4, i5, i6].getD k (fun _ => 0)), fun k => [a7, a8, a9, aa, ab].getD (k - 7) 0, ?_, ?_⟩
  · intro k q hq
    match k, hq with
    | 0, hq => cases hq; exact k0
    | 1, hq => cases hq; exact k1
    | 2, hq => cases hq; exact k2
    | 3, hq => cases hq; exact k3
    | 4, hq => cases hq; exact k4
    | 5, hq => cases hq; exact k5
    | 6, hq => cases hq; exact k6
    | k + 7, hq => simp [vwCl] at hq
  · intro k q hq
    match k, hq with
    | 0, hq => cases hq; exact ⟨fun N z => ⟨fun k h => (by cases h), q7, g7, p7, h7⟩, f7⟩
    | 1, hq => cases hq; exact ⟨fun N z => ⟨fun k h => (by cases h), q8, g8, p8, h8⟩, f8⟩
    | 2, hq => cases hq; exact ⟨fun N z => ⟨fun k h => (by cases h), q9, g9, p9, h9⟩, f9⟩
    | 3, hq => cases hq; exact ⟨fun N z => ⟨fun k h => (by cases h), qa, ga, pa, ha⟩, qa, pa, ga, ha, fa, na⟩
    | 4, hq => cases hq; exact ⟨fun N z => ⟨fun k h => (by cases h), qb, gb, pb, hb⟩, qb, pb, gb, hb, fb, nb⟩
    | k + 5, hq => simp [xty] at hq
def st_F : List Cond := flatC (Jvm.Cond.and given_1 narrow_1)
def st_t (i : Nat) : Term := Term.string RX1 (xsi i)
theorem st_m1 : ∀ i, i < 11 → Cond.exactly (st_t i) "java/lang/String" ∈ st_F := by decide +kernel
theorem st_m2 : ∀ i, i < 11 → Cond.eq (.field (st_t i) "java/lang/String" "coder" "B") (.int 0) ∈ st_F := by decide +kernel
theorem st_m3 : ∀ i, i < 11 → Cond.arrayOf (.field (st_t i) "java/lang/String" "value" "[B") .byte ∈ st_F := by decide +kernel
theorem st_m4 : ∀ i, i < 11 → Cond.eq (.length (.field (st_t i) "java/lang/String" "value" "[B")) (.int (Int32.ofNat (xsl.getD i 0))) ∈ st_F := by decide +kernel
theorem st_m5 : ∀ i, i < 11 → ∀ j, j < xsl.getD i 0 → Cond.eq (.elem (.field (st_t i) "java/lang/String" "value" "[B") (.int (Int32.ofNat j))) (.int ((xsb.getD i []).getD j 0)) ∈ st_F := by decide +kernel
theorem st_m6 : ∀ i, i < 11 → ∀ j, j < 11 → i ≠ j → Cond.not (Cond.eq (st_t i) (st_t j)) ∈ st_F ∨ Cond.not (Cond.eq (st_t j) (st_t i)) ∈ st_F := by decide +kernel
theorem st_m7 : ∀ i, i < 11 → Cond.stringRef RX1 (xsi i) (xst i) ∈ tables_1 := by decide +kernel
theorem st_m8 : Cond.eq (.static "java/lang/String" "COMPACT_STRINGS" "Z") (.int 1) ∈ st_F := by decide +kernel
theorem st_m9 : Cond.isRef (.static "jdk/internal/util/Preconditions" "SIOOBE_FORMATTER" "Ljava/util/function/BiFunction;") ∈ st_F := by decide +kernel
theorem st_l1 : ∀ i, i < 11 → xsl.getD i 0 < 2 ^ 31 := by decide +kernel
theorem st_E (b : Nat) (hts : ∀ w ∈ lw_tbl, w.before args s = true) (hgv : (Jvm.Cond.and given_1 narrow_1).before args s = true) : ∃ B : Nat → Nat, xE B (fun q => s.heap.size ≤ q) s s.heap ∧ B 5000000 = b := by
  have hs : ∀ c ∈ st_F, c.before args s = true := flat_of_before _ hgv
  have hA : ∀ a : Nat, a < s.heap.size → ¬ (fun q : Nat => s.heap.size ≤ q) a := fun a h => Nat.not_le.mpr h
  obtain ⟨adK, adV, hS, hev⟩ := vk_Sof (N := 11) (tm := st_t) (len := xsl) (byt := xsb) (A := fun q : Nat => s.heap.size ≤ q) st_l1 (fun i hi => hs _ (st_m1 i hi)) (fun i hi => hs _ (st_m2 i hi)) (fun i hi => hs _ (st_m3 i hi)) (fun i hi => hs _ (st_m4 i hi)) (fun i hi j hj => hs _ (st_m5 i hi j hj)) (fun i j hi hj hij => (st_m6 i hi j hj hij).imp (hs _) (hs _)) hA
  have hz1 := va_Zof (A := fun q : Nat => s.heap.size ≤ q) (hts (.laysStatic "java/lang/String" "COMPACT_STRINGS" "Z") (List.mem_append_right _ (List.mem_of_getElem? (i := 345) (by decide +kernel)))) (hts (.initialized "java/lang/String") (List.mem_append_right _ (List.mem_of_getElem? (i := 10) (by decide +kernel)))) (va_eqt (hs _ st_m8)) hA
  have hz2 := va_Zqof (A := fun q : Nat => s.heap.size ≤ q) (hts (.laysStatic "jdk/internal/util/Preconditions" "SIOOBE_FORMATTER" "Ljava/util/function/BiFunction;") (List.mem_append_right _ (List.mem_of_getElem? (i := 361) (by decide +kernel)))) (hts (.initialized "jdk/internal/util/Preconditions") (List.mem_append_right _ (List.mem_of_getElem? (i := 12) (by decide +kernel)))) (hs _ st_m9) hA
  have hnw : ∀ w ∈ xnw, va_Nw w s := by
    intro w hw
    obtain ⟨h1, h2⟩ := List.mem_filter.mp hw
    have h3 := hts w h1
    cases w <;> simp [xisN] at h2
    · exact va_Nw.of rfl h3
    · exact va_Nw.of rfl h3
  have main : ∀ fa : Nat, (va_Z "jdk/internal/util/Preconditions" "SIOOBE_FORMATTER" "Ljava/util/function/BiFunction;" .null (fun q => s.heap.size ≤ q) s s.heap ∨ va_Z "jdk/internal/util/Preconditions" "SIOOBE_FORMATTER" "Ljava/util/function/BiFunction;" (.ref fa) (fun q => s.heap.size ≤ q) s s.heap) → ∃ B : Nat → Nat, xE B (fun q => s.heap.size ≤ q) s s.heap ∧ B 5000000 = b := by
    intro fa hfa
    refine ⟨fun i => if i = 5000000 then b else if i = 4000000 then fa else if i < 3000000 then adK (i - 2000000) else adV (i - 3000000), ⟨hnw, fun i hi => ?_, ⟨fun i hi => ?_, fun i j hi hj => ?_⟩, hz1, ?_⟩, if_pos rfl⟩
    · show vk_R RX1 (xsi i) (xst i) (if 2000000 + i = 5000000 then b else if 2000000 + i = 4000000 then fa else if 2000000 + i < 3000000 then adK (2000000 + i - 2000000) else adV (2000000 + i - 3000000)) s
      rw [if_neg (by omega), if_neg (by omega), if_pos (by omega), show 2000000 + i - 2000000 = i by omega]
      exact vk_R.of (hts _ (List.mem_append_right _ (st_m7 i hi))) (hev i hi)
    · have e1 : (if 2000000 + i = 5000000 then b else if 2000000 + i = 4000000 then fa else if 2000000 + i < 3000000 then adK (2000000 + i - 2000000) else adV (2000000 + i - 3000000)) = adK i := by
        rw [if_neg (by omega), if_neg (by omega), if_pos (by omega), show 2000000 + i - 2000000 = i by omega]
      have e2 : (if 3000000 + i = 5000000 then b else if 3000000 + i = 4000000 then fa else if 3000000 + i < 3000000 then adK (3000000 + i - 2000000) else adV (3000000 + i - 3000000)) = adV i := by
        rw [if_neg (by omega), if_neg (by omega), if_neg (by omega), show 3000000 + i - 3000000 = i by omega]
      dsimp only
      rw [e1, e2]
      exact hS.1 i hi
    · dsimp only
      rw [if_neg (by omega), if_neg (by omega), if_pos (by omega), if_neg (by omega), if_neg (by omega), if_pos (by omega), show 2000000 + i - 2000000 = i by omega, show 2000000 + j - 2000000 = j by omega]
      exact hS.2 i j hi hj
    · show va_Z _ _ _ .null _ s s.heap ∨ va_Z _ _ _ (.ref (if 4000000 = 5000000 then b else if 4000000 = 4000000 then fa else if 4000000 < 3000000 then adK (4000000 - 2000000) else adV (4000000 - 3000000))) _ s s.heap
      rw [if_neg (by omega), if_pos rfl]
      exact hfa
  rcases hz2 with h | ⟨t, h⟩
  · exact main 0 (Or.inl h)
  · exact main t (Or.inr h)
theorem st_AO0 (hts : ∀ w ∈ lw_tbl, w.before args s = true) : va_AO RX0 s := va_AO.of (A := args) (hts _ (List.mem_append_right _ (List.mem_of_getElem? (i := 167) (by decide +kernel))))
theorem st_AO2 (hts : ∀ w ∈ lw_tbl, w.before args s = true) : va_AO RX2 s := va_AO.of (A := args) (hts _ (List.mem_append_right _ (List.mem_of_getElem? (i := 24) (by decide +kernel))))
end
