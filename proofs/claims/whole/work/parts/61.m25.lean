theorem rowR.tr {I K : xM} {r : Nat} (h : rowR I r) (e1 : K (31 + 2 * r) = I (31 + 2 * r)) (e2 : K (32 + 2 * r) = I (32 + 2 * r)) (e3 : K 308 r = I 308 r) (e4 : K 309 r = I 309 r) (e5 : ∀ j, j < 40 → K 310 (40 * r + j) = I 310 (40 * r + j)) : rowR K r := by
  unfold rowR
  rw [e1, e2, e3, e4]
  rcases h with h | ⟨ln, m, a, b, c1, c2, c3, c4, c5, c6⟩
  · exact Or.inl h
  · exact Or.inr ⟨ln, m, a, b, c1, c2, c3, c4, c5, fun j hj => by rw [e5 j (by omega)]; exact c6 j hj⟩
/-- rows may have changed -/
theorem LR.rows {I K : xM} {nw sp c : Nat} (h : LR I nw sp c) (e : ∀ o, o ≠ 0 → o ≠ 307 → (o < 31 ∨ 46 < o) → (o < 308 ∨ 310 < o) → K o = I o) (e0 : ∀ j, j ≠ 13 → K 0 j = I 0 j) (e7 : ∀ j, j ≠ 0 → j ≠ 1 → K 307 j = I 307 j) (es : K 307 1 = K 0 13) (hr : L2 K) : LR K nw sp (c + 1) := by
  obtain ⟨h1, h2, h3, h4, h5, h6, h7, h8, h9, h10, h11⟩ := h
  refine ⟨h1, hr, h3.tr (by rw [e 2 (by omega) (by omega) (by omega) (by omega)]) (e 3 (by omega) (by omega) (by omega) (by omega)) (e7 11 (by omega) (by omega)) (e 314 (by omega) (by omega) (by omega) (by omega)), ⟨?_, es⟩, h5.tr (e0 6 (by omega)) (e7 7 (by omega) (by omega)), ?_, h7.mono.tr (e0 8 (by omega)) (e0 9 (by omega)) (e7 9 (by omega) (by omega)) (e 313 (by omega) (by omega) (by omega) (by omega)) (fun i a b => e i (by omega) (by omega) (by omega) (by omega)), h8.mono.tr (e 30 (by omega) (by omega) (by omega) (by omega)) (e 316 (by omega) (by omega) (by omega) (by omega)) (e 317 (by omega) (by omega) (by omega) (by omega)) (fun i a b => e i (by omega) (by omega) (by omega) (by omega)), h9.tr (by rw [e 6 (by omega) (by omega) (by omega) (by omega)]) (e 7 (by omega) (by omega) (by omega) (by omega)) (e7 24 (by omega) (by omega)) (e 318 (by omega) (by omega) (by omega) (by omega)), h10.tr (e 315 (by omega) (by omega) (by omega) (by omega)), h11.tr (fun i hi => e i (by omega) (by omega) (by omega) (by omega))⟩
  · rw [e7 12 (by omega) (by omega), e0 12 (by omega)]; exact h4.1
  · rw [e 311 (by omega) (by omega) (by omega) (by omega)]
    exact (h6.mono (Nat.le_succ c)).ext (fun i a b => e i (by omega) (by omega) (by omega) (by omega))
theorem neg_nI {m : Nat} (h : (nI m).toInt < 0) (h2 : m < 3) : False := by rw [nI_toInt (by omega)] at h; omega
theorem st_row {I : xM} {nw sp c : Nat} {x y z : Int32} (h : LR I nw sp c) : PairS yX5_row cX5_row 4 yX6_row cX6_row 5 [.int x, .int y, .int z] I nw sp c := by
  have hs := h.2.2.2.1.2
  by_cases hb : 0 ≤ x.toInt ∧ x.toInt ≤ 7 ∧ 0 ≤ y.toInt ∧ y.toInt ≤ 2 ∧ z.toInt ≤ 40
  · by_cases hz : z.toInt < 0
    · have hb2 : 0 ≤ x.toInt ∧ x.toInt ≤ 7 ∧ 0 ≤ y.toInt ∧ y.toInt ≤ 2 ∧ z.toInt < 0 := by omega
      exact pair_ii (fun l => c_X5_row_neg l hb2) (fun l => c_X6_row_neg l hb2) rfl (h.q (fun o a b c => by simp (disch := omega) only [xput_ne, xrow_o, xput_in, xput_e, xrow_e]) (fun j a => by simp (disch := omega) only [xput_ne, xrow_o, xput_in, xput_e, xrow_e]) (fun j a b => by simp (disch := omega) only [xput_ne, xrow_o, xput_in, xput_e, xrow_e]) (by first | (simp (disch := omega) only [xput_ne, xrow_o, xput_in, xput_e, xrow_e]; done) | (simp (disch := omega) only [xput_ne, xrow_o, xput_in, xput_e, xrow_e]; exact hs)))
    · obtain ⟨r, hr, rfl⟩ := nI_ex (x := x) (m := 8) (by omega) (by omega)
      obtain ⟨ln, hl, rfl⟩ := nI_ex (x := y) (m := 3) (by omega) (by omega)
      obtain ⟨n, hn, rfl⟩ := nI_ex (x := z) (m := 41) (by omega) (by omega)
      refine pair_ii (fun l => c_X5_row_ok l hr hl (by omega)) (fun l => c_X6_row_ok l hr hl (by omega)) rfl (h.rows (fun o a b c d => by simp (disch := omega) only [xput_ne, xrow_o, xput_in, xput_e, xrow_e]) (fun j a => by simp (disch := omega) only [xput_ne, xrow_o, xput_in, xput_e, xrow_e]) (fun j a b => by simp (disch := omega) only [xput_ne, xrow_o, xput_in, xput_e, xrow_e]) (by simp (disch := omega) only [xput_ne, xrow_o, xput_in, xput_e, xrow_e]) (fun q hq => ?_))
      by_cases e : q = r
      · subst e
        refine Or.inr ⟨ln, n, hl, by omega, ?_, ?_, ?_, ?_, ?_, fun j hj => ?_⟩
        · simp (disch := omega) only [xput_ne, xrow_o, xput_in, xput_e, xrow_e]
        · simp (disch := omega) only [xput_ne, xrow_o, xput_in, xput_e, xrow_e]
        · simp (disch := omega) only [xput_ne, xrow_o, xput_in, xput_e, xrow_e]
        · simp (disch := omega) only [xput_ne, xrow_o, xput_in, xput_e, xrow_e]
        · simp (disch := omega) only [xput_ne, xrow_o, xput_in, xput_e, xrow_e]
        · simp (disch := omega) only [xput_ne, xrow_o, xput_in, xput_e, xrow_e]
          rw [xfill_in (Nat.zero_le j) (by omega), xfill_in (by omega) (by omega)]
      · refine (h.2.1 q hq).tr (by simp (disch := omega) only [xput_ne, xrow_o, xput_in, xput_e, xrow_e]) (by simp (disch := omega) only [xput_ne, xrow_o, xput_in, xput_e, xrow_e]) (by simp (disch := omega) only [xput_ne, xrow_o, xput_in, xput_e, xrow_e]) (by simp (disch := omega) only [xput_ne, xrow_o, xput_in, xput_e, xrow_e]) (fun j hj => ?_)
        simp (disch := omega) only [xput_ne, xrow_o, xput_in, xput_e, xrow_e]
        exact xfill_out (by omega)
  · exact pair_ii (fun l => c_X5_row_bad l hb) (fun l => c_X6_row_bad l hb) rfl (h.q (fun o a b c => by simp (disch := omega) only [xput_ne, xrow_o, xput_in, xput_e, xrow_e]) (fun j a => by simp (disch := omega) only [xput_ne, xrow_o, xput_in, xput_e, xrow_e]) (fun j a b => by simp (disch := omega) only [xput_ne, xrow_o, xput_in, xput_e, xrow_e]) (by first | (simp (disch := omega) only [xput_ne, xrow_o, xput_in, xput_e, xrow_e]; done) | (simp (disch := omega) only [xput_ne, xrow_o, xput_in, xput_e, xrow_e]; exact hs)))
theorem st_set {I : xM} {nw sp c : Nat} {x y z : Int32} (h : LR I nw sp c) : PairS yX5_set cX5_set 5 yX6_set cX6_set 4 [.int x, .int y, .int z] I nw sp c := by
  have hs := h.2.2.2.1.2
  by_cases hb : 0 ≤ x.toInt ∧ x.toInt ≤ 7
  · obtain ⟨r, hr, rfl⟩ := nI_ex (x := x) (m := 8) (by omega) (by omega)
    rcases h.2.1 r hr with ⟨h1, h2⟩ | ⟨ln, m, hl, hm, c1, c2, c3, c4, c5, c6⟩
    · exact pair_ii (fun l => c_X5_set_null l hr h1) (fun l => c_X6_set_null l hr (by simp (disch := omega) only [xput_ne, xrow_o, xput_in, xput_e, xrow_e]; exact h2)) rfl (h.q (fun o a b c => by simp (disch := omega) only [xput_ne, xrow_o, xput_in, xput_e, xrow_e]) (fun j a => by simp (disch := omega) only [xput_ne, xrow_o, xput_in, xput_e, xrow_e]) (fun j a b => by simp (disch := omega) only [xput_ne, xrow_o, xput_in, xput_e, xrow_e]) (by first | (simp (disch := omega) only [xput_ne, xrow_o, xput_in, xput_e, xrow_e]; done) | (simp (disch := omega) only [xput_ne, xrow_o, xput_in, xput_e, xrow_e]; exact hs)))
    · by_cases hy : 0 ≤ y.toInt ∧ y.toInt < m
      · obtain ⟨i, hi, rfl⟩ := nI_ex (x := y) (m := m) (by omega) (by omega)
        refine pair_ii (fun l => c_X5_set_ok l hr c1 c2 hl c4 (by omega) hi) (fun l => c_X6_set_ok (ln := ln) (m := m) l hr (by simp (disch := omega) only [xput_ne, xrow_o, xput_in, xput_e, xrow_e]; exact c3) hl (by simp (disch := omega) only [xput_ne, xrow_o, xput_in, xput_e, xrow_e]; exact c5) (by omega) hi) rfl (h.rows (fun o a b c d => by simp (disch := omega) only [xput_ne, xrow_o, xput_in, xput_e, xrow_e]) (fun j a => by simp (disch := omega) only [xput_ne, xrow_o, xput_in, xput_e, xrow_e]) (fun j a b => by simp (disch := omega) only [xput_ne, xrow_o, xput_in, xput_e, xrow_e]) (by simp (disch := omega) only [xput_ne, xrow_o, xput_in, xput_e, xrow_e]) (fun q hq => ?_))
        by_cases e : q = r
        · subst e
          refine Or.inr ⟨ln, m, hl, hm, by simp (disch := omega) only [xput_ne, xrow_o, xput_in, xput_e, xrow_e]; exact c1, by simp (disch := omega) only [xput_ne, xrow_o, xput_in, xput_e, xrow_e]; exact c2, by simp (disch := omega) only [xput_ne, xrow_o, xput_in, xput_e, xrow_e]; exact c3, by simp (disch := omega) only [xput_ne, xrow_o, xput_in, xput_e, xrow_e]; exact c4, by simp (disch := omega) only [xput_ne, xrow_o, xput_in, xput_e, xrow_e]; exact c5, fun j hj => ?_⟩
          by_cases ej : j = i
          · subst ej; simp (disch := omega) only [xput_ne, xrow_o, xput_in, xput_e, xrow_e]
          · simp (disch := omega) only [xput_ne, xrow_o, xput_in, xput_e, xrow_e]
            exact c6 j hj
        · refine (h.2.1 q hq).tr (by simp (disch := omega) only [xput_ne, xrow_o, xput_in, xput_e, xrow_e]) (by simp (disch := omega) only [xput_ne, xrow_o, xput_in, xput_e, xrow_e]) (by simp (disch := omega) only [xput_ne, xrow_o, xput_in, xput_e, xrow_e]) (by simp (disch := omega) only [xput_ne, xrow_o, xput_in, xput_e, xrow_e]) (fun j hj => ?_)
          simp (disch := omega) only [xput_ne, xrow_o, xput_in, xput_e, xrow_e]
      · exact pair_ii (fun l => c_X5_set_place l hr c1 c2 hl c4 (by omega) hy) (fun l => c_X6_set_place (ln := ln) (m := m) l hr (by simp (disch := omega) only [xput_ne, xrow_o, xput_in, xput_e, xrow_e]; exact c3) hl (by simp (disch := omega) only [xput_ne, xrow_o, xput_in, xput_e, xrow_e]; exact c5) (by omega) hy) rfl (h.q (fun o a b c => by simp (disch := omega) only [xput_ne, xrow_o, xput_in, xput_e, xrow_e]) (fun j a => by simp (disch := omega) only [xput_ne, xrow_o, xput_in, xput_e, xrow_e]) (fun j a b => by simp (disch := omega) only [xput_ne, xrow_o, xput_in, xput_e, xrow_e]) (by first | (simp (disch := omega) only [xput_ne, xrow_o, xput_in, xput_e, xrow_e]; done) | (simp (disch := omega) only [xput_ne, xrow_o, xput_in, xput_e, xrow_e]; exact hs)))
  · exact pair_ii (fun l => c_X5_set_bad l hb) (fun l => c_X6_set_bad l hb) rfl (h.q (fun o a b c => by simp (disch := omega) only [xput_ne, xrow_o, xput_in, xput_e, xrow_e]) (fun j a => by simp (disch := omega) only [xput_ne, xrow_o, xput_in, xput_e, xrow_e]) (fun j a b => by simp (disch := omega) only [xput_ne, xrow_o, xput_in, xput_e, xrow_e]) (by first | (simp (disch := omega) only [xput_ne, xrow_o, xput_in, xput_e, xrow_e]; done) | (simp (disch := omega) only [xput_ne, xrow_o, xput_in, xput_e, xrow_e]; exact hs)))
theorem st_drop {I : xM} {nw sp c : Nat} {x : Int32} (h : LR I nw sp c) : PairS yX5_drop cX5_drop 3 yX6_drop cX6_drop 2 [.int x] I nw sp c := by
  have hs := h.2.2.2.1.2
  by_cases hb : 0 ≤ x.toInt ∧ x.toInt ≤ 7
  · obtain ⟨r, hr, rfl⟩ := nI_ex (x := x) (m := 8) (by omega) (by omega)
    rcases h.2.1 r hr with ⟨h1, h2⟩ | ⟨ln, m, hl, hm, c1, c2, c3, c4, c5, c6⟩
    · exact pair_ii (fun l => c_X5_drop_null l hr h1) (fun l => c_X6_drop_null l hr (by simp (disch := omega) only [xput_ne, xrow_o, xput_in, xput_e, xrow_e]; exact h2)) rfl (h.q (fun o a b c => by simp (disch := omega) only [xput_ne, xrow_o, xput_in, xput_e, xrow_e]) (fun j a => by simp (disch := omega) only [xput_ne, xrow_o, xput_in, xput_e, xrow_e]) (fun j a b => by simp (disch := omega) only [xput_ne, xrow_o, xput_in, xput_e, xrow_e]) (by first | (simp (disch := omega) only [xput_ne, xrow_o, xput_in, xput_e, xrow_e]; done) | (simp (disch := omega) only [xput_ne, xrow_o, xput_in, xput_e, xrow_e]; exact hs)))
    · refine pair_ii (fun l => c_X5_drop_ok l hr c1) (fun l => c_X6_drop_ok (ln := ln) l hr (by simp (disch := omega) only [xput_ne, xrow_o, xput_in, xput_e, xrow_e]; exact c3) hl) (by simp (disch := omega) only [xput_ne, xrow_o, xput_in, xput_e, xrow_e]; exact c5.trans c4.symm) (h.rows (fun o a b c d => by simp (disch := omega) only [xput_ne, xrow_o, xput_in, xput_e, xrow_e]) (fun j a => by simp (disch := omega) only [xput_ne, xrow_o, xput_in, xput_e, xrow_e]) (fun j a b => by simp (disch := omega) only [xput_ne, xrow_o, xput_in, xput_e, xrow_e]) (by simp (disch := omega) only [xput_ne, xrow_o, xput_in, xput_e, xrow_e]) (fun q hq => ?_))
      by_cases e : q = r
      · subst e
        exact Or.inl ⟨by simp (disch := omega) only [xput_ne, xrow_o, xput_in, xput_e, xrow_e], by simp (disch := omega) only [xput_ne, xrow_o, xput_in, xput_e, xrow_e]; decide⟩
      · refine (h.2.1 q hq).tr (by simp (disch := omega) only [xput_ne, xrow_o, xput_in, xput_e, xrow_e]) (by simp (disch := omega) only [xput_ne, xrow_o, xput_in, xput_e, xrow_e]) (by simp (disch := omega) only [xput_ne, xrow_o, xput_in, xput_e, xrow_e]) (by simp (disch := omega) only [xput_ne, xrow_o, xput_in, xput_e, xrow_e]) (fun j hj => ?_)
        simp (disch := omega) only [xput_ne, xrow_o, xput_in, xput_e, xrow_e]
  · exact pair_ii (fun l => c_X5_drop_bad l hb) (fun l => c_X6_drop_bad l hb) rfl (h.q (fun o a b c => by simp (disch := omega) only [xput_ne, xrow_o, xput_in, xput_e, xrow_e]) (fun j a => by simp (disch := omega) only [xput_ne, xrow_o, xput_in, xput_e, xrow_e]) (fun j a b => by simp (disch := omega) only [xput_ne, xrow_o, xput_in, xput_e, xrow_e]) (by first | (simp (disch := omega) only [xput_ne, xrow_o, xput_in, xput_e, xrow_e]; done) | (simp (disch := omega) only [xput_ne, xrow_o, xput_in, xput_e, xrow_e]; exact hs)))
set_option maxHeartbeats 4000000 in
theorem st_copy {I : xM} {nw sp c : Nat} {a i b j n : Int32} (h : LR I nw sp c) : PairS yX5_copy cX5_copy 8 yX6_copy cX6_copy 9 [.int a, .int i, .int b, .int j, .int n] I nw sp c := by
  have hs := h.2.2.2.1.2
  by_cases hb : 0 ≤ a.toInt ∧ a.toInt ≤ 7 ∧ 0 ≤ b.toInt ∧ b.toInt ≤ 7
  · obtain ⟨a, ha, rfl⟩ := nI_ex (x := a) (m := 8) (by omega) (by omega)
    obtain ⟨b, hb2, rfl⟩ := nI_ex (x := b) (m := 8) (by omega) (by omega)
    rcases h.2.1 a ha with ⟨h1, h2⟩ | ⟨ln, m, hl, hm, c1, c2, c3, c4, c5, c6⟩
    · rcases h.2.1 b hb2 with ⟨h3, h4⟩ | ⟨ln2, m2, hl2, hm2, d1, d2, d3, d4, d5, d6⟩
      · exact pair_ii (fun l => c_X5_copy_null (pa := false) (pb := false) l ha hb2 (by rw [h1]; exact (xb_f (by decide)).symm) (by rw [h3]; exact (xb_f (by decide)).symm) (by decide)) (fun l => c_X6_copy_null l ha hb2 (Or.inl (by simp (disch := omega) only [xput_ne, xrow_o, xput_in, xput_e, xrow_e]; exact h2))) rfl (h.q (fun o a b c => by simp (disch := omega) only [xput_ne, xrow_o, xput_in, xput_e, xrow_e]) (fun j a => by simp (disch := omega) only [xput_ne, xrow_o, xput_in, xput_e, xrow_e]) (fun j a b => by simp (disch := omega) only [xput_ne, xrow_o, xput_in, xput_e, xrow_e]) (by first | (simp (disch := omega) only [xput_ne, xrow_o, xput_in, xput_e, xrow_e]; done) | (simp (disch := omega) only [xput_ne, xrow_o, xput_in, xput_e, xrow_e]; exact hs)))
      · exact pair_ii (fun l => c_X5_copy_null (pa := false) (pb := true) l ha hb2 (by rw [h1]; exact (xb_f (by decide)).symm) (by rw [d1]; exact (xb_t rfl).symm) (by decide)) (fun l => c_X6_copy_null l ha hb2 (Or.inl (by simp (disch := omega) only [xput_ne, xrow_o, xput_in, xput_e, xrow_e]; exact h2))) rfl (h.q (fun o a b c => by simp (disch := omega) only [xput_ne, xrow_o, xput_in, xput_e, xrow_e]) (fun j a => by simp (disch := omega) only [xput_ne, xrow_o, xput_in, xput_e, xrow_e]) (fun j a b => by simp (disch := omega) only [xput_ne, xrow_o, xput_in, xput_e, xrow_e]) (by first | (simp (disch := omega) only [xput_ne, xrow_o, xput_in, xput_e, xrow_e]; done) | (simp (disch := omega) only [xput_ne, xrow_o, xput_in, xput_e, xrow_e]; exact hs)))
    · rcases h.2.1 b hb2 with ⟨h3, h4⟩ | ⟨ln2, m2, hl2, hm2, d1, d2, d3, d4, d5, d6⟩
      · exact pair_ii (fun l => c_X5_copy_null (pa := true) (pb := false) l ha hb2 (by rw [c1]; exact (xb_t rfl).symm) (by rw [h3]; exact (xb_f (by decide)).symm) (by decide)) (fun l => c_X6_copy_null l ha hb2 (Or.inr (by simp (disch := omega) only [xput_ne, xrow_o, xput_in, xput_e, xrow_e]; exact h4))) rfl (h.q (fun o a b c => by simp (disch := omega) only [xput_ne, xrow_o, xput_in, xput_e, xrow_e]) (fun j a => by simp (disch := omega) only [xput_ne, xrow_o, xput_in, xput_e, xrow_e]) (fun j a b => by simp (disch := omega) only [xput_ne, xrow_o, xput_in, xput_e, xrow_e]) (by first | (simp (disch := omega) only [xput_ne, xrow_o, xput_in, xput_e, xrow_e]; done) | (simp (disch := omega) only [xput_ne, xrow_o, xput_in, xput_e, xrow_e]; exact hs)))
      · by_cases hne : ln = ln2
        · subst hne
          by_cases hp : 0 ≤ i.toInt ∧ 0 ≤ j.toInt ∧ 0 ≤ n.toInt ∧ i.toInt + n.toInt ≤ m ∧ j.toInt + n.toInt ≤ m2
          · obtain ⟨i, hi, rfl⟩ := nI_ex (x := i) (m := 41) (by omega) (by omega)
            obtain ⟨j, hj, rfl⟩ := nI_ex (x := j) (m := 41) (by omega) (by omega)
            obtain ⟨n, hn, rfl⟩ := nI_ex (x := n) (m := 41) (by omega) (by omega)
            rw [nI_toInt (by omega), nI_toInt (by omega), nI_toInt (by omega)] at hp
            rcases Nat.lt_or_ge i j with hij | hij
            · refine pair_ii (fun l => c_X5_copy_ok l ha hb2 c1 d1 c2 hl d2 hl2 rfl c4 (by omega) d4 (by omega) (by omega) (by omega)) (fun l => c_X6_copy_dn (la := ln) (lb := ln) (ma := m) (mb := m2) l ha hb2 (by simp (disch := omega) only [xput_ne, xrow_o, xput_in, xput_e, xrow_e]; exact c3) hl (by simp (disch := omega) only [xput_ne, xrow_o, xput_in, xput_e, xrow_e]; exact d3) hl2 rfl (by simp (disch := omega) only [xput_ne, xrow_o, xput_in, xput_e, xrow_e]; exact c5) (by omega) (by simp (disch := omega) only [xput_ne, xrow_o, xput_in, xput_e, xrow_e]; exact d5) (by omega) (by omega) (by omega) hij) rfl (h.rows (fun o a b c d => by simp (disch := omega) only [xput_ne, xrow_o, xput_in, xput_e, xrow_e]) (fun j a => by simp (disch := omega) only [xput_ne, xrow_o, xput_in, xput_e, xrow_e]) (fun j a b => by simp (disch := omega) only [xput_ne, xrow_o, xput_in, xput_e, xrow_e]) (by simp (disch := omega) only [xput_ne, xrow_o, xput_in, xput_e, xrow_e]) (fun q hq => ?_))
              by_cases e : q = b
              · subst e
                refine Or.inr ⟨ln, m2, hl, hm2, by simp (disch := omega) only [xput_ne, xrow_o, xput_in, xput_e, xrow_e]; exact d1, by simp (disch := omega) only [xput_ne, xrow_o, xput_in, xput_e, xrow_e]; exact d2, by simp (disch := omega) only [xput_ne, xrow_o, xput_in, xput_e, xrow_e]; exact d3, by simp (disch := omega) only [xput_ne, xrow_o, xput_in, xput_e, xrow_e]; exact d4, by simp (disch := omega) only [xput_ne, xrow_o, xput_in, xput_e, xrow_e]; exact d5, fun t ht => ?_⟩
                simp (disch := omega) only [xput_ne, xrow_o, xput_in, xput_e, xrow_e]
                by_cases hin : j ≤ t ∧ t < j + n
                · rw [pk_cpy_in hin.1 hin.2, xfill_in (by omega) (by omega), c6 (i + (t - j)) (by omega)]
                  congr 1
                  omega
                · rw [pk_cpy_out (by omega), xfill_out (by omega)]
                  exact d6 t ht
              · refine (h.2.1 q hq).tr (by simp (disch := omega) only [xput_ne, xrow_o, xput_in, xput_e, xrow_e]) (by simp (disch := omega) only [xput_ne, xrow_o, xput_in, xput_e, xrow_e]) (by simp (disch := omega) only [xput_ne, xrow_o, xput_in, xput_e, xrow_e]) (by simp (disch := omega) only [xput_ne, xrow_o, xput_in, xput_e, xrow_e]) (fun t ht => ?_)
                simp (disch := omega) only [xput_ne, xrow_o, xput_in, xput_e, xrow_e]
                exact xfill_out (by omega)
            · refine pair_ii (fun l => c_X5_copy_ok l ha hb2 c1 d1 c2 hl d2 hl2 rfl c4 (by omega) d4 (by omega) (by omega) (by omega)) (fun l => c_X6_copy_up (la := ln) (lb := ln) (ma := m) (mb := m2) l ha hb2 (by simp (disch := omega) only [xput_ne, xrow_o, xput_in, xput_e, xrow_e]; exact c3) hl (by simp (disch := omega) only [xput_ne, xrow_o, xput_in, xput_e, xrow_e]; exact d3) hl2 rfl (by simp (disch := omega) only [xput_ne, xrow_o, xput_in, xput_e, xrow_e]; exact c5) (by omega) (by simp (disch := omega) only [xput_ne, xrow_o, xput_in, xput_e, xrow_e]; exact d5) (by omega) (by omega) (by omega) hij) rfl (h.rows (fun o a b c d => by simp (disch := omega) only [xput_ne, xrow_o, xput_in, xput_e, xrow_e]) (fun j a => by simp (disch := omega) only [xput_ne, xrow_o, xput_in, xput_e, xrow_e]) (fun j a b => by simp (disch := omega) only [xput_ne, xrow_o, xput_in, xput_e, xrow_e]) (by simp (disch := omega) only [xput_ne, xrow_o, xput_in, xput_e, xrow_e]) (fun q hq => ?_))
              by_cases e : q = b
              · subst e
                refine Or.inr ⟨ln, m2, hl, hm2, by simp (disch := omega) only [xput_ne, xrow_o, xput_in, xput_e, xrow_e]; exact d1, by simp (disch := omega) only [xput_ne, xrow_o, xput_in, xput_e, xrow_e]; exact d2, by simp (disch := omega) only [xput_ne, xrow_o, xput_in, xput_e, xrow_e]; exact d3, by simp (disch := omega) only [xput_ne, xrow_o, xput_in, xput_e, xrow_e]; exact d4, by simp (disch := omega) only [xput_ne, xrow_o, xput_in, xput_e, xrow_e]; exact d5, fun t ht => ?_⟩
                simp (disch := omega) only [xput_ne, xrow_o, xput_in, xput_e, xrow_e]
                by_cases hin : j ≤ t ∧ t < j + n
                · rw [pk_cpy_in hin.1 hin.2, xfill_in (by omega) (by omega), c6 (i + (t - j)) (by omega)]
                  congr 1
                  omega
                · rw [pk_cpy_out (by omega), xfill_out (by omega)]
                  exact d6 t ht
              · refine (h.2.1 q hq).tr (by simp (disch := omega) only [xput_ne, xrow_o, xput_in, xput_e, xrow_e]) (by simp (disch := omega) only [xput_ne, xrow_o, xput_in, xput_e, xrow_e]) (by simp (disch := omega) only [xput_ne, xrow_o, xput_in, xput_e, xrow_e]) (by simp (disch := omega) only [xput_ne, xrow_o, xput_in, xput_e, xrow_e]) (fun t ht => ?_)
                simp (disch := omega) only [xput_ne, xrow_o, xput_in, xput_e, xrow_e]
                exact xfill_out (by omega)
          · exact pair_ii (fun l => c_X5_copy_place l ha hb2 c1 d1 c2 hl d2 hl2 rfl c4 (by omega) d4 (by omega) hp) (fun l => c_X6_copy_place (la := ln) (lb := ln) (ma := m) (mb := m2) l ha hb2 (by simp (disch := omega) only [xput_ne, xrow_o, xput_in, xput_e, xrow_e]; exact c3) hl (by simp (disch := omega) only [xput_ne, xrow_o, xput_in, xput_e, xrow_e]; exact d3) hl2 rfl (by simp (disch := omega) only [xput_ne, xrow_o, xput_in, xput_e, xrow_e]; exact c5) (by omega) (by simp (disch := omega) only [xput_ne, xrow_o, xput_in, xput_e, xrow_e]; exact d5) (by omega) hp) rfl (h.q (fun o a b c => by simp (disch := omega) only [xput_ne, xrow_o, xput_in, xput_e, xrow_e]) (fun j a => by simp (disch := omega) only [xput_ne, xrow_o, xput_in, xput_e, xrow_e]) (fun j a b => by simp (disch := omega) only [xput_ne, xrow_o, xput_in, xput_e, xrow_e]) (by first | (simp (disch := omega) only [xput_ne, xrow_o, xput_in, xput_e, xrow_e]; done) | (simp (disch := omega) only [xput_ne, xrow_o, xput_in, xput_e, xrow_e]; exact hs)))
        · exact pair_ii (fun l => c_X5_copy_store l ha hb2 c1 d1 c2 hl d2 hl2 hne) (fun l => c_X6_copy_store (la := ln) (lb := ln2) l ha hb2 (by simp (disch := omega) only [xput_ne, xrow_o, xput_in, xput_e, xrow_e]; exact c3) hl (by simp (disch := omega) only [xput_ne, xrow_o, xput_in, xput_e, xrow_e]; exact d3) hl2 hne) rfl (h.q (fun o a b c => by simp (disch := omega) only [xput_ne, xrow_o, xput_in, xput_e, xrow_e]) (fun j a => by simp (disch := omega) only [xput_ne, xrow_o, xput_in, xput_e, xrow_e]) (fun j a b => by simp (disch := omega) only [xput_ne, xrow_o, xput_in, xput_e, xrow_e]) (by first | (simp (disch := omega) only [xput_ne, xrow_o, xput_in, xput_e, xrow_e]; done) | (simp (disch := omega) only [xput_ne, xrow_o, xput_in, xput_e, xrow_e]; exact hs)))
  · exact pair_ii (fun l => c_X5_copy_bad l hb) (fun l => c_X6_copy_bad l hb) rfl (h.q (fun o a b c => by simp (disch := omega) only [xput_ne, xrow_o, xput_in, xput_e, xrow_e]) (fun j a => by simp (disch := omega) only [xput_ne, xrow_o, xput_in, xput_e, xrow_e]) (fun j a b => by simp (disch := omega) only [xput_ne, xrow_o, xput_in, xput_e, xrow_e]) (by first | (simp (disch := omega) only [xput_ne, xrow_o, xput_in, xput_e, xrow_e]; done) | (simp (disch := omega) only [xput_ne, xrow_o, xput_in, xput_e, xrow_e]; exact hs)))