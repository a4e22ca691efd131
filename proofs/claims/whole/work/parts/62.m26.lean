theorem and63 {P : Nat → Prop} {S : Nat} (h : S ≤ 6) : bitsI P S &&& nI 63 = bitsI P S := by
  refine Int32.toBitVec_inj.mp (BitVec.eq_of_getLsbD_eq (fun i hi => ?_))
  rw [Int32.toBitVec_and, BitVec.getLsbD_and]
  cases hb : (bitsI P S).toBitVec.getLsbD i with
  | false => rfl
  | true =>
    obtain ⟨h1, -⟩ := (bitsI_bit (by omega) i).mp hb
    have h2 : (nI 63).toBitVec.getLsbD i = true := by
      rcases (show i = 0 ∨ i = 1 ∨ i = 2 ∨ i = 3 ∨ i = 4 ∨ i = 5 by omega) with rfl | rfl | rfl | rfl | rfl | rfl <;> decide
    rw [h2]; rfl
theorem st_fault {I : xM} {nw sp c : Nat}  (h : LR I nw sp c) : PairS yX5_fault cX5_fault 1 yX6_fault cX6_fault 1 [] I nw sp c := by
  have hs := h.2.2.2.1.2
  exact pair_ii (fun l => c_X5_fault l) (fun l => c_X6_fault l) h.2.2.2.1.1 (h.q (fun o a b c => by simp (disch := omega) only [xput_ne, xrow_o, xput_in, xput_e, xrow_e]) (fun j a => by simp (disch := omega) only [xput_ne, xrow_o, xput_in, xput_e, xrow_e]) (fun j a b => by simp (disch := omega) only [xput_ne, xrow_o, xput_in, xput_e, xrow_e]) (by first | (simp (disch := omega) only [xput_ne, xrow_o, xput_in, xput_e, xrow_e]; done) | (simp (disch := omega) only [xput_ne, xrow_o, xput_in, xput_e, xrow_e]; exact hs)))
theorem st_status {I : xM} {nw sp c : Nat}  (h : LR I nw sp c) : PairS yX5_status cX5_status 1 yX6_status cX6_status 1 [] I nw sp c := by
  have hs := h.2.2.2.1.2
  exact pair_ii (fun l => c_X5_status l) (fun l => c_X6_status l) hs (h.q (fun o a b c => by simp (disch := omega) only [xput_ne, xrow_o, xput_in, xput_e, xrow_e]) (fun j a => by simp (disch := omega) only [xput_ne, xrow_o, xput_in, xput_e, xrow_e]) (fun j a b => by simp (disch := omega) only [xput_ne, xrow_o, xput_in, xput_e, xrow_e]) (by first | (simp (disch := omega) only [xput_ne, xrow_o, xput_in, xput_e, xrow_e]; done) | (simp (disch := omega) only [xput_ne, xrow_o, xput_in, xput_e, xrow_e]; exact hs)))
theorem st_tree {I : xM} {nw sp c : Nat} {x y : Int32} (h : LR I nw sp c) : PairS yX5_tree cX5_tree 3 yX6_tree cX6_tree 3 [.int x, .int y] I nw sp c := by
  have hs := h.2.2.2.1.2
  have hnw := h.nwG
  obtain ⟨T, S, F, W, hG, hW, hB, hcu⟩ := h.2.2.2.2.2.1
  have hT6 := hW.T6
  have hS6 := hW.S6
  have h10 := h.2.2.2.2.2.2.2.2.2.1
  have hbr : brF (I 311) (I 315) T = brY (I 311) T (I 311 2) (I 311 3) := funext fun q => brF_Y (I 311) (I 315) (fun t ht => h10 t (by omega)) q
  by_cases hb : 0 ≤ x.toInt ∧ x.toInt < T ∧ 0 ≤ y.toInt ∧ y.toInt ≤ 3
  · obtain ⟨t, ht, rfl⟩ := nI_ex (x := x) (m := T) (by omega) (by omega)
    obtain ⟨q, hq, rfl⟩ := nI_ex (x := y) (m := 4) (by omega) (by omega)
    rcases (show q = 0 ∨ q = 1 ∨ q = 2 ∨ q = 3 by omega) with rfl | rfl | rfl | rfl
    · exact pair_ii (fun l => c_X5_tree_ok0 l hnw hG hW ht) (fun l => c_X6_tree_ok0 (T := T) l (by first | exact hW.T0 | (simp (disch := omega) only [xput_ne, xrow_o, xput_in, xput_e, xrow_e]; exact hW.T0)) hT6 ht) rfl (h.q (fun o a b c => by simp (disch := omega) only [xput_ne, xrow_o, xput_in, xput_e, xrow_e]) (fun j a => by simp (disch := omega) only [xput_ne, xrow_o, xput_in, xput_e, xrow_e]) (fun j a b => by simp (disch := omega) only [xput_ne, xrow_o, xput_in, xput_e, xrow_e]) (by first | (simp (disch := omega) only [xput_ne, xrow_o, xput_in, xput_e, xrow_e]; done) | (simp (disch := omega) only [xput_ne, xrow_o, xput_in, xput_e, xrow_e]; exact hs)))
    · exact pair_ii (fun l => c_X5_tree_ok1 l hnw hG hW ht) (fun l => c_X6_tree_ok1 (T := T) l (by first | exact hW.T0 | (simp (disch := omega) only [xput_ne, xrow_o, xput_in, xput_e, xrow_e]; exact hW.T0)) hT6 ht) (hgF_at0 (h10 t (by omega))) (h.q (fun o a b c => by simp (disch := omega) only [xput_ne, xrow_o, xput_in, xput_e, xrow_e]) (fun j a => by simp (disch := omega) only [xput_ne, xrow_o, xput_in, xput_e, xrow_e]) (fun j a b => by simp (disch := omega) only [xput_ne, xrow_o, xput_in, xput_e, xrow_e]) (by first | (simp (disch := omega) only [xput_ne, xrow_o, xput_in, xput_e, xrow_e]; done) | (simp (disch := omega) only [xput_ne, xrow_o, xput_in, xput_e, xrow_e]; exact hs)))
    · exact pair_ii (fun l => c_X5_tree_ok2 l hnw hG hW ht) (fun l => c_X6_tree_ok2 (T := T) l (by first | exact hW.T0 | (simp (disch := omega) only [xput_ne, xrow_o, xput_in, xput_e, xrow_e]; exact hW.T0)) hT6 ht) rfl (h.q (fun o a b c => by simp (disch := omega) only [xput_ne, xrow_o, xput_in, xput_e, xrow_e]) (fun j a => by simp (disch := omega) only [xput_ne, xrow_o, xput_in, xput_e, xrow_e]) (fun j a b => by simp (disch := omega) only [xput_ne, xrow_o, xput_in, xput_e, xrow_e]) (by first | (simp (disch := omega) only [xput_ne, xrow_o, xput_in, xput_e, xrow_e]; done) | (simp (disch := omega) only [xput_ne, xrow_o, xput_in, xput_e, xrow_e]; exact hs)))
    · exact pair_ii (fun l => c_X5_tree_ok3 l hnw hG hW ht) (fun l => c_X6_tree_ok3 (T := T) l (by first | exact hW.T0 | (simp (disch := omega) only [xput_ne, xrow_o, xput_in, xput_e, xrow_e]; exact hW.T0)) hT6 ht) rfl (h.q (fun o a b c => by simp (disch := omega) only [xput_ne, xrow_o, xput_in, xput_e, xrow_e]) (fun j a => by simp (disch := omega) only [xput_ne, xrow_o, xput_in, xput_e, xrow_e]) (fun j a b => by simp (disch := omega) only [xput_ne, xrow_o, xput_in, xput_e, xrow_e]) (by first | (simp (disch := omega) only [xput_ne, xrow_o, xput_in, xput_e, xrow_e]; done) | (simp (disch := omega) only [xput_ne, xrow_o, xput_in, xput_e, xrow_e]; exact hs)))
  · exact pair_ii (fun l => c_X5_tree_bad l hnw hG hW hb) (fun l => c_X6_tree_bad l (by first | exact hW.T0 | (simp (disch := omega) only [xput_ne, xrow_o, xput_in, xput_e, xrow_e]; exact hW.T0)) hT6 hb) rfl (h.q (fun o a b c => by simp (disch := omega) only [xput_ne, xrow_o, xput_in, xput_e, xrow_e]) (fun j a => by simp (disch := omega) only [xput_ne, xrow_o, xput_in, xput_e, xrow_e]) (fun j a b => by simp (disch := omega) only [xput_ne, xrow_o, xput_in, xput_e, xrow_e]) (by first | (simp (disch := omega) only [xput_ne, xrow_o, xput_in, xput_e, xrow_e]; done) | (simp (disch := omega) only [xput_ne, xrow_o, xput_in, xput_e, xrow_e]; exact hs)))
theorem st_site {I : xM} {nw sp c : Nat} {x y : Int32} (h : LR I nw sp c) : PairS yX5_site cX5_site 3 yX6_site cX6_site 3 [.int x, .int y] I nw sp c := by
  have hs := h.2.2.2.1.2
  have hnw := h.nwG
  obtain ⟨T, S, F, W, hG, hW, hB, hcu⟩ := h.2.2.2.2.2.1
  have hT6 := hW.T6
  have hS6 := hW.S6
  have h10 := h.2.2.2.2.2.2.2.2.2.1
  have hbr : brF (I 311) (I 315) T = brY (I 311) T (I 311 2) (I 311 3) := funext fun q => brF_Y (I 311) (I 315) (fun t ht => h10 t (by omega)) q
  rcases h.2.2.2.2.1 with ⟨s5, s6⟩ | ⟨s5, s6⟩
  · exact pair_ii (fun l => c_X5_site_none l s5) (fun l => c_X6_site_none l (by first | exact s6 | (simp (disch := omega) only [xput_ne, xrow_o, xput_in, xput_e, xrow_e]; exact s6)) ) rfl (h.q (fun o a b c => by simp (disch := omega) only [xput_ne, xrow_o, xput_in, xput_e, xrow_e]) (fun j a => by simp (disch := omega) only [xput_ne, xrow_o, xput_in, xput_e, xrow_e]) (fun j a b => by simp (disch := omega) only [xput_ne, xrow_o, xput_in, xput_e, xrow_e]) (by first | (simp (disch := omega) only [xput_ne, xrow_o, xput_in, xput_e, xrow_e]; done) | (simp (disch := omega) only [xput_ne, xrow_o, xput_in, xput_e, xrow_e]; exact hs)))
  · by_cases hb : 0 ≤ x.toInt ∧ x.toInt ≤ 19 ∧ 0 ≤ y.toInt ∧ y.toInt ≤ 2
    · obtain ⟨q, hq, rfl⟩ := nI_ex (x := x) (m := 20) (by omega) (by omega)
      obtain ⟨v, hv, rfl⟩ := nI_ex (x := y) (m := 3) (by omega) (by omega)
      rcases (show v = 0 ∨ v = 1 ∨ v = 2 by omega) with rfl | rfl | rfl
      · exact pair_ii (fun l => c_X5_site_ok0 l s5 hnw hG hW hq) (fun l => c_X6_site_ok0 (T := T) l (by first | exact s6 | (simp (disch := omega) only [xput_ne, xrow_o, xput_in, xput_e, xrow_e]; exact s6)) (by first | exact hW.T0 | (simp (disch := omega) only [xput_ne, xrow_o, xput_in, xput_e, xrow_e]; exact hW.T0)) hT6 hq) rfl (h.q (fun o a b c => by simp (disch := omega) only [xput_ne, xrow_o, xput_in, xput_e, xrow_e]) (fun j a => by simp (disch := omega) only [xput_ne, xrow_o, xput_in, xput_e, xrow_e]) (fun j a b => by simp (disch := omega) only [xput_ne, xrow_o, xput_in, xput_e, xrow_e]) (by first | (simp (disch := omega) only [xput_ne, xrow_o, xput_in, xput_e, xrow_e]; done) | (simp (disch := omega) only [xput_ne, xrow_o, xput_in, xput_e, xrow_e]; exact hs)))
      · refine pair_ri (fun l => c_X5_site_ok1 l s5 hnw hG hW hq) (fun r J hP => ?_)
        obtain ⟨rfl, b, rfl⟩ := hP
        refine ⟨_, _, _, ?_, fun l => c_X6_site_ok1 (T := T) l (by first | exact s6 | (simp (disch := omega) only [xput_ne, xrow_o, xput_in, xput_e, xrow_e]; exact s6)) (by first | exact hW.T0 | (simp (disch := omega) only [xput_ne, xrow_o, xput_in, xput_e, xrow_e]; exact hW.T0)) hT6 hq, (by simp (disch := omega) only [xput_ne, xrow_o, xput_in, xput_e, xrow_e]; rw [hbr]), (h.q (fun o a b c => by simp (disch := omega) only [xput_ne, xrow_o, xput_in, xput_e, xrow_e]) (fun j a => by simp (disch := omega) only [xput_ne, xrow_o, xput_in, xput_e, xrow_e]) (fun j a b => by simp (disch := omega) only [xput_ne, xrow_o, xput_in, xput_e, xrow_e]) (by first | (simp (disch := omega) only [xput_ne, xrow_o, xput_in, xput_e, xrow_e]; done) | (simp (disch := omega) only [xput_ne, xrow_o, xput_in, xput_e, xrow_e]; exact hs)))⟩
        decide
      · exact pair_ii (fun l => c_X5_site_ok2 l s5 hnw hG hW hq) (fun l => c_X6_site_ok2 (T := T) l (by first | exact s6 | (simp (disch := omega) only [xput_ne, xrow_o, xput_in, xput_e, xrow_e]; exact s6)) (by first | exact hW.T0 | (simp (disch := omega) only [xput_ne, xrow_o, xput_in, xput_e, xrow_e]; exact hW.T0)) hT6 hq) rfl (h.q (fun o a b c => by simp (disch := omega) only [xput_ne, xrow_o, xput_in, xput_e, xrow_e]) (fun j a => by simp (disch := omega) only [xput_ne, xrow_o, xput_in, xput_e, xrow_e]) (fun j a b => by simp (disch := omega) only [xput_ne, xrow_o, xput_in, xput_e, xrow_e]) (by first | (simp (disch := omega) only [xput_ne, xrow_o, xput_in, xput_e, xrow_e]; done) | (simp (disch := omega) only [xput_ne, xrow_o, xput_in, xput_e, xrow_e]; exact hs)))
    · exact pair_ii (fun l => c_X5_site_bad l s5 hb) (fun l => c_X6_site_bad l (by first | exact s6 | (simp (disch := omega) only [xput_ne, xrow_o, xput_in, xput_e, xrow_e]; exact s6)) hb) rfl (h.q (fun o a b c => by simp (disch := omega) only [xput_ne, xrow_o, xput_in, xput_e, xrow_e]) (fun j a => by simp (disch := omega) only [xput_ne, xrow_o, xput_in, xput_e, xrow_e]) (fun j a b => by simp (disch := omega) only [xput_ne, xrow_o, xput_in, xput_e, xrow_e]) (by first | (simp (disch := omega) only [xput_ne, xrow_o, xput_in, xput_e, xrow_e]; done) | (simp (disch := omega) only [xput_ne, xrow_o, xput_in, xput_e, xrow_e]; exact hs)))
theorem st_seen {I : xM} {nw sp c : Nat} {x y : Int32} (h : LR I nw sp c) : PairS yX5_seen cX5_seen 3 yX6_seen cX6_seen 3 [.int x, .int y] I nw sp c := by
  have hs := h.2.2.2.1.2
  have hnw := h.nwG
  obtain ⟨T, S, F, W, hG, hW, hB, hcu⟩ := h.2.2.2.2.2.1
  have hT6 := hW.T6
  have hS6 := hW.S6
  have h10 := h.2.2.2.2.2.2.2.2.2.1
  have hbr : brF (I 311) (I 315) T = brY (I 311) T (I 311 2) (I 311 3) := funext fun q => brF_Y (I 311) (I 315) (fun t ht => h10 t (by omega)) q
  rcases h.2.2.2.2.1 with ⟨s5, s6⟩ | ⟨s5, s6⟩
  · exact pair_ii (fun l => c_X5_seen_none l s5) (fun l => c_X6_seen_none l (by first | exact s6 | (simp (disch := omega) only [xput_ne, xrow_o, xput_in, xput_e, xrow_e]; exact s6)) ) rfl (h.q (fun o a b c => by simp (disch := omega) only [xput_ne, xrow_o, xput_in, xput_e, xrow_e]) (fun j a => by simp (disch := omega) only [xput_ne, xrow_o, xput_in, xput_e, xrow_e]) (fun j a b => by simp (disch := omega) only [xput_ne, xrow_o, xput_in, xput_e, xrow_e]) (by first | (simp (disch := omega) only [xput_ne, xrow_o, xput_in, xput_e, xrow_e]; done) | (simp (disch := omega) only [xput_ne, xrow_o, xput_in, xput_e, xrow_e]; exact hs)))
  · by_cases hb : 0 ≤ x.toInt ∧ x.toInt ≤ 18 ∧ 0 ≤ y.toInt ∧ y.toInt ≤ 30
    · obtain ⟨q, hq, rfl⟩ := nI_ex (x := x) (m := 19) (by omega) (by omega)
      refine pair_ri (fun l => c_X5_seen_ok l s5 hnw hG hW hq (by omega) (by omega)) (fun r J hP => ?_)
      obtain ⟨rfl, b, rfl⟩ := hP
      refine ⟨_, _, _, ?_, fun l => c_X6_seen_ok (T := T) (S := S) l (by first | exact s6 | (simp (disch := omega) only [xput_ne, xrow_o, xput_in, xput_e, xrow_e]; exact s6)) (by first | exact hW.T0 | (simp (disch := omega) only [xput_ne, xrow_o, xput_in, xput_e, xrow_e]; exact hW.T0)) hT6 (by first | exact hW.S0 | (simp (disch := omega) only [xput_ne, xrow_o, xput_in, xput_e, xrow_e]; exact hW.S0)) hS6 (by first | exact hW.2.1 | (simp (disch := omega) only [xput_ne, xrow_o, xput_in, xput_e, xrow_e]; exact hW.2.1)) hq (by omega) (by omega), (by simp (disch := omega) only [xput_ne, xrow_o, xput_in, xput_e, xrow_e]; rw [hbr]), (h.q (fun o a b c => by simp (disch := omega) only [xput_ne, xrow_o, xput_in, xput_e, xrow_e]) (fun j a => by simp (disch := omega) only [xput_ne, xrow_o, xput_in, xput_e, xrow_e]) (fun j a b => by simp (disch := omega) only [xput_ne, xrow_o, xput_in, xput_e, xrow_e]) (by first | (simp (disch := omega) only [xput_ne, xrow_o, xput_in, xput_e, xrow_e]; done) | (simp (disch := omega) only [xput_ne, xrow_o, xput_in, xput_e, xrow_e]; exact hs)))⟩
      decide
    · exact pair_ii (fun l => c_X5_seen_bad l s5 hb) (fun l => c_X6_seen_bad l (by first | exact s6 | (simp (disch := omega) only [xput_ne, xrow_o, xput_in, xput_e, xrow_e]; exact s6)) hb) rfl (h.q (fun o a b c => by simp (disch := omega) only [xput_ne, xrow_o, xput_in, xput_e, xrow_e]) (fun j a => by simp (disch := omega) only [xput_ne, xrow_o, xput_in, xput_e, xrow_e]) (fun j a b => by simp (disch := omega) only [xput_ne, xrow_o, xput_in, xput_e, xrow_e]) (by first | (simp (disch := omega) only [xput_ne, xrow_o, xput_in, xput_e, xrow_e]; done) | (simp (disch := omega) only [xput_ne, xrow_o, xput_in, xput_e, xrow_e]; exact hs)))
theorem st_doubled {I : xM} {nw sp c : Nat} {x : Int32} (h : LR I nw sp c) : PairS yX5_doubled cX5_doubled 4 yX6_doubled cX6_doubled 4 [.int x] I nw sp c := by
  have hs := h.2.2.2.1.2
  have hnw := h.nwG
  obtain ⟨T, S, F, W, hG, hW, hB, hcu⟩ := h.2.2.2.2.2.1
  have hT6 := hW.T6
  have hS6 := hW.S6
  have h10 := h.2.2.2.2.2.2.2.2.2.1
  have hbr : brF (I 311) (I 315) T = brY (I 311) T (I 311 2) (I 311 3) := funext fun q => brF_Y (I 311) (I 315) (fun t ht => h10 t (by omega)) q
  rcases h.2.2.2.2.1 with ⟨s5, s6⟩ | ⟨s5, s6⟩
  · exact pair_ii (fun l => c_X5_doubled_none l s5) (fun l => c_X6_doubled_none l (by first | exact s6 | (simp (disch := omega) only [xput_ne, xrow_o, xput_in, xput_e, xrow_e]; exact s6)) ) rfl (h.q (fun o a b c => by simp (disch := omega) only [xput_ne, xrow_o, xput_in, xput_e, xrow_e]) (fun j a => by simp (disch := omega) only [xput_ne, xrow_o, xput_in, xput_e, xrow_e]) (fun j a b => by simp (disch := omega) only [xput_ne, xrow_o, xput_in, xput_e, xrow_e]) (by first | (simp (disch := omega) only [xput_ne, xrow_o, xput_in, xput_e, xrow_e]; done) | (simp (disch := omega) only [xput_ne, xrow_o, xput_in, xput_e, xrow_e]; exact hs)))
  · by_cases hb : 0 ≤ x.toInt ∧ x.toInt ≤ 30
    · refine pair_ri (fun l => c_X5_doubled_ok l s5 hnw hG hW (by omega) (by omega)) (fun r J hP => ?_)
      obtain ⟨rfl, b, rfl⟩ := hP
      refine ⟨_, _, _, ?_, fun l => c_X6_doubled_ok (T := T) (S := S) (F := F) (W := W) l (by first | exact s6 | (simp (disch := omega) only [xput_ne, xrow_o, xput_in, xput_e, xrow_e]; exact s6)) (by first | exact hW.T0 | (simp (disch := omega) only [xput_ne, xrow_o, xput_in, xput_e, xrow_e]; exact hW.T0)) hT6 (by first | exact hW.S0 | (simp (disch := omega) only [xput_ne, xrow_o, xput_in, xput_e, xrow_e]; exact hW.S0)) hS6 (by first | exact hW.2.1 | (simp (disch := omega) only [xput_ne, xrow_o, xput_in, xput_e, xrow_e]; exact hW.2.1)) (by first | exact hW.lk.1 | (simp (disch := omega) only [xput_ne, xrow_o, xput_in, xput_e, xrow_e]; exact hW.lk.1)) hW.lk.2.1 (by first | exact hW.lk.2.2.1 | (simp (disch := omega) only [xput_ne, xrow_o, xput_in, xput_e, xrow_e]; exact hW.lk.2.2.1)) hW.lk.2.2.2 (by omega) (by omega), (by simp (disch := omega) only [xput_ne, xrow_o, xput_in, xput_e, xrow_e]; rw [hbr]), (h.q (fun o a b c => by simp (disch := omega) only [xput_ne, xrow_o, xput_in, xput_e, xrow_e]) (fun j a => by simp (disch := omega) only [xput_ne, xrow_o, xput_in, xput_e, xrow_e]) (fun j a b => by simp (disch := omega) only [xput_ne, xrow_o, xput_in, xput_e, xrow_e]) (by first | (simp (disch := omega) only [xput_ne, xrow_o, xput_in, xput_e, xrow_e]; done) | (simp (disch := omega) only [xput_ne, xrow_o, xput_in, xput_e, xrow_e]; exact hs)))⟩
      decide
    · exact pair_ii (fun l => c_X5_doubled_bad l s5 hb) (fun l => c_X6_doubled_bad l (by first | exact s6 | (simp (disch := omega) only [xput_ne, xrow_o, xput_in, xput_e, xrow_e]; exact s6)) hb) rfl (h.q (fun o a b c => by simp (disch := omega) only [xput_ne, xrow_o, xput_in, xput_e, xrow_e]) (fun j a => by simp (disch := omega) only [xput_ne, xrow_o, xput_in, xput_e, xrow_e]) (fun j a b => by simp (disch := omega) only [xput_ne, xrow_o, xput_in, xput_e, xrow_e]) (by first | (simp (disch := omega) only [xput_ne, xrow_o, xput_in, xput_e, xrow_e]; done) | (simp (disch := omega) only [xput_ne, xrow_o, xput_in, xput_e, xrow_e]; exact hs)))
theorem st_met {I : xM} {nw sp c : Nat} {x : Int32} (h : LR I nw sp c) : PairS yX5_met cX5_met 4 yX6_met cX6_met 2 [.int x] I nw sp c := by
  have hs := h.2.2.2.1.2
  have hnw := h.nwG
  obtain ⟨T, S, F, W, hG, hW, hB, hcu⟩ := h.2.2.2.2.2.1
  have hT6 := hW.T6
  have hS6 := hW.S6
  have h10 := h.2.2.2.2.2.2.2.2.2.1
  have hbr : brF (I 311) (I 315) T = brY (I 311) T (I 311 2) (I 311 3) := funext fun q => brF_Y (I 311) (I 315) (fun t ht => h10 t (by omega)) q
  rcases h.2.2.2.2.1 with ⟨s5, s6⟩ | ⟨s5, s6⟩
  · exact pair_ii (fun l => c_X5_met_none l s5) (fun l => c_X6_met_none l (by first | exact s6 | (simp (disch := omega) only [xput_ne, xrow_o, xput_in, xput_e, xrow_e]; exact s6)) ) rfl (h.q (fun o a b c => by simp (disch := omega) only [xput_ne, xrow_o, xput_in, xput_e, xrow_e]) (fun j a => by simp (disch := omega) only [xput_ne, xrow_o, xput_in, xput_e, xrow_e]) (fun j a b => by simp (disch := omega) only [xput_ne, xrow_o, xput_in, xput_e, xrow_e]) (by first | (simp (disch := omega) only [xput_ne, xrow_o, xput_in, xput_e, xrow_e]; done) | (simp (disch := omega) only [xput_ne, xrow_o, xput_in, xput_e, xrow_e]; exact hs)))
  · by_cases hb : x.toInt < 0
    · exact pair_ii (fun l => c_X5_met_bad l s5 hb) (fun l => c_X6_met_bad l (by first | exact s6 | (simp (disch := omega) only [xput_ne, xrow_o, xput_in, xput_e, xrow_e]; exact s6)) hb) rfl (h.q (fun o a b c => by simp (disch := omega) only [xput_ne, xrow_o, xput_in, xput_e, xrow_e]) (fun j a => by simp (disch := omega) only [xput_ne, xrow_o, xput_in, xput_e, xrow_e]) (fun j a b => by simp (disch := omega) only [xput_ne, xrow_o, xput_in, xput_e, xrow_e]) (by first | (simp (disch := omega) only [xput_ne, xrow_o, xput_in, xput_e, xrow_e]; done) | (simp (disch := omega) only [xput_ne, xrow_o, xput_in, xput_e, xrow_e]; exact hs)))
    · refine pair_ri (fun l => c_X5_met_ok l s5 hnw hG hW (by omega)) (fun r J hP => ?_)
      obtain ⟨rfl, b, rfl⟩ := hP
      refine ⟨_, _, _, ?_, fun l => c_X6_met_ok (T := T) (S := S) l (by first | exact s6 | (simp (disch := omega) only [xput_ne, xrow_o, xput_in, xput_e, xrow_e]; exact s6)) (by first | exact hW.T0 | (simp (disch := omega) only [xput_ne, xrow_o, xput_in, xput_e, xrow_e]; exact hW.T0)) hT6 (by first | exact hW.S0 | (simp (disch := omega) only [xput_ne, xrow_o, xput_in, xput_e, xrow_e]; exact hW.S0)) hS6 (by first | exact hW.2.1 | (simp (disch := omega) only [xput_ne, xrow_o, xput_in, xput_e, xrow_e]; exact hW.2.1)) (by omega), (by simp (disch := omega) only [xput_ne, xrow_o, xput_in, xput_e, xrow_e]; rw [hbr]), (h.q (fun o a b c => by simp (disch := omega) only [xput_ne, xrow_o, xput_in, xput_e, xrow_e]) (fun j a => by simp (disch := omega) only [xput_ne, xrow_o, xput_in, xput_e, xrow_e]) (fun j a b => by simp (disch := omega) only [xput_ne, xrow_o, xput_in, xput_e, xrow_e]) (by first | (simp (disch := omega) only [xput_ne, xrow_o, xput_in, xput_e, xrow_e]; done) | (simp (disch := omega) only [xput_ne, xrow_o, xput_in, xput_e, xrow_e]; exact hs)))⟩
      decide
theorem st_moon {I : xM} {nw sp c : Nat} {x : Int32} (h : LR I nw sp c) : PairS yX5_moon cX5_moon 6 yX6_moon cX6_moon 4 [.int x] I nw sp c := by
  have hs := h.2.2.2.1.2
  have hnw := h.nwG
  obtain ⟨T, S, F, W, hG, hW, hB, hcu⟩ := h.2.2.2.2.2.1
  have hT6 := hW.T6
  have hS6 := hW.S6
  have h10 := h.2.2.2.2.2.2.2.2.2.1
  have hbr : brF (I 311) (I 315) T = brY (I 311) T (I 311 2) (I 311 3) := funext fun q => brF_Y (I 311) (I 315) (fun t ht => h10 t (by omega)) q
  rcases h.2.2.2.2.1 with ⟨s5, s6⟩ | ⟨s5, s6⟩
  · exact pair_ii (fun l => c_X5_moon_none l s5) (fun l => c_X6_moon_none l (by first | exact s6 | (simp (disch := omega) only [xput_ne, xrow_o, xput_in, xput_e, xrow_e]; exact s6)) ) rfl (h.q (fun o a b c => by simp (disch := omega) only [xput_ne, xrow_o, xput_in, xput_e, xrow_e]) (fun j a => by simp (disch := omega) only [xput_ne, xrow_o, xput_in, xput_e, xrow_e]) (fun j a b => by simp (disch := omega) only [xput_ne, xrow_o, xput_in, xput_e, xrow_e]) (by first | (simp (disch := omega) only [xput_ne, xrow_o, xput_in, xput_e, xrow_e]; done) | (simp (disch := omega) only [xput_ne, xrow_o, xput_in, xput_e, xrow_e]; exact hs)))
  · by_cases hb : 0 ≤ x.toInt ∧ x.toInt ≤ 30
    · refine pair_ri (fun l => c_X5_moon_ok l s5 hnw hG hW (by omega) (by omega)) (fun r J hP => ?_)
      obtain ⟨rfl, b, rfl⟩ := hP
      refine ⟨_, _, _, ?_, fun l => c_X6_moon_ok (T := T) l (by first | exact s6 | (simp (disch := omega) only [xput_ne, xrow_o, xput_in, xput_e, xrow_e]; exact s6)) (by first | exact hW.T0 | (simp (disch := omega) only [xput_ne, xrow_o, xput_in, xput_e, xrow_e]; exact hW.T0)) hT6 (by omega) (by omega), (by simp (disch := omega) only [xput_ne, xrow_o, xput_in, xput_e, xrow_e]; rw [hbr]), (h.q (fun o a b c => by simp (disch := omega) only [xput_ne, xrow_o, xput_in, xput_e, xrow_e]) (fun j a => by simp (disch := omega) only [xput_ne, xrow_o, xput_in, xput_e, xrow_e]) (fun j a b => by simp (disch := omega) only [xput_ne, xrow_o, xput_in, xput_e, xrow_e]) (by first | (simp (disch := omega) only [xput_ne, xrow_o, xput_in, xput_e, xrow_e]; done) | (simp (disch := omega) only [xput_ne, xrow_o, xput_in, xput_e, xrow_e]; exact hs)))⟩
      decide
    · exact pair_ii (fun l => c_X5_moon_bad l s5 hb) (fun l => c_X6_moon_bad l (by first | exact s6 | (simp (disch := omega) only [xput_ne, xrow_o, xput_in, xput_e, xrow_e]; exact s6)) hb) rfl (h.q (fun o a b c => by simp (disch := omega) only [xput_ne, xrow_o, xput_in, xput_e, xrow_e]) (fun j a => by simp (disch := omega) only [xput_ne, xrow_o, xput_in, xput_e, xrow_e]) (fun j a b => by simp (disch := omega) only [xput_ne, xrow_o, xput_in, xput_e, xrow_e]) (by first | (simp (disch := omega) only [xput_ne, xrow_o, xput_in, xput_e, xrow_e]; done) | (simp (disch := omega) only [xput_ne, xrow_o, xput_in, xput_e, xrow_e]; exact hs)))
theorem st_path {I : xM} {nw sp c : Nat} {x y : Int32} (h : LR I nw sp c) : PairS yX5_path cX5_path 3 yX6_path cX6_path 5 [.int x, .int y] I nw sp c := by
  have hs := h.2.2.2.1.2
  have hnw := h.nwG
  obtain ⟨T, S, F, W, hG, hW, hB, hcu⟩ := h.2.2.2.2.2.1
  have hT6 := hW.T6
  have hS6 := hW.S6
  have h10 := h.2.2.2.2.2.2.2.2.2.1
  have hbr : brF (I 311) (I 315) T = brY (I 311) T (I 311 2) (I 311 3) := funext fun q => brF_Y (I 311) (I 315) (fun t ht => h10 t (by omega)) q
  rcases h.2.2.2.2.1 with ⟨s5, s6⟩ | ⟨s5, s6⟩
  · exact pair_ii (fun l => c_X5_path_none l s5) (fun l => c_X6_path_none l (by first | exact s6 | (simp (disch := omega) only [xput_ne, xrow_o, xput_in, xput_e, xrow_e]; exact s6)) ) rfl (h.q (fun o a b c => by simp (disch := omega) only [xput_ne, xrow_o, xput_in, xput_e, xrow_e]) (fun j a => by simp (disch := omega) only [xput_ne, xrow_o, xput_in, xput_e, xrow_e]) (fun j a b => by simp (disch := omega) only [xput_ne, xrow_o, xput_in, xput_e, xrow_e]) (by first | (simp (disch := omega) only [xput_ne, xrow_o, xput_in, xput_e, xrow_e]; done) | (simp (disch := omega) only [xput_ne, xrow_o, xput_in, xput_e, xrow_e]; exact hs)))
  · by_cases hb : 0 ≤ x.toInt ∧ x.toInt ≤ 30 ∧ (0 ≤ y.toInt ∧ y.toInt < 2 ^ S)
    · refine pair_ri (fun l => c_X5_path_ok l s5 hnw hG hW hb.1 hb.2.1 hb.2.2) (fun r J hP => ?_)
      obtain ⟨rfl, b, rfl⟩ := hP
      refine ⟨_, _, _, ?_, fun l => c_X6_path_ok (T := T) (S := S) l (by first | exact s6 | (simp (disch := omega) only [xput_ne, xrow_o, xput_in, xput_e, xrow_e]; exact s6)) (by first | exact hW.T0 | (simp (disch := omega) only [xput_ne, xrow_o, xput_in, xput_e, xrow_e]; exact hW.T0)) hT6 (by first | exact hW.S0 | (simp (disch := omega) only [xput_ne, xrow_o, xput_in, xput_e, xrow_e]; exact hW.S0)) hS6 (by first | exact hW.2.1 | (simp (disch := omega) only [xput_ne, xrow_o, xput_in, xput_e, xrow_e]; exact hW.2.1)) hb.1 hb.2.1 hb.2.2, (by simp (disch := omega) only [xput_ne, xrow_o, xput_in, xput_e, xrow_e]; rw [hbr]; rfl), (h.q (fun o a b c => by simp (disch := omega) only [xput_ne, xrow_o, xput_in, xput_e, xrow_e]) (fun j a => by simp (disch := omega) only [xput_ne, xrow_o, xput_in, xput_e, xrow_e]) (fun j a b => by simp (disch := omega) only [xput_ne, xrow_o, xput_in, xput_e, xrow_e]) (by first | (simp (disch := omega) only [xput_ne, xrow_o, xput_in, xput_e, xrow_e]; done) | (simp (disch := omega) only [xput_ne, xrow_o, xput_in, xput_e, xrow_e]; exact hs)))⟩
      decide
    · exact pair_ii (fun l => c_X5_path_bad l s5 hnw hG hW hb) (fun l => c_X6_path_bad l (by first | exact s6 | (simp (disch := omega) only [xput_ne, xrow_o, xput_in, xput_e, xrow_e]; exact s6)) (by first | exact hW.S0 | (simp (disch := omega) only [xput_ne, xrow_o, xput_in, xput_e, xrow_e]; exact hW.S0)) hS6 hb) rfl (h.q (fun o a b c => by simp (disch := omega) only [xput_ne, xrow_o, xput_in, xput_e, xrow_e]) (fun j a => by simp (disch := omega) only [xput_ne, xrow_o, xput_in, xput_e, xrow_e]) (fun j a b => by simp (disch := omega) only [xput_ne, xrow_o, xput_in, xput_e, xrow_e]) (by first | (simp (disch := omega) only [xput_ne, xrow_o, xput_in, xput_e, xrow_e]; done) | (simp (disch := omega) only [xput_ne, xrow_o, xput_in, xput_e, xrow_e]; exact hs)))
theorem st_picture {I : xM} {nw sp c : Nat} {x y : Int32} (h : LR I nw sp c) : PairS yX5_picture cX5_picture 3 yX6_picture cX6_picture 5 [.int x, .int y] I nw sp c := by
  have hs := h.2.2.2.1.2
  have hnw := h.nwG
  obtain ⟨T, S, F, W, hG, hW, hB, hcu⟩ := h.2.2.2.2.2.1
  have hT6 := hW.T6
  have hS6 := hW.S6
  have h10 := h.2.2.2.2.2.2.2.2.2.1
  have hbr : brF (I 311) (I 315) T = brY (I 311) T (I 311 2) (I 311 3) := funext fun q => brF_Y (I 311) (I 315) (fun t ht => h10 t (by omega)) q
  rcases h.2.2.2.2.1 with ⟨s5, s6⟩ | ⟨s5, s6⟩
  · exact pair_ii (fun l => c_X5_picture_none l s5) (fun l => c_X6_picture_none l (by first | exact s6 | (simp (disch := omega) only [xput_ne, xrow_o, xput_in, xput_e, xrow_e]; exact s6)) ) rfl (h.q (fun o a b c => by simp (disch := omega) only [xput_ne, xrow_o, xput_in, xput_e, xrow_e]) (fun j a => by simp (disch := omega) only [xput_ne, xrow_o, xput_in, xput_e, xrow_e]) (fun j a b => by simp (disch := omega) only [xput_ne, xrow_o, xput_in, xput_e, xrow_e]) (by first | (simp (disch := omega) only [xput_ne, xrow_o, xput_in, xput_e, xrow_e]; done) | (simp (disch := omega) only [xput_ne, xrow_o, xput_in, xput_e, xrow_e]; exact hs)))
  · by_cases hb : 0 ≤ x.toInt ∧ x.toInt ≤ 30 ∧ (0 ≤ y.toInt ∧ y.toInt < 2 ^ S)
    · refine pair_ri (fun l => c_X5_picture_ok l s5 hnw hG hW hb.1 hb.2.1 hb.2.2) (fun r J hP => ?_)
      obtain ⟨rfl, b, rfl⟩ := hP
      refine ⟨_, _, _, ?_, fun l => c_X6_picture_ok (T := T) (S := S) l (by first | exact s6 | (simp (disch := omega) only [xput_ne, xrow_o, xput_in, xput_e, xrow_e]; exact s6)) (by first | exact hW.T0 | (simp (disch := omega) only [xput_ne, xrow_o, xput_in, xput_e, xrow_e]; exact hW.T0)) hT6 (by first | exact hW.S0 | (simp (disch := omega) only [xput_ne, xrow_o, xput_in, xput_e, xrow_e]; exact hW.S0)) hS6 (by first | exact hW.2.1 | (simp (disch := omega) only [xput_ne, xrow_o, xput_in, xput_e, xrow_e]; exact hW.2.1)) hb.1 hb.2.1 hb.2.2, (by simp (disch := omega) only [xput_ne, xrow_o, xput_in, xput_e, xrow_e]; rw [hbr]; exact bits_congr (fun q _ => by rw [and63 hS6])), (h.q (fun o a b c => by simp (disch := omega) only [xput_ne, xrow_o, xput_in, xput_e, xrow_e]) (fun j a => by simp (disch := omega) only [xput_ne, xrow_o, xput_in, xput_e, xrow_e]) (fun j a b => by simp (disch := omega) only [xput_ne, xrow_o, xput_in, xput_e, xrow_e]) (by first | (simp (disch := omega) only [xput_ne, xrow_o, xput_in, xput_e, xrow_e]; done) | (simp (disch := omega) only [xput_ne, xrow_o, xput_in, xput_e, xrow_e]; exact hs)))⟩
      decide
    · exact pair_ii (fun l => c_X5_picture_bad l s5 hnw hG hW hb) (fun l => c_X6_picture_bad l (by first | exact s6 | (simp (disch := omega) only [xput_ne, xrow_o, xput_in, xput_e, xrow_e]; exact s6)) (by first | exact hW.S0 | (simp (disch := omega) only [xput_ne, xrow_o, xput_in, xput_e, xrow_e]; exact hW.S0)) hS6 hb) rfl (h.q (fun o a b c => by simp (disch := omega) only [xput_ne, xrow_o, xput_in, xput_e, xrow_e]) (fun j a => by simp (disch := omega) only [xput_ne, xrow_o, xput_in, xput_e, xrow_e]) (fun j a b => by simp (disch := omega) only [xput_ne, xrow_o, xput_in, xput_e, xrow_e]) (by first | (simp (disch := omega) only [xput_ne, xrow_o, xput_in, xput_e, xrow_e]; done) | (simp (disch := omega) only [xput_ne, xrow_o, xput_in, xput_e, xrow_e]; exact hs)))
theorem st_kind {I : xM} {nw sp c : Nat} {x : Int32} (h : LR I nw sp c) : PairS yX5_kind cX5_kind 2 yX6_kind cX6_kind 2 [.int x] I nw sp c := by
  have hs := h.2.2.2.1.2
  have hnw := h.nwG
  obtain ⟨T, S, F, W, hG, hW, hB, hcu⟩ := h.2.2.2.2.2.1
  have hT6 := hW.T6
  have hS6 := hW.S6
  have h10 := h.2.2.2.2.2.2.2.2.2.1
  have hbr : brF (I 311) (I 315) T = brY (I 311) T (I 311 2) (I 311 3) := funext fun q => brF_Y (I 311) (I 315) (fun t ht => h10 t (by omega)) q
  by_cases hb : 0 ≤ x.toInt ∧ x.toInt < T
  · obtain ⟨t, ht, rfl⟩ := nI_ex (x := x) (m := T) (by omega) (by omega)
    exact pair_ii (fun l => c_X5_kind_ok l hnw hG hW ht) (fun l => c_X6_kind_ok (T := T) l (by first | exact hW.T0 | (simp (disch := omega) only [xput_ne, xrow_o, xput_in, xput_e, xrow_e]; exact hW.T0)) hT6 ht) rfl (h.q (fun o a b c => by simp (disch := omega) only [xput_ne, xrow_o, xput_in, xput_e, xrow_e]) (fun j a => by simp (disch := omega) only [xput_ne, xrow_o, xput_in, xput_e, xrow_e]) (fun j a b => by simp (disch := omega) only [xput_ne, xrow_o, xput_in, xput_e, xrow_e]) (by first | (simp (disch := omega) only [xput_ne, xrow_o, xput_in, xput_e, xrow_e]; done) | (simp (disch := omega) only [xput_ne, xrow_o, xput_in, xput_e, xrow_e]; exact hs)))
  · exact pair_ii (fun l => c_X5_kind_bad l hnw hG hW hb) (fun l => c_X6_kind_bad l (by first | exact hW.T0 | (simp (disch := omega) only [xput_ne, xrow_o, xput_in, xput_e, xrow_e]; exact hW.T0)) hT6 hb) rfl (h.q (fun o a b c => by simp (disch := omega) only [xput_ne, xrow_o, xput_in, xput_e, xrow_e]) (fun j a => by simp (disch := omega) only [xput_ne, xrow_o, xput_in, xput_e, xrow_e]) (fun j a b => by simp (disch := omega) only [xput_ne, xrow_o, xput_in, xput_e, xrow_e]) (by first | (simp (disch := omega) only [xput_ne, xrow_o, xput_in, xput_e, xrow_e]; done) | (simp (disch := omega) only [xput_ne, xrow_o, xput_in, xput_e, xrow_e]; exact hs)))
theorem st_as {I : xM} {nw sp c : Nat} {x y : Int32} (h : LR I nw sp c) : PairS yX5_as cX5_as 3 yX6_as cX6_as 3 [.int x, .int y] I nw sp c := by
  have hs := h.2.2.2.1.2
  have hnw := h.nwG
  obtain ⟨T, S, F, W, hG, hW, hB, hcu⟩ := h.2.2.2.2.2.1
  have hT6 := hW.T6
  have hS6 := hW.S6
  have h10 := h.2.2.2.2.2.2.2.2.2.1
  have hbr : brF (I 311) (I 315) T = brY (I 311) T (I 311 2) (I 311 3) := funext fun q => brF_Y (I 311) (I 315) (fun t ht => h10 t (by omega)) q
  by_cases hb : 0 ≤ x.toInt ∧ x.toInt < T ∧ 0 ≤ y.toInt ∧ y.toInt ≤ 5
  · obtain ⟨t, ht, rfl⟩ := nI_ex (x := x) (m := T) (by omega) (by omega)
    by_cases hk : y.toInt = 0 ∨ (I 311 (26 + 5 * t + 0)).toInt = y.toInt ∨ (y.toInt = 1 ∧ (I 311 (26 + 5 * t + 0)).toInt = 2) ∨ (y.toInt = 4 ∧ (I 311 (26 + 5 * t + 0)).toInt = 5)
    · exact pair_ii (fun l => c_X5_as_ok l hnw hG hW ht hb.2.2 hk) (fun l => c_X6_as_ok (T := T) l (by first | exact hW.T0 | (simp (disch := omega) only [xput_ne, xrow_o, xput_in, xput_e, xrow_e]; exact hW.T0)) hT6 ht hb.2.2 (by first | exact hk | (simp (disch := omega) only [xput_ne, xrow_o, xput_in, xput_e, xrow_e]; exact hk))) rfl (h.q (fun o a b c => by simp (disch := omega) only [xput_ne, xrow_o, xput_in, xput_e, xrow_e]) (fun j a => by simp (disch := omega) only [xput_ne, xrow_o, xput_in, xput_e, xrow_e]) (fun j a b => by simp (disch := omega) only [xput_ne, xrow_o, xput_in, xput_e, xrow_e]) (by first | (simp (disch := omega) only [xput_ne, xrow_o, xput_in, xput_e, xrow_e]; done) | (simp (disch := omega) only [xput_ne, xrow_o, xput_in, xput_e, xrow_e]; exact hs)))
    · exact pair_ii (fun l => c_X5_as_no l hnw hG hW ht hb.2.2 hk) (fun l => c_X6_as_no (T := T) l (by first | exact hW.T0 | (simp (disch := omega) only [xput_ne, xrow_o, xput_in, xput_e, xrow_e]; exact hW.T0)) hT6 ht hb.2.2 (by first | exact hk | (simp (disch := omega) only [xput_ne, xrow_o, xput_in, xput_e, xrow_e]; exact hk))) rfl (h.q (fun o a b c => by simp (disch := omega) only [xput_ne, xrow_o, xput_in, xput_e, xrow_e]) (fun j a => by simp (disch := omega) only [xput_ne, xrow_o, xput_in, xput_e, xrow_e]) (fun j a b => by simp (disch := omega) only [xput_ne, xrow_o, xput_in, xput_e, xrow_e]) (by first | (simp (disch := omega) only [xput_ne, xrow_o, xput_in, xput_e, xrow_e]; done) | (simp (disch := omega) only [xput_ne, xrow_o, xput_in, xput_e, xrow_e]; exact hs)))
  · exact pair_ii (fun l => c_X5_as_bad l hnw hG hW hb) (fun l => c_X6_as_bad l (by first | exact hW.T0 | (simp (disch := omega) only [xput_ne, xrow_o, xput_in, xput_e, xrow_e]; exact hW.T0)) hT6 hb) rfl (h.q (fun o a b c => by simp (disch := omega) only [xput_ne, xrow_o, xput_in, xput_e, xrow_e]) (fun j a => by simp (disch := omega) only [xput_ne, xrow_o, xput_in, xput_e, xrow_e]) (fun j a b => by simp (disch := omega) only [xput_ne, xrow_o, xput_in, xput_e, xrow_e]) (by first | (simp (disch := omega) only [xput_ne, xrow_o, xput_in, xput_e, xrow_e]; done) | (simp (disch := omega) only [xput_ne, xrow_o, xput_in, xput_e, xrow_e]; exact hs)))
theorem st_trace {I : xM} {nw sp c : Nat} {x : Int32} (h : LR I nw sp c) : PairS yX5_trace cX5_trace 2 yX6_trace cX6_trace 2 [.int x] I nw sp c := by
  have hs := h.2.2.2.1.2
  obtain ⟨n, hn, t1, t2, t3⟩ := h.2.2.2.2.2.2.2.2.1
  by_cases hb : 0 ≤ x.toInt ∧ x.toInt < n
  · obtain ⟨i, hi, rfl⟩ := nI_ex (x := x) (m := n) (by omega) (by omega)
    exact pair_ii (fun l => c_X5_trace_ok l t1 hn hi) (fun l => c_X6_trace_ok (n := n) l (by first | exact t2 | (simp (disch := omega) only [xput_ne, xrow_o, xput_in, xput_e, xrow_e]; exact t2)) hn hi) (t3 i hi).symm (h.q (fun o a b c => by simp (disch := omega) only [xput_ne, xrow_o, xput_in, xput_e, xrow_e]) (fun j a => by simp (disch := omega) only [xput_ne, xrow_o, xput_in, xput_e, xrow_e]) (fun j a b => by simp (disch := omega) only [xput_ne, xrow_o, xput_in, xput_e, xrow_e]) (by first | (simp (disch := omega) only [xput_ne, xrow_o, xput_in, xput_e, xrow_e]; done) | (simp (disch := omega) only [xput_ne, xrow_o, xput_in, xput_e, xrow_e]; exact hs)))
  · exact pair_ii (fun l => c_X5_trace_none l t1 hn hb) (fun l => c_X6_trace_none (n := n) l (by first | exact t2 | (simp (disch := omega) only [xput_ne, xrow_o, xput_in, xput_e, xrow_e]; exact t2)) hn hb) rfl (h.q (fun o a b c => by simp (disch := omega) only [xput_ne, xrow_o, xput_in, xput_e, xrow_e]) (fun j a => by simp (disch := omega) only [xput_ne, xrow_o, xput_in, xput_e, xrow_e]) (fun j a b => by simp (disch := omega) only [xput_ne, xrow_o, xput_in, xput_e, xrow_e]) (by first | (simp (disch := omega) only [xput_ne, xrow_o, xput_in, xput_e, xrow_e]; done) | (simp (disch := omega) only [xput_ne, xrow_o, xput_in, xput_e, xrow_e]; exact hs)))
theorem st_count {I : xM} {nw sp c : Nat} {x : Int32} (h : LR I nw sp c) : PairS yX5_count cX5_count 2 yX6_count cX6_count 4 [.int x] I nw sp c := by
  have hs := h.2.2.2.1.2
  have hnw := h.nwG
  obtain ⟨T, S, F, W, hG, hW, hB, hcu⟩ := h.2.2.2.2.2.1
  have hT6 := hW.T6
  have hS6 := hW.S6
  have h10 := h.2.2.2.2.2.2.2.2.2.1
  have hbr : brF (I 311) (I 315) T = brY (I 311) T (I 311 2) (I 311 3) := funext fun q => brF_Y (I 311) (I 315) (fun t ht => h10 t (by omega)) q
  obtain ⟨tp, tn, htq, htc⟩ := h.2.2.1
  obtain ⟨dn, D, d1, d2, d3, d4, d5, d6⟩ := h.2.2.2.2.2.2.1
  by_cases hb : 0 ≤ x.toInt ∧ x.toInt ≤ 6
  · obtain ⟨q, hq, rfl⟩ := nI_ex (x := x) (m := 7) (by omega) (by omega)
    rcases (show q = 0 ∨ q = 1 ∨ q = 2 ∨ q = 3 ∨ q = 4 ∨ q = 5 ∨ q = 6 by omega) with rfl | rfl | rfl | rfl | rfl | rfl | rfl
    · refine pair_ii (fun l => c_X5_count_ok0 l) (fun l => c_X6_count_ok0 l) (congrArg nI (cnt_congr (fun k hk => ?_))) (h.q (fun o a b c => by simp (disch := omega) only [xput_ne, xrow_o, xput_in, xput_e, xrow_e]) (fun j a => by simp (disch := omega) only [xput_ne, xrow_o, xput_in, xput_e, xrow_e]) (fun j a b => by simp (disch := omega) only [xput_ne, xrow_o, xput_in, xput_e, xrow_e]) (by first | (simp (disch := omega) only [xput_ne, xrow_o, xput_in, xput_e, xrow_e]; done) | (simp (disch := omega) only [xput_ne, xrow_o, xput_in, xput_e, xrow_e]; exact hs)))
      rcases h.2.1 k hk with ⟨a1, a2⟩ | ⟨ln, m, a1, a2, a3, a4, a5, a6⟩
      · rw [a1]; exact ⟨fun z => by omega, fun z => absurd rfl z⟩
      · rw [a3, a5, nI_toInt (by omega)]; exact ⟨fun _ => by decide, fun _ => by omega⟩
    · exact pair_ii (fun l => c_X5_count_ok1 l hnw hG hW ) (fun l => c_X6_count_ok1 l) hW.T0 (h.q (fun o a b c => by simp (disch := omega) only [xput_ne, xrow_o, xput_in, xput_e, xrow_e]) (fun j a => by simp (disch := omega) only [xput_ne, xrow_o, xput_in, xput_e, xrow_e]) (fun j a b => by simp (disch := omega) only [xput_ne, xrow_o, xput_in, xput_e, xrow_e]) (by first | (simp (disch := omega) only [xput_ne, xrow_o, xput_in, xput_e, xrow_e]; done) | (simp (disch := omega) only [xput_ne, xrow_o, xput_in, xput_e, xrow_e]; exact hs)))
    · exact pair_ii (fun l => c_X5_count_ok2 l hnw hG hW ) (fun l => c_X6_count_ok2 l) hW.S0 (h.q (fun o a b c => by simp (disch := omega) only [xput_ne, xrow_o, xput_in, xput_e, xrow_e]) (fun j a => by simp (disch := omega) only [xput_ne, xrow_o, xput_in, xput_e, xrow_e]) (fun j a b => by simp (disch := omega) only [xput_ne, xrow_o, xput_in, xput_e, xrow_e]) (by first | (simp (disch := omega) only [xput_ne, xrow_o, xput_in, xput_e, xrow_e]; done) | (simp (disch := omega) only [xput_ne, xrow_o, xput_in, xput_e, xrow_e]; exact hs)))
    · exact pair_ii (fun l => c_X5_count_ok3 l hnw hG hW ) (fun l => c_X6_count_ok3 l) rfl (h.q (fun o a b c => by simp (disch := omega) only [xput_ne, xrow_o, xput_in, xput_e, xrow_e]) (fun j a => by simp (disch := omega) only [xput_ne, xrow_o, xput_in, xput_e, xrow_e]) (fun j a b => by simp (disch := omega) only [xput_ne, xrow_o, xput_in, xput_e, xrow_e]) (by first | (simp (disch := omega) only [xput_ne, xrow_o, xput_in, xput_e, xrow_e]; done) | (simp (disch := omega) only [xput_ne, xrow_o, xput_in, xput_e, xrow_e]; exact hs)))
    · exact pair_ii (fun l => c_X5_count_ok4 l) (fun l => c_X6_count_ok4 l) (d5.trans d4.symm) (h.q (fun o a b c => by simp (disch := omega) only [xput_ne, xrow_o, xput_in, xput_e, xrow_e]) (fun j a => by simp (disch := omega) only [xput_ne, xrow_o, xput_in, xput_e, xrow_e]) (fun j a b => by simp (disch := omega) only [xput_ne, xrow_o, xput_in, xput_e, xrow_e]) (by first | (simp (disch := omega) only [xput_ne, xrow_o, xput_in, xput_e, xrow_e]; done) | (simp (disch := omega) only [xput_ne, xrow_o, xput_in, xput_e, xrow_e]; exact hs)))
    · exact pair_ii (fun l => c_X5_count_ok5 l hnw hG hW ) (fun l => c_X6_count_ok5 l) rfl (h.q (fun o a b c => by simp (disch := omega) only [xput_ne, xrow_o, xput_in, xput_e, xrow_e]) (fun j a => by simp (disch := omega) only [xput_ne, xrow_o, xput_in, xput_e, xrow_e]) (fun j a b => by simp (disch := omega) only [xput_ne, xrow_o, xput_in, xput_e, xrow_e]) (by first | (simp (disch := omega) only [xput_ne, xrow_o, xput_in, xput_e, xrow_e]; done) | (simp (disch := omega) only [xput_ne, xrow_o, xput_in, xput_e, xrow_e]; exact hs)))
    · exact pair_ii (fun l => c_X5_count_ok6 l) (fun l => c_X6_count_ok6 l) (htq.1.trans htc.1.symm) (h.q (fun o a b c => by simp (disch := omega) only [xput_ne, xrow_o, xput_in, xput_e, xrow_e]) (fun j a => by simp (disch := omega) only [xput_ne, xrow_o, xput_in, xput_e, xrow_e]) (fun j a b => by simp (disch := omega) only [xput_ne, xrow_o, xput_in, xput_e, xrow_e]) (by first | (simp (disch := omega) only [xput_ne, xrow_o, xput_in, xput_e, xrow_e]; done) | (simp (disch := omega) only [xput_ne, xrow_o, xput_in, xput_e, xrow_e]; exact hs)))
  · exact pair_ii (fun l => c_X5_count_bad l hb) (fun l => c_X6_count_bad l hb) rfl (h.q (fun o a b c => by simp (disch := omega) only [xput_ne, xrow_o, xput_in, xput_e, xrow_e]) (fun j a => by simp (disch := omega) only [xput_ne, xrow_o, xput_in, xput_e, xrow_e]) (fun j a b => by simp (disch := omega) only [xput_ne, xrow_o, xput_in, xput_e, xrow_e]) (by first | (simp (disch := omega) only [xput_ne, xrow_o, xput_in, xput_e, xrow_e]; done) | (simp (disch := omega) only [xput_ne, xrow_o, xput_in, xput_e, xrow_e]; exact hs)))