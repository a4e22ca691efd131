theorem xput_cg {A B : xM} {a k i : Nat} {v : Int32} (h : A i = B i) : xput A a k v i = xput B a k v i := by
  by_cases e : i = a
  · subst e; rw [xput_self, xput_self, h]
  · rw [xput_ne e, xput_ne e, h]
theorem xrow_cg {A B : xM} {a i : Nat} {f : Nat → Int32} (h : A i = B i) : xrow A a f i = xrow B a f i := by
  by_cases e : i = a
  · subst e; rw [xrow_e, xrow_e]
  · rw [xrow_o e, xrow_o e, h]
theorem st_years {I : xM} {nw sp c : Nat} {x : Int32} (h : LR I nw sp c) : PairS yX5_years cX5_years 2 yX6_years cX6_years 2 [.int x] I nw sp c := by
  have hs := h.2.2.2.1.2
  have hnw := h.nwG
  have hns := h.ns
  obtain ⟨T, S, F, W, hG, hW, hB, hcu⟩ := h.2.2.2.2.2.1
  have hT6 := hW.T6
  have hS6 := hW.S6
  have h10 := h.2.2.2.2.2.2.2.2.2.1
  have hbz := h.2.2.2.2.2.2.2.2.2.2 nw hnw
  obtain ⟨dn, D, hn24, hD, d8, d9, d79, hdays⟩ := h.2.2.2.2.2.2.1
  obtain ⟨y, hy9, hy⟩ := nI_ex (x := I 311 2) (m := 1000) hB.2.2.2.1 (by have := hB.2.2.2.2; omega)
  rcases h.2.2.2.2.1 with ⟨s5, s6⟩ | ⟨s5, s6⟩
  · exact pair_ii (fun l => c_X5_years_none l s5) (fun l => c_X6_years_none l (by first | exact s6 | (simp (disch := omega) only [xput_ne, xrow_o, xput_in, xput_e, xrow_e]; exact s6)) ) rfl (h.q (fun o a b c => by simp (disch := omega) only [xput_ne, xrow_o, xput_in, xput_e, xrow_e]) (fun j a => by simp (disch := omega) only [xput_ne, xrow_o, xput_in, xput_e, xrow_e]) (fun j a b => by simp (disch := omega) only [xput_ne, xrow_o, xput_in, xput_e, xrow_e]) (by first | (simp (disch := omega) only [xput_ne, xrow_o, xput_in, xput_e, xrow_e]; done) | (simp (disch := omega) only [xput_ne, xrow_o, xput_in, xput_e, xrow_e]; exact hs)))
  · by_cases hb : 1 ≤ x.toInt ∧ x.toInt ≤ 99
    · obtain ⟨m, hm, rfl⟩ := nI_ex (x := x) (m := 100) (by omega) (by omega)
      rw [nI_toInt (by omega)] at hb
      by_cases hf : y + m ≤ 999
      · refine pair_ri (fun l => c_X5_years_ok l s5 hnw hG hW hy (by omega) (by omega) hf d8 hn24 d9 hD hbz hns) (fun r K hP => ?_)
        obtain ⟨rfl, K', ⟨J, hJ, rfl⟩, rfl⟩ := hP
        have j7 : ∀ j, J 307 j = I 307 j := fun j => congrFun (hJ.1 307 (by omega)) j
        have j13 : J 0 13 = I 0 13 := congrFun (hJ.1 0 (by omega)) 13
        have j311 : J 311 = I 311 := hJ.1 311 (by omega)
        have j313 : J 313 = I 313 := hJ.1 313 (by omega)
        have j315 : J 315 = I 315 := hJ.1 315 (by omega)
        have j310 : J 310 = I 310 := hJ.1 310 (by omega)
        have jG : GX J nw (I 311) T S F W := hG.ext (fun i a b => hJ.1 i (by rcases hns with hns | hns <;> omega))
        have jB : BZ J nw := hbz.ext (fun i a b => hJ.1 i (by rcases hns with hns | hns <;> omega))
        rcases Nat.lt_or_ge D 24 with hD24 | hD24
        · refine ⟨_, _, _, ?_, fun l => c_X6_years_oklt (y := y) (D := D) l (by simp (disch := omega) only [xput_ne, xrow_o, xput_in, xput_e, xrow_e]; exact (j7 7).trans s6) (by simp (disch := omega) only [xput_ne, xrow_o, xput_in, xput_e, xrow_e]; rw [j311]; exact hy) (by omega) (by omega) hf (by simp (disch := omega) only [xput_ne, xrow_o, xput_in, xput_e, xrow_e]; exact (j7 9).trans d79) hD24, rfl, h.keep (J := J) hn24 hD hdays hJ (fun o a1 a2 a3 a4 a5 => by simp (disch := omega) only [xput_ne, xrow_o, xput_in, xput_e, xrow_e]) (fun j a1 a2 a3 => by simp (disch := omega) only [xput_ne, xrow_o, xput_in, xput_e, xrow_e]) (by simp (disch := omega) only [xput_ne, xrow_o, xput_in, xput_e, xrow_e]) (by simp (disch := omega) only [xput_ne, xrow_o, xput_in, xput_e, xrow_e]) (fun j a1 a2 a3 => by simp (disch := omega) only [xput_ne, xrow_o, xput_in, xput_e, xrow_e]; exact j7 j) (by simp (disch := omega) only [xput_ne, xrow_o, xput_in, xput_e, xrow_e]; rw [show min 24 (D + 1) = D + 1 by omega]) (by first | (simp (disch := omega) only [xput_ne, xrow_o, xput_in, xput_e, xrow_e]; done) | (simp (disch := omega) only [xput_ne, xrow_o, xput_in, xput_e, xrow_e]; exact (j7 1).trans (hs.trans j13.symm))) (Or.inl ⟨hD24, by simp (disch := omega) only [xput_ne, xrow_o, xput_in, xput_e, xrow_e]; rw [j311, j313]⟩) ?_ ?_⟩
          · decide
          · refine GW.congr (GW.ext (GW.mono (GW.year (c := c) jG hW hB hcu (n := y + m) hf) (Nat.le_succ c)) (fun i a b => by rcases hns with hns | hns <;> (subst hns; simp (disch := omega) only [xput_ne, xrow_o, xput_in, xput_e, xrow_e]; first | done | (refine xput_cg ?_; simp (disch := omega) only [xput_ne, xrow_o, xput_in, xput_e, xrow_e]) | (refine xrow_cg ?_; simp (disch := omega) only [xput_ne, xrow_o, xput_in, xput_e, xrow_e])))) (fun j hj => congrFun (?_ : _ = upd (I 311) 2 (nI (y + m))) j)
            first | (simp (disch := omega) only [xput_self, xput_ne, xrow_o, xrow_e, j311, j310]; done) | (simp (disch := omega) only [xput_self, xput_ne, xrow_o, xrow_e, j311, j310]; rfl)
          · refine BZ.ext (I := xput J (nw) (13) (nI (y + m))) (bz_put jB (by omega) (by omega)) (fun i a b => by rcases hns with hns | hns <;> (subst hns; simp (disch := omega) only [xput_ne, xrow_o, xput_in, xput_e, xrow_e]; first | done | (refine xput_cg ?_; simp (disch := omega) only [xput_ne, xrow_o, xput_in, xput_e, xrow_e]) | (refine xrow_cg ?_; simp (disch := omega) only [xput_ne, xrow_o, xput_in, xput_e, xrow_e])))
        · obtain rfl : D = 24 := by omega
          refine ⟨_, _, _, ?_, fun l => c_X6_years_okeq (y := y) l (by simp (disch := omega) only [xput_ne, xrow_o, xput_in, xput_e, xrow_e]; exact (j7 7).trans s6) (by simp (disch := omega) only [xput_ne, xrow_o, xput_in, xput_e, xrow_e]; rw [j311]; exact hy) (by omega) (by omega) hf (by simp (disch := omega) only [xput_ne, xrow_o, xput_in, xput_e, xrow_e]; exact (j7 9).trans d79) , rfl, h.keep (J := J) hn24 hD hdays hJ (fun o a1 a2 a3 a4 a5 => by simp (disch := omega) only [xput_ne, xrow_o, xput_in, xput_e, xrow_e]) (fun j a1 a2 a3 => by simp (disch := omega) only [xput_ne, xrow_o, xput_in, xput_e, xrow_e]) (by simp (disch := omega) only [xput_ne, xrow_o, xput_in, xput_e, xrow_e]) (by simp (disch := omega) only [xput_ne, xrow_o, xput_in, xput_e, xrow_e]) (fun j a1 a2 a3 => by simp (disch := omega) only [xput_ne, xrow_o, xput_in, xput_e, xrow_e]; exact j7 j) (by simp (disch := omega) only [xput_ne, xrow_o, xput_in, xput_e, xrow_e]; exact (j7 9).trans d79) (by first | (simp (disch := omega) only [xput_ne, xrow_o, xput_in, xput_e, xrow_e]; done) | (simp (disch := omega) only [xput_ne, xrow_o, xput_in, xput_e, xrow_e]; exact (j7 1).trans (hs.trans j13.symm))) (Or.inr ⟨rfl, by simp (disch := omega) only [xput_ne, xrow_o, xput_in, xput_e, xrow_e]; rw [j311, j313]⟩) ?_ ?_⟩
          · decide
          · refine GW.congr (GW.ext (GW.mono (GW.year (c := c) jG hW hB hcu (n := y + m) hf) (Nat.le_succ c)) (fun i a b => by rcases hns with hns | hns <;> (subst hns; simp (disch := omega) only [xput_ne, xrow_o, xput_in, xput_e, xrow_e]; first | done | (refine xput_cg ?_; simp (disch := omega) only [xput_ne, xrow_o, xput_in, xput_e, xrow_e]) | (refine xrow_cg ?_; simp (disch := omega) only [xput_ne, xrow_o, xput_in, xput_e, xrow_e])))) (fun j hj => congrFun (?_ : _ = upd (I 311) 2 (nI (y + m))) j)
            first | (simp (disch := omega) only [xput_self, xput_ne, xrow_o, xrow_e, j311, j310]; done) | (simp (disch := omega) only [xput_self, xput_ne, xrow_o, xrow_e, j311, j310]; rfl)
          · refine BZ.ext (I := xput J (nw) (13) (nI (y + m))) (bz_put jB (by omega) (by omega)) (fun i a b => by rcases hns with hns | hns <;> (subst hns; simp (disch := omega) only [xput_ne, xrow_o, xput_in, xput_e, xrow_e]; first | done | (refine xput_cg ?_; simp (disch := omega) only [xput_ne, xrow_o, xput_in, xput_e, xrow_e]) | (refine xrow_cg ?_; simp (disch := omega) only [xput_ne, xrow_o, xput_in, xput_e, xrow_e])))
      · exact pair_ii (fun l => c_X5_years_full l s5 hnw hG hW hy (by omega) (by omega) (by omega) (by omega)) (fun l => c_X6_years_full (y := y) l (by first | exact s6 | (simp (disch := omega) only [xput_ne, xrow_o, xput_in, xput_e, xrow_e]; exact s6)) (by first | exact hy | (simp (disch := omega) only [xput_ne, xrow_o, xput_in, xput_e, xrow_e]; exact hy)) (by omega) (by omega) (by omega) (by omega)) rfl (h.q (fun o a b c => by simp (disch := omega) only [xput_ne, xrow_o, xput_in, xput_e, xrow_e]) (fun j a => by simp (disch := omega) only [xput_ne, xrow_o, xput_in, xput_e, xrow_e]) (fun j a b => by simp (disch := omega) only [xput_ne, xrow_o, xput_in, xput_e, xrow_e]) (by first | (simp (disch := omega) only [xput_ne, xrow_o, xput_in, xput_e, xrow_e]; done) | (simp (disch := omega) only [xput_ne, xrow_o, xput_in, xput_e, xrow_e]; exact hs)))
    · exact pair_ii (fun l => c_X5_years_bad l s5 hb) (fun l => c_X6_years_bad l (by first | exact s6 | (simp (disch := omega) only [xput_ne, xrow_o, xput_in, xput_e, xrow_e]; exact s6)) hb) rfl (h.q (fun o a b c => by simp (disch := omega) only [xput_ne, xrow_o, xput_in, xput_e, xrow_e]) (fun j a => by simp (disch := omega) only [xput_ne, xrow_o, xput_in, xput_e, xrow_e]) (fun j a b => by simp (disch := omega) only [xput_ne, xrow_o, xput_in, xput_e, xrow_e]) (by first | (simp (disch := omega) only [xput_ne, xrow_o, xput_in, xput_e, xrow_e]; done) | (simp (disch := omega) only [xput_ne, xrow_o, xput_in, xput_e, xrow_e]; exact hs)))
theorem st_winter {I : xM} {nw sp c : Nat} {x : Int32} (h : LR I nw sp c) : PairS yX5_winter cX5_winter 3 yX6_winter cX6_winter 3 [.int x] I nw sp c := by
  have hs := h.2.2.2.1.2
  have hnw := h.nwG
  have hns := h.ns
  obtain ⟨T, S, F, W, hG, hW, hB, hcu⟩ := h.2.2.2.2.2.1
  have hT6 := hW.T6
  have hS6 := hW.S6
  have h10 := h.2.2.2.2.2.2.2.2.2.1
  have hbz := h.2.2.2.2.2.2.2.2.2.2 nw hnw
  obtain ⟨dn, D, hn24, hD, d8, d9, d79, hdays⟩ := h.2.2.2.2.2.2.1
  rcases h.2.2.2.2.1 with ⟨s5, s6⟩ | ⟨s5, s6⟩
  · exact pair_ii (fun l => c_X5_winter_none l s5) (fun l => c_X6_winter_none l (by first | exact s6 | (simp (disch := omega) only [xput_ne, xrow_o, xput_in, xput_e, xrow_e]; exact s6)) ) rfl (h.q (fun o a b c => by simp (disch := omega) only [xput_ne, xrow_o, xput_in, xput_e, xrow_e]) (fun j a => by simp (disch := omega) only [xput_ne, xrow_o, xput_in, xput_e, xrow_e]) (fun j a b => by simp (disch := omega) only [xput_ne, xrow_o, xput_in, xput_e, xrow_e]) (by first | (simp (disch := omega) only [xput_ne, xrow_o, xput_in, xput_e, xrow_e]; done) | (simp (disch := omega) only [xput_ne, xrow_o, xput_in, xput_e, xrow_e]; exact hs)))
  · by_cases hb : 0 ≤ x.toInt ∧ x.toInt ≤ 1
    · obtain ⟨v, hv, rfl⟩ := nI_ex (x := x) (m := 2) (by omega) (by omega)
      refine pair_ri (fun l => c_X5_winter_ok l s5 hnw hG hW (by omega) d8 hn24 d9 hD hbz hns) (fun r K hP => ?_)
      obtain ⟨rfl, K', ⟨J, hJ, rfl⟩, rfl⟩ := hP
      have j7 : ∀ j, J 307 j = I 307 j := fun j => congrFun (hJ.1 307 (by omega)) j
      have j13 : J 0 13 = I 0 13 := congrFun (hJ.1 0 (by omega)) 13
      have j311 : J 311 = I 311 := hJ.1 311 (by omega)
      have j313 : J 313 = I 313 := hJ.1 313 (by omega)
      have j315 : J 315 = I 315 := hJ.1 315 (by omega)
      have j310 : J 310 = I 310 := hJ.1 310 (by omega)
      have jG : GX J nw (I 311) T S F W := hG.ext (fun i a b => hJ.1 i (by rcases hns with hns | hns <;> omega))
      have jB : BZ J nw := hbz.ext (fun i a b => hJ.1 i (by rcases hns with hns | hns <;> omega))
      rcases Nat.lt_or_ge D 24 with hD24 | hD24
      · refine ⟨_, _, _, ?_, fun l => c_X6_winter_oklt (v := v) (D := D) l (by simp (disch := omega) only [xput_ne, xrow_o, xput_in, xput_e, xrow_e]; exact (j7 7).trans s6) (by omega) (by simp (disch := omega) only [xput_ne, xrow_o, xput_in, xput_e, xrow_e]; exact (j7 9).trans d79) hD24, (by simp (disch := omega) only [xput_ne, xrow_o, xput_in, xput_e, xrow_e]; rw [j311]), h.keep (J := J) hn24 hD hdays hJ (fun o a1 a2 a3 a4 a5 => by simp (disch := omega) only [xput_ne, xrow_o, xput_in, xput_e, xrow_e]) (fun j a1 a2 a3 => by simp (disch := omega) only [xput_ne, xrow_o, xput_in, xput_e, xrow_e]) (by simp (disch := omega) only [xput_ne, xrow_o, xput_in, xput_e, xrow_e]) (by simp (disch := omega) only [xput_ne, xrow_o, xput_in, xput_e, xrow_e]) (fun j a1 a2 a3 => by simp (disch := omega) only [xput_ne, xrow_o, xput_in, xput_e, xrow_e]; exact j7 j) (by simp (disch := omega) only [xput_ne, xrow_o, xput_in, xput_e, xrow_e]; rw [show min 24 (D + 1) = D + 1 by omega]) (by first | (simp (disch := omega) only [xput_ne, xrow_o, xput_in, xput_e, xrow_e]; done) | (simp (disch := omega) only [xput_ne, xrow_o, xput_in, xput_e, xrow_e]; exact (j7 1).trans (hs.trans j13.symm))) (Or.inl ⟨hD24, by simp (disch := omega) only [xput_ne, xrow_o, xput_in, xput_e, xrow_e]; rw [j311, j313]⟩) ?_ ?_⟩
        · decide
        · refine GW.congr (GW.ext (GW.mono (GW.winter (c := c) jG hW hB hcu (v := nI v) (by rw [nI_toInt (by omega)]; omega)) (Nat.le_succ c)) (fun i a b => by rcases hns with hns | hns <;> (subst hns; simp (disch := omega) only [xput_ne, xrow_o, xput_in, xput_e, xrow_e]; first | done | (refine xput_cg ?_; simp (disch := omega) only [xput_ne, xrow_o, xput_in, xput_e, xrow_e]) | (refine xrow_cg ?_; simp (disch := omega) only [xput_ne, xrow_o, xput_in, xput_e, xrow_e])))) (fun j hj => congrFun (?_ : _ = upd (I 311) 3 (nI v)) j)
          first | (simp (disch := omega) only [xput_self, xput_ne, xrow_o, xrow_e, j311, j310]; done) | (simp (disch := omega) only [xput_self, xput_ne, xrow_o, xrow_e, j311, j310]; rfl)
        · refine BZ.ext (I := xput J nw 14 (nI v)) ⟨fun q hq => by rw [xput_ne (by omega)]; exact jB.1 q hq, by rw [xput_e]; rcases (show v = 0 ∨ v = 1 by omega) with rfl | rfl <;> rfl⟩ (fun i a b => by rcases hns with hns | hns <;> (subst hns; simp (disch := omega) only [xput_ne, xrow_o, xput_in, xput_e, xrow_e]; first | done | (refine xput_cg ?_; simp (disch := omega) only [xput_ne, xrow_o, xput_in, xput_e, xrow_e])))
      · obtain rfl : D = 24 := by omega
        refine ⟨_, _, _, ?_, fun l => c_X6_winter_okeq (v := v) l (by simp (disch := omega) only [xput_ne, xrow_o, xput_in, xput_e, xrow_e]; exact (j7 7).trans s6) (by omega) (by simp (disch := omega) only [xput_ne, xrow_o, xput_in, xput_e, xrow_e]; exact (j7 9).trans d79) , (by simp (disch := omega) only [xput_ne, xrow_o, xput_in, xput_e, xrow_e]; rw [j311]), h.keep (J := J) hn24 hD hdays hJ (fun o a1 a2 a3 a4 a5 => by simp (disch := omega) only [xput_ne, xrow_o, xput_in, xput_e, xrow_e]) (fun j a1 a2 a3 => by simp (disch := omega) only [xput_ne, xrow_o, xput_in, xput_e, xrow_e]) (by simp (disch := omega) only [xput_ne, xrow_o, xput_in, xput_e, xrow_e]) (by simp (disch := omega) only [xput_ne, xrow_o, xput_in, xput_e, xrow_e]) (fun j a1 a2 a3 => by simp (disch := omega) only [xput_ne, xrow_o, xput_in, xput_e, xrow_e]; exact j7 j) (by simp (disch := omega) only [xput_ne, xrow_o, xput_in, xput_e, xrow_e]; exact (j7 9).trans d79) (by first | (simp (disch := omega) only [xput_ne, xrow_o, xput_in, xput_e, xrow_e]; done) | (simp (disch := omega) only [xput_ne, xrow_o, xput_in, xput_e, xrow_e]; exact (j7 1).trans (hs.trans j13.symm))) (Or.inr ⟨rfl, by simp (disch := omega) only [xput_ne, xrow_o, xput_in, xput_e, xrow_e]; rw [j311, j313]⟩) ?_ ?_⟩
        · decide
        · refine GW.congr (GW.ext (GW.mono (GW.winter (c := c) jG hW hB hcu (v := nI v) (by rw [nI_toInt (by omega)]; omega)) (Nat.le_succ c)) (fun i a b => by rcases hns with hns | hns <;> (subst hns; simp (disch := omega) only [xput_ne, xrow_o, xput_in, xput_e, xrow_e]; first | done | (refine xput_cg ?_; simp (disch := omega) only [xput_ne, xrow_o, xput_in, xput_e, xrow_e]) | (refine xrow_cg ?_; simp (disch := omega) only [xput_ne, xrow_o, xput_in, xput_e, xrow_e])))) (fun j hj => congrFun (?_ : _ = upd (I 311) 3 (nI v)) j)
          first | (simp (disch := omega) only [xput_self, xput_ne, xrow_o, xrow_e, j311, j310]; done) | (simp (disch := omega) only [xput_self, xput_ne, xrow_o, xrow_e, j311, j310]; rfl)
        · refine BZ.ext (I := xput J nw 14 (nI v)) ⟨fun q hq => by rw [xput_ne (by omega)]; exact jB.1 q hq, by rw [xput_e]; rcases (show v = 0 ∨ v = 1 by omega) with rfl | rfl <;> rfl⟩ (fun i a b => by rcases hns with hns | hns <;> (subst hns; simp (disch := omega) only [xput_ne, xrow_o, xput_in, xput_e, xrow_e]; first | done | (refine xput_cg ?_; simp (disch := omega) only [xput_ne, xrow_o, xput_in, xput_e, xrow_e])))
    · exact pair_ii (fun l => c_X5_winter_bad l s5 hb) (fun l => c_X6_winter_bad l (by first | exact s6 | (simp (disch := omega) only [xput_ne, xrow_o, xput_in, xput_e, xrow_e]; exact s6)) hb) rfl (h.q (fun o a b c => by simp (disch := omega) only [xput_ne, xrow_o, xput_in, xput_e, xrow_e]) (fun j a => by simp (disch := omega) only [xput_ne, xrow_o, xput_in, xput_e, xrow_e]) (fun j a b => by simp (disch := omega) only [xput_ne, xrow_o, xput_in, xput_e, xrow_e]) (by first | (simp (disch := omega) only [xput_ne, xrow_o, xput_in, xput_e, xrow_e]; done) | (simp (disch := omega) only [xput_ne, xrow_o, xput_in, xput_e, xrow_e]; exact hs)))
theorem st_clip {I : xM} {nw sp c : Nat} {x y : Int32} (h : LR I nw sp c) (hc9 : c ≤ 1000) : PairS yX5_clip cX5_clip 3 yX6_clip cX6_clip 3 [.int x, .int y] I nw sp c := by
  have hs := h.2.2.2.1.2
  have hnw := h.nwG
  have hns := h.ns
  obtain ⟨T, S, F, W, hG, hW, hB, hcu⟩ := h.2.2.2.2.2.1
  have hT6 := hW.T6
  have hS6 := hW.S6
  have h10 := h.2.2.2.2.2.2.2.2.2.1
  have hbz := h.2.2.2.2.2.2.2.2.2.2 nw hnw
  obtain ⟨dn, D, hn24, hD, d8, d9, d79, hdays⟩ := h.2.2.2.2.2.2.1
  by_cases hb : 0 ≤ x.toInt ∧ x.toInt < T ∧ 1 ≤ y.toInt ∧ y.toInt ≤ 99
  · obtain ⟨t, ht, rfl⟩ := nI_ex (x := x) (m := T) (by omega) (by omega)
    obtain ⟨m, hm, rfl⟩ := nI_ex (x := y) (m := 100) (by omega) (by omega)
    rw [nI_toInt (n := m) (by omega)] at hb
    by_cases hk : (I 311 (26 + 5 * t + 0)).toInt = 3 ∨ (I 311 (26 + 5 * t + 0)).toInt = 5
    · exact pair_ii (fun l => c_X5_clip_state l hnw hG hW ht (by omega) (by omega) hk) (fun l => c_X6_clip_state (T := T) l (by first | exact hW.T0 | (simp (disch := omega) only [xput_ne, xrow_o, xput_in, xput_e, xrow_e]; exact hW.T0)) hT6 ht (by omega) (by omega) (by first | exact hk | (simp (disch := omega) only [xput_ne, xrow_o, xput_in, xput_e, xrow_e]; exact hk))) rfl (h.q (fun o a b c => by simp (disch := omega) only [xput_ne, xrow_o, xput_in, xput_e, xrow_e]) (fun j a => by simp (disch := omega) only [xput_ne, xrow_o, xput_in, xput_e, xrow_e]) (fun j a b => by simp (disch := omega) only [xput_ne, xrow_o, xput_in, xput_e, xrow_e]) (by first | (simp (disch := omega) only [xput_ne, xrow_o, xput_in, xput_e, xrow_e]; done) | (simp (disch := omega) only [xput_ne, xrow_o, xput_in, xput_e, xrow_e]; exact hs)))
    · have hk2 : (I 311 (26 + 5 * t + 0)).toInt ≠ 3 ∧ (I 311 (26 + 5 * t + 0)).toInt ≠ 5 := ⟨fun q => hk (Or.inl q), fun q => hk (Or.inr q)⟩
      refine pair_ri (fun l => c_X5_clip_ok l hnw hG hW ht (by omega) (by omega) hk2 d8 hn24 d9 hD hbz hns) (fun r K hP => ?_)
      obtain ⟨rfl, K', ⟨J, hJ, rfl⟩, rfl⟩ := hP
      have j7 : ∀ j, J 307 j = I 307 j := fun j => congrFun (hJ.1 307 (by omega)) j
      have j13 : J 0 13 = I 0 13 := congrFun (hJ.1 0 (by omega)) 13
      have j311 : J 311 = I 311 := hJ.1 311 (by omega)
      have j313 : J 313 = I 313 := hJ.1 313 (by omega)
      have j315 : J 315 = I 315 := hJ.1 315 (by omega)
      have j310 : J 310 = I 310 := hJ.1 310 (by omega)
      have jG : GX J nw (I 311) T S F W := hG.ext (fun i a b => hJ.1 i (by rcases hns with hns | hns <;> omega))
      have jB : BZ J nw := hbz.ext (fun i a b => hJ.1 i (by rcases hns with hns | hns <;> omega))
      rcases Nat.lt_or_ge D 24 with hD24 | hD24
      · refine ⟨_, _, _, ?_, fun l => c_X6_clip_oklt (T := T) (D := D) l (by simp (disch := omega) only [xput_ne, xrow_o, xput_in, xput_e, xrow_e]; rw [j311]; exact hW.T0) hT6 ht (by omega) (by omega) (by simp (disch := omega) only [xput_ne, xrow_o, xput_in, xput_e, xrow_e]; rw [j311]; exact hk2) (by simp (disch := omega) only [xput_ne, xrow_o, xput_in, xput_e, xrow_e]; exact (j7 9).trans d79) hD24, (by simp (disch := omega) only [xput_ne, xrow_o, xput_in, xput_e, xrow_e]; rw [j311, j315]; exact hgF_at0 (h10 t (by omega))), h.keep (J := J) hn24 hD hdays hJ (fun o a1 a2 a3 a4 a5 => by simp (disch := omega) only [xput_ne, xrow_o, xput_in, xput_e, xrow_e]) (fun j a1 a2 a3 => by simp (disch := omega) only [xput_ne, xrow_o, xput_in, xput_e, xrow_e]) (by simp (disch := omega) only [xput_ne, xrow_o, xput_in, xput_e, xrow_e]) (by simp (disch := omega) only [xput_ne, xrow_o, xput_in, xput_e, xrow_e]) (fun j a1 a2 a3 => by simp (disch := omega) only [xput_ne, xrow_o, xput_in, xput_e, xrow_e]; exact j7 j) (by simp (disch := omega) only [xput_ne, xrow_o, xput_in, xput_e, xrow_e]; rw [show min 24 (D + 1) = D + 1 by omega]) (by first | (simp (disch := omega) only [xput_ne, xrow_o, xput_in, xput_e, xrow_e]; done) | (simp (disch := omega) only [xput_ne, xrow_o, xput_in, xput_e, xrow_e]; exact (j7 1).trans (hs.trans j13.symm))) (Or.inl ⟨hD24, by simp (disch := omega) only [xput_ne, xrow_o, xput_in, xput_e, xrow_e]; rw [j311, j313]⟩) ?_ ?_⟩
        · decide
        · refine GW.congr (GW.ext (GW.clip (c := c) jG hW hB hcu (t := t) (m := m) ht (by omega) hc9) (fun i a b => by rcases hns with hns | hns <;> (subst hns; simp (disch := omega) only [xput_ne, xrow_o, xput_in, xput_e, xrow_e]; first | done | (refine xput_cg ?_; simp (disch := omega) only [xput_ne, xrow_o, xput_in, xput_e, xrow_e]) | (refine xrow_cg ?_; simp (disch := omega) only [xput_ne, xrow_o, xput_in, xput_e, xrow_e])))) (fun j hj => congrFun (?_ : _ = upd (I 311) (26 + 5 * t + 4) (I 311 (26 + 5 * t + 4) + nI m)) j)
          first | (simp (disch := omega) only [xput_self, xput_ne, xrow_o, xrow_e, j311, j310]; done) | (simp (disch := omega) only [xput_self, xput_ne, xrow_o, xrow_e, j311, j310]; rfl)
        · refine BZ.ext (I := xput J (nw + 6) (t) (I 311 (26 + 5 * t + 4) + nI m)) (bz_put jB (by omega) (by omega)) (fun i a b => by rcases hns with hns | hns <;> (subst hns; simp (disch := omega) only [xput_ne, xrow_o, xput_in, xput_e, xrow_e]; first | done | (refine xput_cg ?_; simp (disch := omega) only [xput_ne, xrow_o, xput_in, xput_e, xrow_e]) | (refine xrow_cg ?_; simp (disch := omega) only [xput_ne, xrow_o, xput_in, xput_e, xrow_e])))
      · obtain rfl : D = 24 := by omega
        refine ⟨_, _, _, ?_, fun l => c_X6_clip_okeq (T := T) l (by simp (disch := omega) only [xput_ne, xrow_o, xput_in, xput_e, xrow_e]; rw [j311]; exact hW.T0) hT6 ht (by omega) (by omega) (by simp (disch := omega) only [xput_ne, xrow_o, xput_in, xput_e, xrow_e]; rw [j311]; exact hk2) (by simp (disch := omega) only [xput_ne, xrow_o, xput_in, xput_e, xrow_e]; exact (j7 9).trans d79) , (by simp (disch := omega) only [xput_ne, xrow_o, xput_in, xput_e, xrow_e]; rw [j311, j315]; exact hgF_at0 (h10 t (by omega))), h.keep (J := J) hn24 hD hdays hJ (fun o a1 a2 a3 a4 a5 => by simp (disch := omega) only [xput_ne, xrow_o, xput_in, xput_e, xrow_e]) (fun j a1 a2 a3 => by simp (disch := omega) only [xput_ne, xrow_o, xput_in, xput_e, xrow_e]) (by simp (disch := omega) only [xput_ne, xrow_o, xput_in, xput_e, xrow_e]) (by simp (disch := omega) only [xput_ne, xrow_o, xput_in, xput_e, xrow_e]) (fun j a1 a2 a3 => by simp (disch := omega) only [xput_ne, xrow_o, xput_in, xput_e, xrow_e]; exact j7 j) (by simp (disch := omega) only [xput_ne, xrow_o, xput_in, xput_e, xrow_e]; exact (j7 9).trans d79) (by first | (simp (disch := omega) only [xput_ne, xrow_o, xput_in, xput_e, xrow_e]; done) | (simp (disch := omega) only [xput_ne, xrow_o, xput_in, xput_e, xrow_e]; exact (j7 1).trans (hs.trans j13.symm))) (Or.inr ⟨rfl, by simp (disch := omega) only [xput_ne, xrow_o, xput_in, xput_e, xrow_e]; rw [j311, j313]⟩) ?_ ?_⟩
        · decide
        · refine GW.congr (GW.ext (GW.clip (c := c) jG hW hB hcu (t := t) (m := m) ht (by omega) hc9) (fun i a b => by rcases hns with hns | hns <;> (subst hns; simp (disch := omega) only [xput_ne, xrow_o, xput_in, xput_e, xrow_e]; first | done | (refine xput_cg ?_; simp (disch := omega) only [xput_ne, xrow_o, xput_in, xput_e, xrow_e]) | (refine xrow_cg ?_; simp (disch := omega) only [xput_ne, xrow_o, xput_in, xput_e, xrow_e])))) (fun j hj => congrFun (?_ : _ = upd (I 311) (26 + 5 * t + 4) (I 311 (26 + 5 * t + 4) + nI m)) j)
          first | (simp (disch := omega) only [xput_self, xput_ne, xrow_o, xrow_e, j311, j310]; done) | (simp (disch := omega) only [xput_self, xput_ne, xrow_o, xrow_e, j311, j310]; rfl)
        · refine BZ.ext (I := xput J (nw + 6) (t) (I 311 (26 + 5 * t + 4) + nI m)) (bz_put jB (by omega) (by omega)) (fun i a b => by rcases hns with hns | hns <;> (subst hns; simp (disch := omega) only [xput_ne, xrow_o, xput_in, xput_e, xrow_e]; first | done | (refine xput_cg ?_; simp (disch := omega) only [xput_ne, xrow_o, xput_in, xput_e, xrow_e]) | (refine xrow_cg ?_; simp (disch := omega) only [xput_ne, xrow_o, xput_in, xput_e, xrow_e])))
  · exact pair_ii (fun l => c_X5_clip_bad l hnw hG hW hb) (fun l => c_X6_clip_bad l (by first | exact hW.T0 | (simp (disch := omega) only [xput_ne, xrow_o, xput_in, xput_e, xrow_e]; exact hW.T0)) hT6 hb) rfl (h.q (fun o a b c => by simp (disch := omega) only [xput_ne, xrow_o, xput_in, xput_e, xrow_e]) (fun j a => by simp (disch := omega) only [xput_ne, xrow_o, xput_in, xput_e, xrow_e]) (fun j a b => by simp (disch := omega) only [xput_ne, xrow_o, xput_in, xput_e, xrow_e]) (by first | (simp (disch := omega) only [xput_ne, xrow_o, xput_in, xput_e, xrow_e]; done) | (simp (disch := omega) only [xput_ne, xrow_o, xput_in, xput_e, xrow_e]; exact hs)))
theorem st_move {I : xM} {nw sp c : Nat} {x y : Int32} (h : LR I nw sp c) : PairS yX5_move cX5_move 4 yX6_move cX6_move 4 [.int x, .int y] I nw sp c := by
  have hs := h.2.2.2.1.2
  have hnw := h.nwG
  have hns := h.ns
  obtain ⟨T, S, F, W, hG, hW, hB, hcu⟩ := h.2.2.2.2.2.1
  have hT6 := hW.T6
  have hS6 := hW.S6
  have h10 := h.2.2.2.2.2.2.2.2.2.1
  have hbz := h.2.2.2.2.2.2.2.2.2.2 nw hnw
  obtain ⟨dn, D, hn24, hD, d8, d9, d79, hdays⟩ := h.2.2.2.2.2.2.1
  by_cases hb : 0 ≤ x.toInt ∧ x.toInt < T ∧ 1 ≤ y.toInt ∧ y.toInt ≤ 18
  · obtain ⟨t, ht, rfl⟩ := nI_ex (x := x) (m := T) (by omega) (by omega)
    obtain ⟨q, hq, rfl⟩ := nI_ex (x := y) (m := 19) (by omega) (by omega)
    rw [nI_toInt (n := q) (by omega)] at hb
    rcases Option.eq_none_or_eq_some (taF (I 311) T (nI q)) with hu | ⟨u, hu⟩
    · refine pair_ri (fun l => c_X5_move_ok l hnw hG hW ht (by omega) (by omega) hu d8 hn24 d9 hD hbz hns) (fun r K hP => ?_)
      obtain ⟨rfl, K', ⟨J, hJ, rfl⟩, rfl⟩ := hP
      have j7 : ∀ j, J 307 j = I 307 j := fun j => congrFun (hJ.1 307 (by omega)) j
      have j13 : J 0 13 = I 0 13 := congrFun (hJ.1 0 (by omega)) 13
      have j311 : J 311 = I 311 := hJ.1 311 (by omega)
      have j313 : J 313 = I 313 := hJ.1 313 (by omega)
      have j315 : J 315 = I 315 := hJ.1 315 (by omega)
      have j310 : J 310 = I 310 := hJ.1 310 (by omega)
      have jG : GX J nw (I 311) T S F W := hG.ext (fun i a b => hJ.1 i (by rcases hns with hns | hns <;> omega))
      have jB : BZ J nw := hbz.ext (fun i a b => hJ.1 i (by rcases hns with hns | hns <;> omega))
      rcases Nat.lt_or_ge D 24 with hD24 | hD24
      · refine ⟨_, _, _, ?_, fun l => c_X6_move_oklt (T := T) (D := D) l (by simp (disch := omega) only [xput_ne, xrow_o, xput_in, xput_e, xrow_e]; rw [j311]; exact hW.T0) hT6 ht (by omega) (by omega) (by simp (disch := omega) only [xput_ne, xrow_o, xput_in, xput_e, xrow_e]; rw [j311]; exact hu) (by simp (disch := omega) only [xput_ne, xrow_o, xput_in, xput_e, xrow_e]; exact (j7 9).trans d79) hD24, (by simp (disch := omega) only [xput_ne, xrow_o, xput_in, xput_e, xrow_e]; rw [j311]), h.keep (J := J) hn24 hD hdays hJ (fun o a1 a2 a3 a4 a5 => by simp (disch := omega) only [xput_ne, xrow_o, xput_in, xput_e, xrow_e]) (fun j a1 a2 a3 => by simp (disch := omega) only [xput_ne, xrow_o, xput_in, xput_e, xrow_e]) (by simp (disch := omega) only [xput_ne, xrow_o, xput_in, xput_e, xrow_e]) (by simp (disch := omega) only [xput_ne, xrow_o, xput_in, xput_e, xrow_e]) (fun j a1 a2 a3 => by simp (disch := omega) only [xput_ne, xrow_o, xput_in, xput_e, xrow_e]; exact j7 j) (by simp (disch := omega) only [xput_ne, xrow_o, xput_in, xput_e, xrow_e]; rw [show min 24 (D + 1) = D + 1 by omega]) (by first | (simp (disch := omega) only [xput_ne, xrow_o, xput_in, xput_e, xrow_e]; done) | (simp (disch := omega) only [xput_ne, xrow_o, xput_in, xput_e, xrow_e]; exact (j7 1).trans (hs.trans j13.symm))) (Or.inl ⟨hD24, by simp (disch := omega) only [xput_ne, xrow_o, xput_in, xput_e, xrow_e]; rw [j311, j313]⟩) ?_ ?_⟩
        · decide
        · refine GW.congr (GW.ext (GW.mono (GW.move (c := c) jG hW hB hcu (t := t) (q := q) ht (by omega) hu) (Nat.le_succ c)) (fun i a b => by rcases hns with hns | hns <;> (subst hns; simp (disch := omega) only [xput_ne, xrow_o, xput_in, xput_e, xrow_e]; first | done | (refine xput_cg ?_; simp (disch := omega) only [xput_ne, xrow_o, xput_in, xput_e, xrow_e]) | (refine xrow_cg ?_; simp (disch := omega) only [xput_ne, xrow_o, xput_in, xput_e, xrow_e])))) (fun j hj => congrFun (?_ : _ = upd (I 311) (26 + 5 * t + 1) (nI q)) j)
          first | (simp (disch := omega) only [xput_self, xput_ne, xrow_o, xrow_e, j311, j310]; done) | (simp (disch := omega) only [xput_self, xput_ne, xrow_o, xrow_e, j311, j310]; rfl)
        · refine BZ.ext (I := xput J (nw + 3) (t) (nI q)) (bz_put jB (by omega) (by omega)) (fun i a b => by rcases hns with hns | hns <;> (subst hns; simp (disch := omega) only [xput_ne, xrow_o, xput_in, xput_e, xrow_e]; first | done | (refine xput_cg ?_; simp (disch := omega) only [xput_ne, xrow_o, xput_in, xput_e, xrow_e]) | (refine xrow_cg ?_; simp (disch := omega) only [xput_ne, xrow_o, xput_in, xput_e, xrow_e])))
      · obtain rfl : D = 24 := by omega
        refine ⟨_, _, _, ?_, fun l => c_X6_move_okeq (T := T) l (by simp (disch := omega) only [xput_ne, xrow_o, xput_in, xput_e, xrow_e]; rw [j311]; exact hW.T0) hT6 ht (by omega) (by omega) (by simp (disch := omega) only [xput_ne, xrow_o, xput_in, xput_e, xrow_e]; rw [j311]; exact hu) (by simp (disch := omega) only [xput_ne, xrow_o, xput_in, xput_e, xrow_e]; exact (j7 9).trans d79) , (by simp (disch := omega) only [xput_ne, xrow_o, xput_in, xput_e, xrow_e]; rw [j311]), h.keep (J := J) hn24 hD hdays hJ (fun o a1 a2 a3 a4 a5 => by simp (disch := omega) only [xput_ne, xrow_o, xput_in, xput_e, xrow_e]) (fun j a1 a2 a3 => by simp (disch := omega) only [xput_ne, xrow_o, xput_in, xput_e, xrow_e]) (by simp (disch := omega) only [xput_ne, xrow_o, xput_in, xput_e, xrow_e]) (by simp (disch := omega) only [xput_ne, xrow_o, xput_in, xput_e, xrow_e]) (fun j a1 a2 a3 => by simp (disch := omega) only [xput_ne, xrow_o, xput_in, xput_e, xrow_e]; exact j7 j) (by simp (disch := omega) only [xput_ne, xrow_o, xput_in, xput_e, xrow_e]; exact (j7 9).trans d79) (by first | (simp (disch := omega) only [xput_ne, xrow_o, xput_in, xput_e, xrow_e]; done) | (simp (disch := omega) only [xput_ne, xrow_o, xput_in, xput_e, xrow_e]; exact (j7 1).trans (hs.trans j13.symm))) (Or.inr ⟨rfl, by simp (disch := omega) only [xput_ne, xrow_o, xput_in, xput_e, xrow_e]; rw [j311, j313]⟩) ?_ ?_⟩
        · decide
        · refine GW.congr (GW.ext (GW.mono (GW.move (c := c) jG hW hB hcu (t := t) (q := q) ht (by omega) hu) (Nat.le_succ c)) (fun i a b => by rcases hns with hns | hns <;> (subst hns; simp (disch := omega) only [xput_ne, xrow_o, xput_in, xput_e, xrow_e]; first | done | (refine xput_cg ?_; simp (disch := omega) only [xput_ne, xrow_o, xput_in, xput_e, xrow_e]) | (refine xrow_cg ?_; simp (disch := omega) only [xput_ne, xrow_o, xput_in, xput_e, xrow_e])))) (fun j hj => congrFun (?_ : _ = upd (I 311) (26 + 5 * t + 1) (nI q)) j)
          first | (simp (disch := omega) only [xput_self, xput_ne, xrow_o, xrow_e, j311, j310]; done) | (simp (disch := omega) only [xput_self, xput_ne, xrow_o, xrow_e, j311, j310]; rfl)
        · refine BZ.ext (I := xput J (nw + 3) (t) (nI q)) (bz_put jB (by omega) (by omega)) (fun i a b => by rcases hns with hns | hns <;> (subst hns; simp (disch := omega) only [xput_ne, xrow_o, xput_in, xput_e, xrow_e]; first | done | (refine xput_cg ?_; simp (disch := omega) only [xput_ne, xrow_o, xput_in, xput_e, xrow_e]) | (refine xrow_cg ?_; simp (disch := omega) only [xput_ne, xrow_o, xput_in, xput_e, xrow_e])))
    · have hu6 : u < 6 := by have := (xfind_spec hu).1; omega
      exact pair_ii (fun l => c_X5_move_state l hnw hG hW ht (by omega) (by omega) hu hu6) (fun l => c_X6_move_state (T := T) l (by first | exact hW.T0 | (simp (disch := omega) only [xput_ne, xrow_o, xput_in, xput_e, xrow_e]; exact hW.T0)) hT6 ht (by omega) (by omega) (by first | exact hu | (simp (disch := omega) only [xput_ne, xrow_o, xput_in, xput_e, xrow_e]; exact hu)) hu6) rfl (h.q (fun o a b c => by simp (disch := omega) only [xput_ne, xrow_o, xput_in, xput_e, xrow_e]) (fun j a => by simp (disch := omega) only [xput_ne, xrow_o, xput_in, xput_e, xrow_e]) (fun j a b => by simp (disch := omega) only [xput_ne, xrow_o, xput_in, xput_e, xrow_e]) (by first | (simp (disch := omega) only [xput_ne, xrow_o, xput_in, xput_e, xrow_e]; done) | (simp (disch := omega) only [xput_ne, xrow_o, xput_in, xput_e, xrow_e]; exact hs)))
  · exact pair_ii (fun l => c_X5_move_bad l hnw hG hW hb) (fun l => c_X6_move_bad l (by first | exact hW.T0 | (simp (disch := omega) only [xput_ne, xrow_o, xput_in, xput_e, xrow_e]; exact hW.T0)) hT6 hb) rfl (h.q (fun o a b c => by simp (disch := omega) only [xput_ne, xrow_o, xput_in, xput_e, xrow_e]) (fun j a => by simp (disch := omega) only [xput_ne, xrow_o, xput_in, xput_e, xrow_e]) (fun j a b => by simp (disch := omega) only [xput_ne, xrow_o, xput_in, xput_e, xrow_e]) (by first | (simp (disch := omega) only [xput_ne, xrow_o, xput_in, xput_e, xrow_e]; done) | (simp (disch := omega) only [xput_ne, xrow_o, xput_in, xput_e, xrow_e]; exact hs)))
theorem st_level {I : xM} {nw sp c : Nat} {x y : Int32} (h : LR I nw sp c) : PairS yX5_level cX5_level 5 yX6_level cX6_level 4 [.int x, .int y] I nw sp c := by
  have hs := h.2.2.2.1.2
  have hnw := h.nwG
  have hns := h.ns
  obtain ⟨T, S, F, W, hG, hW, hB, hcu⟩ := h.2.2.2.2.2.1
  have hT6 := hW.T6
  have hS6 := hW.S6
  have h10 := h.2.2.2.2.2.2.2.2.2.1
  have hbz := h.2.2.2.2.2.2.2.2.2.2 nw hnw
  obtain ⟨dn, D, hn24, hD, d8, d9, d79, hdays⟩ := h.2.2.2.2.2.2.1
  rcases h.2.2.2.2.1 with ⟨s5, s6⟩ | ⟨s5, s6⟩
  · exact pair_ii (fun l => c_X5_level_none l s5) (fun l => c_X6_level_none l (by first | exact s6 | (simp (disch := omega) only [xput_ne, xrow_o, xput_in, xput_e, xrow_e]; exact s6)) ) rfl (h.q (fun o a b c => by simp (disch := omega) only [xput_ne, xrow_o, xput_in, xput_e, xrow_e]) (fun j a => by simp (disch := omega) only [xput_ne, xrow_o, xput_in, xput_e, xrow_e]) (fun j a b => by simp (disch := omega) only [xput_ne, xrow_o, xput_in, xput_e, xrow_e]) (by first | (simp (disch := omega) only [xput_ne, xrow_o, xput_in, xput_e, xrow_e]; done) | (simp (disch := omega) only [xput_ne, xrow_o, xput_in, xput_e, xrow_e]; exact hs)))
  · by_cases hb : 0 ≤ x.toInt ∧ x.toInt ≤ 7
    · obtain ⟨r, hr, rfl⟩ := nI_ex (x := x) (m := 8) (by omega) (by omega)
      rcases h.2.1 r hr with ⟨h1, h2⟩ | ⟨ln, m, hl, hm, c1, c2, c3, c4, c5, c6⟩
      · exact pair_ii (fun l => c_X5_level_null l s5 hr h1) (fun l => c_X6_level_null l (by first | exact s6 | (simp (disch := omega) only [xput_ne, xrow_o, xput_in, xput_e, xrow_e]; exact s6)) hr (by first | exact h2 | (simp (disch := omega) only [xput_ne, xrow_o, xput_in, xput_e, xrow_e]; exact h2))) rfl (h.q (fun o a b c => by simp (disch := omega) only [xput_ne, xrow_o, xput_in, xput_e, xrow_e]) (fun j a => by simp (disch := omega) only [xput_ne, xrow_o, xput_in, xput_e, xrow_e]) (fun j a b => by simp (disch := omega) only [xput_ne, xrow_o, xput_in, xput_e, xrow_e]) (by first | (simp (disch := omega) only [xput_ne, xrow_o, xput_in, xput_e, xrow_e]; done) | (simp (disch := omega) only [xput_ne, xrow_o, xput_in, xput_e, xrow_e]; exact hs)))
      · by_cases hp : 0 ≤ y.toInt ∧ y.toInt + 20 ≤ m
        · obtain ⟨i, hi, rfl⟩ := nI_ex (x := y) (m := 41) (by omega) (by omega)
          rw [nI_toInt (n := i) (by omega)] at hp
          have hi2 : i + 20 ≤ m := by omega
          by_cases hv : ∀ p, p < 20 → 0 ≤ (I 310 (40 * r + i + p)).toInt ∧ (I 310 (40 * r + i + p)).toInt ≤ 60
          · have hv5 : ∀ p, p < 20 → 0 ≤ (I (32 + 2 * r) (i + p)).toInt ∧ (I (32 + 2 * r) (i + p)).toInt ≤ 60 := fun p hp2 => by rw [c6 (i + p) (by omega), ← Nat.add_assoc]; exact hv p hp2
            refine pair_ri (fun l => c_X5_level_ok l s5 hr c1 c4 (by omega) hi2 hnw hG hW d8 hn24 d9 hD hbz hns hv5) (fun r K hP => ?_)
            obtain ⟨rfl, K', ⟨J, hJ, rfl⟩, rfl⟩ := hP
            have j7 : ∀ j, J 307 j = I 307 j := fun j => congrFun (hJ.1 307 (by omega)) j
            have j13 : J 0 13 = I 0 13 := congrFun (hJ.1 0 (by omega)) 13
            have j311 : J 311 = I 311 := hJ.1 311 (by omega)
            have j313 : J 313 = I 313 := hJ.1 313 (by omega)
            have j315 : J 315 = I 315 := hJ.1 315 (by omega)
            have j310 : J 310 = I 310 := hJ.1 310 (by omega)
            have jG : GX J nw (I 311) T S F W := hG.ext (fun i a b => hJ.1 i (by rcases hns with hns | hns <;> omega))
            have jB : BZ J nw := hbz.ext (fun i a b => hJ.1 i (by rcases hns with hns | hns <;> omega))
            rcases Nat.lt_or_ge D 24 with hD24 | hD24
            · refine ⟨_, _, _, ?_, fun l => c_X6_level_oklt (ln := ln) (m := m) (D := D) l (by simp (disch := omega) only [xput_ne, xrow_o, xput_in, xput_e, xrow_e]; exact (j7 7).trans s6) hr (by simp (disch := omega) only [xput_ne, xrow_o, xput_in, xput_e, xrow_e]; rw [hJ.1 308 (by omega)]; exact c3) hl (by simp (disch := omega) only [xput_ne, xrow_o, xput_in, xput_e, xrow_e]; rw [hJ.1 309 (by omega)]; exact c5) (by omega) hi2 (by simp (disch := omega) only [xput_ne, xrow_o, xput_in, xput_e, xrow_e]; rw [j310]; exact hv) (by simp (disch := omega) only [xput_ne, xrow_o, xput_in, xput_e, xrow_e]; exact (j7 9).trans d79) hD24, rfl, h.keep (J := J) hn24 hD hdays hJ (fun o a1 a2 a3 a4 a5 => by simp (disch := omega) only [xput_ne, xrow_o, xput_in, xput_e, xrow_e]) (fun j a1 a2 a3 => by simp (disch := omega) only [xput_ne, xrow_o, xput_in, xput_e, xrow_e]) (by simp (disch := omega) only [xput_ne, xrow_o, xput_in, xput_e, xrow_e]) (by simp (disch := omega) only [xput_ne, xrow_o, xput_in, xput_e, xrow_e]) (fun j a1 a2 a3 => by simp (disch := omega) only [xput_ne, xrow_o, xput_in, xput_e, xrow_e]; exact j7 j) (by simp (disch := omega) only [xput_ne, xrow_o, xput_in, xput_e, xrow_e]; rw [show min 24 (D + 1) = D + 1 by omega]) (by first | (simp (disch := omega) only [xput_ne, xrow_o, xput_in, xput_e, xrow_e]; done) | (simp (disch := omega) only [xput_ne, xrow_o, xput_in, xput_e, xrow_e]; exact (j7 1).trans (hs.trans j13.symm))) (Or.inl ⟨hD24, by simp (disch := omega) only [xput_ne, xrow_o, xput_in, xput_e, xrow_e]; rw [j311, j313]⟩) ?_ ?_⟩
              · decide
              · refine GW.congr (GW.ext (GW.mono (GW.level (c := c) jG hW hB hcu (v := (fun p => I 310 (40 * r + i + p))) (b := va_cpy (J (32 + 2 * r)) (J (nw + 1)) i 0 20) (fun p hp => by rw [hJ.1 (32 + 2 * r) (by omega), pk_cpy_in (Nat.zero_le p) (by omega), c6 _ (by omega)]; congr 1; omega) hv) (Nat.le_succ c)) (fun i a b => by rcases hns with hns | hns <;> (subst hns; simp (disch := omega) only [xput_ne, xrow_o, xput_in, xput_e, xrow_e]; first | done | (refine xput_cg ?_; simp (disch := omega) only [xput_ne, xrow_o, xput_in, xput_e, xrow_e]) | (refine xrow_cg ?_; simp (disch := omega) only [xput_ne, xrow_o, xput_in, xput_e, xrow_e])))) (fun j hj => congrFun (?_ : _ = xfill (I 311) (fun p => I 310 (40 * r + i + p)) 6 20) j)
                first | (simp (disch := omega) only [xput_self, xput_ne, xrow_o, xrow_e, j311, j310]; done) | (simp (disch := omega) only [xput_self, xput_ne, xrow_o, xrow_e, j311, j310]; rfl)
              · refine BZ.ext (I := xrow J (nw + 1) (va_cpy (J (32 + 2 * r)) (J (nw + 1)) i 0 20)) ⟨fun q hq => by rw [xrow_o (by omega)]; exact jB.1 q hq, by rw [xrow_o (by omega)]; exact jB.2⟩ (fun i a b => by rcases hns with hns | hns <;> (subst hns; simp (disch := omega) only [xput_ne, xrow_o, xput_in, xput_e, xrow_e]; first | done | (refine xrow_cg ?_; simp (disch := omega) only [xput_ne, xrow_o, xput_in, xput_e, xrow_e])))
            · obtain rfl : D = 24 := by omega
              refine ⟨_, _, _, ?_, fun l => c_X6_level_okeq (ln := ln) (m := m) l (by simp (disch := omega) only [xput_ne, xrow_o, xput_in, xput_e, xrow_e]; exact (j7 7).trans s6) hr (by simp (disch := omega) only [xput_ne, xrow_o, xput_in, xput_e, xrow_e]; rw [hJ.1 308 (by omega)]; exact c3) hl (by simp (disch := omega) only [xput_ne, xrow_o, xput_in, xput_e, xrow_e]; rw [hJ.1 309 (by omega)]; exact c5) (by omega) hi2 (by simp (disch := omega) only [xput_ne, xrow_o, xput_in, xput_e, xrow_e]; rw [j310]; exact hv) (by simp (disch := omega) only [xput_ne, xrow_o, xput_in, xput_e, xrow_e]; exact (j7 9).trans d79) , rfl, h.keep (J := J) hn24 hD hdays hJ (fun o a1 a2 a3 a4 a5 => by simp (disch := omega) only [xput_ne, xrow_o, xput_in, xput_e, xrow_e]) (fun j a1 a2 a3 => by simp (disch := omega) only [xput_ne, xrow_o, xput_in, xput_e, xrow_e]) (by simp (disch := omega) only [xput_ne, xrow_o, xput_in, xput_e, xrow_e]) (by simp (disch := omega) only [xput_ne, xrow_o, xput_in, xput_e, xrow_e]) (fun j a1 a2 a3 => by simp (disch := omega) only [xput_ne, xrow_o, xput_in, xput_e, xrow_e]; exact j7 j) (by simp (disch := omega) only [xput_ne, xrow_o, xput_in, xput_e, xrow_e]; exact (j7 9).trans d79) (by first | (simp (disch := omega) only [xput_ne, xrow_o, xput_in, xput_e, xrow_e]; done) | (simp (disch := omega) only [xput_ne, xrow_o, xput_in, xput_e, xrow_e]; exact (j7 1).trans (hs.trans j13.symm))) (Or.inr ⟨rfl, by simp (disch := omega) only [xput_ne, xrow_o, xput_in, xput_e, xrow_e]; rw [j311, j313]⟩) ?_ ?_⟩
              · decide
              · refine GW.congr (GW.ext (GW.mono (GW.level (c := c) jG hW hB hcu (v := (fun p => I 310 (40 * r + i + p))) (b := va_cpy (J (32 + 2 * r)) (J (nw + 1)) i 0 20) (fun p hp => by rw [hJ.1 (32 + 2 * r) (by omega), pk_cpy_in (Nat.zero_le p) (by omega), c6 _ (by omega)]; congr 1; omega) hv) (Nat.le_succ c)) (fun i a b => by rcases hns with hns | hns <;> (subst hns; simp (disch := omega) only [xput_ne, xrow_o, xput_in, xput_e, xrow_e]; first | done | (refine xput_cg ?_; simp (disch := omega) only [xput_ne, xrow_o, xput_in, xput_e, xrow_e]) | (refine xrow_cg ?_; simp (disch := omega) only [xput_ne, xrow_o, xput_in, xput_e, xrow_e])))) (fun j hj => congrFun (?_ : _ = xfill (I 311) (fun p => I 310 (40 * r + i + p)) 6 20) j)
                first | (simp (disch := omega) only [xput_self, xput_ne, xrow_o, xrow_e, j311, j310]; done) | (simp (disch := omega) only [xput_self, xput_ne, xrow_o, xrow_e, j311, j310]; rfl)
              · refine BZ.ext (I := xrow J (nw + 1) (va_cpy (J (32 + 2 * r)) (J (nw + 1)) i 0 20)) ⟨fun q hq => by rw [xrow_o (by omega)]; exact jB.1 q hq, by rw [xrow_o (by omega)]; exact jB.2⟩ (fun i a b => by rcases hns with hns | hns <;> (subst hns; simp (disch := omega) only [xput_ne, xrow_o, xput_in, xput_e, xrow_e]; first | done | (refine xrow_cg ?_; simp (disch := omega) only [xput_ne, xrow_o, xput_in, xput_e, xrow_e])))
          · obtain ⟨p, hv⟩ := Classical.not_forall.mp hv
            obtain ⟨hp2, hv⟩ := Classical.not_imp.mp hv
            exact pair_ii (fun l => c_X5_level_val l s5 hr c1 c4 (by omega) hi2 hp2 (by rw [c6 (i + p) (by omega), ← Nat.add_assoc]; exact hv)) (fun l => c_X6_level_val (ln := ln) (m := m) l (by first | exact s6 | (simp (disch := omega) only [xput_ne, xrow_o, xput_in, xput_e, xrow_e]; exact s6)) hr (by first | exact c3 | (simp (disch := omega) only [xput_ne, xrow_o, xput_in, xput_e, xrow_e]; exact c3)) hl (by first | exact c5 | (simp (disch := omega) only [xput_ne, xrow_o, xput_in, xput_e, xrow_e]; exact c5)) (by omega) hi2 hp2 (by first | exact hv | (simp (disch := omega) only [xput_ne, xrow_o, xput_in, xput_e, xrow_e]; exact hv))) rfl (h.q (fun o a b c => by simp (disch := omega) only [xput_ne, xrow_o, xput_in, xput_e, xrow_e]) (fun j a => by simp (disch := omega) only [xput_ne, xrow_o, xput_in, xput_e, xrow_e]) (fun j a b => by simp (disch := omega) only [xput_ne, xrow_o, xput_in, xput_e, xrow_e]) (by first | (simp (disch := omega) only [xput_ne, xrow_o, xput_in, xput_e, xrow_e]; done) | (simp (disch := omega) only [xput_ne, xrow_o, xput_in, xput_e, xrow_e]; exact hs)))
        · exact pair_ii (fun l => c_X5_level_place l s5 hr c1 c4 (by omega) hp) (fun l => c_X6_level_place (ln := ln) (m := m) l (by first | exact s6 | (simp (disch := omega) only [xput_ne, xrow_o, xput_in, xput_e, xrow_e]; exact s6)) hr (by first | exact c3 | (simp (disch := omega) only [xput_ne, xrow_o, xput_in, xput_e, xrow_e]; exact c3)) hl (by first | exact c5 | (simp (disch := omega) only [xput_ne, xrow_o, xput_in, xput_e, xrow_e]; exact c5)) (by omega) hp) rfl (h.q (fun o a b c => by simp (disch := omega) only [xput_ne, xrow_o, xput_in, xput_e, xrow_e]) (fun j a => by simp (disch := omega) only [xput_ne, xrow_o, xput_in, xput_e, xrow_e]) (fun j a b => by simp (disch := omega) only [xput_ne, xrow_o, xput_in, xput_e, xrow_e]) (by first | (simp (disch := omega) only [xput_ne, xrow_o, xput_in, xput_e, xrow_e]; done) | (simp (disch := omega) only [xput_ne, xrow_o, xput_in, xput_e, xrow_e]; exact hs)))
    · exact pair_ii (fun l => c_X5_level_bad l s5 hb) (fun l => c_X6_level_bad l (by first | exact s6 | (simp (disch := omega) only [xput_ne, xrow_o, xput_in, xput_e, xrow_e]; exact s6)) hb) rfl (h.q (fun o a b c => by simp (disch := omega) only [xput_ne, xrow_o, xput_in, xput_e, xrow_e]) (fun j a => by simp (disch := omega) only [xput_ne, xrow_o, xput_in, xput_e, xrow_e]) (fun j a b => by simp (disch := omega) only [xput_ne, xrow_o, xput_in, xput_e, xrow_e]) (by first | (simp (disch := omega) only [xput_ne, xrow_o, xput_in, xput_e, xrow_e]; done) | (simp (disch := omega) only [xput_ne, xrow_o, xput_in, xput_e, xrow_e]; exact hs)))
/-- the garden that stands is taken from another; the days' number is told anew -/
theorem LR.back {I J M : xM} {nw sp c g : Nat} {b : Nat → Int32} (h : LR I nw sp c) (hg : xG g) (hgw : GW I g b c) (hJ : gcopy I J nw g) (e : ∀ o, o ≠ 0 → o ≠ 307 → o ≠ 311 → M o = J o) (e0 : ∀ j, j ≠ 8 → j ≠ 9 → j ≠ 13 → M 0 j = I 0 j) (e7 : ∀ j, j ≠ 0 → j ≠ 1 → j ≠ 9 → M 307 j = I 307 j) (es : M 307 1 = M 0 13) (e311 : ∀ j, j < 74 → M 311 j = b j)
    (h7 : ∃ n D, n < 24 ∧ D ≤ 24 ∧ M 0 8 = nI n ∧ M 0 9 = nI D ∧ M 307 9 = nI D ∧ ∀ d, d < D → GW I (47 + 10 * ((n + 24 - D + d) % 24)) (fun j => I 313 (74 * d + j)) c) : LR M nw sp (c + 1) := by
  have hns := h.ns
  have hnw := h.nwG
  obtain ⟨h1, h2, h3, h4, h5, h6, h7', h8, h9, h10, h11⟩ := h
  have eo : ∀ o, o ≠ 0 → o ≠ 307 → o ≠ 311 → (o < nw ∨ nw + 10 ≤ o) → M o = I o := fun o a1 a2 a3 a4 => (e o a1 a2 a3).trans (hJ.1 o a4)
  have jg : GW J nw b c := by
    obtain ⟨T, S, F, W, g1, g2, g3, g4⟩ := hgw
    exact ⟨T, S, F, W, hJ.gx g1 g2.T6 g2.S6, g2, g3, g4⟩
  refine ⟨h1, h2.tr (fun o ho => eo o (by omega) (by omega) (by omega) (by omega)), h3.tr (by rw [eo 2 (by omega) (by omega) (by omega) (by omega)]) (eo 3 (by omega) (by omega) (by omega) (by omega)) (e7 11 (by omega) (by omega) (by omega)) (eo 314 (by omega) (by omega) (by omega) (by omega)), ⟨?_, es⟩, h5.tr (e0 6 (by omega) (by omega) (by omega)) (e7 7 (by omega) (by omega) (by omega)), ?_, ?_, h8.mono.tr (eo 30 (by omega) (by omega) (by omega) (by omega)) (eo 316 (by omega) (by omega) (by omega) (by omega)) (eo 317 (by omega) (by omega) (by omega) (by omega)) (fun i a b => eo i (by omega) (by omega) (by omega) (by omega)), h9.tr (by rw [eo 6 (by omega) (by omega) (by omega) (by omega)]) (eo 7 (by omega) (by omega) (by omega) (by omega)) (e7 24 (by omega) (by omega) (by omega)) (eo 318 (by omega) (by omega) (by omega) (by omega)), h10.tr (eo 315 (by omega) (by omega) (by omega) (by omega)), fun q hq => ?_⟩
  · rw [e7 12 (by omega) (by omega) (by omega), e0 12 (by omega) (by omega) (by omega)]; exact h4.1
  · exact ((jg.ext (fun i a b => e i (by omega) (by omega) (by omega))).congr e311).mono (Nat.le_succ c)
  · obtain ⟨n, D, a1, a2, a3, a4, a5, a6⟩ := h7
    refine ⟨n, D, a1, a2, a3, a4, a5, fun d hd => ?_⟩
    rw [eo 313 (by omega) (by omega) (by omega) (by omega)]
    exact ((a6 d hd).mono (Nat.le_succ c)).ext (fun i x y => eo i (by omega) (by omega) (by omega) (by omega))
  · by_cases eq : q = nw
    · subst eq
      exact (hJ.bz (h11 g hg)).ext (fun i a b => e i (by omega) (by omega) (by omega))
    · refine (h11 q hq).ext (fun i a b => ?_)
      rcases hq with hq | hq | ⟨k, hk, hq⟩ <;> rcases hns with hns | hns <;> exact eo i (by omega) (by omega) (by omega) (by omega)
theorem st_undo {I : xM} {nw sp c : Nat}  (h : LR I nw sp c) : PairS yX5_undo cX5_undo 1 yX6_undo cX6_undo 2 [] I nw sp c := by
  have hs := h.2.2.2.1.2
  have hnw := h.nwG
  have hns := h.ns
  obtain ⟨T, S, F, W, hG, hW, hB, hcu⟩ := h.2.2.2.2.2.1
  have hT6 := hW.T6
  have hS6 := hW.S6
  have h10 := h.2.2.2.2.2.2.2.2.2.1
  have hbz := h.2.2.2.2.2.2.2.2.2.2 nw hnw
  obtain ⟨dn, D, hn24, hD, d8, d9, d79, hdays⟩ := h.2.2.2.2.2.2.1
  rcases Nat.eq_zero_or_pos D with hD0 | hD0
  · subst hD0
    exact pair_ii (fun l => c_X5_undo_none l d9) (fun l => c_X6_undo_none l (by first | exact d79 | (simp (disch := omega) only [xput_ne, xrow_o, xput_in, xput_e, xrow_e]; exact d79))) rfl (h.q (fun o a b c => by simp (disch := omega) only [xput_ne, xrow_o, xput_in, xput_e, xrow_e]) (fun j a => by simp (disch := omega) only [xput_ne, xrow_o, xput_in, xput_e, xrow_e]) (fun j a b => by simp (disch := omega) only [xput_ne, xrow_o, xput_in, xput_e, xrow_e]) (by first | (simp (disch := omega) only [xput_ne, xrow_o, xput_in, xput_e, xrow_e]; done) | (simp (disch := omega) only [xput_ne, xrow_o, xput_in, xput_e, xrow_e]; exact hs)))
  · obtain ⟨D', rfl⟩ : ∃ D', D = D' + 1 := ⟨D - 1, by omega⟩
    have hday := hdays D' (Nat.lt_succ_self D')
    rcases Nat.eq_zero_or_pos dn with hn0 | hn0
    · subst hn0
      rw [show (0 + 24 - (D' + 1) + D') % 24 = 23 by omega] at hday
      have g23 : xG (47 + 10 * 23) := Or.inr (Or.inr ⟨23, by omega, rfl⟩)
      refine pair_ri (fun l => c_X5_undo_z l hnw hns d9 (by omega) d8 (by omega) (h.2.2.2.2.2.2.2.2.2.2 _ g23)) (fun r K hP => ?_)
      obtain ⟨rfl, J, hJ, rfl⟩ := hP
      have j7 : ∀ j, J 307 j = I 307 j := fun j => (congrFun (hJ.1 307 (by omega)) j).trans (by simp (disch := omega) only [xput_ne, xrow_o, xput_in, xput_e, xrow_e])
      have j0 : ∀ j, J 0 j = xput I 0 8 (nI 23) 0 j := fun j => congrFun (hJ.1 0 (by omega)) j
      have j311 : J 311 = I 311 := (hJ.1 311 (by omega)).trans (by simp (disch := omega) only [xput_ne, xrow_o, xput_in, xput_e, xrow_e])
      have j313 : J 313 = I 313 := (hJ.1 313 (by omega)).trans (by simp (disch := omega) only [xput_ne, xrow_o, xput_in, xput_e, xrow_e])
      refine ⟨_, _, _, ?_, fun l => c_X6_undo_ok (D := D') l (by simp (disch := omega) only [xput_ne, xrow_o, xput_in, xput_e, xrow_e]; exact (j7 9).trans d79) (by omega), rfl, LR.back (I := I) (J := xput J 0 8 (I 0 8)) h g23 hday ?_ (fun o a1 a2 a3 => by simp (disch := omega) only [xput_ne, xrow_o, xput_in, xput_e, xrow_e]) (fun j a1 a2 a3 => by simp (disch := omega) only [xput_ne, xrow_o, xput_in, xput_e, xrow_e]; rw [j0]; simp (disch := omega) only [xput_ne, xrow_o, xput_in, xput_e, xrow_e]) (fun j a1 a2 a3 => by simp (disch := omega) only [xput_ne, xrow_o, xput_in, xput_e, xrow_e]; exact j7 j) (by simp (disch := omega) only [xput_ne, xrow_o, xput_in, xput_e, xrow_e]; exact (j7 1).trans (hs.trans (by rw [j0]; simp (disch := omega) only [xput_ne, xrow_o, xput_in, xput_e, xrow_e]))) (fun j hj => by simp (disch := omega) only [xput_ne, xrow_o, xput_in, xput_e, xrow_e]; rw [xfill_in (Nat.zero_le j) (by omega), j313]; rfl) ⟨23, D', by omega, by omega, by simp (disch := omega) only [xput_ne, xrow_o, xput_in, xput_e, xrow_e]; rw [j0]; simp (disch := omega) only [xput_ne, xrow_o, xput_in, xput_e, xrow_e], by simp (disch := omega) only [xput_ne, xrow_o, xput_in, xput_e, xrow_e], by simp (disch := omega) only [xput_ne, xrow_o, xput_in, xput_e, xrow_e], fun d hd => by have := hdays d (by omega); rw [show (0 + 24 - (D' + 1) + d) % 24 = (23 + 24 - D' + d) % 24 by omega] at this; exact this⟩⟩
      · decide
      · refine ⟨fun i hi => ?_, ?_, ?_, ?_⟩
        · by_cases e : i = 0
          · subst e; funext j
            by_cases ej : j = 8
            · subst ej; simp (disch := omega) only [xput_ne, xrow_o, xput_in, xput_e, xrow_e]
            · simp (disch := omega) only [xput_ne, xrow_o, xput_in, xput_e, xrow_e]; rw [j0]; simp (disch := omega) only [xput_ne, xrow_o, xput_in, xput_e, xrow_e]
          · rw [xput_ne e, hJ.1 i hi, xput_ne e]
        · have q := hJ.2.1
          rw [xput_ne (by omega)] at q ⊢
          exact q
        · have q := hJ.2.2.1
          intro p hp
          have := q p hp
          rw [xput_ne (by omega)] at this ⊢
          exact this
        · have q := hJ.2.2.2
          intro p hp
          have := q p hp
          simp (disch := omega) only [xput_ne] at this ⊢
          exact this
    · obtain ⟨m, rfl⟩ : ∃ m, dn = m + 1 := ⟨dn - 1, by omega⟩
      rw [show (m + 1 + 24 - (D' + 1) + D') % 24 = m by omega] at hday
      have gm : xG (47 + 10 * m) := Or.inr (Or.inr ⟨m, by omega, rfl⟩)
      refine pair_ri (fun l => c_X5_undo_s l hnw hns d9 (by omega) d8 hn24 (h.2.2.2.2.2.2.2.2.2.2 _ gm)) (fun r K hP => ?_)
      obtain ⟨rfl, J, hJ, rfl⟩ := hP
      have j7 : ∀ j, J 307 j = I 307 j := fun j => (congrFun (hJ.1 307 (by omega)) j).trans (by simp (disch := omega) only [xput_ne, xrow_o, xput_in, xput_e, xrow_e])
      have j0 : ∀ j, J 0 j = xput I 0 8 (nI m) 0 j := fun j => congrFun (hJ.1 0 (by omega)) j
      have j311 : J 311 = I 311 := (hJ.1 311 (by omega)).trans (by simp (disch := omega) only [xput_ne, xrow_o, xput_in, xput_e, xrow_e])
      have j313 : J 313 = I 313 := (hJ.1 313 (by omega)).trans (by simp (disch := omega) only [xput_ne, xrow_o, xput_in, xput_e, xrow_e])
      refine ⟨_, _, _, ?_, fun l => c_X6_undo_ok (D := D') l (by simp (disch := omega) only [xput_ne, xrow_o, xput_in, xput_e, xrow_e]; exact (j7 9).trans d79) (by omega), rfl, LR.back (I := I) (J := xput J 0 8 (I 0 8)) h gm hday ?_ (fun o a1 a2 a3 => by simp (disch := omega) only [xput_ne, xrow_o, xput_in, xput_e, xrow_e]) (fun j a1 a2 a3 => by simp (disch := omega) only [xput_ne, xrow_o, xput_in, xput_e, xrow_e]; rw [j0]; simp (disch := omega) only [xput_ne, xrow_o, xput_in, xput_e, xrow_e]) (fun j a1 a2 a3 => by simp (disch := omega) only [xput_ne, xrow_o, xput_in, xput_e, xrow_e]; exact j7 j) (by simp (disch := omega) only [xput_ne, xrow_o, xput_in, xput_e, xrow_e]; exact (j7 1).trans (hs.trans (by rw [j0]; simp (disch := omega) only [xput_ne, xrow_o, xput_in, xput_e, xrow_e]))) (fun j hj => by simp (disch := omega) only [xput_ne, xrow_o, xput_in, xput_e, xrow_e]; rw [xfill_in (Nat.zero_le j) (by omega), j313]; rfl) ⟨m, D', by omega, by omega, by simp (disch := omega) only [xput_ne, xrow_o, xput_in, xput_e, xrow_e]; rw [j0]; simp (disch := omega) only [xput_ne, xrow_o, xput_in, xput_e, xrow_e], by simp (disch := omega) only [xput_ne, xrow_o, xput_in, xput_e, xrow_e], by simp (disch := omega) only [xput_ne, xrow_o, xput_in, xput_e, xrow_e], fun d hd => by have := hdays d (by omega); rw [show (m + 1 + 24 - (D' + 1) + d) % 24 = (m + 24 - D' + d) % 24 by omega] at this; exact this⟩⟩
      · decide
      · refine ⟨fun i hi => ?_, ?_, ?_, ?_⟩
        · by_cases e : i = 0
          · subst e; funext j
            by_cases ej : j = 8
            · subst ej; simp (disch := omega) only [xput_ne, xrow_o, xput_in, xput_e, xrow_e]
            · simp (disch := omega) only [xput_ne, xrow_o, xput_in, xput_e, xrow_e]; rw [j0]; simp (disch := omega) only [xput_ne, xrow_o, xput_in, xput_e, xrow_e]
          · rw [xput_ne e, hJ.1 i hi, xput_ne e]
        · have q := hJ.2.1
          rw [xput_ne (by omega)] at q ⊢
          exact q
        · have q := hJ.2.2.1
          intro p hp
          have := q p hp
          rw [xput_ne (by omega)] at this ⊢
          exact this
        · have q := hJ.2.2.2
          intro p hp
          have := q p hp
          simp (disch := omega) only [xput_ne] at this ⊢
          exact this
theorem st_restore {I : xM} {nw sp c : Nat} {x : Int32} (h : LR I nw sp c) : PairS yX5_restore cX5_restore 2 yX6_restore cX6_restore 3 [.int x] I nw sp c := by
  have hs := h.2.2.2.1.2
  have hnw := h.nwG
  have hns := h.ns
  obtain ⟨T, S, F, W, hG, hW, hB, hcu⟩ := h.2.2.2.2.2.1
  have hT6 := hW.T6
  have hS6 := hW.S6
  have h10 := h.2.2.2.2.2.2.2.2.2.1
  have hbz := h.2.2.2.2.2.2.2.2.2.2 nw hnw
  obtain ⟨dn, D, hn24, hD, d8, d9, d79, hdays⟩ := h.2.2.2.2.2.2.1
  by_cases hb : 0 ≤ x.toInt ∧ x.toInt ≤ 1
  · obtain ⟨k, hk, rfl⟩ := nI_ex (x := x) (m := 2) (by omega) (by omega)
    rcases h.2.2.2.2.2.2.2.1 k hk with ⟨a1, a2⟩ | ⟨a1, a2, a3⟩
    · exact pair_ii (fun l => c_X5_restore_state l hk a1) (fun l => c_X6_restore_state l hk (by first | exact a2 | (simp (disch := omega) only [xput_ne, xrow_o, xput_in, xput_e, xrow_e]; exact a2))) rfl (h.q (fun o a b c => by simp (disch := omega) only [xput_ne, xrow_o, xput_in, xput_e, xrow_e]) (fun j a => by simp (disch := omega) only [xput_ne, xrow_o, xput_in, xput_e, xrow_e]) (fun j a b => by simp (disch := omega) only [xput_ne, xrow_o, xput_in, xput_e, xrow_e]) (by first | (simp (disch := omega) only [xput_ne, xrow_o, xput_in, xput_e, xrow_e]; done) | (simp (disch := omega) only [xput_ne, xrow_o, xput_in, xput_e, xrow_e]; exact hs)))
    · have gk : xG (287 + 10 * k) := Or.inr (Or.inr ⟨24 + k, by omega, by omega⟩)
      refine pair_ri (fun l => c_X5_restore_ok l hk a1 hnw hns (h.2.2.2.2.2.2.2.2.2.2 _ gk)) (fun r K hP => ?_)
      obtain ⟨rfl, J, hJ, rfl⟩ := hP
      have j7 : ∀ j, J 307 j = I 307 j := fun j => congrFun (hJ.1 307 (by omega)) j
      have j0 : ∀ j, J 0 j = I 0 j := fun j => congrFun (hJ.1 0 (by omega)) j
      have j317 : J 317 = I 317 := hJ.1 317 (by omega)
      refine ⟨_, _, _, ?_, fun l => c_X6_restore_ok l hk (by simp (disch := omega) only [xput_ne, xrow_o, xput_in, xput_e, xrow_e]; rw [hJ.1 316 (by omega)]; exact a2), rfl, LR.back h gk a3 hJ (fun o b1 b2 b3 => by simp (disch := omega) only [xput_ne, xrow_o, xput_in, xput_e, xrow_e]) (fun j b1 b2 b3 => by simp (disch := omega) only [xput_ne, xrow_o, xput_in, xput_e, xrow_e]; exact j0 j) (fun j b1 b2 b3 => by simp (disch := omega) only [xput_ne, xrow_o, xput_in, xput_e, xrow_e]; exact j7 j) (by simp (disch := omega) only [xput_ne, xrow_o, xput_in, xput_e, xrow_e]; exact (j7 1).trans (hs.trans (j0 13).symm)) (fun j hj => by simp (disch := omega) only [xput_ne, xrow_o, xput_in, xput_e, xrow_e]; rw [xfill_in (Nat.zero_le j) (by omega), j317]; rfl) ⟨dn, 0, hn24, by omega, by simp (disch := omega) only [xput_ne, xrow_o, xput_in, xput_e, xrow_e]; exact (j0 8).trans d8, by simp (disch := omega) only [xput_ne, xrow_o, xput_in, xput_e, xrow_e], by simp (disch := omega) only [xput_ne, xrow_o, xput_in, xput_e, xrow_e], fun d hd => absurd hd (Nat.not_lt_zero d)⟩⟩
      decide
  · exact pair_ii (fun l => c_X5_restore_bad l hb) (fun l => c_X6_restore_bad l hb) rfl (h.q (fun o a b c => by simp (disch := omega) only [xput_ne, xrow_o, xput_in, xput_e, xrow_e]) (fun j a => by simp (disch := omega) only [xput_ne, xrow_o, xput_in, xput_e, xrow_e]) (fun j a b => by simp (disch := omega) only [xput_ne, xrow_o, xput_in, xput_e, xrow_e]) (by first | (simp (disch := omega) only [xput_ne, xrow_o, xput_in, xput_e, xrow_e]; done) | (simp (disch := omega) only [xput_ne, xrow_o, xput_in, xput_e, xrow_e]; exact hs)))
theorem st_image {I : xM} {nw sp c : Nat} {x : Int32} (h : LR I nw sp c) : PairS yX5_image cX5_image 2 yX6_image cX6_image 3 [.int x] I nw sp c := by
  have hs := h.2.2.2.1.2
  have hnw := h.nwG
  have hns := h.ns
  obtain ⟨T, S, F, W, hG, hW, hB, hcu⟩ := h.2.2.2.2.2.1
  have hT6 := hW.T6
  have hS6 := hW.S6
  have h10 := h.2.2.2.2.2.2.2.2.2.1
  have hbz := h.2.2.2.2.2.2.2.2.2.2 nw hnw
  obtain ⟨dn, D, hn24, hD, d8, d9, d79, hdays⟩ := h.2.2.2.2.2.2.1
  by_cases hb : 0 ≤ x.toInt ∧ x.toInt ≤ 1
  · obtain ⟨k, hk, rfl⟩ := nI_ex (x := x) (m := 2) (by omega) (by omega)
    rcases h.2.2.2.2.1 with ⟨s5, s6⟩ | ⟨s5, s6⟩
    · exact pair_ii (fun l => c_X5_image_state l s5 hk) (fun l => c_X6_image_state l (by first | exact s6 | (simp (disch := omega) only [xput_ne, xrow_o, xput_in, xput_e, xrow_e]; exact s6)) hk) rfl (h.q (fun o a b c => by simp (disch := omega) only [xput_ne, xrow_o, xput_in, xput_e, xrow_e]) (fun j a => by simp (disch := omega) only [xput_ne, xrow_o, xput_in, xput_e, xrow_e]) (fun j a b => by simp (disch := omega) only [xput_ne, xrow_o, xput_in, xput_e, xrow_e]) (by first | (simp (disch := omega) only [xput_ne, xrow_o, xput_in, xput_e, xrow_e]; done) | (simp (disch := omega) only [xput_ne, xrow_o, xput_in, xput_e, xrow_e]; exact hs)))
    · have gk : xG (287 + 10 * k) := Or.inr (Or.inr ⟨24 + k, by omega, by omega⟩)
      refine pair_ri (fun l => c_X5_image_ok l s5 hk hnw hns hbz) (fun r K hP => ?_)
      obtain ⟨rfl, J, hJ, rfl⟩ := hP
      have jo : ∀ i, (i < 287 + 10 * k ∨ 287 + 10 * k + 10 ≤ i) → J i = I i := fun i hi => hJ.1 i hi
      refine ⟨_, _, _, ?_, fun l => c_X6_image_ok l (by simp (disch := omega) only [xput_ne, xrow_o, xput_in, xput_e, xrow_e]; exact (congrFun (jo 307 (by omega)) 7).trans s6) hk, rfl, ?_⟩
      · decide
      · obtain ⟨h1, h2, h3, h4, h5, h6, h7, h8, h9, h10', h11⟩ := h
        have eo : ∀ o, o ≠ 30 → o ≠ 307 → o ≠ 316 → o ≠ 317 → (o < 287 + 10 * k ∨ 287 + 10 * k + 10 ≤ o) → xput (xrow (xput (xput J 30 k (nI 1)) 307 0 (nI 0)) 317 (xfill ((xput J 30 k (nI 1)) 317) ((xput J 30 k (nI 1)) 311) (74 * k) 74)) 316 k (nI 1) o = I o := fun o b1 b2 b3 b4 b5 => by simp (disch := omega) only [xput_ne, xrow_o, xput_in, xput_e, xrow_e]; exact jo o b5
        have e7 : ∀ j, j ≠ 0 → xput (xrow (xput (xput J 30 k (nI 1)) 307 0 (nI 0)) 317 (xfill ((xput J 30 k (nI 1)) 317) ((xput J 30 k (nI 1)) 311) (74 * k) 74)) 316 k (nI 1) 307 j = I 307 j := fun j b1 => by simp (disch := omega) only [xput_ne, xrow_o, xput_in, xput_e, xrow_e]; exact congrFun (jo 307 (by omega)) j
        refine ⟨h1, h2.tr (fun o ho => eo o (by omega) (by omega) (by omega) (by omega) (by omega)), h3.tr (by rw [eo 2 (by omega) (by omega) (by omega) (by omega) (by omega)]) (eo 3 (by omega) (by omega) (by omega) (by omega) (by omega)) (e7 11 (by omega)) (eo 314 (by omega) (by omega) (by omega) (by omega) (by omega)), ⟨?_, ?_⟩, h5.tr (by rw [eo 0 (by omega) (by omega) (by omega) (by omega) (by omega)]) (e7 7 (by omega)), ?_, h7.mono.tr (by rw [eo 0 (by omega) (by omega) (by omega) (by omega) (by omega)]) (by rw [eo 0 (by omega) (by omega) (by omega) (by omega) (by omega)]) (e7 9 (by omega)) (eo 313 (by omega) (by omega) (by omega) (by omega) (by omega)) (fun i a b => eo i (by omega) (by omega) (by omega) (by omega) (by omega)), fun q hq => ?_, h9.tr (by rw [eo 6 (by omega) (by omega) (by omega) (by omega) (by omega)]) (eo 7 (by omega) (by omega) (by omega) (by omega) (by omega)) (e7 24 (by omega)) (eo 318 (by omega) (by omega) (by omega) (by omega) (by omega)), h10'.tr (eo 315 (by omega) (by omega) (by omega) (by omega) (by omega)), fun g hg => ?_⟩
        · rw [e7 12 (by omega), eo 0 (by omega) (by omega) (by omega) (by omega) (by omega)]; exact h4.1
        · rw [e7 1 (by omega), eo 0 (by omega) (by omega) (by omega) (by omega) (by omega)]; exact h4.2
        · rw [eo 311 (by omega) (by omega) (by omega) (by omega) (by omega)]
          exact (h6.mono (Nat.le_succ c)).ext (fun i a b => eo i (by omega) (by omega) (by omega) (by omega) (by omega))
        · by_cases e : q = k
          · subst e
            refine Or.inr ⟨by simp (disch := omega) only [xput_ne, xrow_o, xput_in, xput_e, xrow_e], by simp (disch := omega) only [xput_ne, xrow_o, xput_in, xput_e, xrow_e], ?_⟩
            refine (GW.ext (I := J) ?_ (fun i a b => by simp (disch := omega) only [xput_ne, xrow_o, xput_in, xput_e, xrow_e])).congr (f := I 311) (fun j hj => ?_)
            · exact ⟨T, S, F, W, hJ.gx hG hT6 hS6, hW, hB, fun t ht => by have := hcu t ht; omega⟩
            · simp (disch := omega) only [xput_ne, xrow_o, xput_in, xput_e, xrow_e]
              rw [xfill_in (by omega) (by omega), jo 311 (by omega), show 74 * q + j - 74 * q = j by omega]
          · have q8 := (h8.mono) q hq
            rw [show xput (xrow (xput (xput J 30 k (nI 1)) 307 0 (nI 0)) 317 (xfill ((xput J 30 k (nI 1)) 317) ((xput J 30 k (nI 1)) 311) (74 * k) 74)) 316 k (nI 1) 30 q = I 30 q by simp (disch := omega) only [xput_ne, xrow_o, xput_in, xput_e, xrow_e]; rw [jo 30 (by omega)], show xput (xrow (xput (xput J 30 k (nI 1)) 307 0 (nI 0)) 317 (xfill ((xput J 30 k (nI 1)) 317) ((xput J 30 k (nI 1)) 311) (74 * k) 74)) 316 k (nI 1) 316 q = I 316 q by simp (disch := omega) only [xput_ne, xrow_o, xput_in, xput_e, xrow_e]; rw [jo 316 (by omega)]]
            rcases q8 with q8 | ⟨b1, b2, b3⟩
            · exact Or.inl q8
            · refine Or.inr ⟨b1, b2, (b3.ext (fun i x y => eo i (by omega) (by omega) (by omega) (by omega) (by omega))).congr (fun j hj => ?_)⟩
              simp (disch := omega) only [xput_ne, xrow_o, xput_in, xput_e, xrow_e]
              rw [xfill_out (by omega), jo 317 (by omega)]
        · by_cases e : g = 287 + 10 * k
          · subst e
            exact (hJ.bz hbz).ext (fun i a b => by simp (disch := omega) only [xput_ne, xrow_o, xput_in, xput_e, xrow_e])
          · refine (h11 g hg).ext (fun i a b => ?_)
            rcases hg with hg | hg | ⟨q, hq, hg⟩ <;> exact eo i (by omega) (by omega) (by omega) (by omega) (by omega)
  · exact pair_ii (fun l => c_X5_image_bad l hb) (fun l => c_X6_image_bad l hb) rfl (h.q (fun o a b c => by simp (disch := omega) only [xput_ne, xrow_o, xput_in, xput_e, xrow_e]) (fun j a => by simp (disch := omega) only [xput_ne, xrow_o, xput_in, xput_e, xrow_e]) (fun j a b => by simp (disch := omega) only [xput_ne, xrow_o, xput_in, xput_e, xrow_e]) (by first | (simp (disch := omega) only [xput_ne, xrow_o, xput_in, xput_e, xrow_e]; done) | (simp (disch := omega) only [xput_ne, xrow_o, xput_in, xput_e, xrow_e]; exact hs)))