theorem LR.trc {I M : xM} {nw sp c n : Nat} (h : LR I nw sp c) (e : ∀ o, o ≠ 6 → o ≠ 7 → o ≠ 307 → o ≠ 318 → M o = I o) (e7 : ∀ j, j ≠ 0 → j ≠ 24 → M 307 j = I 307 j) (hn : n ≤ 16) (t1 : M 6 1 = nI n) (t2 : M 307 24 = nI n) (t3 : ∀ i, i < n → M 7 i = M 318 i) : LR M nw sp (c + 1) := by
  obtain ⟨h1, h2, h3, h4, h5, h6, h7, h8, h9, h10, h11⟩ := h
  have e0 : M 0 = I 0 := e 0 (by omega) (by omega) (by omega) (by omega)
  refine ⟨h1, h2.tr (fun o ho => e o (by omega) (by omega) (by omega) (by omega)), h3.tr (by rw [e 2 (by omega) (by omega) (by omega) (by omega)]) (e 3 (by omega) (by omega) (by omega) (by omega)) (e7 11 (by omega) (by omega)) (e 314 (by omega) (by omega) (by omega) (by omega)), ⟨?_, ?_⟩, h5.tr (by rw [e0]) (e7 7 (by omega) (by omega)), ?_, h7.mono.tr (by rw [e0]) (by rw [e0]) (e7 9 (by omega) (by omega)) (e 313 (by omega) (by omega) (by omega) (by omega)) (fun i a b => e i (by omega) (by omega) (by omega) (by omega)), h8.mono.tr (e 30 (by omega) (by omega) (by omega) (by omega)) (e 316 (by omega) (by omega) (by omega) (by omega)) (e 317 (by omega) (by omega) (by omega) (by omega)) (fun i a b => e i (by omega) (by omega) (by omega) (by omega)), ⟨n, hn, t1, t2, t3⟩, h10.tr (e 315 (by omega) (by omega) (by omega) (by omega)), h11.tr (fun i hi => e i (by omega) (by omega) (by omega) (by omega))⟩
  · rw [e7 12 (by omega) (by omega), e0]; exact h4.1
  · rw [e7 1 (by omega) (by omega), e0]; exact h4.2
  · rw [e 311 (by omega) (by omega) (by omega) (by omega)]
    exact (h6.mono (Nat.le_succ c)).ext (fun i a b => e i (by rcases h1 with h1 | h1 <;> omega) (by rcases h1 with h1 | h1 <;> omega) (by rcases h1 with h1 | h1 <;> omega) (by rcases h1 with h1 | h1 <;> omega))
/-- the bars and the added have changed, and a row's unused end -/
theorem LR.add {I M : xM} {nw sp c : Nat} (h : LR I nw sp c) (e : ∀ o, o ≠ 5 → o ≠ 307 → o ≠ 311 → o ≠ 315 → M o = I o) (e7 : ∀ j, j ≠ 0 → M 307 j = I 307 j) (hg : GW I nw (M 311) c) (hz : L10 M) : LR M nw sp (c + 1) := by
  obtain ⟨h1, h2, h3, h4, h5, h6, h7, h8, h9, h10, h11⟩ := h
  have e0 : M 0 = I 0 := e 0 (by omega) (by omega) (by omega) (by omega)
  refine ⟨h1, h2.tr (fun o ho => e o (by omega) (by omega) (by omega) (by omega)), h3.tr (by rw [e 2 (by omega) (by omega) (by omega) (by omega)]) (e 3 (by omega) (by omega) (by omega) (by omega)) (e7 11 (by omega)) (e 314 (by omega) (by omega) (by omega) (by omega)), ⟨?_, ?_⟩, h5.tr (by rw [e0]) (e7 7 (by omega)), ?_, h7.mono.tr (by rw [e0]) (by rw [e0]) (e7 9 (by omega)) (e 313 (by omega) (by omega) (by omega) (by omega)) (fun i a b => e i (by omega) (by omega) (by omega) (by omega)), h8.mono.tr (e 30 (by omega) (by omega) (by omega) (by omega)) (e 316 (by omega) (by omega) (by omega) (by omega)) (e 317 (by omega) (by omega) (by omega) (by omega)) (fun i a b => e i (by omega) (by omega) (by omega) (by omega)), h9.tr (by rw [e 6 (by omega) (by omega) (by omega) (by omega)]) (e 7 (by omega) (by omega) (by omega) (by omega)) (e7 24 (by omega)) (e 318 (by omega) (by omega) (by omega) (by omega)), hz, h11.tr (fun i hi => e i (by omega) (by omega) (by omega) (by omega))⟩
  · rw [e7 12 (by omega), e0]; exact h4.1
  · rw [e7 1 (by omega), e0]; exact h4.2
  · exact (hg.mono (Nat.le_succ c)).ext (fun i a b => e i (by rcases h1 with h1 | h1 <;> omega) (by rcases h1 with h1 | h1 <;> omega) (by rcases h1 with h1 | h1 <;> omega) (by rcases h1 with h1 | h1 <;> omega))
theorem GW.tail {I : xM} {g c T S F W : Nat} {f b : Nat → Int32} (h : GX I g f T S F W) (hW : WF f T S F W) (hB : BD f T S) (hc : ∀ t, t < T → (f (26 + 5 * t + 4)).toInt ≤ 99 * (c : Int)) (hT : T ≤ 5) (o : ∀ j, (j < 26 + 5 * T ∨ 26 + 5 * T + 5 ≤ j) → b j = f j) : GW I g b c := by
  have hS6 := hW.S6
  refine ⟨T, S, F, W, ⟨⟨h.tr, h.th, ?_, ?_⟩, fun q hq => ?_, fun u hu => ⟨?_, ?_, ?_, ?_, ?_⟩, fun k hk => ⟨?_, ?_, ?_⟩, h.la⟩, ⟨⟨?_, ?_, hW.T6, hS6⟩, fun k hk => ?_, fun u hu => ?_, fun u hu => ?_, fun u x hu hx => ?_, fun k hk => ?_, ?_, ?_⟩, ⟨fun p hp => ?_, fun u hu => ?_, fun k hk => ?_, ?_⟩, fun u hu => ?_⟩
  · rw [o _ (by omega)]; exact h.ye
  · rw [o _ (by omega)]; exact h.wi
  · rw [o _ (by omega)]; exact h.gr hq
  · rw [o _ (by omega)]; exact h.k0 hu
  · rw [o _ (by omega)]; exact h.k1 hu
  · rw [o _ (by omega)]; exact h.k2 hu
  · rw [o _ (by omega)]; exact h.k3 hu
  · rw [o _ (by omega)]; exact h.k4 hu
  · rw [o _ (by omega)]; exact h.s0 hk
  · rw [o _ (by omega)]; exact h.s1 hk
  · rw [o _ (by omega)]; exact h.s2 hk
  · rw [o _ (by omega)]; exact hW.T0
  · rw [o _ (by omega)]; exact hW.S0
  · have e : tsF b k = tsF f k := by unfold tsF; rw [o _ (by omega)]
    rw [e, o _ (by omega)]; exact ⟨hW.ts hk, hW.ts9 hk⟩
  · rw [o _ (by omega)]; exact hW.kd hu
  · rw [o _ (by omega)]; exact hW.st hu
  · rw [o _ (by omega), o _ (by omega)]; exact hW.ne hu hx
  · rw [o _ (by omega)]; exact hW.sh hk
  · rw [o _ (by omega)]; exact hW.wi
  · rw [o _ (by omega), o _ (by omega)]; exact hW.lk
  · rw [o _ (by omega)]; exact hB.1 p hp
  · rw [o _ (by omega), o _ (by omega), o _ (by omega)]; exact hB.2.1 u hu
  · rw [o _ (by omega)]; exact hB.2.2.1 k hk
  · rw [o _ (by omega)]; exact hB.2.2.2
  · rw [o _ (by omega)]; exact hc u hu
set_option maxHeartbeats 2000000 in
theorem st_cut {I : xM} {nw sp c : Nat} {E x y v : Int32} (h : LR I nw sp c) : PairS yX5_cut cX5_cut 7 yX6_cut cX6_cut 11 [.int E, .int x, .int y, .int v] I nw sp c := by
  have hs := h.2.2.2.1.2
  have hnw := h.nwG
  obtain ⟨T, S, F, W, hG, hW, hB, hcu⟩ := h.2.2.2.2.2.1
  have hT6 := hW.T6
  have hS6 := hW.S6
  have h10 := h.2.2.2.2.2.2.2.2.2.1
  by_cases hA : 0 ≤ E.toInt ∧ (0 ≤ x.toInt ∧ x.toInt < T) ∧ (0 ≤ y.toInt ∧ y.toInt < T) ∧ x.toInt ≠ y.toInt
  · obtain ⟨hE, hx, hy, hxy⟩ := hA
    obtain ⟨a, ha, rfl⟩ := nI_ex (x := x) (m := T) hx.1 hx.2
    obtain ⟨b, hb2, rfl⟩ := nI_ex (x := y) (m := T) hy.1 hy.2
    have hab : a ≠ b := fun q => hxy (by rw [q])
    by_cases hk : ((I 311 (26 + 5 * a + 0)).toInt ≠ 3 ∧ (I 311 (26 + 5 * a + 0)).toInt ≠ 5) ∧ ((I 311 (26 + 5 * b + 0)).toInt ≠ 3 ∧ (I 311 (26 + 5 * b + 0)).toInt ≠ 5) ∧ 0 ≤ v.toInt ∧ v.toInt ≤ 1
    · obtain ⟨hka, hkb, hv0, hv1⟩ := hk
      obtain ⟨q, hq, rfl⟩ := nI_ex (x := v) (m := 2) hv0 (by omega)
      obtain ⟨qa, hqa, ea⟩ := hW.st ha
      obtain ⟨qb, hqb, eb⟩ := hW.st hb2
      have had : ∀ t, t < T → I 315 t = 0 := fun t ht => h10 t (by omega)
      have hs2 := fun {U V : Nat} (hU : ∀ x, U ≤ x ↔ lcP (I 311) (bN (I 311) T) S E qa x) (hV : ∀ x, V ≤ x ↔ lcP (I 311) (bN (I 311) T) S E qb x) => cut_same hB hW had ha hb2 hab ea eb hqa hqb hU hV
      rcases (show q = 0 ∨ q = 1 by omega) with rfl | rfl
      · refine pair_ri (fun l => c_X5_cut_ok0 l hnw hG hW hB hE ha hb2 hab hka hkb ea eb hqa hqb) (fun r K hP => ?_)
        obtain ⟨⟨bb, rfl⟩, U, V, hU, hV, ⟨⟨u1, u2, u3⟩, rfl⟩ | ⟨u1, rfl⟩⟩ := hP
        · refine ⟨_, _, _, ?_, fun l => c_X6_cut_ok0 (T := T) (S := S) (H := hN (I 311) a) (K := hN (I 311) b) (U := U) (V := V) l (by first | exact hW.T0 | (simp (disch := omega) only [xput_ne, xrow_o, xput_in, xput_e, xrow_e]; exact hW.T0)) hT6 (by first | exact hW.S0 | (simp (disch := omega) only [xput_ne, xrow_o, xput_in, xput_e, xrow_e]; exact hW.S0)) hS6 (by first | exact hW.2.1 | (simp (disch := omega) only [xput_ne, xrow_o, xput_in, xput_e, xrow_e]; exact hW.2.1)) hE ha hb2 hab (by first | exact hka | (simp (disch := omega) only [xput_ne, xrow_o, xput_in, xput_e, xrow_e]; exact hka)) (by first | exact hkb | (simp (disch := omega) only [xput_ne, xrow_o, xput_in, xput_e, xrow_e]; exact hkb)) (by simp (disch := omega) only [xput_ne, xrow_o, xput_in, xput_e, xrow_e]; exact (hgF_at0 (h10 a (by omega))).trans (hB.hi ha)) (by simp (disch := omega) only [xput_ne, xrow_o, xput_in, xput_e, xrow_e]; exact (hgF_at0 (h10 b (by omega))).trans (hB.hi hb2)) (hB.hl ha) (hB.hl hb2) u1 u2 (by simp (disch := omega) only [xput_ne, xrow_o, xput_in, xput_e, xrow_e]; exact cut_back hW had ha hb2 hab ea eb hqa hqb u1 u2 u3) (by simp (disch := omega) only [xput_ne, xrow_o, xput_in, xput_e, xrow_e]; exact fun x y hx hy hm => ⟨(hs2 hU hV x y hx hy hm).1, (hs2 hU hV x y hx hy hm).2.1⟩), rfl, h.add (fun o a1 a2 a3 a4 => by simp (disch := omega) only [xput_ne, xrow_o, xput_in, xput_e, xrow_e]) (fun j a1 => by simp (disch := omega) only [xput_ne, xrow_o, xput_in, xput_e, xrow_e]) (by simp (disch := omega) only [xput_ne, xrow_o, xput_in, xput_e, xrow_e]; exact ⟨T, S, F, W, hG, hW, hB, hcu⟩) (fun t ht => ?_)⟩
          · decide
          · by_cases e1 : t = b
            · subst e1; simp (disch := omega) only [xput_ne, xrow_o, xput_in, xput_e, xrow_e]; rfl
            · by_cases e2 : t = a
              · subst e2; simp (disch := omega) only [xput_ne, xrow_o, xput_in, xput_e, xrow_e]; rfl
              · simp (disch := omega) only [xput_ne, xrow_o, xput_in, xput_e, xrow_e]; exact h10 t ht
        · refine ⟨_, _, _, ?_, fun l => c_X6_cut_no0 (T := T) (S := S) (H := hN (I 311) a) (K := hN (I 311) b) l (by first | exact hW.T0 | (simp (disch := omega) only [xput_ne, xrow_o, xput_in, xput_e, xrow_e]; exact hW.T0)) hT6 (by first | exact hW.S0 | (simp (disch := omega) only [xput_ne, xrow_o, xput_in, xput_e, xrow_e]; exact hW.S0)) hS6 (by first | exact hW.2.1 | (simp (disch := omega) only [xput_ne, xrow_o, xput_in, xput_e, xrow_e]; exact hW.2.1)) hE ha hb2 hab (by first | exact hka | (simp (disch := omega) only [xput_ne, xrow_o, xput_in, xput_e, xrow_e]; exact hka)) (by first | exact hkb | (simp (disch := omega) only [xput_ne, xrow_o, xput_in, xput_e, xrow_e]; exact hkb)) (by simp (disch := omega) only [xput_ne, xrow_o, xput_in, xput_e, xrow_e]; exact (hgF_at0 (h10 a (by omega))).trans (hB.hi ha)) (by simp (disch := omega) only [xput_ne, xrow_o, xput_in, xput_e, xrow_e]; exact (hgF_at0 (h10 b (by omega))).trans (hB.hi hb2)) (hB.hl ha) (hB.hl hb2) (by simp (disch := omega) only [xput_ne, xrow_o, xput_in, xput_e, xrow_e]; exact fun x y hx hy hm => u1 (hs2 hU hV x y hx hy hm).2.2), rfl, h.add (fun o a1 a2 a3 a4 => by simp (disch := omega) only [xput_ne, xrow_o, xput_in, xput_e, xrow_e]) (fun j a1 => by simp (disch := omega) only [xput_ne, xrow_o, xput_in, xput_e, xrow_e]) (by simp (disch := omega) only [xput_ne, xrow_o, xput_in, xput_e, xrow_e]; exact ⟨T, S, F, W, hG, hW, hB, hcu⟩) (fun t ht => ?_)⟩
          · decide
          · by_cases e1 : t = b
            · subst e1; simp (disch := omega) only [xput_ne, xrow_o, xput_in, xput_e, xrow_e]; rfl
            · by_cases e2 : t = a
              · subst e2; simp (disch := omega) only [xput_ne, xrow_o, xput_in, xput_e, xrow_e]; rfl
              · simp (disch := omega) only [xput_ne, xrow_o, xput_in, xput_e, xrow_e]; exact h10 t ht
      · refine pair_ri (fun l => c_X5_cut_ok1 l hnw hG hW hB hE ha hb2 hab hka hkb ea eb hqa hqb) (fun r K hP => ?_)
        obtain ⟨⟨bb, rfl⟩, U, V, hU, hV, ⟨⟨u1, u2, u3⟩, rfl⟩ | ⟨u1, rfl⟩⟩ := hP
        · refine ⟨_, _, _, ?_, fun l => c_X6_cut_ok1 (T := T) (S := S) (H := hN (I 311) a) (K := hN (I 311) b) (U := U) (V := V) l (by first | exact hW.T0 | (simp (disch := omega) only [xput_ne, xrow_o, xput_in, xput_e, xrow_e]; exact hW.T0)) hT6 (by first | exact hW.S0 | (simp (disch := omega) only [xput_ne, xrow_o, xput_in, xput_e, xrow_e]; exact hW.S0)) hS6 (by first | exact hW.2.1 | (simp (disch := omega) only [xput_ne, xrow_o, xput_in, xput_e, xrow_e]; exact hW.2.1)) hE ha hb2 hab (by first | exact hka | (simp (disch := omega) only [xput_ne, xrow_o, xput_in, xput_e, xrow_e]; exact hka)) (by first | exact hkb | (simp (disch := omega) only [xput_ne, xrow_o, xput_in, xput_e, xrow_e]; exact hkb)) (by simp (disch := omega) only [xput_ne, xrow_o, xput_in, xput_e, xrow_e]; exact (hgF_at0 (h10 a (by omega))).trans (hB.hi ha)) (by simp (disch := omega) only [xput_ne, xrow_o, xput_in, xput_e, xrow_e]; exact (hgF_at0 (h10 b (by omega))).trans (hB.hi hb2)) (hB.hl ha) (hB.hl hb2) u1 u2 (by simp (disch := omega) only [xput_ne, xrow_o, xput_in, xput_e, xrow_e]; exact cut_back hW had ha hb2 hab ea eb hqa hqb u1 u2 u3) (by simp (disch := omega) only [xput_ne, xrow_o, xput_in, xput_e, xrow_e]; exact fun x y hx hy hm => ⟨(hs2 hU hV x y hx hy hm).1, (hs2 hU hV x y hx hy hm).2.1⟩), rfl, h.add (fun o a1 a2 a3 a4 => by simp (disch := omega) only [xput_ne, xrow_o, xput_in, xput_e, xrow_e]) (fun j a1 => by simp (disch := omega) only [xput_ne, xrow_o, xput_in, xput_e, xrow_e]) (by simp (disch := omega) only [xput_ne, xrow_o, xput_in, xput_e, xrow_e]; exact ⟨T, S, F, W, hG, hW, hB, hcu⟩) (fun t ht => ?_)⟩
          · decide
          · by_cases e1 : t = b
            · subst e1; simp (disch := omega) only [xput_ne, xrow_o, xput_in, xput_e, xrow_e]; rfl
            · by_cases e2 : t = a
              · subst e2; simp (disch := omega) only [xput_ne, xrow_o, xput_in, xput_e, xrow_e]; rfl
              · simp (disch := omega) only [xput_ne, xrow_o, xput_in, xput_e, xrow_e]; exact h10 t ht
        · refine ⟨_, _, _, ?_, fun l => c_X6_cut_no1 (T := T) (S := S) (H := hN (I 311) a) (K := hN (I 311) b) l (by first | exact hW.T0 | (simp (disch := omega) only [xput_ne, xrow_o, xput_in, xput_e, xrow_e]; exact hW.T0)) hT6 (by first | exact hW.S0 | (simp (disch := omega) only [xput_ne, xrow_o, xput_in, xput_e, xrow_e]; exact hW.S0)) hS6 (by first | exact hW.2.1 | (simp (disch := omega) only [xput_ne, xrow_o, xput_in, xput_e, xrow_e]; exact hW.2.1)) hE ha hb2 hab (by first | exact hka | (simp (disch := omega) only [xput_ne, xrow_o, xput_in, xput_e, xrow_e]; exact hka)) (by first | exact hkb | (simp (disch := omega) only [xput_ne, xrow_o, xput_in, xput_e, xrow_e]; exact hkb)) (by simp (disch := omega) only [xput_ne, xrow_o, xput_in, xput_e, xrow_e]; exact (hgF_at0 (h10 a (by omega))).trans (hB.hi ha)) (by simp (disch := omega) only [xput_ne, xrow_o, xput_in, xput_e, xrow_e]; exact (hgF_at0 (h10 b (by omega))).trans (hB.hi hb2)) (hB.hl ha) (hB.hl hb2) (by simp (disch := omega) only [xput_ne, xrow_o, xput_in, xput_e, xrow_e]; exact fun x y hx hy hm => u1 (hs2 hU hV x y hx hy hm).2.2), rfl, h.add (fun o a1 a2 a3 a4 => by simp (disch := omega) only [xput_ne, xrow_o, xput_in, xput_e, xrow_e]) (fun j a1 => by simp (disch := omega) only [xput_ne, xrow_o, xput_in, xput_e, xrow_e]) (by simp (disch := omega) only [xput_ne, xrow_o, xput_in, xput_e, xrow_e]; exact ⟨T, S, F, W, hG, hW, hB, hcu⟩) (fun t ht => ?_)⟩
          · decide
          · by_cases e1 : t = b
            · subst e1; simp (disch := omega) only [xput_ne, xrow_o, xput_in, xput_e, xrow_e]; rfl
            · by_cases e2 : t = a
              · subst e2; simp (disch := omega) only [xput_ne, xrow_o, xput_in, xput_e, xrow_e]; rfl
              · simp (disch := omega) only [xput_ne, xrow_o, xput_in, xput_e, xrow_e]; exact h10 t ht
    · by_cases hv : 0 ≤ v.toInt ∧ v.toInt ≤ 1
      · by_cases hka : (I 311 (26 + 5 * a + 0)).toInt ≠ 3 ∧ (I 311 (26 + 5 * a + 0)).toInt ≠ 5
        · by_cases hkb : (I 311 (26 + 5 * b + 0)).toInt ≠ 3 ∧ (I 311 (26 + 5 * b + 0)).toInt ≠ 5
          · exact absurd ⟨hka, hkb, hv⟩ hk
          · exact pair_ii (fun l => c_X5_cut_bad5 l hnw hG hW ha hb2 hkb) (fun l => c_X6_cut_bad2 (T := T) l (by first | exact hW.T0 | (simp (disch := omega) only [xput_ne, xrow_o, xput_in, xput_e, xrow_e]; exact hW.T0)) hT6 ha hb2 (by first | exact hk | (simp (disch := omega) only [xput_ne, xrow_o, xput_in, xput_e, xrow_e]; exact hk))) rfl (h.q (fun o a b c => by simp (disch := omega) only [xput_ne, xrow_o, xput_in, xput_e, xrow_e]) (fun j a => by simp (disch := omega) only [xput_ne, xrow_o, xput_in, xput_e, xrow_e]) (fun j a b => by simp (disch := omega) only [xput_ne, xrow_o, xput_in, xput_e, xrow_e]) (by first | (simp (disch := omega) only [xput_ne, xrow_o, xput_in, xput_e, xrow_e]; done) | (simp (disch := omega) only [xput_ne, xrow_o, xput_in, xput_e, xrow_e]; exact hs)))
        · exact pair_ii (fun l => c_X5_cut_bad3 l hnw hG hW ha hka) (fun l => c_X6_cut_bad2 (T := T) l (by first | exact hW.T0 | (simp (disch := omega) only [xput_ne, xrow_o, xput_in, xput_e, xrow_e]; exact hW.T0)) hT6 ha hb2 (by first | exact hk | (simp (disch := omega) only [xput_ne, xrow_o, xput_in, xput_e, xrow_e]; exact hk))) rfl (h.q (fun o a b c => by simp (disch := omega) only [xput_ne, xrow_o, xput_in, xput_e, xrow_e]) (fun j a => by simp (disch := omega) only [xput_ne, xrow_o, xput_in, xput_e, xrow_e]) (fun j a b => by simp (disch := omega) only [xput_ne, xrow_o, xput_in, xput_e, xrow_e]) (by first | (simp (disch := omega) only [xput_ne, xrow_o, xput_in, xput_e, xrow_e]; done) | (simp (disch := omega) only [xput_ne, xrow_o, xput_in, xput_e, xrow_e]; exact hs)))
      · exact pair_ii (fun l => c_X5_cut_bad1 l (fun q => hv q.2.1)) (fun l => c_X6_cut_bad2 (T := T) l (by first | exact hW.T0 | (simp (disch := omega) only [xput_ne, xrow_o, xput_in, xput_e, xrow_e]; exact hW.T0)) hT6 ha hb2 (by first | exact hk | (simp (disch := omega) only [xput_ne, xrow_o, xput_in, xput_e, xrow_e]; exact hk))) rfl (h.q (fun o a b c => by simp (disch := omega) only [xput_ne, xrow_o, xput_in, xput_e, xrow_e]) (fun j a => by simp (disch := omega) only [xput_ne, xrow_o, xput_in, xput_e, xrow_e]) (fun j a b => by simp (disch := omega) only [xput_ne, xrow_o, xput_in, xput_e, xrow_e]) (by first | (simp (disch := omega) only [xput_ne, xrow_o, xput_in, xput_e, xrow_e]; done) | (simp (disch := omega) only [xput_ne, xrow_o, xput_in, xput_e, xrow_e]; exact hs)))
  · by_cases c1 : 0 ≤ E.toInt ∧ (0 ≤ v.toInt ∧ v.toInt ≤ 1) ∧ x.toInt ≠ y.toInt
    · by_cases hx : 0 ≤ x.toInt ∧ x.toInt < T
      · obtain ⟨a, ha, rfl⟩ := nI_ex (x := x) (m := T) hx.1 hx.2
        exact pair_ii (fun l => c_X5_cut_bad4 l hnw hG hW ha (fun q => hA ⟨c1.1, hx, q, c1.2.2⟩)) (fun l => c_X6_cut_bad1 (T := T) l (by first | exact hW.T0 | (simp (disch := omega) only [xput_ne, xrow_o, xput_in, xput_e, xrow_e]; exact hW.T0)) hT6 hA) rfl (h.q (fun o a b c => by simp (disch := omega) only [xput_ne, xrow_o, xput_in, xput_e, xrow_e]) (fun j a => by simp (disch := omega) only [xput_ne, xrow_o, xput_in, xput_e, xrow_e]) (fun j a b => by simp (disch := omega) only [xput_ne, xrow_o, xput_in, xput_e, xrow_e]) (by first | (simp (disch := omega) only [xput_ne, xrow_o, xput_in, xput_e, xrow_e]; done) | (simp (disch := omega) only [xput_ne, xrow_o, xput_in, xput_e, xrow_e]; exact hs)))
      · exact pair_ii (fun l => c_X5_cut_bad2 l hnw hG hW hx) (fun l => c_X6_cut_bad1 (T := T) l (by first | exact hW.T0 | (simp (disch := omega) only [xput_ne, xrow_o, xput_in, xput_e, xrow_e]; exact hW.T0)) hT6 hA) rfl (h.q (fun o a b c => by simp (disch := omega) only [xput_ne, xrow_o, xput_in, xput_e, xrow_e]) (fun j a => by simp (disch := omega) only [xput_ne, xrow_o, xput_in, xput_e, xrow_e]) (fun j a b => by simp (disch := omega) only [xput_ne, xrow_o, xput_in, xput_e, xrow_e]) (by first | (simp (disch := omega) only [xput_ne, xrow_o, xput_in, xput_e, xrow_e]; done) | (simp (disch := omega) only [xput_ne, xrow_o, xput_in, xput_e, xrow_e]; exact hs)))
    · exact pair_ii (fun l => c_X5_cut_bad1 l c1) (fun l => c_X6_cut_bad1 (T := T) l (by first | exact hW.T0 | (simp (disch := omega) only [xput_ne, xrow_o, xput_in, xput_e, xrow_e]; exact hW.T0)) hT6 hA) rfl (h.q (fun o a b c => by simp (disch := omega) only [xput_ne, xrow_o, xput_in, xput_e, xrow_e]) (fun j a => by simp (disch := omega) only [xput_ne, xrow_o, xput_in, xput_e, xrow_e]) (fun j a b => by simp (disch := omega) only [xput_ne, xrow_o, xput_in, xput_e, xrow_e]) (by first | (simp (disch := omega) only [xput_ne, xrow_o, xput_in, xput_e, xrow_e]; done) | (simp (disch := omega) only [xput_ne, xrow_o, xput_in, xput_e, xrow_e]; exact hs)))
theorem st_plant {I : xM} {nw sp c : Nat} {E x g y : Int32} (h : LR I nw sp c) : PairS yX5_plant cX5_plant 9 yX6_plant cX6_plant 9 [.int E, .int x, .int g, .int y] I nw sp c := by
  have hs := h.2.2.2.1.2
  have hnw := h.nwG
  obtain ⟨T, S, F, W, hG, hW, hB, hcu⟩ := h.2.2.2.2.2.1
  have hT6 := hW.T6
  have hS6 := hW.S6
  have h10 := h.2.2.2.2.2.2.2.2.2.1
  rcases h.2.2.2.2.1 with ⟨s5, s6⟩ | ⟨s5, s6⟩
  · exact pair_ii (fun l => c_X5_plant_none l s5) (fun l => c_X6_plant_none l (by first | exact s6 | (simp (disch := omega) only [xput_ne, xrow_o, xput_in, xput_e, xrow_e]; exact s6)) ) rfl (h.q (fun o a b c => by simp (disch := omega) only [xput_ne, xrow_o, xput_in, xput_e, xrow_e]) (fun j a => by simp (disch := omega) only [xput_ne, xrow_o, xput_in, xput_e, xrow_e]) (fun j a b => by simp (disch := omega) only [xput_ne, xrow_o, xput_in, xput_e, xrow_e]) (by first | (simp (disch := omega) only [xput_ne, xrow_o, xput_in, xput_e, xrow_e]; done) | (simp (disch := omega) only [xput_ne, xrow_o, xput_in, xput_e, xrow_e]; exact hs)))
  · by_cases hb : 0 ≤ E.toInt ∧ (0 ≤ x.toInt ∧ x.toInt ≤ 4) ∧ (0 ≤ g.toInt ∧ g.toInt ≤ 9) ∧ 0 ≤ y.toInt ∧ y.toInt ≤ 99
    · obtain ⟨q, hq, rfl⟩ := nI_ex (x := x) (m := 5) (by omega) (by omega)
      obtain ⟨gr, hgr, rfl⟩ := nI_ex (x := g) (m := 10) (by omega) (by omega)
      obtain ⟨z, hz, rfl⟩ := nI_ex (x := y) (m := 100) (by omega) (by omega)
      by_cases hT5 : T ≤ 5
      · obtain ⟨yr, hyr9, hyr⟩ := nI_ex (x := I 311 2) (m := 1000) hB.2.2.2.1 (by have := hB.2.2.2.2; omega)
        refine pair_rr (fun l => c_X5_plant_ok l s5 hb.1 hq (by omega) (by omega) hnw hG hW hT5) (fun r J hP => ?_)
        obtain ⟨rfl, bb, rfl⟩ := hP
        refine ⟨_, _, ?_, fun l => c_X6_plant_ok (T := T) (S := S) (F := F) (W := W) (yr := yr) l (by first | exact s6 | (simp (disch := omega) only [xput_ne, xrow_o, xput_in, xput_e, xrow_e]; exact s6)) hb.1 hq (by omega) (by omega) (by first | exact hW.T0 | (simp (disch := omega) only [xput_ne, xrow_o, xput_in, xput_e, xrow_e]; exact hW.T0)) hT6 (by first | exact hW.S0 | (simp (disch := omega) only [xput_ne, xrow_o, xput_in, xput_e, xrow_e]; exact hW.S0)) hS6 (by first | exact hW.2.1 | (simp (disch := omega) only [xput_ne, xrow_o, xput_in, xput_e, xrow_e]; exact hW.2.1)) hT5 (by first | exact hyr | (simp (disch := omega) only [xput_ne, xrow_o, xput_in, xput_e, xrow_e]; exact hyr)) (by omega) (by first | exact hW | (simp (disch := omega) only [xput_ne, xrow_o, xput_in, xput_e, xrow_e]; exact hW)) (by simp (disch := omega) only [xput_ne, xrow_o, xput_in, xput_e, xrow_e]; exact fun t ht => h10 t ht), fun r6 K hQ => ?_⟩
        · decide
        · obtain ⟨rfl, gg, rfl, hgg⟩ := hQ
          refine ⟨by simp (disch := omega) only [xput_ne, xrow_o, xput_in, xput_e, xrow_e], h.add (fun o a1 a2 a3 a4 => by simp (disch := omega) only [xput_ne, xrow_o, xput_in, xput_e, xrow_e]) (fun j a1 => by simp (disch := omega) only [xput_ne, xrow_o, xput_in, xput_e, xrow_e]) ?_ (fun t ht => by simp (disch := omega) only [xput_ne, xrow_o, xput_in, xput_e, xrow_e]; exact h10 t ht)⟩
          rw [xrow_e]
          exact GW.tail hG hW hB hcu hT5 (fun j hj => (hgg j hj).trans (by simp (disch := omega) only [xput_ne, xrow_o, xput_in, xput_e, xrow_e]))
      · exact pair_ii (fun l => c_X5_plant_full l s5 hb.1 hq (by omega) (by omega) hnw hG hW (by omega)) (fun l => c_X6_plant_full l (by first | exact s6 | (simp (disch := omega) only [xput_ne, xrow_o, xput_in, xput_e, xrow_e]; exact s6)) hb.1 hq (by omega) (by omega) (by first | exact (show I 311 0 = nI 6 by rw [hW.T0, show T = 6 by omega]) | (simp (disch := omega) only [xput_ne, xrow_o, xput_in, xput_e, xrow_e]; exact (show I 311 0 = nI 6 by rw [hW.T0, show T = 6 by omega])))) rfl (h.q (fun o a b c => by simp (disch := omega) only [xput_ne, xrow_o, xput_in, xput_e, xrow_e]) (fun j a => by simp (disch := omega) only [xput_ne, xrow_o, xput_in, xput_e, xrow_e]) (fun j a b => by simp (disch := omega) only [xput_ne, xrow_o, xput_in, xput_e, xrow_e]) (by first | (simp (disch := omega) only [xput_ne, xrow_o, xput_in, xput_e, xrow_e]; done) | (simp (disch := omega) only [xput_ne, xrow_o, xput_in, xput_e, xrow_e]; exact hs)))
    · exact pair_ii (fun l => c_X5_plant_bad l s5 hb) (fun l => c_X6_plant_bad l (by first | exact s6 | (simp (disch := omega) only [xput_ne, xrow_o, xput_in, xput_e, xrow_e]; exact s6)) hb) rfl (h.q (fun o a b c => by simp (disch := omega) only [xput_ne, xrow_o, xput_in, xput_e, xrow_e]) (fun j a => by simp (disch := omega) only [xput_ne, xrow_o, xput_in, xput_e, xrow_e]) (fun j a b => by simp (disch := omega) only [xput_ne, xrow_o, xput_in, xput_e, xrow_e]) (by first | (simp (disch := omega) only [xput_ne, xrow_o, xput_in, xput_e, xrow_e]; done) | (simp (disch := omega) only [xput_ne, xrow_o, xput_in, xput_e, xrow_e]; exact hs)))
theorem st_rival {I : xM} {nw sp c : Nat} {x y : Int32} (h : LR I nw sp c) : PairS yX5_rival cX5_rival 9 yX6_rival cX6_rival 10 [.int x, .int y] I nw sp c := by
  have hs := h.2.2.2.1.2
  have hnw := h.nwG
  obtain ⟨T, S, F, W, hG, hW, hB, hcu⟩ := h.2.2.2.2.2.1
  have hT6 := hW.T6
  have hS6 := hW.S6
  have h10 := h.2.2.2.2.2.2.2.2.2.1
  rcases h.2.2.2.2.1 with ⟨s5, s6⟩ | ⟨s5, s6⟩
  · exact pair_ii (fun l => c_X5_rival_none l s5) (fun l => c_X6_rival_none l (by first | exact s6 | (simp (disch := omega) only [xput_ne, xrow_o, xput_in, xput_e, xrow_e]; exact s6)) ) rfl (h.q (fun o a b c => by simp (disch := omega) only [xput_ne, xrow_o, xput_in, xput_e, xrow_e]) (fun j a => by simp (disch := omega) only [xput_ne, xrow_o, xput_in, xput_e, xrow_e]) (fun j a b => by simp (disch := omega) only [xput_ne, xrow_o, xput_in, xput_e, xrow_e]) (by first | (simp (disch := omega) only [xput_ne, xrow_o, xput_in, xput_e, xrow_e]; done) | (simp (disch := omega) only [xput_ne, xrow_o, xput_in, xput_e, xrow_e]; exact hs)))
  · by_cases hb : (0 ≤ x.toInt ∧ x.toInt ≤ 30) ∧ (1 ≤ y.toInt ∧ y.toInt ≤ 9)
    · obtain ⟨e, he, rfl⟩ := nI_ex (x := x) (m := 31) (by omega) (by omega)
      obtain ⟨m, hm, rfl⟩ := nI_ex (x := y) (m := 10) (by omega) (by omega)
      rw [nI_toInt (n := m) (by omega)] at hb
      refine pair_rr (fun l => c_X5_rival_ok (ad0 := I 315) l s5 (by omega) (by omega) (by omega) hnw hG hW hB (fun t ht => h10 t (by omega))) (fun r J hP => ?_)
      obtain ⟨rfl, bb, rfl⟩ := hP
      refine ⟨_, _, ?_, fun l => c_X6_rival_ok (T := T) (S := S) (F := F) (W := W) l (by first | exact s6 | (simp (disch := omega) only [xput_ne, xrow_o, xput_in, xput_e, xrow_e]; exact s6)) (by omega) (by omega) (by omega) (by first | exact hW | (simp (disch := omega) only [xput_ne, xrow_o, xput_in, xput_e, xrow_e]; exact hW)) (by first | exact hB | (simp (disch := omega) only [xput_ne, xrow_o, xput_in, xput_e, xrow_e]; exact hB)) (by simp (disch := omega) only [xput_ne, xrow_o, xput_in, xput_e, xrow_e]; exact fun t ht => h10 t ht), fun r6 K hQ => ?_⟩
      · decide
      · obtain ⟨rfl, ad, rfl, had⟩ := hQ
        refine ⟨by simp (disch := omega) only [xput_ne, xrow_o, xput_in, xput_e, xrow_e], h.add (fun o a1 a2 a3 a4 => by simp (disch := omega) only [xput_ne, xrow_o, xput_in, xput_e, xrow_e]) (fun j a1 => by simp (disch := omega) only [xput_ne, xrow_o, xput_in, xput_e, xrow_e]) ?_ (fun t ht => by simp (disch := omega) only [xput_ne, xrow_o, xput_in, xput_e, xrow_e]; exact had t ht)⟩
        simp (disch := omega) only [xput_ne, xrow_o, xput_in, xput_e, xrow_e]
        exact ⟨T, S, F, W, hG, hW, hB, hcu⟩
    · exact pair_ii (fun l => c_X5_rival_bad l s5 hb) (fun l => c_X6_rival_bad l (by first | exact s6 | (simp (disch := omega) only [xput_ne, xrow_o, xput_in, xput_e, xrow_e]; exact s6)) hb) rfl (h.q (fun o a b c => by simp (disch := omega) only [xput_ne, xrow_o, xput_in, xput_e, xrow_e]) (fun j a => by simp (disch := omega) only [xput_ne, xrow_o, xput_in, xput_e, xrow_e]) (fun j a b => by simp (disch := omega) only [xput_ne, xrow_o, xput_in, xput_e, xrow_e]) (by first | (simp (disch := omega) only [xput_ne, xrow_o, xput_in, xput_e, xrow_e]; done) | (simp (disch := omega) only [xput_ne, xrow_o, xput_in, xput_e, xrow_e]; exact hs)))