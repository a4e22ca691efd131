/-! DAYS KEPT -/
theorem L7_keep {I K : xM} {n D c : Nat} (hn : n < 24) (hD : D ≤ 24) (hd : ∀ d, d < D → GW I (47 + 10 * ((n + 24 - D + d) % 24)) (fun j => I 313 (74 * d + j)) c) (e8 : K 0 8 = nI (if n = 23 then 0 else n + 1)) (e9 : K 0 9 = nI (min 24 (D + 1))) (e7 : K 307 9 = nI (min 24 (D + 1))) (hc : GW K (47 + 10 * n) (I 311) c) (ho : ∀ i, 47 ≤ i → i < 287 → (i < 47 + 10 * n ∨ 47 + 10 * n + 10 ≤ i) → K i = I i)
    (hr : (D < 24 ∧ K 313 = xfill (I 313) (I 311) (74 * D) 74) ∨ (D = 24 ∧ K 313 = xfill (xfill (I 313) (fun t => I 313 (t + 74)) 0 1702) (I 311) (74 * 23) 74)) : L7 K c := by
  refine ⟨if n = 23 then 0 else n + 1, min 24 (D + 1), by split <;> omega, by omega, e8, e9, e7, fun d hd2 => ?_⟩
  rcases hr with ⟨h1, h2⟩ | ⟨h1, h2⟩
  · by_cases e : d = D
    · subst e
      have hi : ((if n = 23 then 0 else n + 1) + 24 - min 24 (d + 1) + d) % 24 = n := by split <;> omega
      rw [hi, h2]
      exact hc.congr (fun j hj => by rw [xfill_in (by omega) (by omega)]; congr 1; omega)
    · have hdD : d < D := by omega
      have hi : ((if n = 23 then 0 else n + 1) + 24 - min 24 (D + 1) + d) % 24 = (n + 24 - D + d) % 24 := by split <;> omega
      rw [hi, h2]
      have hne : (n + 24 - D + d) % 24 ≠ n := by omega
      refine ((hd d hdD).ext (fun i a b => ho i (by omega) (by omega) (by omega))).congr (fun j hj => xfill_out (by omega))
  · subst h1
    by_cases e : d = 23
    · subst e
      have hi : ((if n = 23 then 0 else n + 1) + 24 - min 24 (24 + 1) + 23) % 24 = n := by split <;> omega
      rw [hi, h2]
      exact hc.congr (fun j hj => by rw [xfill_in (by omega) (by omega), show 74 * 23 + j - 74 * 23 = j by omega])
    · have hd23 : d + 1 < 24 := by omega
      have hi : ((if n = 23 then 0 else n + 1) + 24 - min 24 (24 + 1) + d) % 24 = (n + 24 - 24 + (d + 1)) % 24 := by split <;> omega
      rw [hi, h2]
      have hne : (n + 24 - 24 + (d + 1)) % 24 ≠ n := by omega
      refine ((hd (d + 1) hd23).ext (fun i a b => ho i (by omega) (by omega) (by omega))).congr (fun j hj => ?_)
      rw [xfill_out (by omega), xfill_in (by omega) (by omega)]
      congr 1
      omega
theorem LR.keep {I J M : xM} {nw sp c n D : Nat} (h : LR I nw sp c) (hn : n < 24) (hD : D ≤ 24) (hd : ∀ d, d < D → GW I (47 + 10 * ((n + 24 - D + d) % 24)) (fun j => I 313 (74 * d + j)) c) (hJ : gcopy I J (47 + 10 * n) nw)
    (e : ∀ o, o ≠ 0 → o ≠ 307 → o ≠ 311 → o ≠ 313 → (o < nw ∨ nw + 10 ≤ o) → M o = J o) (e0 : ∀ j, j ≠ 8 → j ≠ 9 → j ≠ 13 → M 0 j = J 0 j) (e8 : M 0 8 = nI (if n = 23 then 0 else n + 1)) (e9 : M 0 9 = nI (min 24 (D + 1))) (e7 : ∀ j, j ≠ 0 → j ≠ 1 → j ≠ 9 → M 307 j = I 307 j) (e79 : M 307 9 = nI (min 24 (D + 1))) (es : M 307 1 = M 0 13)
    (hr : (D < 24 ∧ M 313 = xfill (I 313) (I 311) (74 * D) 74) ∨ (D = 24 ∧ M 313 = xfill (xfill (I 313) (fun t => I 313 (t + 74)) 0 1702) (I 311) (74 * 23) 74)) (hg : GW M nw (M 311) (c + 1)) (hb : BZ M nw) : LR M nw sp (c + 1) := by
  have hns := h.ns
  have hnw := h.nwG
  obtain ⟨h1, h2, h3, h4, h5, h6, h7, h8, h9, h10, h11⟩ := h
  have jo : ∀ i, (i < 47 + 10 * n ∨ 47 + 10 * n + 10 ≤ i) → J i = I i := fun i hi => hJ.1 i hi
  have eo : ∀ o, o ≠ 0 → o ≠ 307 → o ≠ 311 → o ≠ 313 → (o < nw ∨ nw + 10 ≤ o) → (o < 47 + 10 * n ∨ 47 + 10 * n + 10 ≤ o) → M o = I o := fun o a1 a2 a3 a4 a5 a6 => (e o a1 a2 a3 a4 a5).trans (jo o a6)
  have e0' : ∀ j, j ≠ 8 → j ≠ 9 → j ≠ 13 → M 0 j = I 0 j := fun j a b d => (e0 j a b d).trans (congrFun (jo 0 (by omega)) j)
  refine ⟨h1, h2.tr (fun o ho => eo o (by omega) (by omega) (by omega) (by omega) (by omega) (by omega)), h3.tr (by rw [eo 2 (by omega) (by omega) (by omega) (by omega) (by omega) (by omega)]) (eo 3 (by omega) (by omega) (by omega) (by omega) (by omega) (by omega)) (e7 11 (by omega) (by omega) (by omega)) (eo 314 (by omega) (by omega) (by omega) (by omega) (by omega) (by omega)), ⟨?_, es⟩, h5.tr (e0' 6 (by omega) (by omega) (by omega)) (e7 7 (by omega) (by omega) (by omega)), hg, ?_, h8.mono.tr (eo 30 (by omega) (by omega) (by omega) (by omega) (by omega) (by omega)) (eo 316 (by omega) (by omega) (by omega) (by omega) (by omega) (by omega)) (eo 317 (by omega) (by omega) (by omega) (by omega) (by omega) (by omega)) (fun i a b => eo i (by omega) (by omega) (by omega) (by omega) (by omega) (by omega)), h9.tr (by rw [eo 6 (by omega) (by omega) (by omega) (by omega) (by omega) (by omega)]) (eo 7 (by omega) (by omega) (by omega) (by omega) (by omega) (by omega)) (e7 24 (by omega) (by omega) (by omega)) (eo 318 (by omega) (by omega) (by omega) (by omega) (by omega) (by omega)), h10.tr (eo 315 (by omega) (by omega) (by omega) (by omega) (by omega) (by omega)), fun g hgg => ?_⟩
  · rw [e7 12 (by omega) (by omega) (by omega), e0' 12 (by omega) (by omega) (by omega)]; exact h4.1
  · refine L7_keep (I := I) hn hD (fun d hdD => (hd d hdD).mono (Nat.le_succ c)) e8 e9 e79 ?_ (fun i a b a6 => eo i (by omega) (by omega) (by omega) (by omega) (by omega) a6) hr
    obtain ⟨T, S, F, W, g1, g2, g3, g4⟩ := h6.mono (Nat.le_succ c)
    exact ⟨T, S, F, W, (hJ.gx g1 g2.T6 g2.S6).ext (fun i a b => e i (by omega) (by omega) (by omega) (by omega) (by omega)), g2, g3, g4⟩
  · by_cases eg : g = nw
    · subst eg; exact hb
    · by_cases eg2 : g = 47 + 10 * n
      · subst eg2
        exact (hJ.bz (h11 nw hnw)).ext (fun i a b => e i (by omega) (by omega) (by omega) (by omega) (by omega))
      · refine (h11 g hgg).ext (fun i a b => ?_)
        rcases hgg with hgg | hgg | ⟨k, hk, hgg⟩ <;> rcases hns with hns | hns <;> exact eo i (by omega) (by omega) (by omega) (by omega) (by omega) (by omega)
section
variable {I : xM} {g c T S F W : Nat} {f : Nat → Int32}
theorem GW.year {n : Nat} (h : GX I g f T S F W) (hW : WF f T S F W) (hB : BD f T S) (hc : ∀ t, t < T → (f (26 + 5 * t + 4)).toInt ≤ 99 * (c : Int)) (hn : n ≤ 999) : GW (xput I g 13 (nI n)) g (upd f 2 (nI n)) c := by
  have hT6 := hW.T6
  have hS6 := hW.S6
  refine ⟨T, S, F, W, ⟨⟨xput_i (by decide) h.tr, xput_i (by decide) h.th, ?_, ?_⟩, fun q hq => ?_, fun u hu => ⟨?_, ?_, ?_, ?_, ?_⟩, fun k hk => ⟨?_, ?_, ?_⟩, ?_⟩, ⟨⟨?_, ?_, hT6, hS6⟩, fun k hk => ?_, fun u hu => ?_, fun u hu => ?_, fun u x hu hx => ?_, fun k hk => ?_, ?_, ?_⟩, ⟨fun p hp => ?_, fun u hu => ?_, fun k hk => ?_, ?_⟩, fun u hu => ?_⟩
  · rw [upd_eq]; exact xput_e
  · rw [upd_ne (by omega)]; exact xput_i (by decide) h.wi
  · rw [upd_ne (by omega)]; exact xput_o (by omega) (h.gr hq)
  · rw [upd_ne (by omega)]; exact xput_o (by omega) (h.k0 hu)
  · rw [upd_ne (by omega)]; exact xput_o (by omega) (h.k1 hu)
  · rw [upd_ne (by omega)]; exact xput_o (by omega) (h.k2 hu)
  · rw [upd_ne (by omega)]; exact xput_o (by omega) (h.k3 hu)
  · rw [upd_ne (by omega)]; exact xput_o (by omega) (h.k4 hu)
  · rw [upd_ne (by omega)]; exact xput_o (by omega) (h.s0 hk)
  · rw [upd_ne (by omega)]; exact xput_o (by omega) (h.s1 hk)
  · rw [upd_ne (by omega)]; exact xput_o (by omega) (h.s2 hk)
  · obtain ⟨a, b, e1, e2, r⟩ := h.la
    exact ⟨a, b, xput_i (by decide) e1, xput_i (by decide) e2, r⟩
  · rw [upd_ne (by omega)]; exact hW.T0
  · rw [upd_ne (by omega)]; exact hW.S0
  · rw [tsF_upd (by omega), upd_ne (by omega)]; exact ⟨hW.ts hk, hW.ts9 hk⟩
  · rw [upd_ne (by omega)]; exact hW.kd hu
  · rw [upd_ne (by omega)]; exact hW.st hu
  · rw [upd_ne (by omega), upd_ne (by omega)]; exact hW.ne hu hx
  · rw [upd_ne (by omega)]; exact hW.sh hk
  · rw [upd_ne (by omega)]; exact hW.wi
  · rw [upd_ne (by omega), upd_ne (by omega)]; exact hW.lk
  · rw [upd_ne (by omega)]; exact hB.1 p hp
  · rw [upd_ne (by omega), upd_ne (by omega), upd_ne (by omega)]; exact hB.2.1 u hu
  · rw [upd_ne (by omega)]; exact hB.2.2.1 k hk
  · rw [upd_eq, nI_toInt (by omega)]; omega
  · rw [upd_ne (by omega)]; exact hc u hu
theorem GW.winter {v : Int32} (h : GX I g f T S F W) (hW : WF f T S F W) (hB : BD f T S) (hc : ∀ t, t < T → (f (26 + 5 * t + 4)).toInt ≤ 99 * (c : Int)) (hv : v.toInt = 0 ∨ v.toInt = 1) : GW (xput I g 14 v) g (upd f 3 v) c := by
  have hT6 := hW.T6
  have hS6 := hW.S6
  refine ⟨T, S, F, W, ⟨⟨xput_i (by decide) h.tr, xput_i (by decide) h.th, ?_, ?_⟩, fun q hq => ?_, fun u hu => ⟨?_, ?_, ?_, ?_, ?_⟩, fun k hk => ⟨?_, ?_, ?_⟩, ?_⟩, ⟨⟨?_, ?_, hT6, hS6⟩, fun k hk => ?_, fun u hu => ?_, fun u hu => ?_, fun u x hu hx => ?_, fun k hk => ?_, ?_, ?_⟩, ⟨fun p hp => ?_, fun u hu => ?_, fun k hk => ?_, ?_⟩, fun u hu => ?_⟩
  · rw [upd_ne (by omega)]; exact xput_i (by decide) h.ye
  · rw [upd_eq]; exact xput_e
  · rw [upd_ne (by omega)]; exact xput_o (by omega) (h.gr hq)
  · rw [upd_ne (by omega)]; exact xput_o (by omega) (h.k0 hu)
  · rw [upd_ne (by omega)]; exact xput_o (by omega) (h.k1 hu)
  · rw [upd_ne (by omega)]; exact xput_o (by omega) (h.k2 hu)
  · rw [upd_ne (by omega)]; exact xput_o (by omega) (h.k3 hu)
  · rw [upd_ne (by omega)]; exact xput_o (by omega) (h.k4 hu)
  · rw [upd_ne (by omega)]; exact xput_o (by omega) (h.s0 hk)
  · rw [upd_ne (by omega)]; exact xput_o (by omega) (h.s1 hk)
  · rw [upd_ne (by omega)]; exact xput_o (by omega) (h.s2 hk)
  · obtain ⟨a, b, e1, e2, r⟩ := h.la
    exact ⟨a, b, xput_i (by decide) e1, xput_i (by decide) e2, r⟩
  · rw [upd_ne (by omega)]; exact hW.T0
  · rw [upd_ne (by omega)]; exact hW.S0
  · rw [tsF_upd (by omega), upd_ne (by omega)]; exact ⟨hW.ts hk, hW.ts9 hk⟩
  · rw [upd_ne (by omega)]; exact hW.kd hu
  · rw [upd_ne (by omega)]; exact hW.st hu
  · rw [upd_ne (by omega), upd_ne (by omega)]; exact hW.ne hu hx
  · rw [upd_ne (by omega)]; exact hW.sh hk
  · rw [upd_eq]; exact hv
  · rw [upd_ne (by omega), upd_ne (by omega)]; exact hW.lk
  · rw [upd_ne (by omega)]; exact hB.1 p hp
  · rw [upd_ne (by omega), upd_ne (by omega), upd_ne (by omega)]; exact hB.2.1 u hu
  · rw [upd_ne (by omega)]; exact hB.2.2.1 k hk
  · rw [upd_ne (by omega)]; exact hB.2.2.2
  · rw [upd_ne (by omega)]; exact hc u hu
theorem GW.clip {t m : Nat} (h : GX I g f T S F W) (hW : WF f T S F W) (hB : BD f T S) (hc : ∀ t, t < T → (f (26 + 5 * t + 4)).toInt ≤ 99 * (c : Int)) (ht : t < T) (hm : m ≤ 99) (hc9 : c ≤ 1000) : GW (xput I (g + 6) t (f (26 + 5 * t + 4) + nI m)) g (upd f (26 + 5 * t + 4) (f (26 + 5 * t + 4) + nI m)) (c + 1) := by
  have hT6 := hW.T6
  have hS6 := hW.S6
  have hb := (hB.2.1 t ht).2.2
  have hct := hc t ht
  have hv : (f (26 + 5 * t + 4) + nI m).toInt = (f (26 + 5 * t + 4)).toInt + m := by
    rw [Int32.toInt_add, nI_toInt (by omega)]
    exact Int.bmod_eq_of_le (by omega) (by omega)
  refine ⟨T, S, F, W, h.cut ht, hW.cut ht, ⟨fun p hp => ?_, fun u hu => ?_, fun k hk => ?_, ?_⟩, fun u hu => ?_⟩
  · rw [upd_ne (by omega)]; exact hB.1 p hp
  · rw [upd_ne (by omega), upd_ne (by omega)]
    refine ⟨(hB.2.1 u hu).1, (hB.2.1 u hu).2.1, ?_⟩
    by_cases e : u = t
    · subst e; rw [upd_eq, hv]; omega
    · rw [upd_ne (by omega)]; exact (hB.2.1 u hu).2.2
  · rw [upd_ne (by omega)]; exact hB.2.2.1 k hk
  · rw [upd_ne (by omega)]; exact hB.2.2.2
  · by_cases e : u = t
    · subst e; rw [upd_eq, hv]; omega
    · rw [upd_ne (by omega)]; have := hc u hu; omega
theorem GW.move {t q : Nat} (h : GX I g f T S F W) (hW : WF f T S F W) (hB : BD f T S) (hc : ∀ t, t < T → (f (26 + 5 * t + 4)).toInt ≤ 99 * (c : Int)) (ht : t < T) (hq20 : q < 20) (hu : taF f T (nI q) = none) : GW (xput I (g + 3) t (nI q)) g (upd f (26 + 5 * t + 1) (nI q)) c := by
  have hT6 := hW.T6
  have hS6 := hW.S6
  have hno : ∀ u, u < T → ¬ f (26 + 5 * u + 1) = nI q := fun u h1 => xfind_no hu u h1
  refine ⟨T, S, F, W, ⟨⟨xput_o (by omega) h.tr, xput_o (by omega) h.th, ?_, ?_⟩, fun q hq => ?_, fun u hu => ⟨?_, ?_, ?_, ?_, ?_⟩, fun k hk => ⟨?_, ?_, ?_⟩, ?_⟩, ⟨⟨?_, ?_, hT6, hS6⟩, fun k hk => ?_, fun u hu => ?_, fun u hu => ?_, fun u x hu hx => ?_, fun k hk => ?_, ?_, ?_⟩, ⟨fun p hp => ?_, fun u hu => ?_, fun k hk => ?_, ?_⟩, fun u hu => ?_⟩
  · rw [upd_ne (by omega)]; exact xput_o (by omega) h.ye
  · rw [upd_ne (by omega)]; exact xput_o (by omega) h.wi
  · rw [upd_ne (by omega)]; exact xput_o (by omega) (h.gr hq)
  · rw [upd_ne (by omega)]; exact xput_o (by omega) (h.k0 hu)
  · by_cases e : u = t
    · subst e; rw [upd_eq]; exact xput_e
    · rw [upd_ne (by omega)]; exact xput_i e (h.k1 hu)
  · rw [upd_ne (by omega)]; exact xput_o (by omega) (h.k2 hu)
  · rw [upd_ne (by omega)]; exact xput_o (by omega) (h.k3 hu)
  · rw [upd_ne (by omega)]; exact xput_o (by omega) (h.k4 hu)
  · rw [upd_ne (by omega)]; exact xput_o (by omega) (h.s0 hk)
  · rw [upd_ne (by omega)]; exact xput_o (by omega) (h.s1 hk)
  · rw [upd_ne (by omega)]; exact xput_o (by omega) (h.s2 hk)
  · obtain ⟨a, b, e1, e2, r⟩ := h.la
    exact ⟨a, b, xput_o (by omega) e1, xput_o (by omega) e2, r⟩
  · rw [upd_ne (by omega)]; exact hW.T0
  · rw [upd_ne (by omega)]; exact hW.S0
  · rw [tsF_upd (by omega), upd_ne (by omega)]; exact ⟨hW.ts hk, hW.ts9 hk⟩
  · rw [upd_ne (by omega)]; exact hW.kd hu
  · by_cases e : u = t
    · subst e; rw [upd_eq]; exact ⟨q, hq20, rfl⟩
    · rw [upd_ne (by omega)]; exact hW.st hu
  · by_cases e : u = t
    · by_cases e2 : x = t
      · omega
      · subst e; rw [upd_eq, upd_ne (by omega)]; exact fun z => absurd z.symm (hno x hx)
    · by_cases e2 : x = t
      · subst e2; rw [upd_eq, upd_ne (by omega)]; exact fun z => absurd z (hno u hu)
      · rw [upd_ne (by omega), upd_ne (by omega)]; exact hW.ne hu hx
  · rw [upd_ne (by omega)]; exact hW.sh hk
  · rw [upd_ne (by omega)]; exact hW.wi
  · rw [upd_ne (by omega), upd_ne (by omega)]; exact hW.lk
  · rw [upd_ne (by omega)]; exact hB.1 p hp
  · rw [upd_ne (by omega), upd_ne (by omega), upd_ne (by omega)]; exact hB.2.1 u hu
  · rw [upd_ne (by omega)]; exact hB.2.2.1 k hk
  · rw [upd_ne (by omega)]; exact hB.2.2.2
  · rw [upd_ne (by omega)]; exact hc u hu
theorem GW.level {v : Nat → Int32} {b : Nat → Int32} (h : GX I g f T S F W) (hW : WF f T S F W) (hB : BD f T S) (hc : ∀ t, t < T → (f (26 + 5 * t + 4)).toInt ≤ 99 * (c : Int)) (hb : ∀ p, p < 20 → b p = v p) (hv : ∀ p, p < 20 → 0 ≤ (v p).toInt ∧ (v p).toInt ≤ 60) : GW (xrow I (g + 1) b) g (xfill f v 6 20) c := by
  have hT6 := hW.T6
  have hS6 := hW.S6
  have o : ∀ j, (j < 6 ∨ 26 ≤ j) → xfill f v 6 20 j = f j := fun j hj => xfill_out (by omega)
  refine ⟨T, S, F, W, ⟨⟨xrow_oj (by omega) h.tr, xrow_oj (by omega) h.th, ?_, ?_⟩, fun q hq => ?_, fun u hu => ⟨?_, ?_, ?_, ?_, ?_⟩, fun k hk => ⟨?_, ?_, ?_⟩, ?_⟩, ⟨⟨?_, ?_, hT6, hS6⟩, fun k hk => ?_, fun u hu => ?_, fun u hu => ?_, fun u x hu hx => ?_, fun k hk => ?_, ?_, ?_⟩, ⟨fun p hp => ?_, fun u hu => ?_, fun k hk => ?_, ?_⟩, fun u hu => ?_⟩
  · rw [o _ (by omega)]; exact xrow_oj (by omega) h.ye
  · rw [o _ (by omega)]; exact xrow_oj (by omega) h.wi
  · rw [xrow_e, xfill_in (by omega) (by omega), hb q hq]; congr 1; omega
  · rw [o _ (by omega)]; exact xrow_oj (by omega) (h.k0 hu)
  · rw [o _ (by omega)]; exact xrow_oj (by omega) (h.k1 hu)
  · rw [o _ (by omega)]; exact xrow_oj (by omega) (h.k2 hu)
  · rw [o _ (by omega)]; exact xrow_oj (by omega) (h.k3 hu)
  · rw [o _ (by omega)]; exact xrow_oj (by omega) (h.k4 hu)
  · rw [o _ (by omega)]; exact xrow_oj (by omega) (h.s0 hk)
  · rw [o _ (by omega)]; exact xrow_oj (by omega) (h.s1 hk)
  · rw [o _ (by omega)]; exact xrow_oj (by omega) (h.s2 hk)
  · obtain ⟨a, b, e1, e2, r⟩ := h.la
    exact ⟨a, b, xrow_oj (by omega) e1, xrow_oj (by omega) e2, r⟩
  · rw [o _ (by omega)]; exact hW.T0
  · rw [o _ (by omega)]; exact hW.S0
  · have e : tsF (xfill f v 6 20) k = tsF f k := by unfold tsF; rw [o _ (by omega)]
    rw [e, o _ (by omega)]; exact ⟨hW.ts hk, hW.ts9 hk⟩
  · rw [o _ (by omega)]; exact hW.kd hu
  · rw [o _ (by omega)]; exact hW.st hu
  · rw [o _ (by omega), o _ (by omega)]; exact hW.ne hu hx
  · rw [o _ (by omega)]; exact hW.sh hk
  · rw [o _ (by omega)]; exact hW.wi
  · rw [o _ (by omega), o _ (by omega)]; exact hW.lk
  · rw [xfill_in (by omega) (by omega), show 6 + p - 6 = p by omega]; exact hv p hp
  · rw [o _ (by omega), o _ (by omega), o _ (by omega)]; exact hB.2.1 u hu
  · rw [o _ (by omega)]; exact hB.2.2.1 k hk
  · rw [o _ (by omega)]; exact hB.2.2.2
  · rw [o _ (by omega)]; exact hc u hu
end
