/-! BYTES FED -/
def btW (w : Int64) (j : Nat) : Nat := (w.toBitVec.toNat >>> (8 * j)) % 256
theorem btW_b {w : Int64} {j i : Nat} : (btW w j).testBit i = (decide (i < 8) && w.toBitVec.getLsbD (8 * j + i)) := by
  unfold btW
  rw [show (256 : Nat) = 2 ^ 8 from rfl, Nat.testBit_mod_two_pow, Nat.testBit_shiftRight, BitVec.testBit_toNat]
theorem fb_1 (w : Int64) (j : Nat) (hj : j ≤ 7) {a : Int64} (ha : (a.toBitVec.smod 64).toNat = 8 * j) : ((w >>> a) &&& 255).toInt32 = nI (btW w j) := by
  have e : (nI (btW w j)).toBitVec = BitVec.ofNat 32 (btW w j) := rfl
  · refine Int32.toBitVec_inj.mp (BitVec.eq_of_getLsbD_eq (fun i hi => ?_))
    rw [e, BitVec.getLsbD_ofNat, btW_b, Int64.toBitVec_toInt32, BitVec.getLsbD_signExtend, Int64.toBitVec_and, Int64.toBitVec_shiftRight, BitVec.sshiftRight_eq', ha]
    rw [if_pos (by omega), BitVec.getLsbD_and, BitVec.getLsbD_sshiftRight]
    by_cases h8 : i < 8
    · have h255 : (255 : Int64).toBitVec.getLsbD i = true := by
        rcases (show i = 0 ∨ i = 1 ∨ i = 2 ∨ i = 3 ∨ i = 4 ∨ i = 5 ∨ i = 6 ∨ i = 7 by omega) with rfl | rfl | rfl | rfl | rfl | rfl | rfl | rfl <;> decide
      rw [h255, if_pos (by omega)]
      simp [hi, h8, show i < 64 by omega]
    · have h255 : (255 : Int64).toBitVec.getLsbD i = false := by
        show (255#64).getLsbD i = false
        rw [BitVec.getLsbD_ofNat, Nat.testBit_lt_two_pow (show 255 < 2 ^ i from Nat.lt_of_lt_of_le (by decide : 255 < 2 ^ 8) (Nat.pow_le_pow_right (by decide) (by omega)))]
        exact Bool.and_false _
      rw [h255]
      simp [h8]
theorem fb_2 (w : Int64) (j : Nat) (hj : j ≤ 7) {b : UInt64} (hb : (b.toBitVec % 64).toNat = 8 * j) : ((w.toUInt64 >>> b).toInt64).toInt32.toInt8 = (nI (btW w j)).toInt8 := by
  have e : (nI (btW w j)).toBitVec = BitVec.ofNat 32 (btW w j) := rfl
  · refine Int8.toBitVec_inj.mp (BitVec.eq_of_getLsbD_eq (fun i hi => ?_))
    rw [Int32.toBitVec_toInt8, Int32.toBitVec_toInt8, BitVec.getLsbD_signExtend, BitVec.getLsbD_signExtend, e, BitVec.getLsbD_ofNat, btW_b, Int64.toBitVec_toInt32, BitVec.getLsbD_signExtend]
    rw [show ((w.toUInt64 >>> b).toInt64).toBitVec = (w.toUInt64 >>> b).toBitVec from rfl, UInt64.toBitVec_shiftRight, show ∀ (x y : BitVec 64), x >>> y = x >>> y.toNat from fun _ _ => rfl, hb, BitVec.getLsbD_ushiftRight]
    rw [show w.toUInt64.toBitVec = w.toBitVec from rfl]
    simp [hi, show i < 32 by omega, show i < 64 by omega]
theorem fb_k (w : Int64) {j : Nat} (hj : j ≤ 7) : fbyte w (j : Int) = nI (btW w j) ∧ cbyte w (j : Int) = cb (btW w j) := by
  unfold fbyte cbyte cb
  rcases (show j = 0 ∨ j = 1 ∨ j = 2 ∨ j = 3 ∨ j = 4 ∨ j = 5 ∨ j = 6 ∨ j = 7 by omega) with rfl | rfl | rfl | rfl | rfl | rfl | rfl | rfl <;>
    exact ⟨fb_1 w _ hj (by decide), congrArg Int8.toInt32 (fb_2 w _ hj (by decide))⟩
theorem btW_l {w : Int64} {j : Nat} : btW w j ≤ 255 := by unfold btW; omega
/-! THE TAPE -/
theorem LR.tape {I M : xM} {nw sp c : Nat} (h : LR I nw sp c) (e : ∀ o, o ≠ 2 → o ≠ 3 → o ≠ 307 → o ≠ 314 → M o = I o) (e7 : ∀ j, j ≠ 0 → j ≠ 11 → M 307 j = I 307 j) (h3 : L3 M) : LR M nw sp (c + 1) := by
  obtain ⟨h1, h2, -, h4, h5, h6, h7, h8, h9, h10, h11⟩ := h
  have e0 : M 0 = I 0 := e 0 (by omega) (by omega) (by omega) (by omega)
  refine ⟨h1, h2.tr (fun o ho => e o (by omega) (by omega) (by omega) (by omega)), h3, ⟨?_, ?_⟩, h5.tr (by rw [e0]) (e7 7 (by omega) (by omega)), ?_, h7.mono.tr (by rw [e0]) (by rw [e0]) (e7 9 (by omega) (by omega)) (e 313 (by omega) (by omega) (by omega) (by omega)) (fun i a b => e i (by omega) (by omega) (by omega) (by omega)), h8.mono.tr (e 30 (by omega) (by omega) (by omega) (by omega)) (e 316 (by omega) (by omega) (by omega) (by omega)) (e 317 (by omega) (by omega) (by omega) (by omega)) (fun i a b => e i (by omega) (by omega) (by omega) (by omega)), h9.tr (by rw [e 6 (by omega) (by omega) (by omega) (by omega)]) (e 7 (by omega) (by omega) (by omega) (by omega)) (e7 24 (by omega) (by omega)) (e 318 (by omega) (by omega) (by omega) (by omega)), h10.tr (e 315 (by omega) (by omega) (by omega) (by omega)), h11.tr (fun i hi => e i (by omega) (by omega) (by omega) (by omega))⟩
  · rw [e7 12 (by omega) (by omega), e0]; exact h4.1
  · rw [e7 1 (by omega) (by omega), e0]; exact h4.2
  · rw [e 311 (by omega) (by omega) (by omega) (by omega)]
    exact (h6.mono (Nat.le_succ c)).ext (fun i a b => e i (by rcases h1 with h1 | h1 <;> omega) (by rcases h1 with h1 | h1 <;> omega) (by rcases h1 with h1 | h1 <;> omega) (by rcases h1 with h1 | h1 <;> omega))
theorem st_feed {I : xM} {nw sp c : Nat} {w : Int64} {x : Int32} (h : LR I nw sp c) : PairS yX5_feed cX5_feed 5 yX6_feed cX6_feed 5 [.long w, .int x] I nw sp c := by
  have hs := h.2.2.2.1.2
  obtain ⟨tp, t, hq, hc⟩ := h.2.2.1
  have ht4 := hq.2.1
  by_cases hb : 1 ≤ x.toInt ∧ x.toInt ≤ 8
  · obtain ⟨n, hn, rfl⟩ := nI_ex (x := x) (m := 9) (by omega) (by omega)
    rw [nI_toInt (n := n) (by omega)] at hb
    by_cases hf : t + n ≤ 400
    · refine pair_ii (fun l => c_X5_feed_ok l hc.1 (by omega) (by omega) hf) (fun l => c_X6_feed_ok (t := t) l (by first | exact hq.1 | (simp (disch := omega) only [xput_ne, xrow_o, xput_in, xput_e, xrow_e]; exact hq.1)) (by omega) (by omega) hf) rfl (h.tape (fun o a1 a2 a3 a4 => by simp (disch := omega) only [xput_ne, xrow_o, xput_in, xput_e, xrow_e]) (fun j a1 a2 => by simp (disch := omega) only [xput_ne, xrow_o, xput_in, xput_e, xrow_e]) ⟨fun k => if t ≤ k ∧ k < t + n then btW w (n - 1 - (k - t)) else tp k, t + n, ⟨by simp (disch := omega) only [xput_ne, xrow_o, xput_in, xput_e, xrow_e], hf, fun k hk => ?_⟩, by simp (disch := omega) only [xput_ne, xrow_o, xput_in, xput_e, xrow_e], hf, fun k hk => ?_⟩)
      · by_cases hk2 : t ≤ k
        · have hz : (n : Int) - 1 - ((k - t : Nat) : Int) = ((n - 1 - (k - t) : Nat) : Int) := by omega
          refine ⟨?_, ?_⟩
          · simp (disch := omega) only [xput_ne, xrow_o, xput_in, xput_e, xrow_e]
            rw [xfill_in hk2 hk, if_pos ⟨hk2, hk⟩, hz, (fb_k w (by omega)).1]
          · show (if t ≤ k ∧ k < t + n then btW w (n - 1 - (k - t)) else tp k) ≤ 255
            rw [if_pos ⟨hk2, hk⟩]; exact btW_l
        · refine ⟨?_, ?_⟩
          · simp (disch := omega) only [xput_ne, xrow_o, xput_in, xput_e, xrow_e]
            rw [xfill_out (by omega), if_neg (by omega)]; exact (hq.2.2 k (by omega)).1
          · show (if t ≤ k ∧ k < t + n then btW w (n - 1 - (k - t)) else tp k) ≤ 255
            rw [if_neg (by omega)]; exact (hq.2.2 k (by omega)).2
      · by_cases hk2 : t ≤ k
        · have hz : (n : Int) - 1 - ((k - t : Nat) : Int) = ((n - 1 - (k - t) : Nat) : Int) := by omega
          refine ⟨?_, ?_⟩
          · simp (disch := omega) only [xput_ne, xrow_o, xput_in, xput_e, xrow_e]
            rw [xfill_in hk2 hk, if_pos ⟨hk2, hk⟩, hz, (fb_k w (by omega)).2]
          · show (if t ≤ k ∧ k < t + n then btW w (n - 1 - (k - t)) else tp k) ≤ 255
            rw [if_pos ⟨hk2, hk⟩]; exact btW_l
        · refine ⟨?_, ?_⟩
          · simp (disch := omega) only [xput_ne, xrow_o, xput_in, xput_e, xrow_e]
            rw [xfill_out (by omega), if_neg (by omega)]; exact (hc.2.2 k (by omega)).1
          · show (if t ≤ k ∧ k < t + n then btW w (n - 1 - (k - t)) else tp k) ≤ 255
            rw [if_neg (by omega)]; exact (hc.2.2 k (by omega)).2
    · exact pair_ii (fun l => c_X5_feed_full l hc.1 (by omega) (by omega) (by omega) (by omega)) (fun l => c_X6_feed_full (t := t) l (by first | exact hq.1 | (simp (disch := omega) only [xput_ne, xrow_o, xput_in, xput_e, xrow_e]; exact hq.1)) (by omega) (by omega) (by omega) (by omega)) rfl (h.q (fun o a b c => by simp (disch := omega) only [xput_ne, xrow_o, xput_in, xput_e, xrow_e]) (fun j a => by simp (disch := omega) only [xput_ne, xrow_o, xput_in, xput_e, xrow_e]) (fun j a b => by simp (disch := omega) only [xput_ne, xrow_o, xput_in, xput_e, xrow_e]) (by first | (simp (disch := omega) only [xput_ne, xrow_o, xput_in, xput_e, xrow_e]; done) | (simp (disch := omega) only [xput_ne, xrow_o, xput_in, xput_e, xrow_e]; exact hs)))
  · exact pair_ii (fun l => c_X5_feed_bad l hb) (fun l => c_X6_feed_bad l hb) rfl (h.q (fun o a b c => by simp (disch := omega) only [xput_ne, xrow_o, xput_in, xput_e, xrow_e]) (fun j a => by simp (disch := omega) only [xput_ne, xrow_o, xput_in, xput_e, xrow_e]) (fun j a b => by simp (disch := omega) only [xput_ne, xrow_o, xput_in, xput_e, xrow_e]) (by first | (simp (disch := omega) only [xput_ne, xrow_o, xput_in, xput_e, xrow_e]; done) | (simp (disch := omega) only [xput_ne, xrow_o, xput_in, xput_e, xrow_e]; exact hs)))
theorem st_garden {I : xM} {nw sp c : Nat} (h : LR I nw sp c) : PairS yX5_garden cX5_garden 3 yX6_garden cX6_garden 2 [] I nw sp c := by
  have hnw := h.nwG
  have hsp := h.spG
  obtain ⟨h1, h2, h3, h4, h5, h6, h7, h8, h9, h10, h11⟩ := h
  obtain ⟨tp, n, hq, hc⟩ := h3
  refine ⟨9, _, by decide, fun l => c_X5_garden l (tp := tp) (n := n) (f := I 312) hc hnw hsp (h11 sp hsp), fun v n' J R' hp => ?_⟩
  obtain ⟨x, rfl, rfl, jo, f2, f3, f4, hcase⟩ := hp
  have hs : sp = 8 ∨ sp = 18 := by rcases h1 with ⟨-, h⟩ | ⟨-, h⟩; exact Or.inr h; exact Or.inl h
  have hns : nw = 8 ∧ sp = 18 ∨ nw = 18 ∧ sp = 8 := h1
  have j307 : J 307 = I 307 := jo 307 (by omega) (by omega) (by omega)
  have hq6 : tpQ J tp n := ⟨by rw [j307]; exact hq.1, hq.2.1, fun k hk => by rw [jo 314 (by omega) (by omega) (by omega)]; exact hq.2.2 k hk⟩
  have z7 : ∀ {K : xM}, K 0 8 = I 0 8 → K 0 9 = nI 0 → K 307 9 = nI 0 → L7 K (c + 1) := fun a1 a2 a3 => by
    obtain ⟨dn, D, b1, b2, b3, b4, b5, b6⟩ := h7
    exact ⟨dn, 0, b1, by omega, a1.trans b3, a2, a3, fun d hd => absurd hd (Nat.not_lt_zero d)⟩
  rcases hcase with ⟨e, e1, rfl, e2, e3, e4, rfl⟩ | ⟨t, g, T, S, F, W, e1, rfl, e2, e3, e4, hG, hgf, rfl⟩
  · refine ⟨rfl, _, nw, sp, rfl, rfl, 6, _, by decide, fun l => c_X6_garden l (tp := tp) (n := n) hq6, fun v6 n6 K R6 hk => ?_⟩
    obtain ⟨y, rfl, rfl, ⟨⟨k1, k2, k3, k4⟩, kc⟩, rfl⟩ := hk
    rw [jo 312 (by omega) (by omega) (by omega)] at kc
    rcases kc with ⟨e', q1, rfl, q2, q3, q4, q5⟩ | ⟨t, g, q1, -⟩
    · rw [e1] at q1
      cases q1
      have k0 : K 0 = J 0 := k1 0 (by omega) (by omega) (by omega)
      have ko : ∀ o, o ≠ 0 → o ≠ 2 → o ≠ 307 → o ≠ 311 → o ≠ 312 → (o < sp ∨ sp + 10 ≤ o) → K o = I o := fun o a1 a2 a3 a4 a5 a6 => (k1 o a3 a5 a4).trans (jo o a1 a2 a6)
      have k07 : ∀ j, ¬ (j = 0 ∨ j = 7 ∨ j = 9 ∨ (11 ≤ j ∧ j ≤ 19)) → K 307 j = I 307 j := fun j hj => ((k2 j).resolve_left hj).trans (congrFun j307 j)
      have j0 : ∀ j, ¬ (j = 6 ∨ j = 9 ∨ j = 12) → K 0 j = I 0 j := fun j hj => (congrFun k0 j).trans ((f4 j).resolve_left hj)
      refine ⟨rfl, rfl, rfl, h1, h2.tr (fun o ho => ko o (by omega) (by omega) (by omega) (by omega) (by omega) (by omega)), ⟨tp, 0, ⟨k4, by omega, fun k hk => absurd hk (Nat.not_lt_zero k)⟩, (congrFun (k1 2 (by omega) (by omega) (by omega)) 1).trans f2, by omega, fun k hk => absurd hk (Nat.not_lt_zero k)⟩, ⟨?_, ?_⟩, h5.tr ((congrFun k0 6).trans e3) (q3.trans (congrFun j307 7)), ?_, h7.mono.tr (j0 8 (by omega)) ((congrFun k0 9).trans e4) (q4.trans (congrFun j307 9)) (ko 313 (by omega) (by omega) (by omega) (by omega) (by omega) (by omega)) (fun i a b => ko i (by omega) (by omega) (by omega) (by omega) (by omega) (by omega)), h8.mono.tr (ko 30 (by omega) (by omega) (by omega) (by omega) (by omega) (by omega)) (ko 316 (by omega) (by omega) (by omega) (by omega) (by omega) (by omega)) (ko 317 (by omega) (by omega) (by omega) (by omega) (by omega) (by omega)) (fun i a b => ko i (by omega) (by omega) (by omega) (by omega) (by omega) (by omega)), h9.tr (by rw [ko 6 (by omega) (by omega) (by omega) (by omega) (by omega) (by omega)]) (ko 7 (by omega) (by omega) (by omega) (by omega) (by omega) (by omega)) (k07 24 (by omega)) (ko 318 (by omega) (by omega) (by omega) (by omega) (by omega) (by omega)), h10.tr (ko 315 (by omega) (by omega) (by omega) (by omega) (by omega) (by omega)), fun q hqg => ?_⟩
      · rw [q2, k0, e2]
      · rw [k07 1 (by omega), j0 13 (by omega)]; exact h4.2
      · rw [q5, jo 311 (by omega) (by omega) (by omega)]
        exact (h6.mono (Nat.le_succ c)).ext (fun i a b => ko i (by omega) (by omega) (by omega) (by omega) (by omega) (by omega))
      · by_cases eq : q = sp
        · subst eq
          exact f3.ext (fun i a b => k1 i (by omega) (by omega) (by omega))
        · refine (h11 q hqg).ext (fun i a b => ?_)
          rcases hqg with hg | hg | ⟨k, hk, hg⟩ <;> exact ko i (by omega) (by omega) (by omega) (by omega) (by omega) (by omega)
    · rw [e1] at q1; cases q1
  · refine ⟨rfl, _, sp, nw, rfl, rfl, 6, _, by decide, fun l => c_X6_garden l (tp := tp) (n := n) hq6, fun v6 n6 K R6 hk => ?_⟩
    obtain ⟨y, rfl, rfl, ⟨⟨k1, k2, k3, k4⟩, kc⟩, rfl⟩ := hk
    rw [jo 312 (by omega) (by omega) (by omega)] at kc
    rcases kc with ⟨e', q1, -⟩ | ⟨t', g', q1, rfl, q2, q3, q4, q5⟩
    · rw [e1] at q1; cases q1
    · rw [e1] at q1
      cases q1
      have k0 : K 0 = J 0 := k1 0 (by omega) (by omega) (by omega)
      have ko : ∀ o, o ≠ 0 → o ≠ 2 → o ≠ 307 → o ≠ 311 → o ≠ 312 → (o < sp ∨ sp + 10 ≤ o) → K o = I o := fun o a1 a2 a3 a4 a5 a6 => (k1 o a3 a5 a4).trans (jo o a1 a2 a6)
      have k07 : ∀ j, ¬ (j = 0 ∨ j = 7 ∨ j = 9 ∨ (11 ≤ j ∧ j ≤ 19)) → K 307 j = I 307 j := fun j hj => ((k2 j).resolve_left hj).trans (congrFun j307 j)
      have j0 : ∀ j, ¬ (j = 6 ∨ j = 9 ∨ j = 12) → K 0 j = I 0 j := fun j hj => (congrFun k0 j).trans ((f4 j).resolve_left hj)
      refine ⟨rfl, rfl, rfl, by omega, h2.tr (fun o ho => ko o (by omega) (by omega) (by omega) (by omega) (by omega) (by omega)), ⟨tp, 0, ⟨k4, by omega, fun k hk => absurd hk (Nat.not_lt_zero k)⟩, (congrFun (k1 2 (by omega) (by omega) (by omega)) 1).trans f2, by omega, fun k hk => absurd hk (Nat.not_lt_zero k)⟩, ⟨?_, ?_⟩, Or.inr ⟨(congrFun k0 6).trans e3, q3⟩, ?_, z7 (j0 8 (by omega)) ((congrFun k0 9).trans e4) q4, h8.mono.tr (ko 30 (by omega) (by omega) (by omega) (by omega) (by omega) (by omega)) (ko 316 (by omega) (by omega) (by omega) (by omega) (by omega) (by omega)) (ko 317 (by omega) (by omega) (by omega) (by omega) (by omega) (by omega)) (fun i a b => ko i (by omega) (by omega) (by omega) (by omega) (by omega) (by omega)), h9.tr (by rw [ko 6 (by omega) (by omega) (by omega) (by omega) (by omega) (by omega)]) (ko 7 (by omega) (by omega) (by omega) (by omega) (by omega) (by omega)) (k07 24 (by omega)) (ko 318 (by omega) (by omega) (by omega) (by omega) (by omega) (by omega)), h10.tr (ko 315 (by omega) (by omega) (by omega) (by omega) (by omega) (by omega)), fun q hqg => ?_⟩
      · rw [q2, k0, e2, j307]; exact h4.1
      · rw [k07 1 (by omega), j0 13 (by omega)]; exact h4.2
      · refine (GW.ext (I := J) ?_ (fun i a b => k1 i (by omega) (by omega) (by omega))).congr q5
        have hT6 := hgf.1.T6
        exact ⟨T, S, F, W, hG, hgf.1, hgf.2.1, fun u hu => by rw [hgf.2.2.2.2 u (by omega)]; show (0 : Int) ≤ _; omega⟩
      · by_cases eq : q = sp
        · subst eq
          exact f3.ext (fun i a b => k1 i (by omega) (by omega) (by omega))
        · refine (h11 q hqg).ext (fun i a b => ?_)
          rcases hqg with hg | hg | ⟨k, hk, hg⟩ <;> exact ko i (by omega) (by omega) (by omega) (by omega) (by omega) (by omega)