/-! BOTH MEMORIES TELL THE SAME -/
theorem WF.congr {f g : Nat → Int32} {T S F W : Nat} (h : WF f T S F W) (e : ∀ j, j < 74 → g j = f j) : WF g T S F W := by
  have hT := h.T6
  have hS := h.S6
  have et : ∀ k, k < S → tsF g k = tsF f k := fun k hk => by unfold tsF; rw [e (56 + 3 * k) (by omega)]
  refine ⟨⟨?_, ?_, hT, hS⟩, fun k hk => ?_, fun u hu => ?_, fun u hu => ?_, fun u x hu hx => ?_, fun k hk => ?_, ?_, ?_⟩
  · rw [e 0 (by omega)]; exact h.T0
  · rw [e 1 (by omega)]; exact h.S0
  · rw [et k hk, e (56 + 3 * k) (by omega)]; exact ⟨h.ts hk, h.ts9 hk⟩
  · rw [e (26 + 5 * u + 0) (by omega)]; exact h.kd hu
  · rw [e (26 + 5 * u + 1) (by omega)]; exact h.st hu
  · rw [e (26 + 5 * u + 1) (by omega), e (26 + 5 * x + 1) (by omega)]; exact h.ne hu hx
  · rw [e (56 + 3 * k + 2) (by omega)]; exact h.sh hk
  · rw [e 3 (by omega)]; exact h.wi
  · rw [e 4 (by omega), e 5 (by omega)]; exact h.lk
theorem GX.congr {I : xM} {q : Nat} {f g : Nat → Int32} {T S F W : Nat} (h : GX I q f T S F W) (hT : T ≤ 6) (hS : S ≤ 6) (e : ∀ j, j < 74 → g j = f j) : GX I q g T S F W := by
  refine ⟨⟨h.tr, h.th, ?_, ?_⟩, fun p hp => ?_, fun u hu => ⟨?_, ?_, ?_, ?_, ?_⟩, fun k hk => ⟨?_, ?_, ?_⟩, h.la⟩
  · rw [e 2 (by omega)]; exact h.ye
  · rw [e 3 (by omega)]; exact h.wi
  · rw [e (6 + p) (by omega)]; exact h.gr hp
  · rw [e (26 + 5 * u + 0) (by omega)]; exact h.k0 hu
  · rw [e (26 + 5 * u + 1) (by omega)]; exact h.k1 hu
  · rw [e (26 + 5 * u + 2) (by omega)]; exact h.k2 hu
  · rw [e (26 + 5 * u + 3) (by omega)]; exact h.k3 hu
  · rw [e (26 + 5 * u + 4) (by omega)]; exact h.k4 hu
  · rw [e (56 + 3 * k) (by omega)]; exact h.s0 hk
  · rw [e (56 + 3 * k + 1) (by omega)]; exact h.s1 hk
  · rw [e (56 + 3 * k + 2) (by omega)]; exact h.s2 hk
theorem BD.congr {f g : Nat → Int32} {T S : Nat} (h : BD f T S) (hT : T ≤ 6) (hS : S ≤ 6) (e : ∀ j, j < 74 → g j = f j) : BD g T S := by
  refine ⟨fun p hp => ?_, fun u hu => ?_, fun k hk => ?_, ?_⟩
  · rw [e (6 + p) (by omega)]; exact h.1 p hp
  · rw [e (26 + 5 * u + 2) (by omega), e (26 + 5 * u + 3) (by omega), e (26 + 5 * u + 4) (by omega)]; exact h.2.1 u hu
  · rw [e (56 + 3 * k + 1) (by omega)]; exact h.2.2.1 k hk
  · rw [e 2 (by omega)]; exact h.2.2.2
def GW (I : xM) (g : Nat) (f : Nat → Int32) (c : Nat) : Prop := ∃ T S F W, GX I g f T S F W ∧ WF f T S F W ∧ BD f T S ∧ ∀ t, t < T → (f (26 + 5 * t + 4)).toInt ≤ 99 * (c : Int)
theorem GW.congr {I : xM} {q c : Nat} {f g : Nat → Int32} (h : GW I q f c) (e : ∀ j, j < 74 → g j = f j) : GW I q g c := by
  obtain ⟨T, S, F, W, h1, h2, h3, h4⟩ := h
  have hT := h2.T6
  exact ⟨T, S, F, W, h1.congr h2.T6 h2.S6 e, h2.congr e, h3.congr h2.T6 h2.S6 e, fun t ht => by rw [e _ (by omega)]; exact h4 t ht⟩
theorem GW.mono {I : xM} {q c d : Nat} {f : Nat → Int32} (h : GW I q f c) (hcd : c ≤ d) : GW I q f d := by
  obtain ⟨T, S, F, W, h1, h2, h3, h4⟩ := h
  exact ⟨T, S, F, W, h1, h2, h3, fun t ht => by have := h4 t ht; omega⟩
theorem GW.ext {I K : xM} {q c : Nat} {f : Nat → Int32} (h : GW I q f c) (e : ∀ i, q ≤ i → i < q + 10 → K i = I i) : GW K q f c := by
  obtain ⟨T, S, F, W, h1, h2, h3⟩ := h
  exact ⟨T, S, F, W, h1.ext e, h2, h3⟩
def rowR (I : xM) (r : Nat) : Prop := (I (31 + 2 * r) 0 = nI 0 ∧ (I 308 r).toInt < 0) ∨ ∃ ln m, ln < 3 ∧ m ≤ 40 ∧ I (31 + 2 * r) 0 = nI 1 ∧ I (31 + 2 * r) 1 = nI ln ∧ I 308 r = nI ln ∧ I (31 + 2 * r) 2 = nI m ∧ I 309 r = nI m ∧ ∀ j, j < m → I (32 + 2 * r) j = I 310 (40 * r + j)
def L2 (I : xM) : Prop := ∀ r, r < 8 → rowR I r
def L3 (I : xM) : Prop := ∃ tp n, tpQ I tp n ∧ cbP I tp n
def L4 (I : xM) : Prop := I 307 12 = I 0 12 ∧ I 307 1 = I 0 13
def L5 (I : xM) : Prop := (I 0 6 = nI 0 ∧ I 307 7 = nI 0) ∨ (I 0 6 = nI 1 ∧ I 307 7 = nI 1)
def L7 (I : xM) (c : Nat) : Prop := ∃ n D, n < 24 ∧ D ≤ 24 ∧ I 0 8 = nI n ∧ I 0 9 = nI D ∧ I 307 9 = nI D ∧ ∀ d, d < D → GW I (47 + 10 * ((n + 24 - D + d) % 24)) (fun j => I 313 (74 * d + j)) c
def L8 (I : xM) (c : Nat) : Prop := ∀ k, k < 2 → (I 30 k = nI 0 ∧ I 316 k = nI 0) ∨ (I 30 k = nI 1 ∧ I 316 k = nI 1 ∧ GW I (287 + 10 * k) (fun j => I 317 (74 * k + j)) c)
def L9 (I : xM) : Prop := ∃ n, n ≤ 16 ∧ I 6 1 = nI n ∧ I 307 24 = nI n ∧ ∀ i, i < n → I 7 i = I 318 i
def L10 (I : xM) : Prop := ∀ t, t < 6 → I 315 t = 0
def L11 (I : xM) : Prop := ∀ g, xG g → BZ I g
def LR (I : xM) (nw sp c : Nat) : Prop := ((nw = 8 ∧ sp = 18) ∨ (nw = 18 ∧ sp = 8)) ∧ L2 I ∧ L3 I ∧ L4 I ∧ L5 I ∧ GW I nw (I 311) c ∧ L7 I c ∧ L8 I c ∧ L9 I ∧ L10 I ∧ L11 I
section
variable {I K : xM} {nw sp c : Nat}
theorem L7.mono (h : L7 I c) : L7 I (c + 1) := by
  obtain ⟨n, D, h1, h2, h3, h4, h5, h6⟩ := h
  exact ⟨n, D, h1, h2, h3, h4, h5, fun d hd => (h6 d hd).mono (Nat.le_succ c)⟩
theorem L8.mono (h : L8 I c) : L8 I (c + 1) := fun k hk => (h k hk).imp id (fun z => ⟨z.1, z.2.1, z.2.2.mono (Nat.le_succ c)⟩)
theorem L2.tr (h : L2 I) (e : ∀ o, (31 ≤ o ∧ o ≤ 46) ∨ (308 ≤ o ∧ o ≤ 310) → K o = I o) : L2 K := fun r hr => by
  have h1 := h r hr
  unfold rowR at h1 ⊢
  rw [e (31 + 2 * r) (by omega), e (32 + 2 * r) (by omega), e 308 (by omega), e 309 (by omega), e 310 (by omega)]
  exact h1
theorem L3.tr (h : L3 I) (e1 : K 2 1 = I 2 1) (e2 : K 3 = I 3) (e3 : K 307 11 = I 307 11) (e4 : K 314 = I 314) : L3 K := by
  obtain ⟨tp, n, h1, h2⟩ := h
  exact ⟨tp, n, ⟨e3.trans h1.1, h1.2.1, fun k hk => by rw [e4]; exact h1.2.2 k hk⟩, e1.trans h2.1, h2.2.1, fun k hk => by rw [e2]; exact h2.2.2 k hk⟩
theorem L5.tr (h : L5 I) (e1 : K 0 6 = I 0 6) (e2 : K 307 7 = I 307 7) : L5 K := by unfold L5; rw [e1, e2]; exact h
theorem L7.tr (h : L7 I c) (e1 : K 0 8 = I 0 8) (e2 : K 0 9 = I 0 9) (e3 : K 307 9 = I 307 9) (e4 : K 313 = I 313) (e5 : ∀ i, 47 ≤ i → i < 287 → K i = I i) : L7 K c := by
  obtain ⟨n, D, h1, h2, h3, h4, h5, h6⟩ := h
  refine ⟨n, D, h1, h2, e1.trans h3, e2.trans h4, e3.trans h5, fun d hd => ?_⟩
  rw [e4]
  exact (h6 d hd).ext (fun i hi1 hi2 => e5 i (by omega) (by omega))
theorem L8.tr (h : L8 I c) (e1 : K 30 = I 30) (e2 : K 316 = I 316) (e3 : K 317 = I 317) (e4 : ∀ i, 287 ≤ i → i < 307 → K i = I i) : L8 K c := fun k hk => by
  rw [e1, e2, e3]
  rcases h k hk with h1 | ⟨h1, h2, h3⟩
  · exact Or.inl h1
  · exact Or.inr ⟨h1, h2, h3.ext (fun i a b => e4 i (by omega) (by omega))⟩
theorem L9.tr (h : L9 I) (e1 : K 6 1 = I 6 1) (e2 : K 7 = I 7) (e3 : K 307 24 = I 307 24) (e4 : K 318 = I 318) : L9 K := by
  obtain ⟨n, h1, h2, h3, h4⟩ := h
  exact ⟨n, h1, e1.trans h2, e3.trans h3, fun i hi => by rw [e2, e4]; exact h4 i hi⟩
theorem L10.tr (h : L10 I) (e1 : K 315 = I 315) : L10 K := fun t ht => by rw [e1]; exact h t ht
theorem L11.tr (h : L11 I) (e : ∀ i, (8 ≤ i ∧ i < 28) ∨ (47 ≤ i ∧ i < 307) → K i = I i) : L11 K := fun g hg => (h g hg).ext (fun i a b => e i (by rcases hg with hg | hg | ⟨k, hk, hg⟩ <;> omega))
/-- the memory goes on, but for the finding and the bars -/
theorem LR.q (h : LR I nw sp c) (e : ∀ o, o ≠ 0 → o ≠ 5 → o ≠ 307 → K o = I o) (e0 : ∀ j, j ≠ 13 → K 0 j = I 0 j) (e7 : ∀ j, j ≠ 0 → j ≠ 1 → K 307 j = I 307 j) (es : K 307 1 = K 0 13) : LR K nw sp (c + 1) := by
  obtain ⟨h1, h2, h3, h4, h5, h6, h7, h8, h9, h10, h11⟩ := h
  refine ⟨h1, h2.tr (fun o ho => e o (by omega) (by omega) (by omega)), h3.tr (by rw [e 2 (by omega) (by omega) (by omega)]) (e 3 (by omega) (by omega) (by omega)) (e7 11 (by omega) (by omega)) (e 314 (by omega) (by omega) (by omega)), ⟨?_, es⟩, h5.tr (e0 6 (by omega)) (e7 7 (by omega) (by omega)), ?_, h7.mono.tr (e0 8 (by omega)) (e0 9 (by omega)) (e7 9 (by omega) (by omega)) (e 313 (by omega) (by omega) (by omega)) (fun i a b => e i (by omega) (by omega) (by omega)), h8.mono.tr (e 30 (by omega) (by omega) (by omega)) (e 316 (by omega) (by omega) (by omega)) (e 317 (by omega) (by omega) (by omega)) (fun i a b => e i (by omega) (by omega) (by omega)), h9.tr (by rw [e 6 (by omega) (by omega) (by omega)]) (e 7 (by omega) (by omega) (by omega)) (e7 24 (by omega) (by omega)) (e 318 (by omega) (by omega) (by omega)), h10.tr (e 315 (by omega) (by omega) (by omega)), h11.tr (fun i hi => e i (by omega) (by omega) (by omega))⟩
  · rw [e7 12 (by omega) (by omega), e0 12 (by omega)]; exact h4.1
  · rw [e 311 (by omega) (by omega) (by omega)]
    exact (h6.mono (Nat.le_succ c)).ext (fun i a b => e i (by omega) (by omega) (by omega))
theorem LR.nwG (h : LR I nw sp c) : xG nw := by rcases h.1 with ⟨rfl, rfl⟩ | ⟨rfl, rfl⟩; exact Or.inl rfl; exact Or.inr (Or.inl rfl)
theorem LR.spG (h : LR I nw sp c) : xG sp := by rcases h.1 with ⟨rfl, rfl⟩ | ⟨rfl, rfl⟩; exact Or.inr (Or.inl rfl); exact Or.inl rfl
theorem LR.ns (h : LR I nw sp c) : nw = 8 ∨ nw = 18 := by rcases h.1 with ⟨h, -⟩ | ⟨h, -⟩; exact Or.inl h; exact Or.inr h
end
/-- one call of both, with the same words -/
def PairS (y5 : MethodName) (b5 : ByteArray) (m5 : Nat) (y6 : MethodName) (b6 : ByteArray) (m6 : Nat) (as : List Value) (I : xM) (nw sp c : Nat) : Prop :=
  ∃ lv5 Post5, lv5 ≤ 20 ∧ (∀ l, xC l lv5 0 0 y5 b5 m5 (some .int) 319 (.ref 0 :: as) I (xRL nw sp) Post5) ∧ ∀ v n' J R', Post5 v n' J R' → n' = 319 ∧ ∃ r nw' sp', v = some (.int r) ∧ R' = xRL nw' sp' ∧
    ∃ lv6 Post6, lv6 ≤ 20 ∧ (∀ l, xC l lv6 0 0 y6 b6 m6 (some .int) 319 (.ref 307 :: as) J (xRL nw' sp') Post6) ∧ ∀ v6 n6 K R6, Post6 v6 n6 K R6 → v6 = some (.int r) ∧ n6 = 319 ∧ R6 = xRL nw' sp' ∧ LR K nw' sp' (c + 1)
section
variable {y5 y6 : MethodName} {b5 b6 : ByteArray} {m5 m6 l5 l6 nw sp c : Nat} {as : List Value} {I J K : xM} {e e' : Int32}
theorem pair_ii (h5 : ∀ l, xC l l5 0 0 y5 b5 m5 (some .int) 319 (.ref 0 :: as) I (xRL nw sp) (xpI e 319 J (xRL nw sp))) (h6 : ∀ l, xC l l6 0 0 y6 b6 m6 (some .int) 319 (.ref 307 :: as) J (xRL nw sp) (xpI e' 319 K (xRL nw sp))) (he : e' = e) (hL : LR K nw sp (c + 1)) (hl5 : l5 ≤ 20 := by decide) (hl6 : l6 ≤ 20 := by decide) : PairS y5 b5 m5 y6 b6 m6 as I nw sp c := by
  refine ⟨l5, _, hl5, h5, fun v n' J' R' h => ?_⟩
  obtain ⟨rfl, rfl, rfl, rfl⟩ := h
  refine ⟨rfl, e, nw, sp, rfl, rfl, l6, _, hl6, h6, fun v6 n6 K' R6 h => ?_⟩
  obtain ⟨rfl, rfl, rfl, rfl⟩ := h
  exact ⟨by rw [he], rfl, rfl, hL⟩
theorem pair_ri {P : Int32 → xM → Prop} (h5 : ∀ l, xC l l5 0 0 y5 b5 m5 (some .int) 319 (.ref 0 :: as) I (xRL nw sp) (xpR 319 (xRL nw sp) P)) (h6 : ∀ r J, P r J → ∃ l6 e' K, l6 ≤ 20 ∧ (∀ l, xC l l6 0 0 y6 b6 m6 (some .int) 319 (.ref 307 :: as) J (xRL nw sp) (xpI e' 319 K (xRL nw sp))) ∧ e' = r ∧ LR K nw sp (c + 1)) (hl5 : l5 ≤ 20 := by decide) : PairS y5 b5 m5 y6 b6 m6 as I nw sp c := by
  refine ⟨l5, _, hl5, h5, fun v n' J' R' h => ?_⟩
  obtain ⟨r, rfl, rfl, hP, rfl⟩ := h
  obtain ⟨l6, e', K, hl6, h6, he, hL⟩ := h6 r J' hP
  refine ⟨rfl, r, nw, sp, rfl, rfl, l6, _, hl6, h6, fun v6 n6 K' R6 h => ?_⟩
  obtain ⟨rfl, rfl, rfl, rfl⟩ := h
  exact ⟨by rw [he], rfl, rfl, hL⟩
theorem pair_rr {P : Int32 → xM → Prop} (h5 : ∀ l, xC l l5 0 0 y5 b5 m5 (some .int) 319 (.ref 0 :: as) I (xRL nw sp) (xpR 319 (xRL nw sp) P)) (h6 : ∀ r J, P r J → ∃ l6 P6, l6 ≤ 20 ∧ (∀ l, xC l l6 0 0 y6 b6 m6 (some .int) 319 (.ref 307 :: as) J (xRL nw sp) (xpR 319 (xRL nw sp) P6)) ∧ ∀ r6 K, P6 r6 K → r6 = r ∧ LR K nw sp (c + 1)) (hl5 : l5 ≤ 20 := by decide) : PairS y5 b5 m5 y6 b6 m6 as I nw sp c := by
  refine ⟨l5, _, hl5, h5, fun v n' J' R' h => ?_⟩
  obtain ⟨r, rfl, rfl, hP, rfl⟩ := h
  obtain ⟨l6, P6, hl6, h6, hQ⟩ := h6 r J' hP
  refine ⟨rfl, r, nw, sp, rfl, rfl, l6, _, hl6, h6, fun v6 n6 K' R6 h => ?_⟩
  obtain ⟨r6, rfl, rfl, hp6, rfl⟩ := h
  obtain ⟨rfl, hL⟩ := hQ r6 K' hp6
  exact ⟨rfl, rfl, rfl, hL⟩
end
theorem xput_in {I : xM} {a k j : Nat} {v : Int32} (h : j ≠ k) : xput I a k v a j = I a j := xput_i h rfl
theorem nI_ex {x : Int32} {m : Nat} (h : 0 ≤ x.toInt) (h2 : x.toInt < m) : ∃ r : Nat, r < m ∧ x = nI r := by
  refine ⟨x.toInt.toNat, by omega, toInt_eq.mpr ?_⟩
  have := x.toInt_lt
  rw [nI_toInt (by omega)]
  omega
