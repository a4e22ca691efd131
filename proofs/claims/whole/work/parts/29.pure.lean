/-! HOW HIGH THINGS MAY BE: bounds, and the same in naturals -/
def nn (v : Int32) : Nat := v.toInt.toNat
theorem nn_ok {v : Int32} (h : 0 ≤ v.toInt) : v = nI (nn v) := by rw [zN, nn, show ((v.toInt.toNat : Nat) : Int) = v.toInt by omega, zI_of]
theorem nn_le {v : Int32} {m : Nat} (h2 : v.toInt ≤ m) : nn v ≤ m := by unfold nn; omega
theorem nn_nI {n : Nat} (h : n < 2147483648) : nn (nI n) = n := by unfold nn; rw [nI_toInt h]; omega
def BD (f : Nat → Int32) (T S : Nat) : Prop :=
  (∀ q, q < 20 → 0 ≤ (f (6 + q)).toInt ∧ (f (6 + q)).toInt ≤ 60) ∧
  (∀ t, t < T → (0 ≤ (f (26 + 5 * t + 2)).toInt ∧ (f (26 + 5 * t + 2)).toInt ≤ 99) ∧ (0 ≤ (f (26 + 5 * t + 3)).toInt ∧ (f (26 + 5 * t + 3)).toInt ≤ 9) ∧ 0 ≤ (f (26 + 5 * t + 4)).toInt ∧ (f (26 + 5 * t + 4)).toInt ≤ 1000000) ∧
  (∀ k, k < S → 0 ≤ (f (56 + 3 * k + 1)).toInt ∧ (f (56 + 3 * k + 1)).toInt ≤ 99) ∧ 0 ≤ (f 2).toInt ∧ (f 2).toInt ≤ 999
def gN (f : Nat → Int32) (q : Nat) : Nat := nn (f (6 + q))
def tpN (f : Nat → Int32) (k : Nat) : Nat := nn (tpF f k)
def hN (f : Nat → Int32) (t : Nat) : Nat := nn (hgF f (fun _ => 0) t)
noncomputable def bN (f : Nat → Int32) (T q : Nat) : Nat := nn (brY f T (f 2) (f 3) q)
theorem hgT_b {s cu : Int32} (hs : -1000000 ≤ s.toInt) (h0 : 0 ≤ cu.toInt) (h1 : cu.toInt ≤ 1000000) : 0 ≤ (hgT s cu).toInt ∧ (hgT s cu).toInt ≤ 99 := by
  have e99 : (99 : Int32).toInt = 99 := rfl
  have e0 : (0 : Int32).toInt = 0 := rfl
  unfold hgT hgZ
  by_cases h : s.toInt ≤ 99
  · rw [if_pos h, i32_sub (by omega) (by omega)]
    by_cases h2 : 0 ≤ s.toInt - cu.toInt
    · rw [if_pos h2, i32_sub (by omega) (by omega)]; omega
    · rw [if_neg h2, e0]; omega
  · rw [if_neg h, i32_sub (by omega) (by omega), e99]
    by_cases h2 : 0 ≤ 99 - cu.toInt
    · rw [if_pos h2, i32_sub (by omega) (by omega), e99]; omega
    · rw [if_neg h2, e0]; omega
theorem mul_b {g y : Int32} {a b : Nat} (g0 : 0 ≤ g.toInt) (g9 : g.toInt ≤ a) (y0 : 0 ≤ y.toInt) (y9 : y.toInt ≤ b) (hab : a * b < 1000000) : 0 ≤ (g * y).toInt ∧ (g * y).toInt ≤ ((a * b : Nat) : Int) := by
  rw [nn_ok g0, nn_ok y0, nI_mul]
  have h := Nat.mul_le_mul (nn_le g9) (nn_le y9)
  rw [nI_toInt (by omega)]
  omega
theorem hgM_b {f : Nat → Int32} {T S t : Nat} {y w : Int32} (h : BD f T S) (ht : t < T) (y0 : 0 ≤ y.toInt) (y9 : y.toInt ≤ 2000) : 0 ≤ (hgM (f (26 + 5 * t + 0)) (f (26 + 5 * t + 2)) (f (26 + 5 * t + 3)) (f (26 + 5 * t + 4)) y w 0).toInt ∧ (hgM (f (26 + 5 * t + 0)) (f (26 + 5 * t + 2)) (f (26 + 5 * t + 3)) (f (26 + 5 * t + 4)) y w 0).toInt ≤ 99 := by
  obtain ⟨-, h2, -, -⟩ := h
  obtain ⟨⟨a0, a9⟩, ⟨b0, b9⟩, c0, c9⟩ := h2 t ht
  unfold hgM
  split
  · exact ⟨by decide, by decide⟩
  · rw [Int32.add_zero]
    refine hgT_b ?_ c0 c9
    unfold hgS
    split
    · obtain ⟨m0, m9⟩ := mul_b (a := 9) (b := 2000) b0 b9 y0 y9 (by decide)
      rw [i32_add (by omega) (by omega)]
      omega
    · rw [Int32.add_zero]; omega
section
variable {f : Nat → Int32} {T S F W : Nat}
theorem BD.gr (h : BD f T S) {q : Nat} (hq : q < 20) : f (6 + q) = nI (gN f q) := nn_ok (h.1 q hq).1
theorem BD.gl (h : BD f T S) {q : Nat} (hq : q < 20) : gN f q ≤ 60 := nn_le (h.1 q hq).2
theorem BD.hi (h : BD f T S) {t : Nat} (ht : t < T) : hgF f (fun _ => 0) t = nI (hN f t) := nn_ok (hgM_b h ht h.2.2.2.1 (by have := h.2.2.2.2; omega)).1
theorem BD.hl (h : BD f T S) {t : Nat} (ht : t < T) : hN f t ≤ 99 := nn_le (hgM_b h ht h.2.2.2.1 (by have := h.2.2.2.2; omega)).2
theorem BD.tp (h : BD f T S) (hW : WF f T S F W) {k : Nat} (hk : k < S) : tpF f k = nI (tpN f k) ∧ tpN f k ≤ 159 := by
  have h9 := hW.ts9 hk
  obtain ⟨a0, a9⟩ := h.1 (tsF f k) (by omega)
  obtain ⟨b0, b9⟩ := h.2.2.1 k hk
  have e : (tpF f k).toInt = (f (6 + tsF f k)).toInt + (f (56 + 3 * k + 1)).toInt := i32_add (by omega) (by omega)
  exact ⟨nn_ok (by omega), nn_le (by omega)⟩
theorem brY_b (h : BD f T S) {y w : Int32} (y0 : 0 ≤ y.toInt) (y9 : y.toInt ≤ 2000) {q : Nat} (hq : q < 20) : 0 ≤ (brY f T y w q).toInt ∧ (brY f T y w q).toInt ≤ 159 := by
  obtain ⟨a0, a9⟩ := h.1 q hq
  unfold brY
  cases e : taF f T (nI q) with
  | none => rw [show (f (6 + q) + (0 : Int32)) = f (6 + q) from Int32.add_zero _]; omega
  | some t =>
    obtain ⟨b0, b9⟩ := hgM_b (w := w) h (xfind_spec e).1 y0 y9
    show 0 ≤ (f (6 + q) + hgM _ _ _ _ _ _ _).toInt ∧ (f (6 + q) + hgM _ _ _ _ _ _ _).toInt ≤ 159
    rw [i32_add (by omega) (by omega)]
    omega
theorem BD.br (h : BD f T S) {q : Nat} (hq : q < 20) : brY f T (f 2) (f 3) q = nI (bN f T q) := nn_ok (brY_b h h.2.2.2.1 (by have := h.2.2.2.2; omega) hq).1
theorem BD.bl (h : BD f T S) {q : Nat} (hq : q < 20) : bN f T q ≤ 159 := nn_le (brY_b h h.2.2.2.1 (by have := h.2.2.2.2; omega) hq).2
/-- a tree stands on its site -/
theorem WF.ta (hW : WF f T S F W) {t q : Nat} (ht : t < T) (e : f (26 + 5 * t + 1) = nI q) : taF f T (nI q) = some t :=
  xfind_some e (fun u hu hp => by have := hW.ne (t := u) (u := t) (by omega) ht (hp.trans e.symm); omega) ht
theorem brY_ta {y w : Int32} {t q : Nat} (h : taF f T (nI q) = some t) : brY f T y w q = f (6 + q) + hgM (f (26 + 5 * t + 0)) (f (26 + 5 * t + 2)) (f (26 + 5 * t + 3)) (f (26 + 5 * t + 4)) y w 0 := by unfold brY; rw [h]
theorem bN_ta (h : BD f T S) {t q : Nat} (hq : q < 20) (ht : taF f T (nI q) = some t) : bN f T q = gN f q + hN f t := by
  have htT := (xfind_spec ht).1
  have h1 := h.gl hq
  have h2 := h.hl htT
  refine nI_inj (by have := h.bl hq; omega) (by omega) ?_
  rw [← h.br hq, brY_ta ht, h.gr hq, ← nI_add, ← h.hi htT]
  rfl
end
/-! A LINE IN NATURALS -/
theorem frL_nat {x y a c q : Nat} (h1 : a ≤ q) (h2 : q ≤ c) : frL (nI x) (nI y) a c q = nI (y * (q - a) + x * (c - q)) := by
  obtain ⟨u, rfl⟩ := Nat.exists_eq_add_of_le h1
  obtain ⟨v, rfl⟩ := Nat.exists_eq_add_of_le h2
  unfold frL
  rw [zN, zN, zN, zI_sub, zI_mul, zI_mul, zI_add]
  congr 1
  rw [show a + u - a = u by omega, show a + u + v - (a + u) = v by omega, show ((a + u : Nat) : Int) - (a : Int) = (u : Int) by omega, show ((a + u + v : Nat) : Int) - (a : Int) = (u : Int) + (v : Int) by omega, Int.natCast_add, Int.natCast_mul, Int.natCast_mul, Int.sub_mul, Int.mul_add]
  omega
def lnN (x y c q : Nat) : Nat := y * q + x * (c - q)
theorem lnN_le {x y c q : Nat} (hx : x ≤ 1000) (hy : y ≤ 1000) (hc : c ≤ 20) (hq : q ≤ c) : lnN x y c q ≤ 40000 := by
  have h1 := Nat.mul_le_mul hy (show q ≤ 20 by omega)
  have h2 := Nat.mul_le_mul hx (show c - q ≤ 20 by omega)
  unfold lnN; omega
theorem frP_nat {b : Nat → Int32} {z : Nat → Nat} {x y c : Nat} (hb : ∀ q, q < 20 → b q = nI (z q) ∧ z q ≤ 10000) (hc : c ≤ 20) (hx : x ≤ 1000) (hy : y ≤ 1000) :
    frP b 0 (nI x) c (nI y) ↔ ∀ q, 0 < q → q < c → z q * c < lnN x y c q := by
  have key : ∀ q, 0 < q → q < c → ((b q * zI (((c : Nat) : Int) - ((0 : Nat) : Int))).toInt < (frL (nI x) (nI y) 0 c q).toInt ↔ z q * c < lnN x y c q) := fun q h0 hq => by
    obtain ⟨e, hz⟩ := hb q (by omega)
    have h1 := Nat.mul_le_mul hz hc
    have h2 := lnN_le hx hy hc (Nat.le_of_lt hq)
    rw [e, show (((c : Nat) : Int) - ((0 : Nat) : Int)) = ((c : Nat) : Int) by omega, ← zN, nI_mul, frL_nat (Nat.zero_le q) (Nat.le_of_lt hq), show y * (q - 0) + x * (c - q) = lnN x y c q from rfl, nI_toInt (by omega), nI_toInt (by omega)]
    omega
  exact ⟨fun h q h0 hq => (key q h0 hq).mp (h q hq h0), fun h q hq h0 => (key q h0 hq).mpr (h q h0 hq)⟩
/-! THE EYES OF A SET -/
theorem and_1 (v : Int32) : (v &&& nI 1).toInt = if v.toBitVec.getLsbD 0 then 1 else 0 := by
  obtain ⟨j, hj, e⟩ := pk_andE v (m := nI 1) 1 (by decide)
  have hb : (v &&& nI 1).toBitVec.getLsbD 0 = v.toBitVec.getLsbD 0 := by simp [nI]
  rw [e] at hb ⊢
  rcases (show j = 0 ∨ j = 1 by omega) with rfl | rfl
  · rw [← hb]; rfl
  · rw [← hb]; rfl
