/-! THE TEXT, as the reference reads it -/
def bA (tp : Nat → Nat) (n k : Nat) : Int32 := if k < n then nI (tp k) else -1000000
def tpP (I : xM) (tp : Nat → Nat) (n : Nat) : Prop := I 307 13 = nI n ∧ n ≤ 400 ∧ ∀ k, k < n → I 314 k = nI (tp k) ∧ tp k ≤ 255
section
variable {I J : xM} {tp : Nat → Nat} {n k p q p0 : Nat}
theorem bA_v (h : tpP I tp n) : (k < n ∧ (bA tp n k).toInt = (tp k : Int)) ∨ (n ≤ k ∧ (bA tp n k).toInt = -1000000) := by
  by_cases hk : k < n
  · exact Or.inl ⟨hk, by unfold bA; rw [if_pos hk, nI_toInt (by have := (h.2.2 k hk).2; omega)]⟩
  · exact Or.inr ⟨by omega, by unfold bA; rw [if_neg hk]; rfl⟩
theorem bA_le (h : tpP I tp n) : ((97 : Int) ≤ (bA tp n k).toInt ∧ (bA tp n k).toInt ≤ (122 : Int)) ↔ k < n ∧ leB (tp k) = true := by
  rw [leB_t]
  rcases bA_v (k := k) h with ⟨a, b⟩ | ⟨a, b⟩ <;> rw [b] <;> omega
theorem bA_fi (h : tpP I tp n) : ((48 : Int) ≤ (bA tp n k).toInt ∧ (bA tp n k).toInt ≤ (57 : Int)) ↔ k < n ∧ fiB (tp k) = true := by
  rw [fiB_t]
  rcases bA_v (k := k) h with ⟨a, b⟩ | ⟨a, b⟩ <;> rw [b] <;> omega
theorem bA_bl (h : tpP I tp n) : ((bA tp n k).toInt = 32 ∨ (bA tp n k).toInt = 10) ↔ k < n ∧ blB (tp k) = true := by
  rw [blB_t]
  rcases bA_v (k := k) h with ⟨a, b⟩ | ⟨a, b⟩ <;> rw [b] <;> omega
def rtk (t : Nat) : Nat := if t = 4 then 0 else t + 1
def nxF (I J : xM) : Prop := (∀ o, o ≠ 307 → J o = I o) ∧ ∀ j, (j < 14 ∨ 17 < j) → J 307 j = I 307 j
theorem nxF.refl : nxF I I := ⟨fun _ _ => rfl, fun _ _ => rfl⟩
theorem nxF.put (h : nxF I J) {j : Nat} {v : Int32} (hj : 14 ≤ j ∧ j ≤ 17) : nxF I (xput J 307 j v) := ⟨fun o ho => (xput_ne ho).trans (h.1 o ho), fun i hi => (xput_i (by omega) rfl).trans (h.2 i hi)⟩
theorem tpP_F (h : nxF I J) (ht : tpP I tp n) : tpP J tp n := ⟨(h.2 13 (by omega)).trans ht.1, ht.2.1, fun k hk => by rw [h.1 314 (by decide)]; exact ht.2.2 k hk⟩
def nxJ (I J : xM) (t : xT) : Prop := nxF I J ∧ J 307 14 = nI t.2.2 ∧ J 307 15 = nI (rtk t.1) ∧ J 307 16 = nI t.2.1 ∧ J 307 17 = nI t.2.2
theorem lx_0 (hr : run blB tp n p = run blB tp n p0) (hb : ¬ (p < n ∧ blB (tp p) = true)) (h : n ≤ p) : lx tp n p0 = (0, p, p) := by
  unfold lx lxS
  rw [← hr, run_out hb, if_pos h]
theorem lx_1 (hr : run blB tp n p = run blB tp n p0) (hb : ¬ (p < n ∧ blB (tp p) = true)) (h : p < n ∧ leB (tp p) = true) (hq : run leB tp n q = run leB tp n p) (he : ¬ (q < n ∧ leB (tp q) = true)) : lx tp n p0 = (1, p, q) := by
  unfold lx lxS
  rw [← hr, run_out hb, if_neg (by omega), if_pos h.2, ← hq, run_out he]
theorem lx_2 (hr : run blB tp n p = run blB tp n p0) (hb : ¬ (p < n ∧ blB (tp p) = true)) (h : ¬ (p < n ∧ leB (tp p) = true)) (h2 : p < n ∧ fiB (tp p) = true) (hq : run fiB tp n q = run fiB tp n p) (he : ¬ (q < n ∧ fiB (tp q) = true)) (h3 : q - p ≤ 3) : lx tp n p0 = (2, p, q) := by
  unfold lx lxS
  rw [← hr, run_out hb, if_neg (by omega), if_neg (fun k => h ⟨h2.1, k⟩), if_pos h2.2, ← hq, run_out he, if_neg (by omega)]
theorem lx_4a (hr : run blB tp n p = run blB tp n p0) (hb : ¬ (p < n ∧ blB (tp p) = true)) (h : ¬ (p < n ∧ leB (tp p) = true)) (h2 : p < n ∧ fiB (tp p) = true) (hq : run fiB tp n q = run fiB tp n p) (he : ¬ (q < n ∧ fiB (tp q) = true)) (h3 : 3 < q - p) : lx tp n p0 = (4, p, q) := by
  unfold lx lxS
  rw [← hr, run_out hb, if_neg (by omega), if_neg (fun k => h ⟨h2.1, k⟩), if_pos h2.2, ← hq, run_out he, if_pos (by omega)]
theorem lx_3 (hr : run blB tp n p = run blB tp n p0) (hb : ¬ (p < n ∧ blB (tp p) = true)) (hp : p < n) (h : ¬ (p < n ∧ leB (tp p) = true)) (h2 : ¬ (p < n ∧ fiB (tp p) = true)) (h3 : tp p = 59) : lx tp n p0 = (3, p, p + 1) := by
  unfold lx lxS
  rw [← hr, run_out hb, if_neg (by omega), if_neg (fun k => h ⟨hp, k⟩), if_neg (fun k => h2 ⟨hp, k⟩), if_pos h3]
theorem lx_4b (hr : run blB tp n p = run blB tp n p0) (hb : ¬ (p < n ∧ blB (tp p) = true)) (hp : p < n) (h : ¬ (p < n ∧ leB (tp p) = true)) (h2 : ¬ (p < n ∧ fiB (tp p) = true)) (h3 : tp p ≠ 59) : lx tp n p0 = (4, p, p + 1) := by
  unfold lx lxS
  rw [← hr, run_out hb, if_neg (by omega), if_neg (fun k => h ⟨hp, k⟩), if_neg (fun k => h2 ⟨hp, k⟩), if_neg h3]
end
