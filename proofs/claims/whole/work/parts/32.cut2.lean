/-! WALKS OF A CUT: what they need -/
theorem nI_div {a c : Nat} (ha : a < 2147483648) (hc : c < 2147483648) : nI a / nI c = nI (a / c) := by
  have h1 : a / c ≤ a := Nat.div_le_self a c
  refine toInt_eq.mpr ?_
  rw [Int32.toInt_div, nI_toInt ha, nI_toInt hc, nI_toInt (by omega), ← Int.ofNat_tdiv]
  generalize a / c = d at h1
  exact Int.bmod_eq_of_le (by omega) (by omega)
theorem ln_z {x y c q : Nat} (h : q ≤ c) : zI ((((y : Nat) : Int) - ((x : Nat) : Int)) * ((q : Nat) : Int)) + nI (x * c) = nI (lnN x y c q) := by
  have h1 := frL_nat (x := x) (y := y) (a := 0) (Nat.zero_le q) h
  rw [show lnN x y c q = y * (q - 0) + x * (c - q) from rfl, ← h1]
  unfold frL
  rw [zN y, zN x, zI_sub, zI_mul, zI_mul, zN, zI_add, zI_add]
  congr 1
theorem stop_le {z l c x : Nat} (hc : 0 < c) : z + 1 - (l + c - 1) / c ≤ x ↔ z * c < l + x * c := by
  rcases Nat.lt_or_ge z x with h | h
  · constructor
    · intro _
      have := Nat.mul_le_mul_right c (show z + 1 ≤ x from h)
      rw [Nat.add_mul] at this
      omega
    · intro _; exact Nat.le_trans (Nat.sub_le _ _) h
  · obtain ⟨u, rfl⟩ := Nat.exists_eq_add_of_le h
    have h1 : u + 1 ≤ (l + c - 1) / c ↔ (u + 1) * c ≤ l + c - 1 := Nat.le_div_iff_mul_le hc
    rw [Nat.add_mul] at h1 ⊢
    constructor
    · intro h2
      have := h1.mp (by omega)
      omega
    · intro h2
      have := h1.mpr (by omega)
      omega
theorem max_stop {v z s : Nat} (hv : v ≤ 2000) (hz : z ≤ 1000) (hs : s ≤ 100000) : (if nI v < zI ((((z : Nat) : Int) - ((s : Nat) : Int)) + 1) then zI ((((z : Nat) : Int) - ((s : Nat) : Int)) + 1) else nI v) = nI (max v (z + 1 - s)) := by
  have e1 : (nI v).toInt = v := nI_toInt (by omega)
  have e2 : (zI ((((z : Nat) : Int) - ((s : Nat) : Int)) + 1)).toInt = (z : Int) - s + 1 := zI_toInt (by omega) (by omega)
  by_cases h : nI v < zI ((((z : Nat) : Int) - ((s : Nat) : Int)) + 1)
  · have h3 := Int32.lt_iff_toInt_lt.mp h
    rw [if_pos h, zN]; congr 1; omega
  · have h3 : ¬ (v : Int) < (z : Int) - s + 1 := by rw [← e1, ← e2]; exact fun q => h (Int32.lt_iff_toInt_lt.mpr q)
    rw [if_neg h, zN, zN]; congr 1; omega
section
variable {f : Nat → Int32} {z : Nat → Nat} {E : Int32} {q : Nat}
theorem lcP_0 {x : Nat} : lcP f z 0 E q x := fun k hk => absurd hk (Nat.not_lt_zero k)
theorem lcP_s {i x : Nat} : lcP f z (i + 1) E q x ↔ lcP f z i E q x ∧ ((f (56 + 3 * i + 2)).toInt = 1 → 0 < q → q < tsF f i → ∀ e, e < 31 → inP E e → z q * tsF f i < lnN (gN f 0 + e) (tpN f i) (tsF f i) q + x * tsF f i) := by
  constructor
  · intro h
    exact ⟨fun k hk => h k (by omega), h i (Nat.lt_succ_self i)⟩
  · rintro ⟨h1, h2⟩ k hk
    by_cases e : k = i
    · subst e; exact h2
    · exact h1 k (by omega)
theorem lc_no {i v : Nat} (h : ∀ x, v ≤ x ↔ lcP f z i E q x) (hn : ¬ ((f (56 + 3 * i + 2)).toInt = 1 ∧ 0 < q ∧ q < tsF f i)) : ∀ x, v ≤ x ↔ lcP f z (i + 1) E q x := fun x => by
  rw [lcP_s, h x]
  exact ⟨fun h1 => ⟨h1, fun a b c => absurd ⟨a, b, c⟩ hn⟩, fun h1 => h1.1⟩
def lcE (f : Nat → Int32) (z : Nat → Nat) (i : Nat) (E : Int32) (q n x : Nat) : Prop := lcP f z i E q x ∧ ∀ e, e < n → inP E e → z q * tsF f i < lnN (gN f 0 + e) (tpN f i) (tsF f i) q + x * tsF f i
theorem lcE_0 {i v : Nat} (h : ∀ x, v ≤ x ↔ lcP f z i E q x) : ∀ x, v ≤ x ↔ lcE f z i E q 0 x := fun x => ⟨fun a => ⟨(h x).mp a, fun e he => absurd he (Nat.not_lt_zero e)⟩, fun a => (h x).mpr a.1⟩
theorem lcE_n {i v n : Nat} (h : ∀ x, v ≤ x ↔ lcE f z i E q n x) (hn : ¬ inP E n) : ∀ x, v ≤ x ↔ lcE f z i E q (n + 1) x := fun x => by
  rw [h x]
  exact ⟨fun a => ⟨a.1, fun e he hi => a.2 e ((Nat.lt_succ_iff_lt_or_eq.mp he).elim id (fun k => absurd (k ▸ hi) hn)) hi⟩, fun a => ⟨a.1, fun e he => a.2 e (by omega)⟩⟩
theorem lcE_y {i v n : Nat} (h : ∀ x, v ≤ x ↔ lcE f z i E q n x) (hn : inP E n) (hc : 0 < tsF f i) : ∀ x, max v (z q + 1 - (lnN (gN f 0 + n) (tpN f i) (tsF f i) q + tsF f i - 1) / tsF f i) ≤ x ↔ lcE f z i E q (n + 1) x := fun x => by
  rw [Nat.max_le, h x, stop_le hc]
  constructor
  · rintro ⟨⟨a, b⟩, c⟩
    refine ⟨a, fun e he hi => ?_⟩
    by_cases k : e = n
    · subst k; exact c
    · exact b e (by omega) hi
  · rintro ⟨a, b⟩
    exact ⟨⟨a, fun e he => b e (by omega)⟩, b n (Nat.lt_succ_self n) hn⟩
theorem lcE_31 {i v : Nat} (h : ∀ x, v ≤ x ↔ lcE f z i E q 31 x) (h1 : (f (56 + 3 * i + 2)).toInt = 1) (h2 : 0 < q) (h3 : q < tsF f i) : ∀ x, v ≤ x ↔ lcP f z (i + 1) E q x := fun x => by
  rw [h x, lcP_s]
  exact ⟨fun a => ⟨a.1, fun _ _ _ => a.2⟩, fun a => ⟨a.1, a.2 h1 h2 h3⟩⟩
end
theorem div_le {l c : Nat} (hl : l ≤ 40000) (hc : c ≤ 20) : (l + c - 1) / c ≤ 100000 := Nat.le_trans (Nat.div_le_self _ _) (by omega)
theorem bc_mem {J : xM} {B : Nat → Int32} {qa qb : Nat} {u v : Int} (hne : qa ≠ qb) (hJ : ∀ q, q < 20 → J 5 q = B q) (hqa : qa < 20) (hqb : qb < 20) {q : Nat} (hq : q < 20) :
    (xput (xput J 5 qa (J 5 qa + zI u)) 5 qb ((xput J 5 qa (J 5 qa + zI u)) 5 qb + zI v)) 5 q = bcZ B qa qb u v q := by
  unfold bcZ
  by_cases h2 : q = qb
  · subst h2
    rw [xput_e, xput_i (fun e => hne e.symm) rfl, hJ q hq, upd_eq]
  · rw [upd_ne h2, xput_i h2 rfl]
    by_cases h3 : q = qa
    · subst h3; rw [xput_e, hJ q hq, upd_eq]
    · rw [upd_ne h3, xput_i h3 rfl, hJ q hq]
theorem allM_congr {b b' f : Nat → Int32} {T S F W : Nat} {E : Int32} (h : ∀ q, q < 20 → b q = b' q) (hW : WF f T S F W) : (∀ e, e < 31 → inP E e → mtP b f S (nI e)) ↔ allM b' f S E :=
  forall_congr' fun _ => forall_congr' fun _ => forall_congr' fun _ => mtP_congr h hW
theorem cu_over {I : xM} {a b : Nat} {u v u' v' : Int32} (h : a ≠ b) : xput (xput (xput (xput I 315 a u) 315 b v) 315 a u') 315 b v' = xput (xput I 315 a u') 315 b v' := by
  rw [xput_comm2 (I := xput I 315 a u) (k := b) (j := a) h, xput_twice, xput_twice]
