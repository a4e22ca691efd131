/-! TWO TREES ARE CUT -/
def cuA (ad : Nat → Int32) (a b : Nat) (u v : Int) : Nat → Int32 := upd (upd ad a (zI u)) b (zI v)
def bcZ (B : Nat → Int32) (qa qb : Nat) (u v : Int) : Nat → Int32 := upd (upd B qa (B qa + zI u)) qb (B qb + zI v)
def czN (z : Nat → Nat) (qa qb x y q : Nat) : Nat := if q = qb then z qb - y else if q = qa then z qa - x else z q
theorem nI_less {z x : Nat} (h : x ≤ z) : nI z + zI (-((x : Nat) : Int)) = nI (z - x) := by
  rw [zN, zI_add, zN]; congr 1; omega
theorem hgF_ad {f ad : Nat → Int32} {t x : Nat} (h : ad t = zI (-((x : Nat) : Int))) (hx : x ≤ hN f t) : hgF f ad t = hgF f (fun _ => 0) t + zI (-((x : Nat) : Int)) := by
  unfold hN at hx
  unfold hgF hgM at *
  split
  · rename_i hs
    rw [if_pos hs] at hx
    rw [show x = 0 from Nat.le_zero.mp hx]
    rfl
  · rw [h, Int32.add_zero]
theorem hgF_at0 {f ad : Nat → Int32} {t : Nat} (h : ad t = 0) : hgF f ad t = hgF f (fun _ => 0) t := by unfold hgF; rw [h]
section
variable {f ad : Nat → Int32} {T S F W a b qa qb x y : Nat}
theorem brF_cut (hW : WF f T S F W) (h0 : ∀ t, t < T → ad t = 0) (ha : a < T) (hb : b < T) (hab : a ≠ b) (ea : f (26 + 5 * a + 1) = nI qa) (eb : f (26 + 5 * b + 1) = nI qb) (hqa : qa < 20) (hqb : qb < 20)
    (hx : x ≤ hN f a) (hy : y ≤ hN f b) {q : Nat} (hq : q < 20) : brF f (cuA ad a b (-((x : Nat) : Int)) (-((y : Nat) : Int))) T q = bcZ (brY f T (f 2) (f 3)) qa qb (-((x : Nat) : Int)) (-((y : Nat) : Int)) q := by
  have hne : qa ≠ qb := fun e => hab (hW.ne ha hb (by rw [ea, eb, e]))
  unfold brF bcZ
  cases e : taF f T (nI q) with
  | none =>
    have h1 : q ≠ qa := fun h => by rw [h, hW.ta ha ea] at e; cases e
    have h2 : q ≠ qb := fun h => by rw [h, hW.ta hb eb] at e; cases e
    rw [upd_ne h2, upd_ne h1]
    unfold brY
    rw [e]
  | some t =>
    obtain ⟨htT, hts, -⟩ := xfind_spec e
    by_cases hta : t = a
    · subst hta
      have h1 : q = qa := nI_inj (by omega) (by omega) (hts.symm.trans ea)
      subst h1
      rw [upd_ne hne, upd_eq, brY_ta e]
      show f (6 + q) + hgF f _ t = _
      rw [hgF_ad (x := x) (by unfold cuA; rw [upd_ne hab, upd_eq]) hx, ← Int32.add_assoc]
      rfl
    · by_cases htb : t = b
      · subst htb
        have h1 : q = qb := nI_inj (by omega) (by omega) (hts.symm.trans eb)
        subst h1
        rw [upd_eq, brY_ta e]
        show f (6 + q) + hgF f _ t = _
        rw [hgF_ad (x := y) (by unfold cuA; rw [upd_eq]) hy, ← Int32.add_assoc]
        rfl
      · have h1 : q ≠ qa := fun h => hta (hW.ne htT ha (by rw [hts, ea, h]))
        have h2 : q ≠ qb := fun h => htb (hW.ne htT hb (by rw [hts, eb, h]))
        rw [upd_ne h2, upd_ne h1, brY_ta e]
        show f (6 + q) + hgF f _ t = _
        rw [hgF_at0 (by unfold cuA; rw [upd_ne htb, upd_ne hta]; exact h0 t htT)]
        rfl
theorem bc_nat {B : Nat → Int32} {z : Nat → Nat} (hB : ∀ q, q < 20 → B q = nI (z q) ∧ z q ≤ 159) (hne : qa ≠ qb) (hqa : qa < 20) (hqb : qb < 20) (hx : x ≤ z qa) (hy : y ≤ z qb) :
    ∀ q, q < 20 → bcZ B qa qb (-((x : Nat) : Int)) (-((y : Nat) : Int)) q = nI (czN z qa qb x y q) ∧ czN z qa qb x y q ≤ 10000 := by
  intro q hq
  obtain ⟨e, h1⟩ := hB q hq
  unfold bcZ czN
  by_cases h2 : q = qb
  · subst h2
    rw [upd_eq, if_pos rfl, e, nI_less hy]
    exact ⟨rfl, by omega⟩
  · rw [upd_ne h2, if_neg h2]
    by_cases h3 : q = qa
    · subst h3
      rw [upd_eq, if_pos rfl, e, nI_less hx]
      exact ⟨rfl, by omega⟩
    · rw [upd_ne h3, if_neg h3, e]
      exact ⟨rfl, by omega⟩
/-- a thing is seen from site 0, in naturals -/
def snN (f : Nat → Int32) (z : Nat → Nat) (e k : Nat) : Prop := 0 < tsF f k ∧ ∀ q, 0 < q → q < tsF f k → z q * tsF f k < lnN (gN f 0 + e) (tpN f k) (tsF f k) q
theorem snP_nat (h : BD f T S) (hW : WF f T S F W) {B : Nat → Int32} {z : Nat → Nat} (hB : ∀ q, q < 20 → B q = nI (z q) ∧ z q ≤ 10000) {e k : Nat} (he : e < 31) (hk : k < S) : snP B f 0 (nI e) k ↔ snN f z e k := by
  have h9 := hW.ts9 hk
  obtain ⟨t1, t2⟩ := h.tp hW hk
  have h0 := h.gl (q := 0) (by decide)
  unfold snP snN
  rw [h.gr (q := 0) (by decide), nI_add, t1, frP_nat hB (by omega) (by omega) (by omega)]
/-- what must go of a bar at the site q, that the wanted things are seen over it -/
def lcP (f : Nat → Int32) (z : Nat → Nat) (S : Nat) (E : Int32) (q x : Nat) : Prop := ∀ k, k < S → (f (56 + 3 * k + 2)).toInt = 1 → 0 < q → q < tsF f k → ∀ e, e < 31 → inP E e → z q * tsF f k < lnN (gN f 0 + e) (tpN f k) (tsF f k) q + x * tsF f k
def allM (b f : Nat → Int32) (S : Nat) (E : Int32) : Prop := ∀ e, e < 31 → inP E e → mtP b f S (nI e)
theorem allM_nat (h : BD f T S) (hW : WF f T S F W) {B : Nat → Int32} {z : Nat → Nat} {E : Int32} (hB : ∀ q, q < 20 → B q = nI (z q) ∧ z q ≤ 10000) : allM B f S E ↔ ∀ e, e < 31 → inP E e → ∀ k, k < S → (snN f z e k ↔ (f (56 + 3 * k + 2)).toInt = 1) := by
  unfold allM mtP
  exact forall_congr' fun e => forall_congr' fun he => forall_congr' fun _ => forall_congr' fun k => forall_congr' fun hk => by rw [snP_nat h hW hB he hk]
theorem sub_lt {z x c l : Nat} (hc : 0 < c) : (z - x) * c < l → z * c < l + x * c := fun h => by
  rw [Nat.sub_mul] at h
  omega
theorem lt_sub {z x c l : Nat} (hl : z < x → 0 < l) (hc : 0 < c) : z * c < l + x * c → (z - x) * c < l := fun h => by
  by_cases hz : z < x
  · rw [show z - x = 0 by omega, Nat.zero_mul]; exact hl hz
  · have := Nat.mul_le_mul_right c (Nat.le_of_not_lt hz)
    rw [Nat.sub_mul]
    omega
theorem cut_low {z : Nat → Nat} {E : Int32} (hne : qa ≠ qb) (hM : ∀ e, e < 31 → inP E e → ∀ k, k < S → (snN f (czN z qa qb x y) e k ↔ (f (56 + 3 * k + 2)).toInt = 1)) : lcP f z S E qa x ∧ lcP f z S E qb y := by
  constructor
  · intro k hk hs h0 hq e he hi
    have h1 := ((hM e he hi k hk).mpr hs).2 qa h0 hq
    rw [show czN z qa qb x y qa = z qa - x by unfold czN; rw [if_neg hne, if_pos rfl]] at h1
    exact sub_lt (by omega) h1
  · intro k hk hs h0 hq e he hi
    have h1 := ((hM e he hi k hk).mpr hs).2 qb h0 hq
    rw [show czN z qa qb x y qb = z qb - y by unfold czN; rw [if_pos rfl]] at h1
    exact sub_lt (by omega) h1
theorem cz_mono {z : Nat → Nat} {X Y : Nat} (hX : X ≤ x) (hY : Y ≤ y) (q : Nat) : czN z qa qb x y q ≤ czN z qa qb X Y q := by
  unfold czN
  split
  · omega
  · split <;> omega
theorem cut_mono {z : Nat → Nat} {E : Int32} {X Y : Nat} (hX : X ≤ x) (hY : Y ≤ y) (hXz : X ≤ z qa) (hYz : Y ≤ z qb) (lX : lcP f z S E qa X) (lY : lcP f z S E qb Y)
    (hM : ∀ e, e < 31 → inP E e → ∀ k, k < S → (snN f (czN z qa qb x y) e k ↔ (f (56 + 3 * k + 2)).toInt = 1)) : ∀ e, e < 31 → inP E e → ∀ k, k < S → (snN f (czN z qa qb X Y) e k ↔ (f (56 + 3 * k + 2)).toInt = 1) := by
  intro e he hi k hk
  constructor
  · intro hs
    exact (hM e he hi k hk).mp ⟨hs.1, fun q h0 hq => Nat.lt_of_le_of_lt (Nat.mul_le_mul_right _ (cz_mono hX hY q)) (hs.2 q h0 hq)⟩
  · intro hs
    have h1 := (hM e he hi k hk).mpr hs
    refine ⟨h1.1, fun q h0 hq => ?_⟩
    have h2 := h1.2 q h0 hq
    unfold czN at h2 ⊢
    by_cases hqb : q = qb
    · subst hqb
      rw [if_pos rfl] at h2 ⊢
      exact lt_sub (fun h => absurd h (by omega)) (by omega) (lY k hk hs h0 hq e he hi)
    · rw [if_neg hqb] at h2 ⊢
      by_cases hqa : q = qa
      · subst hqa
        rw [if_pos rfl] at h2 ⊢
        exact lt_sub (fun h => absurd h (by omega)) (by omega) (lX k hk hs h0 hq e he hi)
      · rw [if_neg hqa] at h2 ⊢
        exact h2
/-- the least cuts are forced -/
theorem cut_same {E : Int32} {X Y : Nat} (h : BD f T S) (hW : WF f T S F W) (h0 : ∀ t, t < T → ad t = 0) (ha : a < T) (hb : b < T) (hab : a ≠ b) (ea : f (26 + 5 * a + 1) = nI qa) (eb : f (26 + 5 * b + 1) = nI qb) (hqa : qa < 20) (hqb : qb < 20)
    (hX : ∀ x, X ≤ x ↔ lcP f (bN f T) S E qa x) (hY : ∀ y, Y ≤ y ↔ lcP f (bN f T) S E qb y) :
    ∀ x y, x ≤ hN f a → y ≤ hN f b → allM (brF f (cuA ad a b (-((x : Nat) : Int)) (-((y : Nat) : Int))) T) f S E → X ≤ x ∧ Y ≤ y ∧ X ≤ hN f a ∧ Y ≤ hN f b ∧ allM (bcZ (brY f T (f 2) (f 3)) qa qb (-((X : Nat) : Int)) (-((Y : Nat) : Int))) f S E := by
  intro x y hx hy hM
  have hne : qa ≠ qb := fun e => hab (hW.ne ha hb (by rw [ea, eb, e]))
  have hB : ∀ q, q < 20 → brY f T (f 2) (f 3) q = nI (bN f T q) ∧ bN f T q ≤ 159 := fun q hq => ⟨h.br hq, h.bl hq⟩
  have za : hN f a ≤ bN f T qa := by rw [bN_ta h hqa (hW.ta ha ea)]; omega
  have zb : hN f b ≤ bN f T qb := by rw [bN_ta h hqb (hW.ta hb eb)]; omega
  have hM1 : allM (bcZ (brY f T (f 2) (f 3)) qa qb (-((x : Nat) : Int)) (-((y : Nat) : Int))) f S E := fun e he hi => (mtP_congr (fun q hq => brF_cut hW h0 ha hb hab ea eb hqa hqb hx hy hq) hW).mp (hM e he hi)
  have hM2 := (allM_nat h hW (bc_nat hB hne hqa hqb (Nat.le_trans hx za) (Nat.le_trans hy zb))).mp hM1
  obtain ⟨l1, l2⟩ := cut_low hne hM2
  have hXx := (hX x).mpr l1
  have hYy := (hY y).mpr l2
  exact ⟨hXx, hYy, by omega, by omega, (allM_nat h hW (bc_nat hB hne hqa hqb (by omega) (by omega))).mpr (cut_mono hXx hYy (by omega) (by omega) ((hX X).mp (Nat.le_refl X)) ((hY Y).mp (Nat.le_refl Y)) hM2)⟩
theorem cut_back {E : Int32} (hW : WF f T S F W) (h0 : ∀ t, t < T → ad t = 0) (ha : a < T) (hb : b < T) (hab : a ≠ b) (ea : f (26 + 5 * a + 1) = nI qa) (eb : f (26 + 5 * b + 1) = nI qb) (hqa : qa < 20) (hqb : qb < 20) (hx : x ≤ hN f a) (hy : y ≤ hN f b)
    (hM : allM (bcZ (brY f T (f 2) (f 3)) qa qb (-((x : Nat) : Int)) (-((y : Nat) : Int))) f S E) : allM (brF f (cuA ad a b (-((x : Nat) : Int)) (-((y : Nat) : Int))) T) f S E :=
  fun e he hi => (mtP_congr (fun q hq => brF_cut hW h0 ha hb hab ea eb hqa hqb hx hy hq) hW).mpr (hM e he hi)
end
