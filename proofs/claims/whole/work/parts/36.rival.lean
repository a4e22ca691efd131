/-! THE RIVAL'S TOWER -/
def stN (f : Nat → Int32) (t : Nat) : Nat := nn (f (26 + 5 * t + 1))
def rvW (f : Nat → Int32) (x y t : Nat) : Nat := (lnN x y 18 (stN f t) + 17) / 18
def rvC (f : Nat → Int32) (t : Nat) : Prop := (1 ≤ stN f t ∧ stN f t ≤ 17) ∧ ((f (26 + 5 * t + 0)).toInt ≠ 3 ∧ (f (26 + 5 * t + 0)).toInt ≠ 5) ∧ ¬ ((f (26 + 5 * t + 0)).toInt = 1 ∧ (f 3).toInt = 1)
noncomputable def rvO (f ad : Nat → Int32) (x y t : Nat) : Option Int := @ite (Option Int) (rvC f t ∧ rvW f x y t ≤ 99 + gN f (stN f t)) (Classical.propDecidable _) (some (((rvW f x y t : Nat) : Int) - ((gN f (stN f t) : Nat) : Int) - (hgF f ad t).toInt)) none
def oZ (d : Int32) (o : Option Int) : Int32 := match o with
  | none => d
  | some m => zI m
theorem rvO_t {f ad : Nat → Int32} {x y t : Nat} (h : rvC f t) (h2 : rvW f x y t ≤ 99 + gN f (stN f t)) : rvO f ad x y t = some (((rvW f x y t : Nat) : Int) - ((gN f (stN f t) : Nat) : Int) - (hgF f ad t).toInt) := @if_pos _ (Classical.propDecidable _) ⟨h, h2⟩ _ _ _
theorem rvO_f {f ad : Nat → Int32} {x y t : Nat} (h : ¬ (rvC f t ∧ rvW f x y t ≤ 99 + gN f (stN f t))) : rvO f ad x y t = none := @if_neg _ (Classical.propDecidable _) h _ _ _
theorem rvO_s {f ad : Nat → Int32} {x y t : Nat} {m : Int} (h : rvO f ad x y t = some m) : rvC f t ∧ rvW f x y t ≤ 99 + gN f (stN f t) ∧ m = ((rvW f x y t : Nat) : Int) - ((gN f (stN f t) : Nat) : Int) - (hgF f ad t).toInt := by
  rcases Classical.em (rvC f t ∧ rvW f x y t ≤ 99 + gN f (stN f t)) with k | k
  · rw [rvO_t k.1 k.2] at h
    exact ⟨k.1, k.2, (Option.some.inj h).symm⟩
  · rw [rvO_f k] at h; cases h
def lhF (o : Nat → Option Int) : Nat → Option Nat
  | 0 => none
  | n + 1 => match o n with
    | none => lhF o n
    | some m => match lhF o n with
      | none => some n
      | some u => match o u with
        | none => some u
        | some m2 => if m < m2 then some n else some u
section
variable {o : Nat → Option Int} {n u : Nat} {m m2 lz : Int} {v7 : Int32}
theorem lh_lt : ∀ {n u : Nat}, lhF o n = some u → u < n
  | 0, _, h => by cases h
  | n + 1, _, h => by
    have ih : ∀ {w}, lhF o n = some w → w < n + 1 := fun q => Nat.lt_succ_of_lt (by
      exact lh_lt q)
    unfold lhF at h
    split at h
    · exact ih h
    · split at h
      · cases h; exact Nat.lt_succ_self _
      · rename_i hw
        split at h
        · cases h; exact ih hw
        · split at h
          · cases h; exact Nat.lt_succ_self _
          · cases h; exact ih hw
theorem lh_ne : ∀ {n : Nat}, lhF o n = some u → o u ≠ none
  | 0, h => by cases h
  | n + 1, h => by
    unfold lhF at h
    split at h
    · exact lh_ne h
    · rename_i hm
      split at h
      · cases h; rw [hm]; exact Option.some_ne_none _
      · rename_i hw
        split at h
        · cases h; exact lh_ne hw
        · split at h
          · cases h; rw [hm]; exact Option.some_ne_none _
          · cases h; exact lh_ne hw
theorem lh_none (ho : o n = none) : lhF o (n + 1) = lhF o n := by rw [lhF, ho]
theorem lh_first (ho : o n = some m) (h : lhF o n = none) : lhF o (n + 1) = some n := by rw [lhF, ho, h]
theorem lh_less (ho : o n = some m) (h : lhF o n = some u) (h2 : o u = some m2) (hl : m < m2) : lhF o (n + 1) = some n := by
  rw [lhF, ho, h]
  show (match o u with | none => some u | some m2 => if m < m2 then some n else some u) = _
  rw [h2]
  exact if_pos hl
theorem lh_keep (ho : o n = some m) (h : lhF o n = some u) (h2 : o u = some m2) (hl : m2 ≤ m) : lhF o (n + 1) = some u := by
  rw [lhF, ho, h]
  show (match o u with | none => some u | some m2 => if m < m2 then some n else some u) = _
  rw [h2]
  exact if_neg (by omega)
theorem oI_n {p : Option Nat} (h7 : v7 = oI p) (hp : ∀ u, p = some u → u < 1000) (h : v7.toInt = -1000000) : p = none := by
  cases p with
  | none => rfl
  | some u =>
    have := hp u rfl
    rw [h7, show oI (some u) = nI u from rfl, nI_toInt (by omega)] at h
    omega
theorem oI_s {p : Option Nat} (h7 : v7 = oI p) (h : v7.toInt ≠ -1000000) : ∃ u, p = some u ∧ v7 = nI u := by
  cases p with
  | none => rw [h7] at h; exact absurd rfl h
  | some u => exact ⟨u, rfl, h7⟩
def lhI (o : Nat → Option Int) (t : Nat) (v3 : Int32) (lz : Int) : Prop := v3 = oI (lhF o t) ∧ ((lhF o t = none ∧ lz = 1000) ∨ ∃ u, lhF o t = some u ∧ o u = some lz)
theorem lhI_0 : lhI o 0 (-1000000) ((1000 : Nat) : Int) := ⟨rfl, Or.inl ⟨rfl, rfl⟩⟩
theorem lhI_none (hI : lhI o n v7 lz) (ho : o n = none) : lhI o (n + 1) v7 lz := by unfold lhI; rw [lh_none ho]; exact hI
theorem lhI_keep (hI : lhI o n v7 lz) (ho : o n = some m) (hm : m < 1000) (h : lz ≤ m) : lhI o (n + 1) v7 lz := by
  obtain ⟨h1, ⟨h2, h3⟩ | ⟨u, h2, h3⟩⟩ := hI
  · omega
  · unfold lhI
    rw [lh_keep ho h2 h3 h]
    exact ⟨by rw [h1, h2], Or.inr ⟨u, rfl, h3⟩⟩
theorem lhI_less (hI : lhI o n v7 lz) (ho : o n = some m) (h : m < lz) : lhI o (n + 1) (nI n) m := by
  obtain ⟨h1, ⟨h2, h3⟩ | ⟨u, h2, h3⟩⟩ := hI
  · unfold lhI
    rw [lh_first ho h2]
    exact ⟨rfl, Or.inr ⟨n, rfl, ho⟩⟩
  · unfold lhI
    rw [lh_less ho h2 h3 h]
    exact ⟨rfl, Or.inr ⟨n, rfl, ho⟩⟩
end
/-- turn after turn -/
noncomputable def rvT (f : Nat → Int32) (T x y : Nat) (s : Int) (ad : Nat → Int32) : Option (Int × (Nat → Int32)) :=
  @ite _ (frP (brF f ad T) 0 (nI x) 18 (nI y)) (Classical.propDecidable _) (match lhF (rvO f ad x y) T with
    | none => none
    | some t => match rvO f ad x y t with
      | none => none
      | some m => some (s + m, upd ad t (ad t + zI m))) (some (s, ad))
noncomputable def rvS (f ad0 : Nat → Int32) (T x y0 : Nat) : Nat → Option (Int × (Nat → Int32))
  | 0 => some (0, ad0)
  | n + 1 => match rvS f ad0 T x y0 n with
    | none => none
    | some (s, ad) => rvT f T x (y0 + 10 * (n + 1)) s ad
def oS (o : Option (Int × (Nat → Int32))) : Int32 := match o with
  | none => -1000000
  | some (s, _) => zI s
def rvK (f ad : Nat → Int32) (T k : Nat) (s : Int) : Prop := (-400 * (k : Int) ≤ s ∧ s ≤ 400 * (k : Int)) ∧ ∀ t, t < T → -200 ≤ (hgF f ad t).toInt ∧ (hgF f ad t).toInt ≤ 99
section
variable {f ad ad0 : Nat → Int32} {T S F W x y y0 k t m0 : Nat} {s m : Int}
theorem rvT_f (h : ¬ frP (brF f ad T) 0 (nI x) 18 (nI y)) : rvT f T x y s ad = some (s, ad) := @if_neg _ (Classical.propDecidable _) h _ _ _
theorem rvT_n (h : frP (brF f ad T) 0 (nI x) 18 (nI y)) (h2 : lhF (rvO f ad x y) T = none) : rvT f T x y s ad = none := by
  unfold rvT
  rw [@if_pos _ (Classical.propDecidable _) h, h2]
theorem rvT_s (h : frP (brF f ad T) 0 (nI x) 18 (nI y)) (h2 : lhF (rvO f ad x y) T = some t) (h3 : rvO f ad x y t = some m) : rvT f T x y s ad = some (s + m, upd ad t (ad t + zI m)) := by
  unfold rvT
  rw [@if_pos _ (Classical.propDecidable _) h, h2]
  show (match rvO f ad x y t with | none => none | some m => some (s + m, upd ad t (ad t + zI m))) = _
  rw [h3]
theorem rvS_s (h : rvS f ad0 T x y0 k = some (s, ad)) : rvS f ad0 T x y0 (k + 1) = rvT f T x (y0 + 10 * (k + 1)) s ad := by rw [rvS, h]
theorem rvS_none (h : rvS f ad0 T x y0 k = none) : ∀ j, rvS f ad0 T x y0 (k + j) = none
  | 0 => h
  | j + 1 => by rw [← Nat.add_assoc, rvS, rvS_none h j]
theorem rvS_le (h : rvS f ad0 T x y0 k = none) {j : Nat} (hj : k ≤ j) : rvS f ad0 T x y0 j = none := by
  have := rvS_none h (j - k)
  rwa [show k + (j - k) = j by omega] at this
theorem WF.stn (hW : WF f T S F W) (ht : t < T) : f (26 + 5 * t + 1) = nI (stN f t) ∧ stN f t < 20 := by
  obtain ⟨q, hq, e⟩ := hW.st ht
  have : stN f t = q := by unfold stN; rw [e, nn_nI (by omega)]
  rw [this]; exact ⟨e, hq⟩
theorem hgF_up (hn : ¬ ((f (26 + 5 * t + 0)).toInt = 1 ∧ (f 3).toInt = 1)) {v : Int32} : hgF f (upd ad t (ad t + v)) t = hgF f ad t + v := by
  unfold hgF hgM
  rw [if_neg hn, if_neg hn, upd_eq, ← Int32.add_assoc]
theorem hgF_upn {u : Nat} {v : Int32} (h : u ≠ t) : hgF f (upd ad t v) u = hgF f ad u := by unfold hgF; rw [upd_ne h]
theorem brF_up (hW : WF f T S F W) (ht : t < T) (hn : ¬ ((f (26 + 5 * t + 0)).toInt = 1 ∧ (f 3).toInt = 1)) {v : Int32} {q : Nat} (hq : q < 20) :
    brF f (upd ad t (ad t + v)) T q = upd (brF f ad T) (stN f t) (brF f ad T (stN f t) + v) q := by
  obtain ⟨e, h20⟩ := hW.stn ht
  by_cases h : q = stN f t
  · subst h
    rw [upd_eq]
    unfold brF
    rw [hW.ta ht e]
    show f _ + hgF f _ t = f _ + hgF f ad t + v
    rw [hgF_up hn, Int32.add_assoc]
  · rw [upd_ne h]
    unfold brF
    cases e2 : taF f T (nI q) with
    | none => rfl
    | some u =>
      obtain ⟨huT, hus, -⟩ := xfind_spec e2
      show f _ + hgF f _ u = f _ + hgF f ad u
      rw [hgF_upn (fun k => h (by subst k; exact nI_inj (by omega) (by omega) (hus.symm.trans e)))]
theorem rvW_le (hx : x ≤ 1000) (hy : y ≤ 1000) (hs : stN f t ≤ 18) : rvW f x y t ≤ 10000 := by
  have := lnN_le hx hy (show 18 ≤ 20 by decide) hs
  unfold rvW; omega
theorem rvO_b (hB : BD f T S) (h : rvO f ad x y t = some m) (hk : rvK f ad T k s) (ht : t < T) : -400 ≤ m ∧ m ≤ 400 := by
  obtain ⟨c, h2, rfl⟩ := rvO_s h
  have h3 := hk.2 t ht
  have h4 := hB.gl (q := stN f t) (by have := c.1.2; omega)
  omega
theorem rvK_up (hB : BD f T S) (h : rvO f ad x y t = some m) (hk : rvK f ad T k s) (ht : t < T) : rvK f (upd ad t (ad t + zI m)) T (k + 1) (s + m) := by
  have hb := rvO_b hB h hk ht
  obtain ⟨c, h2, hm⟩ := rvO_s h
  have h3 := hk.2 t ht
  have h4 := hB.gl (q := stN f t) (by have := c.1.2; omega)
  refine ⟨by have := hk.1; omega, fun u hu => ?_⟩
  by_cases e : u = t
  · subst e
    have e2 : (zI m).toInt = m := zI_toInt (by omega) (by omega)
    rw [hgF_up c.2.2, i32_add (by omega) (by omega), e2]
    omega
  · rw [hgF_upn e]; exact hk.2 u hu
theorem rvK_k (hk : rvK f ad T k s) : rvK f ad T (k + 1) s := ⟨by have := hk.1; omega, hk.2⟩
theorem rvK_0 (hB : BD f T S) (h0 : ∀ t, t < T → ad t = 0) : rvK f ad T 0 0 := ⟨by decide, fun t ht => by
  rw [hgF_at0 (h0 t ht), hB.hi ht, nI_toInt (by have := hB.hl ht; omega)]
  have := hB.hl ht
  omega⟩
/-- where the reference is -/
def rvR (B : xM) (f ad0 : Nat → Int32) (T x y0 k : Nat) (v : Int32) (J : xM) : Prop := (∃ s ad, rvS f ad0 T x y0 k = some (s, ad) ∧ v = zI s ∧ J = xrow B 315 ad ∧ rvK f ad T k s) ∨ (rvS f ad0 T x y0 k = none ∧ v = -1000000 ∧ ∃ ad, J = xrow B 315 ad)
theorem rvR_s {B J : xM} {v : Int32} (h : rvR B f ad0 T x y0 k v J) (hv : v.toInt ≠ -1000000) : ∃ s ad, rvS f ad0 T x y0 k = some (s, ad) ∧ v = zI s ∧ J = xrow B 315 ad ∧ rvK f ad T k s := h.elim id (fun q => absurd (by rw [q.2.1]; rfl) hv)
theorem rvR_ad {B J : xM} {v : Int32} (h : rvR B f ad0 T x y0 k v J) : ∃ ad, J = xrow B 315 ad := h.elim (fun ⟨_, ad, _, _, e, _⟩ => ⟨ad, e⟩) (fun q => q.2.2)
theorem rvR_end {B J : xM} {v : Int32} (h : rvR B f ad0 T x y0 k v J) (hk : k ≤ m0) (hm : m0 ≤ 9) (he : m0 ≤ k ∨ v.toInt = -1000000) : v = oS (rvS f ad0 T x y0 m0) := by
  rcases h with ⟨s, ad, h1, h2, h3, h4⟩ | ⟨h1, h2, h3⟩
  · by_cases e : k = m0
    · subst e; rw [h1, h2]; rfl
    · have h5 := h4.1
      have : v.toInt = s := by rw [h2]; exact zI_toInt (by omega) (by omega)
      omega
  · rw [rvS_le h1 hk, h2]; rfl
theorem rvR_no {B : xM} (hs : rvS f ad0 T x y0 k = some (s, ad)) (hk : rvK f ad T k s) (h : ¬ frP (brF f ad T) 0 (nI x) 18 (nI (y0 + 10 * (k + 1)))) {J : xM} (hJ : J = xrow B 315 ad) : rvR B f ad0 T x y0 (k + 1) (zI s) J :=
  Or.inl ⟨s, ad, by rw [rvS_s hs, rvT_f h], rfl, hJ, rvK_k hk⟩
theorem rvR_nn {B : xM} (hs : rvS f ad0 T x y0 k = some (s, ad)) (h : frP (brF f ad T) 0 (nI x) 18 (nI (y0 + 10 * (k + 1)))) (h2 : lhF (rvO f ad x (y0 + 10 * (k + 1))) T = none) {J : xM} (hJ : J = xrow B 315 ad) : rvR B f ad0 T x y0 (k + 1) (-1000000) J :=
  Or.inr ⟨by rw [rvS_s hs, rvT_n h h2], rfl, ad, hJ⟩
theorem rvR_up {B : xM} (hB : BD f T S) (hs : rvS f ad0 T x y0 k = some (s, ad)) (hk : rvK f ad T k s) (h : frP (brF f ad T) 0 (nI x) 18 (nI (y0 + 10 * (k + 1)))) (h2 : lhF (rvO f ad x (y0 + 10 * (k + 1))) T = some t) (h3 : rvO f ad x (y0 + 10 * (k + 1)) t = some m) {J : xM} (hJ : J = xrow B 315 ad) :
    rvR B f ad0 T x y0 (k + 1) (zI (s + m)) (xput J 315 t (J 315 t + zI m)) :=
  Or.inl ⟨s + m, upd ad t (ad t + zI m), by rw [rvS_s hs, rvT_s h h2 h3], rfl, by rw [hJ, xrow_e, xput_row], rvK_up hB h3 hk (lh_lt h2)⟩
/-- where the class is -/
def rvQ (f ad0 : Nat → Int32) (T x y0 k : Nat) (s : Int) (J : xM) : Prop := ∃ ad, rvS f ad0 T x y0 k = some (s, ad) ∧ (∀ q, q < 20 → J 5 q = brF f ad T q) ∧ rvK f ad T k s
theorem rvQ_no {J : xM} (hs : rvS f ad0 T x y0 k = some (s, ad)) (hb : ∀ q, q < 20 → J 5 q = brF f ad T q) (hk : rvK f ad T k s) (h : ¬ frP (brF f ad T) 0 (nI x) 18 (nI (y0 + 10 * (k + 1)))) : rvQ f ad0 T x y0 (k + 1) s J :=
  ⟨ad, by rw [rvS_s hs, rvT_f h], hb, rvK_k hk⟩
theorem rvQ_up {J : xM} (hW : WF f T S F W) (hB : BD f T S) (hs : rvS f ad0 T x y0 k = some (s, ad)) (hb : ∀ q, q < 20 → J 5 q = brF f ad T q) (hk : rvK f ad T k s) (h : frP (brF f ad T) 0 (nI x) 18 (nI (y0 + 10 * (k + 1)))) (h2 : lhF (rvO f ad x (y0 + 10 * (k + 1))) T = some t) (h3 : rvO f ad x (y0 + 10 * (k + 1)) t = some m) :
    rvQ f ad0 T x y0 (k + 1) (s + m) (xput J 5 (stN f t) (J 5 (stN f t) + zI m)) := by
  obtain ⟨c, -, -⟩ := rvO_s h3
  refine ⟨upd ad t (ad t + zI m), by rw [rvS_s hs, rvT_s h h2 h3], fun q hq => ?_, rvK_up hB h3 hk (lh_lt h2)⟩
  rw [brF_up hW (lh_lt h2) c.2.2 hq]
  by_cases e : q = stN f t
  · subst e; rw [xput_e, upd_eq, hb _ hq]
  · rw [xput_i e rfl, upd_ne e, hb q hq]
theorem rvQ_n (hs : rvS f ad0 T x y0 k = some (s, ad)) (h : frP (brF f ad T) 0 (nI x) 18 (nI (y0 + 10 * (k + 1)))) (h2 : lhF (rvO f ad x (y0 + 10 * (k + 1))) T = none) (hm : k + 1 ≤ m0) : -1000000 = oS (rvS f ad0 T x y0 m0) := by
  rw [rvS_le (by rw [rvS_s hs, rvT_n h h2]) hm]; rfl
theorem brF_st (hW : WF f T S F W) (hB : BD f T S) (ht : t < T) (hh : -200 ≤ (hgF f ad t).toInt ∧ (hgF f ad t).toInt ≤ 99) : brF f ad T (stN f t) = zI (((gN f (stN f t) : Nat) : Int) + (hgF f ad t).toInt) := by
  obtain ⟨e, h20⟩ := hW.stn ht
  unfold brF
  rw [hW.ta ht e, hB.gr h20, zN]
  show zI _ + hgF f ad t = _
  rw [← zI_of (hgF f ad t), zI_add, zI_of]
end
theorem rv_zero {B K : xM} {z : Nat} (h : ∃ ad, K = xrow B 315 ad ∧ ∀ t, t < z → ad t = 0) : ∃ ad, xput K 315 z (nI 0) = xrow B 315 ad ∧ ∀ t, t < z + 1 → ad t = 0 := by
  obtain ⟨ad, rfl, h2⟩ := h
  refine ⟨upd ad z (nI 0), by rw [xput_row], fun t ht => ?_⟩
  by_cases e : t = z
  · subst e; rw [upd_eq]; rfl
  · rw [upd_ne e]; exact h2 t (by omega)
