/-! A GARDEN OF THE CLASS holds what a row f of the reference tells -/
/-- what a row tells is in order: T trees, S things, a lake from F to W -/
def WF (f : Nat → Int32) (T S F W : Nat) : Prop :=
  (f 0 = nI T ∧ f 1 = nI S ∧ T ≤ 6 ∧ S ≤ 6) ∧ thP f S ∧ (∀ t, t < T → 1 ≤ (f (26 + 5 * t + 0)).toInt ∧ (f (26 + 5 * t + 0)).toInt ≤ 5) ∧
  (∀ t, t < T → ∃ s, s < 20 ∧ f (26 + 5 * t + 1) = nI s) ∧ (∀ t u, t < T → u < T → f (26 + 5 * t + 1) = f (26 + 5 * u + 1) → t = u) ∧
  (∀ k, k < S → (f (56 + 3 * k + 2)).toInt = 0 ∨ (f (56 + 3 * k + 2)).toInt = 1) ∧ ((f 3).toInt = 0 ∨ (f 3).toInt = 1) ∧
  (f 4 = nI F ∧ F ≤ 20 ∧ f 5 = nI W ∧ W ≤ 20)
def LX (I : xM) (g F W : Nat) : Prop := ∃ a b : Int, I g 1 = zI a ∧ I g 2 = zI b ∧ 0 ≤ a ∧ a ≤ 20 ∧ -1000000 ≤ b ∧ b ≤ 20 ∧ ∀ m : Nat, 1 ≤ m → ((a ≤ m ∧ (m : Int) ≤ b) ↔ (F ≤ m ∧ m ≤ W))
def GX (I : xM) (g : Nat) (f : Nat → Int32) (T S F W : Nat) : Prop :=
  (I g 3 = nI T ∧ I g 9 = nI S ∧ I g 13 = f 2 ∧ I g 14 = f 3) ∧ (∀ q, q < 20 → I (g + 1) q = f (6 + q)) ∧
  (∀ t, t < T → I (g + 2) t = f (26 + 5 * t + 0) ∧ I (g + 3) t = f (26 + 5 * t + 1) ∧ I (g + 4) t = f (26 + 5 * t + 2) ∧ I (g + 5) t = f (26 + 5 * t + 3) ∧ I (g + 6) t = f (26 + 5 * t + 4)) ∧
  (∀ k, k < S → I (g + 7) k = f (56 + 3 * k) ∧ I (g + 8) k = f (56 + 3 * k + 1) ∧ I (g + 9) k = f (56 + 3 * k + 2)) ∧ LX I g F W
/-- a row of booleans -/
def BZ (I : xM) (g : Nat) : Prop := (∀ k, k < 6 → fits .boolean (.int (I (g + 9) k)) = true) ∧ fits .boolean (.int (I g 14)) = true
theorem fit_nar {v : Int32} (h : fits .boolean (.int v) = true) : narrow .boolean (.int v) = .int v := by
  simp only [fits, Bool.or_eq_true, beq_iff_eq] at h
  rcases h with rfl | rfl <;> rfl
section
variable {I : xM} {g : Nat} {f : Nat → Int32} {T S F W : Nat}
theorem GX.tr (h : GX I g f T S F W) : I g 3 = nI T := h.1.1
theorem GX.th (h : GX I g f T S F W) : I g 9 = nI S := h.1.2.1
theorem GX.ye (h : GX I g f T S F W) : I g 13 = f 2 := h.1.2.2.1
theorem GX.wi (h : GX I g f T S F W) : I g 14 = f 3 := h.1.2.2.2
theorem GX.gr (h : GX I g f T S F W) {q : Nat} (hq : q < 20) : I (g + 1) q = f (6 + q) := h.2.1 q hq
theorem GX.k0 (h : GX I g f T S F W) {t : Nat} (ht : t < T) : I (g + 2) t = f (26 + 5 * t + 0) := (h.2.2.1 t ht).1
theorem GX.k1 (h : GX I g f T S F W) {t : Nat} (ht : t < T) : I (g + 3) t = f (26 + 5 * t + 1) := (h.2.2.1 t ht).2.1
theorem GX.k2 (h : GX I g f T S F W) {t : Nat} (ht : t < T) : I (g + 4) t = f (26 + 5 * t + 2) := (h.2.2.1 t ht).2.2.1
theorem GX.k3 (h : GX I g f T S F W) {t : Nat} (ht : t < T) : I (g + 5) t = f (26 + 5 * t + 3) := (h.2.2.1 t ht).2.2.2.1
theorem GX.k4 (h : GX I g f T S F W) {t : Nat} (ht : t < T) : I (g + 6) t = f (26 + 5 * t + 4) := (h.2.2.1 t ht).2.2.2.2
theorem GX.s0 (h : GX I g f T S F W) {k : Nat} (hk : k < S) : I (g + 7) k = f (56 + 3 * k) := (h.2.2.2.1 k hk).1
theorem GX.s1 (h : GX I g f T S F W) {k : Nat} (hk : k < S) : I (g + 8) k = f (56 + 3 * k + 1) := (h.2.2.2.1 k hk).2.1
theorem GX.s2 (h : GX I g f T S F W) {k : Nat} (hk : k < S) : I (g + 9) k = f (56 + 3 * k + 2) := (h.2.2.2.1 k hk).2.2
theorem GX.la (h : GX I g f T S F W) : LX I g F W := h.2.2.2.2
theorem GX.ext {I' : xM} (h : GX I g f T S F W) (hI : ∀ i, g ≤ i → i < g + 10 → I' i = I i) : GX I' g f T S F W := by
  unfold GX LX
  rw [hI g (by omega) (by omega), hI (g + 1) (by omega) (by omega), hI (g + 2) (by omega) (by omega), hI (g + 3) (by omega) (by omega), hI (g + 4) (by omega) (by omega), hI (g + 5) (by omega) (by omega), hI (g + 6) (by omega) (by omega), hI (g + 7) (by omega) (by omega), hI (g + 8) (by omega) (by omega), hI (g + 9) (by omega) (by omega)]
  exact h
theorem BZ.ext {I' : xM} (h : BZ I g) (hI : ∀ i, g ≤ i → i < g + 10 → I' i = I i) : BZ I' g := by
  unfold BZ
  rw [hI (g + 9) (by omega) (by omega), hI g (by omega) (by omega)]
  exact h
theorem WF.T0 (h : WF f T S F W) : f 0 = nI T := h.1.1
theorem WF.S0 (h : WF f T S F W) : f 1 = nI S := h.1.2.1
theorem WF.T6 (h : WF f T S F W) : T ≤ 6 := h.1.2.2.1
theorem WF.S6 (h : WF f T S F W) : S ≤ 6 := h.1.2.2.2
theorem WF.ts (h : WF f T S F W) {k : Nat} (hk : k < S) : f (56 + 3 * k) = nI (tsF f k) := (h.2.1 k hk).1
theorem WF.ts9 (h : WF f T S F W) {k : Nat} (hk : k < S) : tsF f k ≤ 19 := (h.2.1 k hk).2
theorem WF.kd (h : WF f T S F W) {t : Nat} (ht : t < T) : 1 ≤ (f (26 + 5 * t + 0)).toInt ∧ (f (26 + 5 * t + 0)).toInt ≤ 5 := h.2.2.1 t ht
theorem WF.st (h : WF f T S F W) {t : Nat} (ht : t < T) : ∃ s, s < 20 ∧ f (26 + 5 * t + 1) = nI s := h.2.2.2.1 t ht
theorem WF.ne (h : WF f T S F W) {t u : Nat} (ht : t < T) (hu : u < T) (e : f (26 + 5 * t + 1) = f (26 + 5 * u + 1)) : t = u := h.2.2.2.2.1 t u ht hu e
theorem WF.sh (h : WF f T S F W) {k : Nat} (hk : k < S) : (f (56 + 3 * k + 2)).toInt = 0 ∨ (f (56 + 3 * k + 2)).toInt = 1 := h.2.2.2.2.2.1 k hk
theorem WF.wi (h : WF f T S F W) : (f 3).toInt = 0 ∨ (f 3).toInt = 1 := h.2.2.2.2.2.2.1
theorem WF.lk (h : WF f T S F W) : f 4 = nI F ∧ F ≤ 20 ∧ f 5 = nI W ∧ W ≤ 20 := h.2.2.2.2.2.2.2
end
/-- how high the sites bar, in a year y, in winter or not -/
noncomputable def brY (f : Nat → Int32) (T : Nat) (y w : Int32) (q : Nat) : Int32 := f (6 + q) + (match taF f T (nI q) with
  | none => 0
  | some t => hgM (f (26 + 5 * t + 0)) (f (26 + 5 * t + 2)) (f (26 + 5 * t + 3)) (f (26 + 5 * t + 4)) y w 0)
theorem brF_Y (f : Nat → Int32) (ad : Nat → Int32) {T : Nat} (h : ∀ t, t < T → ad t = 0) (q : Nat) : brF f ad T q = brY f T (f 2) (f 3) q := by
  unfold brF brY
  cases e : taF f T (nI q) with
  | none => rfl
  | some t => simp only [hgF, h t (xfind_spec e).1]
theorem min99 (s : Int32) : (if s < nI 99 then s else nI 99) = if s.toInt ≤ 99 then s else 99 := by
  have e : (nI 99).toInt = 99 := rfl
  by_cases h : s < nI 99
  · rw [if_pos h, if_pos (by have := Int32.lt_iff_toInt_lt.mp h; omega)]
  · have h2 : 99 ≤ s.toInt := by rw [← e]; exact Int.not_lt.mp (fun q => h (Int32.lt_iff_toInt_lt.mpr q))
    rw [if_neg h]
    by_cases h3 : s.toInt ≤ 99
    · rw [if_pos h3]; exact toInt_eq.mpr (by rw [e]; omega)
    · rw [if_neg h3]; rfl
theorem max0 (z : Int32) : (if nI 0 < z then z else nI 0) = hgZ z := by
  have e : (nI 0).toInt = 0 := rfl
  unfold hgZ
  by_cases h : nI 0 < z
  · rw [if_pos h, if_pos (by have := Int32.lt_iff_toInt_lt.mp h; omega)]
  · have h2 : z.toInt ≤ 0 := by rw [← e]; exact Int.not_lt.mp (fun q => h (Int32.lt_iff_toInt_lt.mpr q))
    rw [if_neg h]
    by_cases h3 : 0 ≤ z.toInt
    · rw [if_pos h3]; exact toInt_eq.mpr (by rw [e]; omega)
    · rw [if_neg h3]; rfl
theorem brY_0 (f : Nat → Int32) (y w : Int32) (q : Nat) : brY f 0 y w q = f (6 + q) := by
  show f (6 + q) + 0 = _
  exact Int32.add_zero _
/-- one tree more -/
theorem brY_s {f : Nat → Int32} {T S F W i s q : Nat} {y w : Int32} (h : WF f T S F W) (hi : i < T) (hs : s < 20) (hq : q < 20) (e : f (26 + 5 * i + 1) = nI s) {b : Nat → Int32} (hb : b q = brY f i y w q) :
    upd b s (b s + hgM (f (26 + 5 * i + 0)) (f (26 + 5 * i + 2)) (f (26 + 5 * i + 3)) (f (26 + 5 * i + 4)) y w 0) q = brY f (i + 1) y w q := by
  by_cases hqs : q = s
  · subst hqs
    have hn : taF f i (nI q) = none := xfind_none (fun u hu hp => by have := h.ne (t := u) (u := i) (by omega) hi (by rw [hp, e]); omega)
    have h1 : taF f (i + 1) (nI q) = some i := xfind_some e (fun u hu hp => by have := h.ne (t := u) (u := i) (by omega) hi (by rw [hp, e]); omega) (Nat.lt_succ_self i)
    rw [show upd b q (b q + hgM (f (26 + 5 * i + 0)) (f (26 + 5 * i + 2)) (f (26 + 5 * i + 3)) (f (26 + 5 * i + 4)) y w 0) q = b q + hgM (f (26 + 5 * i + 0)) (f (26 + 5 * i + 2)) (f (26 + 5 * i + 3)) (f (26 + 5 * i + 4)) y w 0 by simp [upd], hb]
    unfold brY
    rw [hn, h1]
    show f (6 + q) + 0 + _ = _
    rw [Int32.add_zero]
  · have h1 : taF f (i + 1) (nI q) = taF f i (nI q) := by
      have hne : ¬ f (26 + 5 * i + 1) = nI q := fun hp => hqs (nI_inj (by omega) (by omega) (hp.symm.trans e))
      show (match xfind (fun t => f (26 + 5 * t + 1) = nI q) i with | some i => some i | none => @ite (Option Nat) (f (26 + 5 * i + 1) = nI q) (Classical.propDecidable _) (some i) none) = _
      rw [show @ite (Option Nat) (f (26 + 5 * i + 1) = nI q) (Classical.propDecidable _) (some i) none = none from @if_neg _ (Classical.propDecidable _) hne _ _ _]
      unfold taF
      cases xfind (fun t => f (26 + 5 * t + 1) = nI q) i <;> rfl
    rw [show upd b s (b s + hgM (f (26 + 5 * i + 0)) (f (26 + 5 * i + 2)) (f (26 + 5 * i + 3)) (f (26 + 5 * i + 4)) y w 0) q = b q by simp [upd, hqs], hb]
    unfold brY
    rw [h1]
theorem and1 (v : Int32) : (v &&& nI 1).toInt = 0 ∨ (v &&& nI 1).toInt = 1 := by
  obtain ⟨j, hj, e⟩ := pk_andE v (m := nI 1) 1 (by decide)
  rw [e]
  rcases (show j = 0 ∨ j = 1 by omega) with rfl | rfl
  · exact Or.inl rfl
  · exact Or.inr rfl
theorem xG_8 {g : Nat} (h : xG g) : 8 ≤ g ∧ g + 10 ≤ 307 := by rcases h with h | h | ⟨k, h1, h⟩ <;> omega
theorem max0n {n : Nat} (h : n < 1000) : (if nI 0 < nI (n + 1) then nI (n + 1) else nI 0) = nI (n + 1) := by
  rw [if_pos (nI_lt (Nat.succ_pos n) (by omega))]
theorem max1z {a : Int} (h0 : 0 ≤ a) (h2 : a ≤ 20) : (if nI 1 < zI a then zI a else nI 1) = nI (max 1 a).toNat := by
  have e1 : (nI 1).toInt = 1 := rfl
  have e2 : (zI a).toInt = a := zI_toInt (by omega) (by omega)
  by_cases h : nI 1 < zI a
  · have h3 := Int32.lt_iff_toInt_lt.mp h
    rw [if_pos h, zN, show (((max 1 a).toNat : Nat) : Int) = a by omega]
  · have h3 : a ≤ 1 := by rw [← e1, ← e2]; exact Int.not_lt.mp (fun q => h (Int32.lt_iff_toInt_lt.mpr q))
    rw [if_neg h, show (max 1 a).toNat = 1 by omega]
theorem LX.at {I : xM} {g F W : Nat} (h : LX I g F W) : ∃ a b : Int, I g 1 = zI a ∧ I g 2 = zI b ∧ 0 ≤ a ∧ a ≤ 20 ∧ -1000000 ≤ b ∧ b ≤ 20 ∧ ∀ m : Nat, 1 ≤ m → ((a ≤ m ∧ (m : Int) ≤ b) ↔ (F ≤ m ∧ m ≤ W)) := h
theorem xrow_oj {I : xM} {a b j : Nat} {f : Nat → Int32} {w : Int32} (h : b ≠ a) (e : I b j = w) : xrow I a f b j = w := by rw [xrow_o h]; exact e
theorem cpy0 {f g : Nat → Int32} {n j : Nat} (h : j < n) : va_cpy f g 0 0 n j = f j := by rw [pk_cpy_in (Nat.zero_le j) (by omega)]; congr 1; omega
/-- a garden taken over from another -/
def gcopy (I J : xM) (g h : Nat) : Prop := (∀ i, (i < g ∨ g + 10 ≤ i) → J i = I i) ∧ (J g 1 = I h 1 ∧ J g 2 = I h 2 ∧ J g 3 = I h 3 ∧ J g 9 = I h 9 ∧ J g 13 = I h 13 ∧ J g 14 = I h 14) ∧ (∀ q, q < 20 → J (g + 1) q = I (h + 1) q) ∧
  (∀ q, q < 6 → J (g + 2) q = I (h + 2) q ∧ J (g + 3) q = I (h + 3) q ∧ J (g + 4) q = I (h + 4) q ∧ J (g + 5) q = I (h + 5) q ∧ J (g + 6) q = I (h + 6) q ∧ J (g + 7) q = I (h + 7) q ∧ J (g + 8) q = I (h + 8) q ∧ J (g + 9) q = I (h + 9) q)
theorem gcopy.gx {I J : xM} {g h T S F W : Nat} {f : Nat → Int32} (k : gcopy I J g h) (hG : GX I h f T S F W) (hT : T ≤ 6) (hS : S ≤ 6) : GX J g f T S F W := by
  obtain ⟨k1, ⟨a1, a2, a3, a4, a5, a6⟩, k3, k4⟩ := k
  refine ⟨⟨a3.trans hG.tr, a4.trans hG.th, a5.trans hG.ye, a6.trans hG.wi⟩, fun q hq => (k3 q hq).trans (hG.gr hq), fun t ht => ?_, fun s hs => ?_, ?_⟩
  · obtain ⟨b1, b2, b3, b4, b5, -⟩ := k4 t (by omega)
    exact ⟨b1.trans (hG.k0 ht), b2.trans (hG.k1 ht), b3.trans (hG.k2 ht), b4.trans (hG.k3 ht), b5.trans (hG.k4 ht)⟩
  · obtain ⟨-, -, -, -, -, b1, b2, b3⟩ := k4 s (by omega)
    exact ⟨b1.trans (hG.s0 hs), b2.trans (hG.s1 hs), b3.trans (hG.s2 hs)⟩
  · obtain ⟨a, b, e1, e2, r⟩ := hG.la
    exact ⟨a, b, a1.trans e1, a2.trans e2, r⟩
theorem gcopy.bz {I J : xM} {g h : Nat} (k : gcopy I J g h) (hb : BZ I h) : BZ J g := ⟨fun q hq => by rw [(k.2.2.2 q hq).2.2.2.2.2.2.2]; exact hb.1 q hq, by rw [k.2.1.2.2.2.2.2]; exact hb.2⟩
theorem gcopy.out {I J : xM} {g h : Nat} (k : gcopy I J g h) {i : Nat} (hi : i < g ∨ g + 10 ≤ i) : J i = I i := k.1 i hi
theorem min24 {D : Nat} (h : D ≤ 24) : (if nI (D + 1) < nI 24 then nI (D + 1) else nI 24) = nI (min 24 (D + 1)) := by
  by_cases h2 : D + 1 < 24
  · rw [if_pos (nI_lt h2 (by decide)), Nat.min_eq_right (by omega)]
  · rw [if_neg (nI_nlt (by omega) (by omega)), Nat.min_eq_left (by omega)]
theorem snP_congr {b b' f : Nat → Int32} {s k : Nat} {e : Int32} (h : ∀ q, q < 20 → b q = b' q) (hk : tsF f k ≤ 19) : snP b f s e k ↔ snP b' f s e k := by
  unfold snP
  rw [frP_congr (fun q h1 _ => h q (by omega))]
theorem mtP_congr {b b' f : Nat → Int32} {T S F W : Nat} {e : Int32} (h : ∀ q, q < 20 → b q = b' q) (hW : WF f T S F W) : mtP b f S e ↔ mtP b' f S e :=
  ⟨fun q k hk => (snP_congr h (hW.ts9 hk)).symm.trans (q k hk), fun q k hk => (snP_congr h (hW.ts9 hk)).trans (q k hk)⟩
theorem dbP_congr {b b' f : Nat → Int32} {F W k : Nat} {e : Int32} (h : ∀ q, q < 20 → b q = b' q) (hk : tsF f k ≤ 19) : dbP b f F W e k ↔ dbP b' f F W e k := by
  have hp : ∀ m, (0 < m ∧ m < tsF f k ∧ frP b 0 (f (6 + 0) + e) m (f (6 + m)) ∧ frP b m (f (6 + m)) (tsF f k) (tpF f k)) ↔ (0 < m ∧ m < tsF f k ∧ frP b' 0 (f (6 + 0) + e) m (f (6 + m)) ∧ frP b' m (f (6 + m)) (tsF f k) (tpF f k)) := fun m =>
    and_congr_right fun _ => and_congr_right fun h2 => and_congr (frP_congr (fun q h3 _ => h q (by omega))) (frP_congr (fun q h3 _ => h q (by omega)))
  unfold dbP
  rw [snP_congr h hk]
  exact and_congr_left fun _ => exists_congr fun m => and_congr_right fun _ => and_congr_right fun _ => hp m
theorem mnP_congr {b b' f : Nat → Int32} {e : Int32} {n : Nat} (h : ∀ q, q < 20 → b q = b' q) : mnP b f e n ↔ mnP b' f e n := frP_congr (fun q h1 _ => h q (by omega))
theorem b01_t {v : Int32} (h : v.toInt = 0 ∨ v.toInt = 1) (h2 : v.toInt ≠ 0) : nI 1 = v := toInt_eq.mpr (show (1 : Int) = v.toInt by omega)
theorem b01_f {v : Int32} (h2 : v.toInt = 0) : nI 0 = v := toInt_eq.mpr (show (0 : Int) = v.toInt by omega)
/-- a day is kept -/
def keepP (I K : xM) (n D nw : Nat) : Prop := ∃ J, gcopy I J (47 + 10 * n) nw ∧ K = xput (xput J 0 8 (nI (if n = 23 then 0 else n + 1))) 0 9 (nI (min 24 (D + 1)))
theorem keepP.out {I K : xM} {n D nw i : Nat} (h : keepP I K n D nw) (hi : i < 47 + 10 * n ∨ 47 + 10 * n + 10 ≤ i) (h0 : i ≠ 0) : K i = I i := by
  obtain ⟨J, h1, h2⟩ := h
  rw [h2]
  exact (xput_ne h0).trans ((xput_ne h0).trans (h1.out hi))
theorem keepP.gx {I K : xM} {n D nw T S F W : Nat} {f : Nat → Int32} (h : keepP I K n D nw) (hn : nw = 8 ∨ nw = 18) (hG : GX I nw f T S F W) : GX K nw f T S F W := hG.ext (fun i h1 h2 => h.out (by omega) (by omega))
theorem upd_ne {f : Nat → Int32} {k j : Nat} {v : Int32} (h : j ≠ k) : upd f k v j = f j := by simp [upd, h]
theorem upd_eq {f : Nat → Int32} {k : Nat} {v : Int32} : upd f k v k = v := by simp [upd]
theorem tsF_upd {f : Nat → Int32} {p k : Nat} {v : Int32} (hp : p < 56) : tsF (upd f p v) k = tsF f k := by unfold tsF; rw [upd_ne (by omega)]
/-- a tree is cut -/
theorem WF.cut {f : Nat → Int32} {T S F W t : Nat} {v : Int32} (h : WF f T S F W) (ht : t < T) : WF (upd f (26 + 5 * t + 4) v) T S F W := by
  have hT := h.T6
  refine ⟨⟨?_, ?_, h.T6, h.S6⟩, fun k hk => ?_, fun u hu => ?_, fun u hu => ?_, fun u x hu hx => ?_, fun k hk => ?_, ?_, ?_⟩
  · rw [upd_ne (by omega)]; exact h.T0
  · rw [upd_ne (by omega)]; exact h.S0
  · rw [tsF_upd (by omega), upd_ne (by omega)]; exact ⟨h.ts hk, h.ts9 hk⟩
  · rw [upd_ne (by omega)]; exact h.kd hu
  · rw [upd_ne (by omega)]; exact h.st hu
  · rw [upd_ne (by omega), upd_ne (by omega)]; exact h.ne hu hx
  · rw [upd_ne (by omega)]; exact h.sh hk
  · rw [upd_ne (by omega)]; exact h.wi
  · rw [upd_ne (by omega), upd_ne (by omega)]; exact h.lk
theorem GX.cut {I : xM} {f : Nat → Int32} {g T S F W t : Nat} {v : Int32} (h : GX I g f T S F W) (ht : t < T) (hT : T ≤ 6 := by omega) : GX (xput I (g + 6) t v) g (upd f (26 + 5 * t + 4) v) T S F W := by
  refine ⟨⟨xput_o (by omega) h.tr, xput_o (by omega) h.th, ?_, ?_⟩, fun q hq => ?_, fun u hu => ⟨?_, ?_, ?_, ?_, ?_⟩, fun k hk => ⟨?_, ?_, ?_⟩, ?_⟩
  · rw [upd_ne (by omega)]; exact xput_o (by omega) h.ye
  · rw [upd_ne (by omega)]; exact xput_o (by omega) h.wi
  · rw [upd_ne (by omega)]; exact xput_o (by omega) (h.gr hq)
  · rw [upd_ne (by omega)]; exact xput_o (by omega) (h.k0 hu)
  · rw [upd_ne (by omega)]; exact xput_o (by omega) (h.k1 hu)
  · rw [upd_ne (by omega)]; exact xput_o (by omega) (h.k2 hu)
  · rw [upd_ne (by omega)]; exact xput_o (by omega) (h.k3 hu)
  · by_cases e : u = t
    · subst e; rw [upd_eq]; exact xput_e
    · rw [upd_ne (by omega)]; exact xput_i e (h.k4 hu)
  · rw [upd_ne (by omega)]; exact xput_o (by omega) (h.s0 hk)
  · rw [upd_ne (by omega)]; exact xput_o (by omega) (h.s1 hk)
  · rw [upd_ne (by omega)]; exact xput_o (by omega) (h.s2 hk)
  · obtain ⟨a, b, e1, e2, r⟩ := h.la
    exact ⟨a, b, xput_o (by omega) e1, xput_o (by omega) e2, r⟩
