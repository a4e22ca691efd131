/-! WHAT A GARDEN IS SEEN TO BE, over a row f as the reference keeps it, and what is added to its trees for a while -/
noncomputable def xfind (p : Nat → Prop) : Nat → Option Nat
  | 0 => none
  | n + 1 => match xfind p n with
    | some i => some i
    | none => @ite (Option Nat) (p n) (Classical.propDecidable _) (some n) none
def oI (o : Option Nat) : Int32 := match o with
  | none => -1000000
  | some t => nI t
theorem xfind_none {p : Nat → Prop} : ∀ {n : Nat}, (∀ u, u < n → ¬ p u) → xfind p n = none
  | 0, _ => rfl
  | n + 1, h => by
    rw [xfind, xfind_none (fun u hu => h u (by omega))]
    exact @if_neg _ (Classical.propDecidable _) (h n (by omega)) _ _ _
theorem xfind_some {p : Nat → Prop} {i : Nat} (hp : p i) (hn : ∀ u, u < i → ¬ p u) : ∀ {n : Nat}, i < n → xfind p n = some i
  | 0, h => absurd h (Nat.not_lt_zero _)
  | n + 1, h => by
    rw [xfind]
    by_cases hi : i < n
    · rw [xfind_some hp hn hi]
    · have e : i = n := by omega
      subst e
      rw [xfind_none hn]
      exact @if_pos _ (Classical.propDecidable _) hp _ _ _
theorem xfind_no {p : Nat → Prop} : ∀ {n : Nat}, xfind p n = none → ∀ u, u < n → ¬ p u
  | 0, _, u, hu => absurd hu (Nat.not_lt_zero _)
  | n + 1, h, u, hu => by
    intro hp
    rw [xfind] at h
    cases hx : xfind p n with
    | some j => rw [hx] at h; cases h
    | none =>
      rw [hx] at h
      by_cases hun : u < n
      · exact xfind_no hx u hun hp
      · have e : u = n := by omega
        subst e
        rw [show (match (none : Option Nat) with | some i => some i | none => @ite (Option Nat) (p u) (Classical.propDecidable _) (some u) none) = some u from @if_pos _ (Classical.propDecidable _) hp _ _ _] at h
        cases h
theorem xfind_spec {p : Nat → Prop} : ∀ {n i : Nat}, xfind p n = some i → i < n ∧ p i ∧ ∀ u, u < i → ¬ p u
  | 0, i, h => by cases h
  | n + 1, i, h => by
    rw [xfind] at h
    cases hx : xfind p n with
    | some j =>
      rw [hx] at h
      obtain ⟨h1, h2, h3⟩ := xfind_spec hx
      cases h
      exact ⟨by omega, h2, h3⟩
    | none =>
      rw [hx] at h
      have hn : ∀ u, u < n → ¬ p u := xfind_no hx
      rcases Classical.em (p n) with hp | hp
      · rw [show (match (none : Option Nat) with | some i => some i | none => @ite (Option Nat) (p n) (Classical.propDecidable _) (some n) none) = some n from @if_pos _ (Classical.propDecidable _) hp _ _ _] at h
        cases h
        exact ⟨by omega, hp, hn⟩
      · rw [show (match (none : Option Nat) with | some i => some i | none => @ite (Option Nat) (p n) (Classical.propDecidable _) (some n) none) = none from @if_neg _ (Classical.propDecidable _) hp _ _ _] at h
        cases h
theorem xfind_congr {p q : Nat → Prop} : ∀ {n : Nat}, (∀ u, u < n → (p u ↔ q u)) → xfind p n = xfind q n
  | 0, _ => rfl
  | n + 1, h => by rw [xfind, xfind, xfind_congr (fun u hu => h u (by omega)), propext (h n (by omega))]
noncomputable def bsel (P : Prop) (v : Int32) : Int32 := @ite Int32 P (Classical.propDecidable P) v 0
theorem bsel_t {P : Prop} {v : Int32} (h : P) : bsel P v = v := @if_pos _ (Classical.propDecidable P) h _ _ _
theorem bsel_f {P : Prop} {v : Int32} (h : ¬ P) : bsel P v = 0 := @if_neg _ (Classical.propDecidable P) h _ _ _
/-- a set of numbers, by bits -/
noncomputable def bitsI (P : Nat → Prop) : Nat → Int32
  | 0 => 0
  | n + 1 => bitsI P n ||| bsel (P n) (nI 1 <<< (nI n &&& 31))
theorem bits_t {P : Nat → Prop} {k : Nat} {a : Int32} (ha : a = bitsI P k) (h : P k) : a ||| (nI 1 <<< (nI k &&& 31)) = bitsI P (k + 1) := by rw [bitsI, bsel_t h, ha]
theorem bits_f {P : Nat → Prop} {k : Nat} {a : Int32} (ha : a = bitsI P k) (h : ¬ P k) : a ||| nI 0 = bitsI P (k + 1) := by rw [bitsI, bsel_f h, ha]; rfl
theorem bits_f' {P : Nat → Prop} {k : Nat} {a : Int32} (ha : a = bitsI P k) (h : ¬ P k) : a = bitsI P (k + 1) := by
  rw [bitsI, bsel_f h, ha]; exact (Int32.or_zero).symm
theorem bits_congr {P Q : Nat → Prop} : ∀ {n : Nat}, (∀ k, k < n → (P k ↔ Q k)) → bitsI P n = bitsI Q n
  | 0, _ => rfl
  | n + 1, h => by rw [bitsI, bitsI, bits_congr (fun k hk => h k (by omega)), propext (h n (by omega))]
def hgZ (z : Int32) : Int32 := if 0 ≤ z.toInt then z else 0
def hgT (s cu : Int32) : Int32 := hgZ ((if s.toInt ≤ 99 then s else 99) - cu)
def hgS (kd hi gr y : Int32) : Int32 := hi + (if kd.toInt < 4 then gr * y else 0)
def hgM (kd hi gr cu y w ad : Int32) : Int32 := if kd.toInt = 1 ∧ w.toInt = 1 then 0 else hgT (hgS kd hi gr y) cu + ad
/-- the height of a tree -/
def hgF (f ad : Nat → Int32) (t : Nat) : Int32 := hgM (f (26 + 5 * t + 0)) (f (26 + 5 * t + 2)) (f (26 + 5 * t + 3)) (f (26 + 5 * t + 4)) (f 2) (f 3) (ad t)
/-- the tree at a site -/
noncomputable def taF (f : Nat → Int32) (T : Nat) (x : Int32) : Option Nat := xfind (fun t => f (26 + 5 * t + 1) = x) T
/-- the bar of a site -/
noncomputable def brF (f ad : Nat → Int32) (T q : Nat) : Int32 := f (6 + q) + (match taF f T (nI q) with
  | none => 0
  | some t => hgF f ad t)
def frL (x y : Int32) (a c q : Nat) : Int32 := (y - x) * zI (((q : Nat) : Int) - ((a : Nat) : Int)) + x * zI (((c : Nat) : Int) - ((a : Nat) : Int))
/-- a line from the height x at site a to the height y at site c is free -/
def frP (b : Nat → Int32) (a : Nat) (x : Int32) (c : Nat) (y : Int32) : Prop := ∀ q, q < c → a < q → (b q * zI (((c : Nat) : Int) - ((a : Nat) : Int))).toInt < (frL x y a c q).toInt
/-- the site of a thing; its top -/
def tsF (f : Nat → Int32) (k : Nat) : Nat := (f (56 + 3 * k)).toInt.toNat
def tpF (f : Nat → Int32) (k : Nat) : Int32 := f (6 + tsF f k) + f (56 + 3 * k + 1)
def snP (b f : Nat → Int32) (s : Nat) (e : Int32) (k : Nat) : Prop := s < tsF f k ∧ frP b s (f (6 + s) + e) (tsF f k) (tpF f k)
def thP (f : Nat → Int32) (S : Nat) : Prop := ∀ k, k < S → f (56 + 3 * k) = nI (tsF f k) ∧ tsF f k ≤ 19
def mtP (b f : Nat → Int32) (S : Nat) (e : Int32) : Prop := ∀ k, k < S → (snP b f 0 e k ↔ (f (56 + 3 * k + 2)).toInt = 1)
def inP (x : Int32) (e : Nat) : Prop := ((x >>> (nI e &&& 31)) &&& nI 1).toInt = 1
theorem lt_succ_or {P : Nat → Prop} {i : Nat} (h : ∀ u, u < i → P u) (hi : P i) : ∀ u, u < i + 1 → P u := fun u hu => by
  by_cases e : u = i
  · rw [e]; exact hi
  · exact h u (by omega)
theorem frP_congr {b b' : Nat → Int32} {a c : Nat} {x y : Int32} (h : ∀ q, q < c → a < q → b q = b' q) : frP b a x c y ↔ frP b' a x c y :=
  ⟨fun k q h1 h2 => by rw [← h q h1 h2]; exact k q h1 h2, fun k q h1 h2 => by rw [h q h1 h2]; exact k q h1 h2⟩
theorem xb_ne {P : Prop} {r : Int32} (h : r = xb P) (h2 : r.toInt ≠ 0) : P := by
  rcases xb_or P with ⟨p, _⟩ | ⟨_, e⟩
  · exact p
  · exact absurd (by rw [h, e]; rfl) h2
theorem xb_eq0 {P : Prop} {r : Int32} (h : r = xb P) (h2 : r.toInt = 0) : ¬ P := by
  rcases xb_or P with ⟨_, e⟩ | ⟨p, _⟩
  · rw [h, e] at h2; exact absurd h2 (by decide)
  · exact p
theorem all_t {P : Nat → Prop} {k : Nat} {r : Int32} (h : r = xb (∀ u, u < k → P u)) (h2 : r.toInt ≠ 0) (hp : P k) : nI 1 = xb (∀ u, u < k + 1 → P u) := xb_n1 (lt_succ_or (xb_ne h h2) hp)
theorem all_f {P : Nat → Prop} {k : Nat} (hp : ¬ P k) : nI 0 = xb (∀ u, u < k + 1 → P u) := xb_n0 (fun q => hp (q k (Nat.lt_succ_self k)))
theorem all_0 {P : Nat → Prop} {k : Nat} {r : Int32} (h : r = xb (∀ u, u < k → P u)) (h2 : r.toInt = 0) : nI 0 = xb (∀ u, u < k + 1 → P u) := xb_n0 (fun q => xb_eq0 h h2 (fun u hu => q u (Nat.lt_succ_of_lt hu)))
theorem ex_t {P : Nat → Prop} {a k : Nat} (h : a ≤ k) (hp : P k) : nI 1 = xb (∃ u, a ≤ u ∧ u < k + 1 ∧ P u) := xb_n1 ⟨k, h, Nat.lt_succ_self k, hp⟩
theorem ex_k {P : Nat → Prop} {a k : Nat} {r : Int32} (h : r = xb (∃ u, a ≤ u ∧ u < k ∧ P u)) (h2 : r.toInt ≠ 0) : nI 1 = xb (∃ u, a ≤ u ∧ u < k + 1 ∧ P u) := by
  obtain ⟨u, h3, h4, h5⟩ := xb_ne h h2
  exact xb_n1 ⟨u, h3, Nat.lt_succ_of_lt h4, h5⟩
theorem ex_f {P : Nat → Prop} {a k : Nat} {r : Int32} (h : r = xb (∃ u, a ≤ u ∧ u < k ∧ P u)) (h2 : r.toInt = 0) (hp : ¬ P k) : nI 0 = xb (∃ u, a ≤ u ∧ u < k + 1 ∧ P u) := xb_n0 (fun q => by
  obtain ⟨u, h3, h4, h5⟩ := q
  by_cases e : u = k
  · exact hp (e ▸ h5)
  · exact xb_eq0 h h2 ⟨u, h3, by omega, h5⟩)
/-- a thing is seen in the water too -/
def dbP (b f : Nat → Int32) (F W : Nat) (e : Int32) (k : Nat) : Prop := (∃ m, F ≤ m ∧ m < W + 1 ∧ (0 < m ∧ m < tsF f k ∧ frP b 0 (f (6 + 0) + e) m (f (6 + m)) ∧ frP b m (f (6 + m)) (tsF f k) (tpF f k))) ∧ snP b f 0 e k
theorem shl1_d : ∀ S, S < 31 → nI 1 <<< (nI S &&& 31) = nI (2 ^ S) := by decide +kernel
def ksN (s : Nat) : Nat := if s = 0 then 1 else if s = 1 then 3 else if s = 2 then 2 else if s = 3 then 4 else 5
def mnP (b f : Nat → Int32) (e : Int32) (n : Nat) : Prop := frP b 0 (f (6 + 0) + e) 19 (f (6 + 19) + nI 20 + nI (3 * n))
noncomputable def cntP (P : Nat → Prop) : Nat → Nat
  | 0 => 0
  | n + 1 => cntP P n + @ite Nat (P n) (Classical.propDecidable _) 1 0
theorem cnt_t {P : Nat → Prop} {n c : Nat} (hc : c = cntP P n) (h : P n) : c + 1 = cntP P (n + 1) := by rw [cntP, hc]; congr 1; exact (@if_pos _ (Classical.propDecidable _) h _ _ _).symm
theorem cnt_f {P : Nat → Prop} {n c : Nat} (hc : c = cntP P n) (h : ¬ P n) : c + 0 = cntP P (n + 1) := by rw [cntP, hc]; congr 1; exact (@if_neg _ (Classical.propDecidable _) h _ _ _).symm
theorem cnt_le {P : Nat → Prop} : ∀ n, cntP P n ≤ n
  | 0 => Nat.le_refl 0
  | n + 1 => by
    have h := cnt_le (P := P) n
    rw [cntP]
    rcases Classical.em (P n) with q | q
    · rw [show @ite Nat (P n) (Classical.propDecidable _) 1 0 = 1 from @if_pos _ (Classical.propDecidable _) q _ _ _]; omega
    · rw [show @ite Nat (P n) (Classical.propDecidable _) 1 0 = 0 from @if_neg _ (Classical.propDecidable _) q _ _ _]; omega
theorem cnt_congr {P Q : Nat → Prop} : ∀ {n : Nat}, (∀ k, k < n → (P k ↔ Q k)) → cntP P n = cntP Q n
  | 0, _ => rfl
  | n + 1, h => by rw [cntP, cntP, cnt_congr (fun k hk => h k (by omega)), propext (h n (by omega))]
