/-! NAMES AND STATES of the reference's reading -/
def pkN (a : Nat → Nat) (s : Nat) : Nat → Nat
  | 0 => 0
  | k + 1 => 256 * pkN a s k + a (s + k)
theorem pkN_lt {a : Nat → Nat} {s : Nat} : ∀ (k : Nat), (∀ i, i < k → a (s + i) ≤ 255) → pkN a s k < 256 ^ k
  | 0, _ => Nat.one_pos
  | k + 1, h => by
    have ih := pkN_lt (a := a) (s := s) k (fun i hi => h i (by omega))
    have h2 := h k (by omega)
    rw [pkN, Nat.pow_succ]
    omega
theorem pkN_inj {a b : Nat → Nat} {s u : Nat} : ∀ (k j : Nat), (∀ i, i < k → 1 ≤ a (s + i) ∧ a (s + i) ≤ 255) → (∀ i, i < j → 1 ≤ b (u + i) ∧ b (u + i) ≤ 255) → pkN a s k = pkN b u j → k = j ∧ ∀ i, i < k → a (s + i) = b (u + i)
  | 0, 0, _, _, _ => ⟨rfl, fun i hi => absurd hi (Nat.not_lt_zero i)⟩
  | 0, j + 1, _, hb, e => by have := hb j (by omega); rw [pkN, pkN] at e; omega
  | k + 1, 0, ha, _, e => by have := ha k (by omega); rw [pkN, pkN] at e; omega
  | k + 1, j + 1, ha, hb, e => by
    have h1 := ha k (by omega)
    have h2 := hb j (by omega)
    rw [pkN, pkN] at e
    obtain ⟨rfl, h3⟩ := pkN_inj (a := a) (b := b) (s := s) (u := u) k j (fun i hi => ha i (by omega)) (fun i hi => hb i (by omega)) (by omega)
    refine ⟨rfl, fun i hi => ?_⟩
    by_cases hk : i = k
    · subst hk; omega
    · exact h3 i (by omega)
theorem i64_inj {x y : Nat} (hx : x < 2 ^ 63) (hy : y < 2 ^ 63) (h : Int64.ofNat x = Int64.ofNat y) : x = y := by
  have h1 := congrArg (fun z : Int64 => z.toBitVec.toNat) h
  have h2 : (BitVec.ofNat 64 x).toNat = (BitVec.ofNat 64 y).toNat := h1
  rw [BitVec.toNat_ofNat, BitVec.toNat_ofNat] at h2
  omega
theorem sh8 : (nI 8).toInt64 &&& 63 = (8 : Int64) := by decide
theorem i32_64 {b : Nat} (hb : b ≤ 255) : (nI b).toInt64 = Int64.ofNat b := by
  refine Int64.toInt_inj.mp ?_
  rw [i64_of, nI_toInt (by omega)]
  exact (Int64.toInt_ofNat_of_lt (by omega)).symm
theorem pk_step {x b : Nat} (hx : x < 2 ^ 48) (hb : b ≤ 255) : (Int64.ofNat x <<< ((nI 8).toInt64 &&& 63)) ||| (nI b).toInt64 = Int64.ofNat (256 * x + b) := by
  rw [sh8, i32_64 hb]
  refine Int64.toBitVec_inj.mp ?_
  rw [Int64.toBitVec_or, Int64.toBitVec_shiftLeft, show (8 : Int64).toBitVec.smod 64 = 8#64 from rfl]
  refine BitVec.eq_of_toNat_eq ?_
  show (BitVec.ofNat 64 x <<< (8#64) ||| BitVec.ofNat 64 b).toNat = (BitVec.ofNat 64 (256 * x + b)).toNat
  have e1 : (BitVec.ofNat 64 x <<< (8#64) ||| BitVec.ofNat 64 b).toNat = x <<< 8 ||| b := by
    rw [BitVec.toNat_or, BitVec.shiftLeft_eq', show (8#64).toNat = 8 from rfl, BitVec.toNat_shiftLeft, BitVec.toNat_ofNat, BitVec.toNat_ofNat, Nat.mod_eq_of_lt (show x < 2 ^ 64 by omega), Nat.mod_eq_of_lt (show b < 2 ^ 64 by omega),
      Nat.mod_eq_of_lt (show x <<< 8 < 2 ^ 64 by rw [Nat.shiftLeft_eq]; omega)]
  rw [e1, BitVec.toNat_ofNat, Nat.mod_eq_of_lt (show 256 * x + b < 2 ^ 64 by omega), ← Nat.shiftLeft_add_eq_or_of_lt (show b < 2 ^ 8 by omega), Nat.shiftLeft_eq]
  omega
theorem lcmp_eq {x y : Int64} : (lg_cmp x y).toInt = 0 ↔ x = y := by
  constructor
  · intro h
    have h1 := @lcmp_lt x y
    have h2 := @lcmp_gt x y
    refine Int64.toInt_inj.mp ?_
    omega
  · rintro rfl
    have h1 := @lcmp_lt x x
    have h2 := @lcmp_gt x x
    omega
section
variable (tp : Nat → Nat) (n : Nat)
def nmV (r : xS) : Int64 := match r with
  | .inl _ => 0
  | .inr (t, _) => if t.1 = 1 ∧ t.2.2 - t.2.1 < 8 then Int64.ofNat (pkN tp t.2.1 (t.2.2 - t.2.1)) else 0
end
section
variable {tp : Nat → Nat} {n : Nat}
/-- a reading in order: of a text of n bytes -/
def rdW (tp : Nat → Nat) (n : Nat) (r : xS) : Prop := match r with
  | .inl e => 1 ≤ e.1 ∧ e.1 ≤ 3 ∧ e.2 ≤ n
  | .inr (t, _) => tokW tp n t
theorem nm_iff {w : List Nat} {r : xS} (hr : rdW tp n r) (hw : w.length < 8) (h0 : 0 < w.length) (hb : ∀ i, i < w.length → 1 ≤ w.getD i 0 ∧ w.getD i 0 ≤ 255) :
    nmV tp r = Int64.ofNat (pkN (fun i => w.getD i 0) 0 w.length) ↔ wrdP tp w r := by
  have wb : pkN (fun i => w.getD i 0) 0 w.length < 256 ^ w.length := pkN_lt _ (fun i hi => by rw [Nat.zero_add]; exact (hb i hi).2)
  have w7 : 256 ^ w.length ≤ 256 ^ 7 := Nat.pow_le_pow_right (by decide) (by omega)
  have w1 : pkN (fun i => w.getD i 0) 0 w.length ≠ 0 := by
    obtain ⟨k, hk⟩ : ∃ k, w.length = k + 1 := ⟨w.length - 1, by omega⟩
    have := hb k (by omega)
    rw [hk, pkN, Nat.zero_add]
    omega
  have z : ¬ (0 : Int64) = Int64.ofNat (pkN (fun i => w.getD i 0) 0 w.length) := fun e => w1 (i64_inj (by omega) (by decide) (show Int64.ofNat _ = Int64.ofNat 0 from e.symm))
  cases r with
  | inl e => exact ⟨fun h => absurd h z, fun h => h.elim⟩
  | inr q =>
    obtain ⟨t, f⟩ := q
    show (if t.1 = 1 ∧ t.2.2 - t.2.1 < 8 then Int64.ofNat (pkN tp t.2.1 (t.2.2 - t.2.1)) else 0) = _ ↔ (t.1 = 1 ∧ t.2.2 - t.2.1 = w.length ∧ ∀ i, i < w.length → tp (t.2.1 + i) = w.getD i 0)
    by_cases hc : t.1 = 1 ∧ t.2.2 - t.2.1 < 8
    · rw [if_pos hc]
      have hl : ∀ i, i < t.2.2 - t.2.1 → 1 ≤ tp (t.2.1 + i) ∧ tp (t.2.1 + i) ≤ 255 := fun i hi => by
        have := leB_t.mp (hr.2.2.2.1 hc.1 (t.2.1 + i) (by omega) (by omega))
        omega
      have hl2 : pkN tp t.2.1 (t.2.2 - t.2.1) < 256 ^ (t.2.2 - t.2.1) := pkN_lt _ (fun i hi => (hl i hi).2)
      have w72 : 256 ^ (t.2.2 - t.2.1) ≤ 256 ^ 7 := Nat.pow_le_pow_right (by decide) (by omega)
      constructor
      · intro e
        obtain ⟨e1, e2⟩ := pkN_inj (a := tp) (b := fun i => w.getD i 0) (s := t.2.1) (u := 0) _ _ hl (fun i hi => by rw [Nat.zero_add]; exact hb i hi) (i64_inj (by omega) (by omega) e)
        exact ⟨hc.1, e1, fun i hi => by have := e2 i (by omega); rw [Nat.zero_add] at this; exact this⟩
      · rintro ⟨-, e1, e2⟩
        have : ∀ k, k ≤ w.length → pkN tp t.2.1 k = pkN (fun i => w.getD i 0) 0 k := by
          intro k
          induction k with
          | zero => intro _; rfl
          | succ k ih => intro hk; rw [pkN, pkN, ih (by omega), e2 k (by omega), Nat.zero_add]
        rw [e1, this _ (Nat.le_refl _)]
    · rw [if_neg hc]
      exact ⟨fun h => absurd h z, fun h => absurd ⟨h.1, by rw [h.2.1]; exact hw⟩ hc⟩
end
def wGround : List Nat := [103, 114, 111, 117, 110, 100]
def wLake : List Nat := [108, 97, 107, 101]
def wTree : List Nat := [116, 114, 101, 101]
def wAsh : List Nat := [97, 115, 104]
def wYew : List Nat := [121, 101, 119]
def wOak : List Nat := [111, 97, 107]
def wHedge : List Nat := [104, 101, 100, 103, 101]
def wFalse : List Nat := [102, 97, 108, 115, 101]
def wThing : List Nat := [116, 104, 105, 110, 103]
def wShow : List Nat := [115, 104, 111, 119]
def wHide : List Nat := [104, 105, 100, 101]
theorem nm_Ground {tp : Nat → Nat} {n : Nat} {r : xS} (h : rdW tp n r) : nmV tp r = 113741193899620 ↔ wrdP tp wGround r := nm_iff (w := wGround) h (by decide) (by decide) (by decide)
theorem nm_Lake {tp : Nat → Nat} {n : Nat} {r : xS} (h : rdW tp n r) : nmV tp r = 1818323813 ↔ wrdP tp wLake r := nm_iff (w := wLake) h (by decide) (by decide) (by decide)
theorem nm_Tree {tp : Nat → Nat} {n : Nat} {r : xS} (h : rdW tp n r) : nmV tp r = 1953654117 ↔ wrdP tp wTree r := nm_iff (w := wTree) h (by decide) (by decide) (by decide)
theorem nm_Thing {tp : Nat → Nat} {n : Nat} {r : xS} (h : rdW tp n r) : nmV tp r = 499967946343 ↔ wrdP tp wThing r := nm_iff (w := wThing) h (by decide) (by decide) (by decide)
theorem nm_Show {tp : Nat → Nat} {n : Nat} {r : xS} (h : rdW tp n r) : nmV tp r = 1936224119 ↔ wrdP tp wShow r := nm_iff (w := wShow) h (by decide) (by decide) (by decide)
theorem nm_Hide {tp : Nat → Nat} {n : Nat} {r : xS} (h : rdW tp n r) : nmV tp r = 1751737445 ↔ wrdP tp wHide r := nm_iff (w := wHide) h (by decide) (by decide) (by decide)
theorem nm_Ash {tp : Nat → Nat} {n : Nat} {r : xS} (h : rdW tp n r) : nmV tp r = 6386536 ↔ wrdP tp wAsh r := nm_iff (w := wAsh) h (by decide) (by decide) (by decide)
theorem nm_Yew {tp : Nat → Nat} {n : Nat} {r : xS} (h : rdW tp n r) : nmV tp r = 7955831 ↔ wrdP tp wYew r := nm_iff (w := wYew) h (by decide) (by decide) (by decide)
theorem nm_Oak {tp : Nat → Nat} {n : Nat} {r : xS} (h : rdW tp n r) : nmV tp r = 7299435 ↔ wrdP tp wOak r := nm_iff (w := wOak) h (by decide) (by decide) (by decide)
theorem nm_Hedge {tp : Nat → Nat} {n : Nat} {r : xS} (h : rdW tp n r) : nmV tp r = 448377677669 ↔ wrdP tp wHedge r := nm_iff (w := wHedge) h (by decide) (by decide) (by decide)
theorem nm_False {tp : Nat → Nat} {n : Nat} {r : xS} (h : rdW tp n r) : nmV tp r = 439721161573 ↔ wrdP tp wFalse r := nm_iff (w := wFalse) h (by decide) (by decide) (by decide)
