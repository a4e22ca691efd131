/-! THE TEXT OF A GARDEN: tokens and what they tell -/
def runF (P : Nat → Bool) (tp : Nat → Nat) (n : Nat) : Nat → Nat → Nat
  | 0, p => p
  | k + 1, p => if p < n ∧ P (tp p) = true then runF P tp n k (p + 1) else p
def run (P : Nat → Bool) (tp : Nat → Nat) (n p : Nat) : Nat := runF P tp n (n - p) p
theorem run_in {P : Nat → Bool} {tp : Nat → Nat} {n p : Nat} (h : p < n) (h2 : P (tp p) = true) : run P tp n p = run P tp n (p + 1) := by
  unfold run
  rw [show n - p = (n - (p + 1)) + 1 by omega, runF, if_pos ⟨h, h2⟩]
theorem run_out {P : Nat → Bool} {tp : Nat → Nat} {n p : Nat} (h : ¬ (p < n ∧ P (tp p) = true)) : run P tp n p = p := by
  unfold run
  cases n - p with
  | zero => rfl
  | succ k => rw [runF, if_neg h]
theorem run_sp {P : Nat → Bool} {tp : Nat → Nat} {n : Nat} : ∀ (d p : Nat), n - p = d → p ≤ n → p ≤ run P tp n p ∧ run P tp n p ≤ n ∧ (∀ k, p ≤ k → k < run P tp n p → P (tp k) = true)
  | 0, p, hd, hp => by
    rw [run_out (by omega)]
    exact ⟨Nat.le_refl p, hp, fun k h1 h2 => by omega⟩
  | d + 1, p, hd, hp => by
    by_cases h : p < n ∧ P (tp p) = true
    · obtain ⟨a, b, c⟩ := run_sp (P := P) (tp := tp) (n := n) d (p + 1) (by omega) (by omega)
      rw [run_in h.1 h.2]
      refine ⟨by omega, b, fun k h1 h2 => ?_⟩
      by_cases e : k = p
      · subst e; exact h.2
      · exact c k (by omega) h2
    · rw [run_out h]
      exact ⟨Nat.le_refl p, hp, fun k h1 h2 => by omega⟩
def blB (c : Nat) : Bool := c == 32 || c == 10
def leB (c : Nat) : Bool := 97 ≤ c && c ≤ 122
def fiB (c : Nat) : Bool := 48 ≤ c && c ≤ 57
theorem blB_t {c : Nat} : blB c = true ↔ c = 32 ∨ c = 10 := by simp [blB]
theorem leB_t {c : Nat} : leB c = true ↔ 97 ≤ c ∧ c ≤ 122 := by simp [leB]
theorem fiB_t {c : Nat} : fiB c = true ↔ 48 ≤ c ∧ c ≤ 57 := by simp [fiB]
/-- a token: its sort (0 end, 1 name, 2 number, 3 sign, 4 none), where it starts, where it ends -/
abbrev xT : Type := Nat × Nat × Nat
def lxS (tp : Nat → Nat) (n s : Nat) : xT :=
  if n ≤ s then (0, s, s) else if leB (tp s) = true then (1, s, run leB tp n s) else if fiB (tp s) = true then (if 3 < run fiB tp n s - s then 4 else 2, s, run fiB tp n s) else (if tp s = 59 then 3 else 4, s, s + 1)
def lx (tp : Nat → Nat) (n p : Nat) : xT := lxS tp n (run blB tp n p)
def tokW (tp : Nat → Nat) (n : Nat) (k : xT) : Prop := k.2.1 ≤ k.2.2 ∧ k.2.2 ≤ n ∧ k.1 ≤ 4 ∧ (k.1 = 1 → ∀ j, k.2.1 ≤ j → j < k.2.2 → leB (tp j) = true) ∧ (k.1 = 2 → k.2.2 ≤ k.2.1 + 3 ∧ ∀ j, k.2.1 ≤ j → j < k.2.2 → fiB (tp j) = true)
theorem lx_W {tp : Nat → Nat} {n p : Nat} (hp : p ≤ n) : tokW tp n (lx tp n p) := by
  obtain ⟨h1, h2, -⟩ := run_sp (P := blB) (tp := tp) _ p rfl hp
  unfold lx lxS
  split
  · exact ⟨Nat.le_refl _, h2, by simp, fun q => absurd (show (0 : Nat) = 1 from q) (by decide), fun q => absurd (show (0 : Nat) = 2 from q) (by decide)⟩
  · rename_i hs
    split
    · obtain ⟨a, b, c⟩ := run_sp (P := leB) (tp := tp) _ _ rfl h2
      exact ⟨a, b, by simp, fun _ => c, fun q => absurd (show (1 : Nat) = 2 from q) (by decide)⟩
    · split
      · obtain ⟨a, b, c⟩ := run_sp (P := fiB) (tp := tp) _ _ rfl h2
        refine ⟨a, b, ?_, ?_, ?_⟩
        · show (if 3 < run fiB tp n (run blB tp n p) - run blB tp n p then 4 else 2) ≤ 4
          split <;> decide
        · intro q
          have q2 : (if 3 < run fiB tp n (run blB tp n p) - run blB tp n p then 4 else 2) = 1 := q
          split at q2 <;> exact absurd q2 (by decide)
        · intro q
          have q2 : (if 3 < run fiB tp n (run blB tp n p) - run blB tp n p then 4 else 2) = 2 := q
          split at q2
          · exact absurd q2 (by decide)
          · exact ⟨by show run fiB tp n (run blB tp n p) ≤ run blB tp n p + 3; omega, c⟩
      · refine ⟨Nat.le_succ _, by show _ + 1 ≤ n; omega, ?_, ?_, ?_⟩
        · show (if tp (run blB tp n p) = 59 then 3 else 4) ≤ 4
          split <;> decide
        · intro q
          have q2 : (if tp (run blB tp n p) = 59 then 3 else 4) = 1 := q
          split at q2 <;> exact absurd q2 (by decide)
        · intro q
          have q2 : (if tp (run blB tp n p) = 59 then 3 else 4) = 2 := q
          split at q2 <;> exact absurd q2 (by decide)
def valF (tp : Nat → Nat) (s : Nat) : Nat → Nat
  | 0 => 0
  | k + 1 => 10 * valF tp s k + tp (s + k) - 48
theorem valF_b {tp : Nat → Nat} {s : Nat} : ∀ (k : Nat), (∀ j, s ≤ j → j < s + k → fiB (tp j) = true) → valF tp s k < 10 ^ k
  | 0, _ => Nat.one_pos
  | k + 1, h => by
    have ih := valF_b (tp := tp) (s := s) k (fun j h1 h2 => h j h1 (by omega))
    have h2 := fiB_t.mp (h (s + k) (by omega) (by omega))
    rw [valF, Nat.pow_succ]
    omega
/-- where the reading is: a fault and its place, or a token and the garden so far -/
abbrev xS : Type := (Nat × Nat) ⊕ (xT × (Nat → Int32))
section
variable (tp : Nat → Nat) (n : Nat)
def badR (k : Nat) (r : xS) : xS := match r with
  | .inl e => .inl e
  | .inr (t, _) => .inl (k, t.2.1)
def nexR (r : xS) : xS := match r with
  | .inl e => .inl e
  | .inr (t, f) => .inr (lx tp n t.2.2, f)
def musR (c : Nat) (r : xS) : xS := if c = 0 then badR 1 r else nexR tp n r
def tkR (r : xS) (t : Nat) : Prop := match r with
  | .inl _ => False
  | .inr (k, _) => k.1 = t
def figR (r : xS) : Nat := match r with
  | .inl _ => 0
  | .inr (t, _) => if t.1 = 2 then valF tp t.2.1 (t.2.2 - t.2.1) else 0
def isNR (lo hi : Nat) (r : xS) : Prop := tkR r 2 ∧ lo ≤ figR tp r ∧ figR tp r ≤ hi
noncomputable def numR (lo hi : Nat) (r : xS) : xS :=
  @ite _ (isNR tp lo hi r) (Classical.propDecidable _) (nexR tp n r) (@ite _ (tkR r 2) (Classical.propDecidable _) (badR 2 r) (badR 1 r))
noncomputable def sgnR (r : xS) : xS := @ite _ (tkR r 3) (Classical.propDecidable _) (nexR tp n r) (badR 1 r)
def wrdP (w : List Nat) (r : xS) : Prop := match r with
  | .inl _ => False
  | .inr (t, _) => t.1 = 1 ∧ t.2.2 - t.2.1 = w.length ∧ ∀ i, i < w.length → tp (t.2.1 + i) = w.getD i 0
noncomputable def wrdR (w : List Nat) (r : xS) : xS := @ite _ (wrdP tp w r) (Classical.propDecidable _) (nexR tp n r) (badR 1 r)
def setR (i : Nat) (v : Int32) (r : xS) : xS := match r with
  | .inl e => .inl e
  | .inr (t, f) => .inr (t, upd f i v)
end
