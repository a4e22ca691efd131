/-! THE TEXT, as the reader takes it -/
def cb (b : Nat) : Int32 := (nI b).toInt8.toInt32
def cbP (I : xM) (tp : Nat → Nat) (n : Nat) : Prop := I 2 1 = nI n ∧ n ≤ 400 ∧ ∀ k, k < n → I 3 k = cb (tp k) ∧ tp k ≤ 255
theorem cb_all : ∀ b, b < 256 → (((cb b).toInt = 32 ∨ (cb b).toInt = 10) ↔ blB b = true) ∧ ((97 ≤ (cb b).toInt ∧ (cb b).toInt ≤ 122) ↔ leB b = true) ∧ ((48 ≤ (cb b).toInt ∧ (cb b).toInt ≤ 57) ↔ fiB b = true) ∧ ((cb b).toInt = 59 ↔ b = 59) := by decide +kernel
theorem cb_low : ∀ b, b < 128 → cb b = nI b := by decide +kernel
def cxF (I J : xM) : Prop := (∀ o, o ≠ 2 → J o = I o) ∧ ∀ j, (j < 2 ∨ 5 < j) → J 2 j = I 2 j
theorem cxF.refl {I : xM} : cxF I I := ⟨fun _ _ => rfl, fun _ _ => rfl⟩
theorem cxF.put {I J : xM} (h : cxF I J) {j : Nat} {v : Int32} (hj : 2 ≤ j ∧ j ≤ 5) : cxF I (xput J 2 j v) := ⟨fun o ho => (xput_ne ho).trans (h.1 o ho), fun i hi => (xput_i (by omega) rfl).trans (h.2 i hi)⟩
theorem cxF.trans {I J K : xM} (h : cxF I J) (h2 : cxF J K) : cxF I K := ⟨fun o ho => (h2.1 o ho).trans (h.1 o ho), fun j hj => (h2.2 j hj).trans (h.2 j hj)⟩
theorem cbP_F {I J : xM} {tp : Nat → Nat} {n : Nat} (h : cxF I J) (ht : cbP I tp n) : cbP J tp n := ⟨(h.2 1 (by omega)).trans ht.1, ht.2.1, fun k hk => by rw [h.1 3 (by decide)]; exact ht.2.2 k hk⟩
def cxT (tp : Nat → Nat) (J : xM) (t : xT) : Prop := J 2 2 = nI t.2.1 ∧ J 2 3 = nI t.2.2 ∧ J 2 4 = nI t.1 ∧ (t.1 = 2 → J 2 5 = nI (valF tp t.2.1 (t.2.2 - t.2.1)))
def cxJ (tp : Nat → Nat) (I J : xM) (t : xT) : Prop := cxF I J ∧ cxT tp J t
def wrdT (tp : Nat → Nat) (w : List Nat) (t : xT) : Prop := t.1 = 1 ∧ t.2.2 - t.2.1 = w.length ∧ ∀ i, i < w.length → tp (t.2.1 + i) = w.getD i 0
