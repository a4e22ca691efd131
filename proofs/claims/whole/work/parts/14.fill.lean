/-! ROWS THAT ARE FILLED place by place -/
def xfill (f g : Nat → Int32) (a n : Nat) : Nat → Int32 := fun j => if a ≤ j ∧ j < a + n then g (j - a) else f j
/-- from the end on: the last n of m places -/
def xfilD (f g : Nat → Int32) (a m n : Nat) : Nat → Int32 := fun j => if a + (m - n) ≤ j ∧ j < a + m then g (j - a) else f j
theorem xfill_in {f g : Nat → Int32} {a n j : Nat} (h : a ≤ j) (h2 : j < a + n) : xfill f g a n j = g (j - a) := by simp [xfill, h, h2]
theorem xfill_out {f g : Nat → Int32} {a n j : Nat} (h : j < a ∨ a + n ≤ j) : xfill f g a n j = f j := if_neg (by omega)
theorem xfill_0 (f g : Nat → Int32) (a : Nat) : xfill f g a 0 = f := by funext j; exact xfill_out (by omega)
theorem xfill_s (f g : Nat → Int32) (a n : Nat) : upd (xfill f g a n) (a + n) (g n) = xfill f g a (n + 1) := by
  funext j
  by_cases h : j = a + n
  · subst h; simp [upd, xfill]
  · simp only [upd, h, if_false]
    by_cases h2 : a ≤ j ∧ j < a + n
    · rw [xfill_in h2.1 h2.2, xfill_in h2.1 (by omega)]
    · rw [xfill_out (by omega), xfill_out (by omega)]
theorem xfilD_0 (f g : Nat → Int32) (a m : Nat) : xfilD f g a m 0 = f := by funext j; exact if_neg (by omega)
theorem xfilD_s (f g : Nat → Int32) {a m n : Nat} (hn : n < m) : upd (xfilD f g a m n) (a + (m - 1 - n)) (g (m - 1 - n)) = xfilD f g a m (n + 1) := by
  funext j
  by_cases h : j = a + (m - 1 - n)
  · subst h
    simp only [upd, if_true, xfilD]
    rw [if_pos (by omega)]
    congr 1; omega
  · simp only [upd, h, if_false, xfilD]
    by_cases h2 : a + (m - n) ≤ j ∧ j < a + m
    · rw [if_pos h2, if_pos (by omega)]
    · rw [if_neg h2, if_neg (by omega)]
theorem xfilD_m (f g : Nat → Int32) (a m : Nat) : xfilD f g a m m = xfill f g a m := by
  funext j
  simp [xfilD, xfill]
theorem xrow_self (I : xM) (o : Nat) : xrow I o (I o) = I := by
  funext a
  by_cases h : a = o
  · subst h; exact xrow_e
  · exact xrow_o h
theorem xput_row (I : xM) (o k : Nat) (f : Nat → Int32) (v : Int32) : xput (xrow I o f) o k v = xrow I o (upd f k v) := by
  unfold xput
  rw [xrow_e]
  funext a
  by_cases h : a = o
  · subst h; simp [xrow, va_up]
  · simp [xrow, va_up, h]
theorem xrow_row (I : xM) (o : Nat) (f g : Nat → Int32) : xrow (xrow I o f) o g = xrow I o g := by
  funext a
  by_cases h : a = o
  · subst h; simp [xrow, va_up]
  · simp [xrow, va_up, h]
theorem xfill_start {I : xM} {o : Nat} {f g : Nat → Int32} {a : Nat} (h : I o = f) : I = xrow I o (xfill f g a 0) := by rw [xfill_0, ← h, xrow_self]
theorem xfilD_start {I : xM} {o : Nat} {f g : Nat → Int32} {a m : Nat} (h : I o = f) : I = xrow I o (xfilD f g a m 0) := by rw [xfilD_0, ← h, xrow_self]
theorem xfill_step {B J : xM} {o : Nat} {f g : Nat → Int32} {a n k : Nat} {v : Int32} (h : J = xrow B o (xfill f g a n)) (hk : k = a + n) (hv : v = g n) : xput J o k v = xrow B o (xfill f g a (n + 1)) := by
  subst h; subst hk; subst hv
  rw [xput_row, xfill_s]
theorem xfilD_step {B J : xM} {o : Nat} {f g : Nat → Int32} {a m n k : Nat} {v : Int32} (h : J = xrow B o (xfilD f g a m n)) (hn : n < m) (hk : k = a + (m - 1 - n)) (hv : v = g (m - 1 - n)) : xput J o k v = xrow B o (xfilD f g a m (n + 1)) := by
  subst h; subst hk; subst hv
  rw [xput_row, xfilD_s f g hn]
/-- what a lane leaves of a number -/
def lcut (ln : Nat) (v : Int32) : Int32 := if ln = 0 then v.toInt8.toInt32 else if ln = 1 then v.toInt16.toInt32 else v
/-- the byte k of the lowest ones -/
def fbyte (w : Int64) (k : Int) : Int32 := ((w >>> ((zI (((8 : Nat) : Int) * k)).toInt64 &&& 63)) &&& 255).toInt32
theorem xput_same {I : xM} {a k : Nat} {v : Int32} (h : I a k = v) : xput I a k v = I := by
  funext b j
  by_cases hb : b = a
  · subst hb
    by_cases hj : j = k
    · subst hj; rw [xput_e, h]
    · exact xput_i hj rfl
  · exact xput_o hb rfl
theorem xput_twice (I : xM) (a k : Nat) (v w : Int32) : xput (xput I a k v) a k w = xput I a k w := by
  funext b j
  by_cases hb : b = a
  · subst hb
    by_cases hj : j = k
    · subst hj; rw [xput_e, xput_e]
    · rw [xput_i hj (xput_i hj rfl), xput_i hj rfl]
  · rw [xput_o hb (xput_o hb rfl), xput_o hb rfl]
theorem xput_comm {I : xM} {a b k j : Nat} {v w : Int32} (h : b ≠ a) : xput (xput I a k v) b j w = xput (xput I b j w) a k v := by
  funext c i
  by_cases hc : c = a
  · subst hc
    rw [xput_o (show c ≠ b from fun e => h e.symm) rfl]
    by_cases hi : i = k
    · subst hi; rw [xput_e, xput_e]
    · rw [xput_i hi rfl, xput_i hi (xput_o (show c ≠ b from fun e => h e.symm) rfl)]
  · rw [xput_o (a := a) hc rfl]
    by_cases hd : c = b
    · subst hd
      by_cases hi : i = j
      · subst hi; rw [xput_e, xput_e]
      · rw [xput_i hi (xput_o hc rfl), xput_i hi rfl]
    · rw [xput_o hd (xput_o hc rfl), xput_o hd rfl]
theorem xput_comm2 {I : xM} {a k j : Nat} {v w : Int32} (h : j ≠ k) : xput (xput I a k v) a j w = xput (xput I a j w) a k v := by
  funext c i
  by_cases hc : c = a
  · subst hc
    by_cases hi : i = j
    · subst hi; rw [xput_e, xput_i h xput_e]
    · rw [xput_i hi rfl]
      by_cases hi2 : i = k
      · subst hi2; rw [xput_e, xput_e]
      · rw [xput_i hi2 rfl, xput_i hi2 (xput_i hi rfl)]
  · rw [xput_o hc (xput_o hc rfl), xput_o hc (xput_o hc rfl)]
theorem fb_r (x : Int32) : -2147483648 ≤ x.toInt ∧ x.toInt < 2147483648 := ⟨by simpa using x.le_toInt, by simpa using x.toInt_lt⟩
theorem i64_add (x y : Int32) : (x.toInt64 + y.toInt64).toInt = x.toInt + y.toInt := by
  have h1 := fb_r x
  have h2 := fb_r y
  rw [Int64.toInt_add, i64_of, i64_of]
  exact Int.bmod_eq_of_le (by omega) (by omega)
theorem i32_sub {x y : Int32} (h1 : -2147483648 ≤ x.toInt - y.toInt) (h2 : x.toInt - y.toInt < 2147483648) : (x - y).toInt = x.toInt - y.toInt := by
  rw [Int32.toInt_sub]; exact Int.bmod_eq_of_le (by omega) (by omega)
theorem i32_add {x y : Int32} (h1 : -2147483648 ≤ x.toInt + y.toInt) (h2 : x.toInt + y.toInt < 2147483648) : (x + y).toInt = x.toInt + y.toInt := by
  rw [Int32.toInt_add]; exact Int.bmod_eq_of_le (by omega) (by omega)
/-- the byte k of the lowest ones, as a byte is kept -/
def cbyte (w : Int64) (k : Int) : Int32 := ((w.toUInt64 >>> ((zI (((8 : Nat) : Int) * k)).toInt64.toUInt64 &&& Int64.toUInt64 63)).toInt64).toInt32.toInt8.toInt32
theorem i8_twice (x : Int32) : x.toInt8.toInt32.toInt8.toInt32 = x.toInt8.toInt32 := by
  congr 1
  exact Int8.toInt8_toInt32 _
theorem i64_add20 (x : Int32) : (x.toInt64 + 20).toInt = x.toInt + 20 := by
  have h1 := fb_r x
  rw [Int64.toInt_add, i64_of, show (20 : Int64).toInt = 20 from rfl]
  exact Int.bmod_eq_of_le (by omega) (by omega)
theorem pk_1 (n : Nat) : nI (n + 1) - nI 1 = nI n := nI_sub (by omega)
