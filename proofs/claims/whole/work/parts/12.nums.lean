/-! NUMBERS: an int as a natural (nI), as an integer (zI), as a truth (xb) -/
def zI (z : Int) : Int32 := Int32.ofInt z
noncomputable def xb (P : Prop) : Int32 := @ite Int32 P (Classical.propDecidable P) 1 0
theorem zN (n : Nat) : nI n = zI (n : Int) := rfl
theorem zI_add (a b : Int) : zI a + zI b = zI (a + b) := by simp [zI, Int32.ofInt_add]
theorem zI_mul (a b : Int) : zI a * zI b = zI (a * b) := by simp [zI, Int32.ofInt_mul]
theorem zI_neg (a : Int) : - zI a = zI (-a) := by simp [zI, Int32.ofInt_neg]
theorem zI_sub (a b : Int) : zI a - zI b = zI (a - b) := by rw [Int32.sub_eq_add_neg, zI_neg, zI_add, Int.sub_eq_add_neg]
theorem zI_toInt {z : Int} (h1 : -2147483648 ≤ z) (h2 : z < 2147483648) : (zI z).toInt = z := by
  show (Int32.ofInt z).toInt = z
  rw [Int32.toInt_ofInt, show Int32.size = 4294967296 from rfl]
  exact Int.bmod_eq_of_le (by omega) (by omega)
theorem zI_of (x : Int32) : zI x.toInt = x := Int32.ofInt_toInt x
theorem xnat {x : Int32} {n : Nat} (h0 : 0 ≤ x.toInt) (h1 : x.toInt < n) : ∃ j : Nat, j < n ∧ x = nI j := by
  refine ⟨x.toInt.toNat, by omega, ?_⟩
  rw [zN, show ((x.toInt.toNat : Nat) : Int) = x.toInt by omega, zI_of]
theorem nI_sub {a b : Nat} (h : b ≤ a) : nI a - nI b = nI (a - b) := by
  rw [zN, zN, zN, zI_sub, show ((a - b : Nat) : Int) = (a : Int) - b by omega]
theorem nI_mul (a b : Nat) : nI a * nI b = nI (a * b) := by rw [zN, zN, zN, zI_mul]; congr 1
theorem nI_inj {a b : Nat} (ha : a < 2147483648) (hb : b < 2147483648) (h : nI a = nI b) : a = b := by
  have := congrArg Int32.toInt h
  rw [nI_toInt (by omega), nI_toInt (by omega)] at this
  omega
theorem xb_t {P : Prop} (h : P) : xb P = 1 := @if_pos _ (Classical.propDecidable P) h _ _ _
theorem xb_f {P : Prop} (h : ¬ P) : xb P = 0 := @if_neg _ (Classical.propDecidable P) h _ _ _
theorem xb_n1 {P : Prop} (h : P) : nI 1 = xb P := (xb_t h).symm
theorem xb_n0 {P : Prop} (h : ¬ P) : nI 0 = xb P := (xb_f h).symm
theorem xb_iff {P Q : Prop} (h : P ↔ Q) : xb P = xb Q := by rw [propext h]
theorem xb_or (P : Prop) : (P ∧ xb P = 1) ∨ (¬ P ∧ xb P = 0) := (Classical.em P).elim (fun h => Or.inl ⟨h, xb_t h⟩) (fun h => Or.inr ⟨h, xb_f h⟩)
theorem xb_nar {P : Prop} : narrow .boolean (.int (xb P)) = .int (xb P) := by rcases xb_or P with ⟨_, h⟩ | ⟨_, h⟩ <;> rw [h] <;> rfl
theorem xb_fit {P : Prop} : fits .boolean (.int (xb P)) = true := by rcases xb_or P with ⟨_, h⟩ | ⟨_, h⟩ <;> rw [h] <;> rfl
theorem toInt_eq {x y : Int32} : x = y ↔ x.toInt = y.toInt := Int32.toInt_inj.symm
theorem i64_of (x : Int32) : x.toInt64.toInt = x.toInt := Int32.toInt_toInt64 x
section
variable {X : xX} {own : String} {cc : ByteArray} {nL lv kc ks n cs sl pc : Nat} {I : xM} {R : xR} {L : List (Nat × Value)} {st : List Value}
theorem i0 : (0 : Int32).toInt = 0 := rfl
theorem g_cz_eq (hX : xOK X own cc nL lv kc ks) {x : Int32} {a : Int} {off : Int} {tgt : Nat} (hd : decode cc pc = .ok (.ifCond .eq off, 3)) (ht : (pc : Int) + off = (tgt : Int)) (ha : x.toInt = a) (kt : a = 0 → G X n cs sl I R tgt L st) (kf : a ≠ 0 → G X n cs sl I R (pc + 3) L st) : G X n cs sl I R pc L (.int x :: st) := g_if_eq hX hd ht (fun h => kt (by rw [← ha, h]; rfl)) (fun h => kf (fun e => h (toInt_eq.mpr (by rw [ha, e]; rfl))))
theorem g_cz_ne (hX : xOK X own cc nL lv kc ks) {x : Int32} {a : Int} {off : Int} {tgt : Nat} (hd : decode cc pc = .ok (.ifCond .ne off, 3)) (ht : (pc : Int) + off = (tgt : Int)) (ha : x.toInt = a) (kt : a ≠ 0 → G X n cs sl I R tgt L st) (kf : a = 0 → G X n cs sl I R (pc + 3) L st) : G X n cs sl I R pc L (.int x :: st) := g_if_ne hX hd ht (fun h => kt (fun e => h (toInt_eq.mpr (by rw [ha, e]; rfl)))) (fun h => kf (by rw [← ha, h]; rfl))
theorem g_cz_lt (hX : xOK X own cc nL lv kc ks) {x : Int32} {a : Int} {off : Int} {tgt : Nat} (hd : decode cc pc = .ok (.ifCond .lt off, 3)) (ht : (pc : Int) + off = (tgt : Int)) (ha : x.toInt = a) (kt : a < 0 → G X n cs sl I R tgt L st) (kf : 0 ≤ a → G X n cs sl I R (pc + 3) L st) : G X n cs sl I R pc L (.int x :: st) := g_if_lt hX hd ht (fun h => kt (by rw [← ha]; exact Int32.lt_iff_toInt_lt.mp h)) (fun h => kf (by rw [← ha]; exact Int.not_lt.mp (fun z => h (Int32.lt_iff_toInt_lt.mpr z))))
theorem g_cz_ge (hX : xOK X own cc nL lv kc ks) {x : Int32} {a : Int} {off : Int} {tgt : Nat} (hd : decode cc pc = .ok (.ifCond .ge off, 3)) (ht : (pc : Int) + off = (tgt : Int)) (ha : x.toInt = a) (kt : 0 ≤ a → G X n cs sl I R tgt L st) (kf : a < 0 → G X n cs sl I R (pc + 3) L st) : G X n cs sl I R pc L (.int x :: st) := g_if_ge hX hd ht (fun h => kt (by rw [← ha]; exact Int32.le_iff_toInt_le.mp h)) (fun h => kf (by rw [← ha]; exact Int.not_le.mp (fun z => h (Int32.le_iff_toInt_le.mpr z))))
theorem g_cz_gt (hX : xOK X own cc nL lv kc ks) {x : Int32} {a : Int} {off : Int} {tgt : Nat} (hd : decode cc pc = .ok (.ifCond .gt off, 3)) (ht : (pc : Int) + off = (tgt : Int)) (ha : x.toInt = a) (kt : 0 < a → G X n cs sl I R tgt L st) (kf : a ≤ 0 → G X n cs sl I R (pc + 3) L st) : G X n cs sl I R pc L (.int x :: st) := g_if_gt hX hd ht (fun h => kt (by rw [← ha]; exact Int32.lt_iff_toInt_lt.mp h)) (fun h => kf (by rw [← ha]; exact Int.not_lt.mp (fun z => h (Int32.lt_iff_toInt_lt.mpr z))))
theorem g_cz_le (hX : xOK X own cc nL lv kc ks) {x : Int32} {a : Int} {off : Int} {tgt : Nat} (hd : decode cc pc = .ok (.ifCond .le off, 3)) (ht : (pc : Int) + off = (tgt : Int)) (ha : x.toInt = a) (kt : a ≤ 0 → G X n cs sl I R tgt L st) (kf : 0 < a → G X n cs sl I R (pc + 3) L st) : G X n cs sl I R pc L (.int x :: st) := g_if_le hX hd ht (fun h => kt (by rw [← ha]; exact Int32.le_iff_toInt_le.mp h)) (fun h => kf (by rw [← ha]; exact Int.not_le.mp (fun z => h (Int32.le_iff_toInt_le.mpr z))))
theorem g_ci_eq (hX : xOK X own cc nL lv kc ks) {x y : Int32} {a b : Int} {off : Int} {tgt : Nat} (hd : decode cc pc = .ok (.if_icmp .eq off, 3)) (ht : (pc : Int) + off = (tgt : Int)) (ha : x.toInt = a) (hb : y.toInt = b) (kt : a = b → G X n cs sl I R tgt L st) (kf : a ≠ b → G X n cs sl I R (pc + 3) L st) : G X n cs sl I R pc L (.int y :: .int x :: st) := g_icmp_eq hX hd ht (fun h => kt (by rw [← ha, ← hb, h])) (fun h => kf (fun e => h (toInt_eq.mpr (by rw [ha, hb, e]))))
theorem g_ci_ne (hX : xOK X own cc nL lv kc ks) {x y : Int32} {a b : Int} {off : Int} {tgt : Nat} (hd : decode cc pc = .ok (.if_icmp .ne off, 3)) (ht : (pc : Int) + off = (tgt : Int)) (ha : x.toInt = a) (hb : y.toInt = b) (kt : a ≠ b → G X n cs sl I R tgt L st) (kf : a = b → G X n cs sl I R (pc + 3) L st) : G X n cs sl I R pc L (.int y :: .int x :: st) := g_icmp_ne hX hd ht (fun h => kt (fun e => h (toInt_eq.mpr (by rw [ha, hb, e])))) (fun h => kf (by rw [← ha, ← hb, h]))
theorem g_ci_lt (hX : xOK X own cc nL lv kc ks) {x y : Int32} {a b : Int} {off : Int} {tgt : Nat} (hd : decode cc pc = .ok (.if_icmp .lt off, 3)) (ht : (pc : Int) + off = (tgt : Int)) (ha : x.toInt = a) (hb : y.toInt = b) (kt : a < b → G X n cs sl I R tgt L st) (kf : b ≤ a → G X n cs sl I R (pc + 3) L st) : G X n cs sl I R pc L (.int y :: .int x :: st) := g_icmp_lt hX hd ht (fun h => kt (by rw [← ha, ← hb]; exact Int32.lt_iff_toInt_lt.mp h)) (fun h => kf (by rw [← ha, ← hb]; exact Int.not_lt.mp (fun z => h (Int32.lt_iff_toInt_lt.mpr z))))
theorem g_ci_ge (hX : xOK X own cc nL lv kc ks) {x y : Int32} {a b : Int} {off : Int} {tgt : Nat} (hd : decode cc pc = .ok (.if_icmp .ge off, 3)) (ht : (pc : Int) + off = (tgt : Int)) (ha : x.toInt = a) (hb : y.toInt = b) (kt : b ≤ a → G X n cs sl I R tgt L st) (kf : a < b → G X n cs sl I R (pc + 3) L st) : G X n cs sl I R pc L (.int y :: .int x :: st) := g_icmp_ge hX hd ht (fun h => kt (by rw [← ha, ← hb]; exact Int32.le_iff_toInt_le.mp h)) (fun h => kf (by rw [← ha, ← hb]; exact Int.not_le.mp (fun z => h (Int32.le_iff_toInt_le.mpr z))))
theorem g_ci_gt (hX : xOK X own cc nL lv kc ks) {x y : Int32} {a b : Int} {off : Int} {tgt : Nat} (hd : decode cc pc = .ok (.if_icmp .gt off, 3)) (ht : (pc : Int) + off = (tgt : Int)) (ha : x.toInt = a) (hb : y.toInt = b) (kt : b < a → G X n cs sl I R tgt L st) (kf : a ≤ b → G X n cs sl I R (pc + 3) L st) : G X n cs sl I R pc L (.int y :: .int x :: st) := g_icmp_gt hX hd ht (fun h => kt (by rw [← ha, ← hb]; exact Int32.lt_iff_toInt_lt.mp h)) (fun h => kf (by rw [← ha, ← hb]; exact Int.not_lt.mp (fun z => h (Int32.lt_iff_toInt_lt.mpr z))))
theorem g_ci_le (hX : xOK X own cc nL lv kc ks) {x y : Int32} {a b : Int} {off : Int} {tgt : Nat} (hd : decode cc pc = .ok (.if_icmp .le off, 3)) (ht : (pc : Int) + off = (tgt : Int)) (ha : x.toInt = a) (hb : y.toInt = b) (kt : a ≤ b → G X n cs sl I R tgt L st) (kf : b < a → G X n cs sl I R (pc + 3) L st) : G X n cs sl I R pc L (.int y :: .int x :: st) := g_icmp_le hX hd ht (fun h => kt (by rw [← ha, ← hb]; exact Int32.le_iff_toInt_le.mp h)) (fun h => kf (by rw [← ha, ← hb]; exact Int.not_le.mp (fun z => h (Int32.le_iff_toInt_le.mpr z))))
theorem g_cb_eq (hX : xOK X own cc nL lv kc ks) {P : Prop} {off : Int} {tgt : Nat} (hd : decode cc pc = .ok (.ifCond .eq off, 3)) (ht : (pc : Int) + off = (tgt : Int)) (kt : ¬ P → G X n cs sl I R tgt L st) (kf : P → G X n cs sl I R (pc + 3) L st) : G X n cs sl I R pc L (.int (xb P) :: st) := by
  rcases Classical.em P with h | h
  · exact g_if_eq hX hd ht (fun e => absurd e (by rw [xb_t h]; decide)) (fun _ => kf h)
  · exact g_if_eq hX hd ht (fun _ => kt h) (fun e => absurd (xb_f h) e)
theorem g_cb_ne (hX : xOK X own cc nL lv kc ks) {P : Prop} {off : Int} {tgt : Nat} (hd : decode cc pc = .ok (.ifCond .ne off, 3)) (ht : (pc : Int) + off = (tgt : Int)) (kt : P → G X n cs sl I R tgt L st) (kf : ¬ P → G X n cs sl I R (pc + 3) L st) : G X n cs sl I R pc L (.int (xb P) :: st) := by
  rcases Classical.em P with h | h
  · exact g_if_ne hX hd ht (fun _ => kt h) (fun e => absurd e (by rw [xb_t h]; decide))
  · exact g_if_ne hX hd ht (fun e => absurd (xb_f h) e) (fun _ => kf h)
/-- the sign of a comparison of longs -/
theorem lcmp_lt {x y : Int64} : (lg_cmp x y).toInt < 0 ↔ x.toInt < y.toInt := by
  unfold lg_cmp
  by_cases h1 : x > y
  · have : y.toInt < x.toInt := Int64.lt_iff_toInt_lt.mp h1
    simp [h1]; first | omega | (constructor <;> intro h <;> first | omega | (exfalso; revert h; decide))
  · have h1' : x.toInt ≤ y.toInt := Int.not_lt.mp (fun z => h1 (Int64.lt_iff_toInt_lt.mpr z))
    by_cases h2 : x = y
    · subst h2; simp [h1]
    · have h3 : x.toInt ≠ y.toInt := fun e => h2 (Int64.toInt_inj.mp e)
      simp [h1, h2]; first | omega | (constructor <;> intro h <;> first | omega | decide)
theorem lcmp_gt {x y : Int64} : 0 < (lg_cmp x y).toInt ↔ y.toInt < x.toInt := by
  unfold lg_cmp
  by_cases h1 : x > y
  · have : y.toInt < x.toInt := Int64.lt_iff_toInt_lt.mp h1
    simp [h1]; first | omega | (constructor <;> intro h <;> first | omega | decide)
  · have h1' : x.toInt ≤ y.toInt := Int.not_lt.mp (fun z => h1 (Int64.lt_iff_toInt_lt.mpr z))
    by_cases h2 : x = y
    · subst h2; simp [h1]
    · have h3 : x.toInt ≠ y.toInt := fun e => h2 (Int64.toInt_inj.mp e)
      simp [h1, h2]; first | omega | (constructor <;> intro h <;> first | omega | (exfalso; revert h; decide))
end
