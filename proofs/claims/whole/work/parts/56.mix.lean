/-! MEMORIES while things are made -/
def Ifin : xM := fun i k => if xK i = 0 ∧ k = 2 then -1000000 else if i = 308 ∧ k < 8 then -1 else 0
def mxI (I : xM) (o : Nat) : xM := fun i => if i < o then I i else Ifin i
def mxR (R : xR) (o m a b c : Nat) : xR := fun i k => if i < o then R i k else if (i = o ∧ m ≤ k) ∨ (i = 1 ∧ a ≤ k) ∨ (i = 28 ∧ b ≤ k) ∨ (i = 29 ∧ c ≤ k) then none else xRL 8 18 i k
section
variable {I I' : xM} {R R' : xR} {o m a b c n k v : Nat}
theorem Ifin_0 (h : xK n ≠ 0) (h2 : n ≠ 308) : Ifin n = fun _ => 0 := by
  funext k
  unfold Ifin
  rw [if_neg (fun q => h q.1), if_neg (fun q => h2 q.1)]
theorem Ifin_v {k : Nat} (h2 : n ≠ 308) (hk : k ≠ 2) : Ifin n k = 0 := by
  unfold Ifin
  rw [if_neg (fun q => hk q.2), if_neg (fun q => h2 q.1)]
theorem mxI_lt (h : n < o) : mxI I o n = I n := if_pos h
theorem mxI_ge (h : o ≤ n) : mxI I o n = Ifin n := if_neg (by omega)
theorem mxR_lt (h : n < o) : mxR R o m a b c n = R n := by funext k; exact if_pos h
theorem mxR_n {i : Nat} (h : ¬ i < o) (h2 : (i = o ∧ m ≤ k) ∨ (i = 1 ∧ a ≤ k) ∨ (i = 28 ∧ b ≤ k) ∨ (i = 29 ∧ c ≤ k)) : mxR R o m a b c i k = none := by
  unfold mxR; rw [if_neg h, if_pos h2]
theorem mxR_y {i : Nat} (h : ¬ i < o) (h2 : ¬ ((i = o ∧ m ≤ k) ∨ (i = 1 ∧ a ≤ k) ∨ (i = 28 ∧ b ≤ k) ∨ (i = 29 ∧ c ≤ k))) : mxR R o m a b c i k = xRL 8 18 i k := by
  unfold mxR; rw [if_neg h, if_neg h2]
theorem xRL_arr (h7 : 7 ≤ xK n) (h10 : xK n < 10) : xRL 8 18 n = fun _ => none := by
  funext k
  have e : ∀ j, xK j < 7 ∨ 10 ≤ xK j → n ≠ j := fun j hj q => by subst q; omega
  have h307 := e 307 (Or.inl (by decide))
  have h0 := e 0 (Or.inl (by decide))
  have h1 := e 1 (Or.inr (by decide))
  have h2 := e 2 (Or.inl (by decide))
  have h4 := e 4 (Or.inl (by decide))
  have h6 := e 6 (Or.inl (by decide))
  have h28 := e 28 (Or.inr (by decide))
  have h29 := e 29 (Or.inr (by decide))
  unfold xRL
  rw [if_neg h307, if_neg h0, if_neg h1, if_neg h2, if_neg h4, if_neg h6, if_neg h28, if_neg h29, if_neg (by omega), if_neg (by omega)]
/-- an array of numbers made -/
theorem mx_arrI (ho : o < n) (h7 : 7 ≤ xK n) (h : n ≠ 308) : xrow (mxI I o) n (fun _ => 0) = mxI I o := by
  funext i
  by_cases e : i = n
  · subst e; rw [xrow_e, mxI_ge (by omega), Ifin_0 (by omega) h]
  · rw [xrow_o e]
theorem mx_arrR (ho : o < n) (h7 : 7 ≤ xK n) (h10 : xK n < 10) : va_up (mxR R o m a b c) n (fun _ => none) = mxR R o m a b c := by
  funext i
  by_cases e : i = n
  · subst e
    rw [va_up_self]
    funext k
    unfold mxR
    rw [if_neg (by omega)]
    split
    · rfl
    · rw [xRL_arr h7 h10]
  · rw [va_up_ne _ _ e]
/-- an array of objects made -/
theorem mx_newR (ho : o < n) (h : (n = 1 ∧ a = 0) ∨ (n = 28 ∧ b = 0) ∨ (n = 29 ∧ c = 0)) : va_up (mxR R o m a b c) n (fun _ => none) = mxR R o m a b c := by
  funext i
  by_cases e : i = n
  · subst e
    rw [va_up_self]
    funext k
    unfold mxR
    rw [if_neg (by omega), if_pos (by omega)]
  · rw [va_up_ne _ _ e]
/-- a field of the new object -/
theorem mx_put (h7 : xK o < 7) (hk : m ≤ k) (hv : xRL 8 18 o k = some v) (hn : ∀ j, m ≤ j → j < k → xRL 8 18 o j = none) : xputR (mxR R o m a b c) o k (some v) = mxR R o (k + 1) a b c := by
  have e1 : o ≠ 1 := fun q => by subst q; exact absurd h7 (by decide)
  have e2 : o ≠ 28 := fun q => by subst q; exact absurd h7 (by decide)
  have e3 : o ≠ 29 := fun q => by subst q; exact absurd h7 (by decide)
  funext i
  by_cases e : i = o
  · subst e
    rw [xputR_self]
    funext j
    by_cases ej : j = k
    · subst ej
      rw [va_up_self]
      unfold mxR
      rw [if_neg (by omega), if_neg (by omega), hv]
    · rw [va_up_ne _ _ ej]
      by_cases h1 : m ≤ j
      · by_cases h2 : k + 1 ≤ j
        · exact (mxR_n (by omega) (by omega)).trans (mxR_n (by omega) (by omega)).symm
        · exact (mxR_n (by omega) (by omega)).trans ((mxR_y (by omega) (by omega)).trans (hn j h1 (by omega))).symm
      · exact (mxR_y (by omega) (by omega)).trans (mxR_y (by omega) (by omega)).symm
  · rw [xputR_ne e]
    funext j
    unfold mxR
    by_cases h : i < o
    · rw [if_pos h, if_pos h]
    · rw [if_neg h, if_neg h]
      by_cases h2 : (i = 1 ∧ a ≤ j) ∨ (i = 28 ∧ b ≤ j) ∨ (i = 29 ∧ c ≤ j)
      · rw [if_pos (Or.inr h2), if_pos (Or.inr h2)]
      · rw [if_neg (fun q => q.elim (fun z => e z.1) h2), if_neg (fun q => q.elim (fun z => e z.1) h2)]
/-- a place of the arrays of objects -/
theorem mx_st1 (ho : o = 0) (hv : xRL 8 18 1 a = some v) : xputR (mxR R o m a b c) 1 a (some v) = mxR R o m (a + 1) b c := by
  subst ho
  funext i
  by_cases e : i = 1
  · subst e
    rw [xputR_self]
    funext j
    by_cases ej : j = a
    · subst ej; rw [va_up_self]; exact (hv.symm.trans (mxR_y (by omega) (by omega)).symm)
    · rw [va_up_ne _ _ ej]
      by_cases h : a ≤ j
      · exact (mxR_n (by omega) (by omega)).trans (mxR_n (by omega) (by omega)).symm
      · exact (mxR_y (by omega) (by omega)).trans (mxR_y (by omega) (by omega)).symm
  · rw [xputR_ne e]
    funext j
    unfold mxR
    simp only [e, false_and, false_or]
theorem mx_st28 (ho : o = 0) (hv : xRL 8 18 28 b = some v) : xputR (mxR R o m a b c) 28 b (some v) = mxR R o m a (b + 1) c := by
  subst ho
  funext i
  by_cases e : i = 28
  · subst e
    rw [xputR_self]
    funext j
    by_cases ej : j = b
    · subst ej; rw [va_up_self]; exact (hv.symm.trans (mxR_y (by omega) (by omega)).symm)
    · rw [va_up_ne _ _ ej]
      by_cases h : b ≤ j
      · exact (mxR_n (by omega) (by omega)).trans (mxR_n (by omega) (by omega)).symm
      · exact (mxR_y (by omega) (by omega)).trans (mxR_y (by omega) (by omega)).symm
  · rw [xputR_ne e]
    funext j
    unfold mxR
    simp only [e, false_and, false_or]
theorem mx_st29 (ho : o = 0) (hv : xRL 8 18 29 c = some v) : xputR (mxR R o m a b c) 29 c (some v) = mxR R o m a b (c + 1) := by
  subst ho
  funext i
  by_cases e : i = 29
  · subst e
    rw [xputR_self]
    funext j
    by_cases ej : j = c
    · subst ej; rw [va_up_self]; exact (hv.symm.trans (mxR_y (by omega) (by omega)).symm)
    · rw [va_up_ne _ _ ej]
      by_cases h : c ≤ j
      · exact (mxR_n (by omega) (by omega)).trans (mxR_n (by omega) (by omega)).symm
      · exact (mxR_y (by omega) (by omega)).trans (mxR_y (by omega) (by omega)).symm
  · rw [xputR_ne e]
    funext j
    unfold mxR
    simp only [e, false_and, or_false]
/-- where a constructor begins -/
theorem mx_in (hI : I o = fun _ => 0) (hR : R o = fun _ => none) : xEq (o + 1) I R (xrow (mxI I o) o (fun _ => 0)) (mxR R o 0 99 99 99) := by
  intro i hi
  by_cases e : i = o
  · subst e
    have e2 : mxR R i 0 99 99 99 i = R i := by
      rw [hR]; funext k
      unfold mxR
      rw [if_neg (by omega), if_pos (Or.inl ⟨rfl, Nat.zero_le k⟩)]
    rw [xrow_e, hI, e2]
    exact ⟨fun _ _ _ => ⟨rfl, rfl⟩, fun _ _ => rfl, fun _ => rfl⟩
  · rw [xrow_o e, mxI_lt (by omega), mxR_lt (by omega)]
    exact ⟨fun _ _ _ => ⟨rfl, rfl⟩, fun _ _ => rfl, fun _ => rfl⟩
theorem mx_rok (h : xRok (o + 1) R) : xRok (o + 1) (mxR R o 0 99 99 99) := by
  intro i k j hi he
  by_cases e : i = o
  · subst e
    unfold mxR at he
    rw [if_neg (by omega), if_pos (Or.inl ⟨rfl, Nat.zero_le k⟩)] at he
    cases he
  · rw [mxR_lt (by omega)] at he
    exact h i k j hi he
theorem mx_in0 (hK : xK o ≠ 0) (h : o ≠ 308) : xrow (mxI I o) o (fun _ => 0) = mxI I o := by
  funext i
  by_cases e : i = o
  · subst e; rw [xrow_e, mxI_ge (Nat.le_refl i), Ifin_0 hK h]
  · rw [xrow_o e]
theorem mx_lake (hK : xK o = 0) : xput (xrow (mxI I o) o (fun _ => 0)) o 2 (-1000000) = mxI I o := by
  have h308 : o ≠ 308 := fun q => by subst q; exact absurd hK (by decide)
  funext i
  by_cases e : i = o
  · subst e
    rw [xput_self, xrow_e, mxI_ge (Nat.le_refl i)]
    funext k
    by_cases h2 : k = 2
    · subst h2; rw [upd_eq]; unfold Ifin; rw [if_pos ⟨hK, rfl⟩]
    · rw [upd_ne h2, Ifin_v h308 h2]
  · rw [xput_ne e, xrow_o e]
/-- what a constructor leaves -/
def mkP (o n1 : Nat) (I : xM) (R : xR) : xP := fun v n' I' R' => v = none ∧ n' = n1 ∧ xRok n1 R' ∧ (∀ i, i < o → I' i = I i ∧ R' i = R i) ∧ ∀ i, o ≤ i → i < n1 → I' i = Ifin i ∧ R' i = xRL 8 18 i
theorem mk_fin {n1 : Nat} (hRk : xRok n1 (mxR R o m a b c)) (h : ∀ i, o ≤ i → i < n1 → ∀ k, (i = o ∧ m ≤ k) ∨ (i = 1 ∧ a ≤ k) ∨ (i = 28 ∧ b ≤ k) ∨ (i = 29 ∧ c ≤ k) → xRL 8 18 i k = none) : mkP o n1 I R none n1 (mxI I o) (mxR R o m a b c) := by
  refine ⟨rfl, rfl, hRk, fun i hi => ⟨mxI_lt hi, mxR_lt hi⟩, fun i h1 h2 => ⟨mxI_ge h1, ?_⟩⟩
  funext k
  unfold mxR
  rw [if_neg (by omega)]
  split
  · rename_i h3; exact (h i h1 h2 k h3).symm
  · rfl
/-- behind a constructor's call in another's -/
theorem mk_sub {n1 : Nat} {o' : Nat} (h : mkP o' n1 (xrow (mxI I o) o' (fun _ => 0)) (va_up (mxR R o m a b c) o' (fun _ => none)) none n1 I' R') (ho : o < o') (h1 : ∀ i, o' ≤ i → i < n1 → i ≠ 1 ∧ i ≠ 28 ∧ i ≠ 29) : xEq n1 I' R' (mxI I o) (mxR R o m a b c) ∧ xRok n1 (mxR R o m a b c) := by
  obtain ⟨-, -, hr, h3, h4⟩ := h
  have e : ∀ i, i < n1 → mxI I o i = I' i ∧ mxR R o m a b c i = R' i := by
    intro i hi
    by_cases hio : i < o'
    · obtain ⟨e1, e2⟩ := h3 i hio
      rw [e1, e2, xrow_o (by omega), va_up_ne _ _ (by omega)]
      exact ⟨rfl, rfl⟩
    · obtain ⟨e1, e2⟩ := h4 i (by omega) hi
      obtain ⟨n1', n2', n3'⟩ := h1 i (by omega) hi
      rw [e1, e2, mxI_ge (by omega)]
      refine ⟨rfl, ?_⟩
      funext k
      unfold mxR
      rw [if_neg (by omega), if_neg (by omega)]
  exact ⟨fun i hi => by rw [(e i hi).1, (e i hi).2]; exact ⟨fun _ _ _ => ⟨rfl, rfl⟩, fun _ _ => rfl, fun _ => rfl⟩, fun i k j hi he => hr i k j hi (by rw [← (e i hi).2]; exact he)⟩
end
section
variable {X : xX} {own : String} {cc : ByteArray} {nL lv kc ks n cs sl pc : Nat} {I : xM} {R : xR} {L : List (Nat × Value)} {st : List Value}
theorem g_mr {I' : xM} {R' : xR} (hRk : xRok n R) (hI : I = I') (hR : R = R') (k : xRok n R' → G X n cs sl I' R' pc L st) : G X n cs sl I R pc L st := by subst hI; subst hR; exact k hRk
theorem g_n {n' cs' sl' : Nat} (hRk : xRok n R) (h : n = n') (h1 : cs ≤ cs') (h2 : sl ≤ sl') (k : xRok n' R → G X n' cs' sl' I R pc L st) : G X n cs sl I R pc L st := by subst h; exact g_widen h1 h2 (k hRk)
end
theorem aW_b : Cond.arrayClass .byte ∈ xgw := xgw_in (List.mem_append_right _ (List.mem_of_getElem? (i := 59) (by decide +kernel))) (by decide +kernel)
theorem aW_i : Cond.arrayClass .int ∈ xgw := xgw_in (List.mem_append_right _ (List.mem_of_getElem? (i := 71) (by decide +kernel))) (by decide +kernel)
theorem aW_z : Cond.arrayClass .boolean ∈ xgw := xgw_in (List.mem_append_right _ (List.mem_of_getElem? (i := 166) (by decide +kernel))) (by decide +kernel)
