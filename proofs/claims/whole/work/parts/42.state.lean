/-! WHERE THE REFERENCE'S READING IS -/
def rfS (tp : Nat → Nat) (n : Nat) (B J : xM) (r : xS) : Prop :=
  ((∀ o, o ≠ 307 → o ≠ 312 → J o = B o) ∧ ∀ j, (j < 14 ∨ 19 < j) → J 307 j = B 307 j) ∧
  ∃ t : xT, tokW tp n t ∧ (J 307 14 = nI t.2.2 ∧ J 307 15 = nI (rtk t.1) ∧ J 307 16 = nI t.2.1 ∧ J 307 17 = nI t.2.2) ∧
    ((∃ e : Nat × Nat, r = .inl e ∧ (1 ≤ e.1 ∧ e.1 ≤ 3 ∧ e.2 ≤ n) ∧ J 307 18 = nI e.1 ∧ J 307 19 = nI e.2) ∨ ∃ f, r = .inr (t, f) ∧ J 307 18 = nI 0 ∧ J 312 = f)
theorem rtk_c (a : Nat) : (a = 4 ∧ rtk a = 0) ∨ (a ≠ 4 ∧ rtk a = a + 1) := by
  unfold rtk
  by_cases h : a = 4
  · exact Or.inl ⟨h, if_pos h⟩
  · exact Or.inr ⟨h, if_neg h⟩
section
variable {tp : Nat → Nat} {n : Nat} {B J K : xM} {r : xS} {t : xT} {f : Nat → Int32} {k : Nat}
theorem rf_tp (h : rfS tp n B J r) (ht : tpP B tp n) : tpP J tp n := ⟨(h.1.2 13 (by omega)).trans ht.1, ht.2.1, fun k hk => by rw [h.1.1 314 (by decide) (by decide)]; exact ht.2.2 k hk⟩
theorem rf_W (h : rfS tp n B J r) : rdW tp n r := by
  obtain ⟨-, t, hw, -, ⟨e, rfl, he, -⟩ | ⟨f, rfl, -⟩⟩ := h
  · exact he
  · exact hw
theorem rf_l (h : rfS tp n B J r) (h2 : (J 307 18).toInt ≠ 0) : ∃ e, r = .inl e := by
  obtain ⟨-, t, hw, -, ⟨e, rfl, he, -⟩ | ⟨f, rfl, h3, -⟩⟩ := h
  · exact ⟨e, rfl⟩
  · rw [h3] at h2; exact absurd rfl h2
theorem rf_r (h : rfS tp n B J r) (h2 : (J 307 18).toInt ≤ 0) : ∃ t f, r = .inr (t, f) := by
  obtain ⟨-, t, hw, -, ⟨e, rfl, he, h3, -⟩ | ⟨f, rfl, h3, -⟩⟩ := h
  · rw [h3, nI_toInt (by omega)] at h2; omega
  · exact ⟨t, f, rfl⟩
theorem rf_i (h : rfS tp n B J (.inr (t, f))) : tokW tp n t ∧ J 307 14 = nI t.2.2 ∧ J 307 15 = nI (rtk t.1) ∧ J 307 16 = nI t.2.1 ∧ J 307 17 = nI t.2.2 ∧ J 307 18 = nI 0 ∧ J 312 = f := by
  obtain ⟨-, t', hw, ⟨a, b, c, d⟩, ⟨e, he, -⟩ | ⟨f', he, h1, h2⟩⟩ := h
  · cases he
  · cases he; exact ⟨hw, a, b, c, d, h1, h2⟩
theorem rf_inl {e : Nat × Nat} (h : rfS tp n B J (.inl e)) : (1 ≤ e.1 ∧ e.1 ≤ 3 ∧ e.2 ≤ n) ∧ J 307 18 = nI e.1 ∧ J 307 19 = nI e.2 := by
  obtain ⟨-, t', hw, -, ⟨e', he, h1, h2, h3⟩ | ⟨f', he, -⟩⟩ := h
  · cases he; exact ⟨h1, h2, h3⟩
  · cases he
theorem rf_x (h : rfS tp n B J r) : ∃ t : xT, tokW tp n t ∧ J 307 14 = nI t.2.2 ∧ J 307 15 = nI (rtk t.1) ∧ J 307 16 = nI t.2.1 ∧ J 307 17 = nI t.2.2 ∧ ((J 307 18).toInt = 0 → ∃ f, r = .inr (t, f)) := by
  obtain ⟨-, t, hw, ⟨a, b, c, d⟩, ⟨e, rfl, he, h3, -⟩ | ⟨f, rfl, h3, -⟩⟩ := h
  · exact ⟨t, hw, a, b, c, d, fun q => by rw [h3, nI_toInt (by omega)] at q; omega⟩
  · exact ⟨t, hw, a, b, c, d, fun _ => ⟨f, rfl⟩⟩
theorem bad_l {e : Nat × Nat} : badR k (.inl e) = .inl e := rfl
theorem rf_bl (h : rfS tp n B J r) (h2 : (J 307 18).toInt ≠ 0) : rfS tp n B J (badR k r) ∧ ∀ j, j < 18 → J 307 j = J 307 j := by
  obtain ⟨e, rfl⟩ := rf_l h h2
  exact ⟨h, fun _ _ => rfl⟩
theorem rf_br (h : rfS tp n B J r) (h2 : (J 307 18).toInt = 0) (hk : 1 ≤ k ∧ k ≤ 3) : rfS tp n B (xput (xput J 307 18 (nI k)) 307 19 (J 307 16)) (badR k r) ∧ ∀ j, j < 18 → (xput (xput J 307 18 (nI k)) 307 19 (J 307 16)) 307 j = J 307 j := by
  obtain ⟨t, f, rfl⟩ := rf_r h (by omega)
  obtain ⟨hw, a, b, c, d, h3, h4⟩ := rf_i h
  refine ⟨⟨⟨fun o h1 h2 => (xput_ne h1).trans ((xput_ne h1).trans (h.1.1 o h1 h2)), fun j hj => xput_i (by omega) (xput_i (by omega) (h.1.2 j hj))⟩, t, hw,
    ⟨xput_i (by decide) (xput_i (by decide) a), xput_i (by decide) (xput_i (by decide) b), xput_i (by decide) (xput_i (by decide) c), xput_i (by decide) (xput_i (by decide) d)⟩, Or.inl ⟨(k, t.2.1), rfl, ⟨hk.1, hk.2, ?_⟩, xput_i (by decide) xput_e, ?_⟩⟩, fun j hj => xput_i (by omega) (xput_i (by omega) rfl)⟩
  · exact Nat.le_trans hw.1 hw.2.1
  · rw [xput_e]; exact c
theorem rf_next (h : rfS tp n B J (.inr (t, f))) (hn : nxJ J K (lx tp n t.2.2)) : rfS tp n B K (nexR tp n (.inr (t, f))) := by
  obtain ⟨hw, a, b, c, d, h3, h4⟩ := rf_i h
  obtain ⟨⟨n1, n2⟩, k1, k2, k3, k4⟩ := hn
  refine ⟨⟨fun o h1 h2 => (n1 o h1).trans (h.1.1 o h1 h2), fun j hj => (n2 j (by omega)).trans (h.1.2 j hj)⟩, lx tp n t.2.2, lx_W hw.2.1, ⟨k1, k2, k3, k4⟩, Or.inr ⟨f, rfl, (n2 18 (by omega)).trans h3, (n1 312 (by decide)).trans h4⟩⟩
theorem rf_set (h : rfS tp n B J r) (i : Nat) (v : Int32) : rfS tp n B (xput J 312 i v) (setR i v r) := by
  obtain ⟨⟨h1, h2⟩, t, hw, ⟨a, b, c, d⟩, he⟩ := h
  refine ⟨⟨fun o k1 k2 => (xput_ne k2).trans (h1 o k1 k2), fun j hj => xput_o (by decide) (h2 j hj)⟩, t, hw, ⟨xput_o (by decide) a, xput_o (by decide) b, xput_o (by decide) c, xput_o (by decide) d⟩, ?_⟩
  rcases he with ⟨e, rfl, k1, k2, k3⟩ | ⟨f, rfl, k1, k2⟩
  · exact Or.inl ⟨e, rfl, k1, xput_o (by decide) k2, xput_o (by decide) k3⟩
  · refine Or.inr ⟨upd f i v, rfl, xput_o (by decide) k1, ?_⟩
    rw [← k2]; funext j
    by_cases e : j = i
    · subst e; rw [xput_e, upd_eq]
    · rw [xput_i e rfl, upd_ne e]
theorem rf_bn (h : rfS tp n B J (badR k r)) : (J 307 18).toInt ≠ 0 := fun q => by
  obtain ⟨t, f, e⟩ := rf_r h (by omega)
  cases r with
  | inl e => cases e
  | inr _ => cases e
theorem bad_bad {j : Nat} : badR j (badR k r) = badR k r := by cases r <;> rfl
theorem nex_bad : nexR tp n (badR k r) = badR k r := by cases r <;> rfl
theorem mus_1 : musR tp n 1 r = nexR tp n r := if_neg (by decide)
theorem mus_0 : musR tp n 0 r = badR 1 r := if_pos rfl
theorem rf_nl (h : rfS tp n B J r) (h2 : (J 307 18).toInt ≠ 0) : rfS tp n B J (nexR tp n r) := by
  obtain ⟨e, rfl⟩ := rf_l h h2
  exact h
theorem nm_0 (h : rfS tp n B J r) (h2 : (J 307 18).toInt ≠ 0) : 0 = nmV tp r := by
  obtain ⟨e, rfl⟩ := rf_l h h2
  rfl
theorem nm_end {v : Int64} {k : Nat} (h2 : ∃ f, r = .inr (t, f)) (hv : v = if t.1 = 1 ∧ t.2.2 - t.2.1 < 8 then Int64.ofNat (pkN tp t.2.1 (k - t.2.1)) else 0) (hk : t.1 = 1 ∧ t.2.2 - t.2.1 < 8 → k = t.2.2) : v = nmV tp r := by
  obtain ⟨f, rfl⟩ := h2
  rw [hv]
  show _ = if t.1 = 1 ∧ t.2.2 - t.2.1 < 8 then Int64.ofNat (pkN tp t.2.1 (t.2.2 - t.2.1)) else 0
  by_cases hc : t.1 = 1 ∧ t.2.2 - t.2.1 < 8
  · rw [if_pos hc, if_pos hc, hk hc]
  · rw [if_neg hc, if_neg hc]
theorem nm_step {v : Int64} {k : Nat} {b : Int32} (hw : tokW tp n t) (hv : v = if t.1 = 1 ∧ t.2.2 - t.2.1 < 8 then Int64.ofNat (pkN tp t.2.1 (k - t.2.1)) else 0) (h1 : t.1 = 1) (h2 : t.2.2 - t.2.1 < 8) (h3 : t.2.1 ≤ k) (h4 : k < t.2.2) (hb : b = nI (tp k)) :
    (v <<< ((nI 8).toInt64 &&& 63)) ||| b.toInt64 = if t.1 = 1 ∧ t.2.2 - t.2.1 < 8 then Int64.ofNat (pkN tp t.2.1 (k + 1 - t.2.1)) else 0 := by
  have hl : ∀ j, t.2.1 ≤ j → j < t.2.2 → tp j ≤ 255 := fun j a c => by have := leB_t.mp (hw.2.2.2.1 h1 j a c); omega
  have hp : pkN tp t.2.1 (k - t.2.1) < 256 ^ (k - t.2.1) := pkN_lt _ (fun i hi => hl _ (by omega) (by omega))
  have hq : 256 ^ (k - t.2.1) ≤ 256 ^ 6 := Nat.pow_le_pow_right (by decide) (by omega)
  rw [if_pos ⟨h1, h2⟩] at hv ⊢
  rw [hv, hb, pk_step (by omega) (hl k h3 h4), show k + 1 - t.2.1 = (k - t.2.1) + 1 by omega, pkN, show t.2.1 + (k - t.2.1) = k by omega]
theorem fig_le (hw : tokW tp n t) : figR tp (.inr (t, f)) ≤ 999 := by
  show (if t.1 = 2 then valF tp t.2.1 (t.2.2 - t.2.1) else 0) ≤ 999
  by_cases h : t.1 = 2
  · rw [if_pos h]
    have h1 := hw.1
    obtain ⟨h2, h3⟩ := hw.2.2.2.2 h
    have h4 := valF_b (tp := tp) (s := t.2.1) (t.2.2 - t.2.1) (fun j a b => h3 j a (by omega))
    have h5 : 10 ^ (t.2.2 - t.2.1) ≤ 10 ^ 3 := Nat.pow_le_pow_right (by decide) (by omega)
    omega
  · rw [if_neg h]; omega
theorem fig_l (h : rfS tp n B J r) (h2 : 0 < (J 307 18).toInt) : nI 0 = nI (figR tp r) := by
  obtain ⟨e, rfl⟩ := rf_l h (by omega)
  rfl
theorem num_n {lo hi : Nat} (h : isNR tp lo hi r) : numR tp n lo hi r = nexR tp n r := @if_pos _ (Classical.propDecidable _) h _ _ _
theorem num_2 {lo hi : Nat} (h : ¬ isNR tp lo hi r) (h2 : tkR r 2) : numR tp n lo hi r = badR 2 r := by
  unfold numR
  rw [@if_neg _ (Classical.propDecidable _) h, @if_pos _ (Classical.propDecidable _) h2]
theorem num_1 {lo hi : Nat} (h2 : ¬ tkR r 2) : numR tp n lo hi r = badR 1 r := by
  unfold numR
  rw [@if_neg _ (Classical.propDecidable _) (fun q => h2 q.1), @if_neg _ (Classical.propDecidable _) h2]
theorem num_inl {lo hi : Nat} {e : Nat × Nat} : numR tp n lo hi (.inl e) = .inl e := num_1 (fun q => q)
theorem num_l {lo hi : Nat} (h : rfS tp n B J r) (h2 : 0 < (J 307 18).toInt) : rfS tp n B J (numR tp n lo hi r) := by
  obtain ⟨e, rfl⟩ := rf_l h (by omega)
  rw [num_inl]; exact h
theorem sgn_y (h : tkR r 3) : sgnR tp n r = nexR tp n r := @if_pos _ (Classical.propDecidable _) h _ _ _
theorem sgn_n (h : ¬ tkR r 3) : sgnR tp n r = badR 1 r := @if_neg _ (Classical.propDecidable _) h _ _ _
theorem sgn_inl {e : Nat × Nat} : sgnR tp n (.inl e) = .inl e := sgn_n (fun q => q)
theorem sgn_l (h : rfS tp n B J r) (h2 : (J 307 18).toInt ≠ 0) : rfS tp n B J (sgnR tp n r) := by
  obtain ⟨e, rfl⟩ := rf_l h h2
  rw [sgn_inl]; exact h
theorem wrd_y {w : List Nat} (h : wrdP tp w r) : wrdR tp n w r = nexR tp n r := @if_pos _ (Classical.propDecidable _) h _ _ _
theorem wrd_n {w : List Nat} (h : ¬ wrdP tp w r) : wrdR tp n w r = badR 1 r := @if_neg _ (Classical.propDecidable _) h _ _ _
theorem wrd_inl {w : List Nat} {e : Nat × Nat} : wrdR tp n w (.inl e) = .inl e := wrd_n (fun q => q)
/-- a tree or a thing begins -/
def begR (tp : Nat → Nat) (n st : Nat) (r : xS) : xS := match r with
  | .inl e => .inl e
  | .inr (t, f) => if (f st).toInt = 6 then badR 3 (.inr (t, f)) else nexR tp n (.inr (t, f))
theorem beg_y {st : Nat} (h : rfS tp n B J r) (h2 : (J 312 st).toInt = 6) (hK : rfS tp n B K (musR tp n 1 (badR 3 r))) : rfS tp n B K (begR tp n st r) := by
  rw [mus_1, nex_bad] at hK
  cases r with
  | inl e => exact hK
  | inr q =>
    obtain ⟨t, f⟩ := q
    have h3 := (rf_i h).2.2.2.2.2.2
    show rfS tp n B K (if (f st).toInt = 6 then badR 3 (.inr (t, f)) else nexR tp n (.inr (t, f)))
    rw [if_pos (by rw [← h3]; exact h2)]
    exact hK
theorem beg_n {st : Nat} (h : rfS tp n B J r) (h2 : (J 312 st).toInt ≠ 6) (hK : rfS tp n B K (musR tp n 1 r)) : rfS tp n B K (begR tp n st r) := by
  rw [mus_1] at hK
  cases r with
  | inl e => exact hK
  | inr q =>
    obtain ⟨t, f⟩ := q
    have h3 := (rf_i h).2.2.2.2.2.2
    show rfS tp n B K (if (f st).toInt = 6 then badR 3 (.inr (t, f)) else nexR tp n (.inr (t, f)))
    rw [if_neg (by rw [← h3]; exact h2)]
    exact hK
end
def kbV (w : Int64) : Int32 := if w = 6386536 then nI 1 else if w = 7955831 then nI 3 else if w = 7299435 then nI 2 else if w = 448377677669 then nI 4 else if w = 439721161573 then nI 5 else -1000000
