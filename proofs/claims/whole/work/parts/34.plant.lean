/-! A TREE IS PLANTED, for a look -/
def plH (s gr y : Nat) : Nat := if s < 3 then min 99 (5 + gr * y) else 5
noncomputable def plB (f : Nat → Int32) (T : Nat) (y2 : Int32) (u hi : Nat) : Nat → Int32 := upd (brY f T y2 (nI 0)) u (brY f T y2 (nI 0) u + nI hi)
noncomputable def plP (f : Nat → Int32) (T S : Nat) (y2 : Int32) (hi : Nat) (E : Int32) (u : Nat) : Prop := 1 ≤ u ∧ taF f T (nI u) = none ∧ allM (plB f T y2 u hi) f S E
def plJ (B : xM) (f : Nat → Int32) (T : Nat) (y2 : Int32) (hi : Nat) (J : xM) : Prop := ∃ g, J = xrow B 311 g ∧ g 0 = nI T ∧ g 3 = nI 0 ∧ g 2 = y2 ∧
  hgM (g (26 + 5 * T + 0)) (g (26 + 5 * T + 2)) (g (26 + 5 * T + 3)) (g (26 + 5 * T + 4)) y2 (nI 0) 0 = nI hi ∧ ∀ j, j ≠ 0 → j ≠ 2 → j ≠ 3 → (j < 26 + 5 * T ∨ 26 + 5 * T + 5 ≤ j) → g j = f j
theorem ks_lt : ∀ s, s < 5 → ((nI (ksN s)).toInt < 4 ↔ s < 3) := by decide
theorem hgT_n {m : Nat} (hm : m ≤ 10000) : hgT (nI m) (nI 0) = nI (min 99 m) := by
  have e : (nI m).toInt = m := nI_toInt (by omega)
  have c : (if (nI m).toInt ≤ 99 then nI m else (99 : Int32)) = nI (min 99 m) := by
    by_cases h : m ≤ 99
    · rw [if_pos (by omega)]; congr 1; omega
    · rw [if_neg (by omega), show (99 : Int32) = nI 99 from rfl]; congr 1; omega
  unfold hgT hgZ
  rw [c, nI_sub (Nat.zero_le _), Nat.sub_zero, if_pos (by rw [nI_toInt (by omega)]; omega)]
theorem pl_hi {s gr y yr : Nat} {hi : Int32} (hs : s < 5) (hg : gr ≤ 9) (hy : y ≤ 99) (hr : yr ≤ 999) (h : hi = if s < 3 then nI 5 - nI gr * nI yr else nI 5) :
    hgM (nI (ksN s)) hi (nI gr) (nI 0) (nI yr + nI y) (nI 0) 0 = nI (plH s gr y) := by
  have m1 := Nat.mul_le_mul hg hy
  have m2 := Nat.mul_le_mul hg hr
  unfold hgM
  rw [if_neg (by rintro ⟨_, h2⟩; exact absurd h2 (by decide)), Int32.add_zero]
  unfold hgS plH
  by_cases h3 : s < 3
  · rw [if_pos ((ks_lt s hs).mpr h3), h, if_pos h3, if_pos h3, show nI 5 - nI gr * nI yr + nI gr * (nI yr + nI y) = nI (5 + gr * y) from ?_, hgT_n (by omega)]
    rw [nI_add, nI_mul, nI_mul, zN, zN, zN, zI_sub, zI_add]
    rw [zN, Nat.mul_add]
    congr 1
    omega
  · rw [if_neg (fun q => h3 ((ks_lt s hs).mp q)), h, if_neg h3, if_neg h3, Int32.add_zero, hgT_n (by decide)]
    rfl
section
variable {f g ad : Nat → Int32} {T S F W u hi : Nat} {y2 : Int32} {B J : xM} {E : Int32}
theorem pl_ag (hT : T ≤ 5) (hg : ∀ j, j ≠ 0 → j ≠ 2 → j ≠ 3 → (j < 26 + 5 * T ∨ 26 + 5 * T + 5 ≤ j) → g j = f j) : ∀ j, j ≠ 0 → j ≠ 2 → j ≠ 3 → (j < 26 + 5 * T ∨ 26 + 5 * T + 5 ≤ j) → upd (upd g (26 + 5 * T + 1) (nI u)) 0 (nI (T + 1)) j = f j := fun j h0 h2 h3 h => by
  rw [upd_ne h0, upd_ne (by omega)]
  exact hg j h0 h2 h3 h
theorem pl_ta {g f : Nat → Int32} {q : Nat} (hq : q < 20) (hu20 : u < 20) (ha : ∀ j, j ≠ 0 → j ≠ 2 → j ≠ 3 → (j < 26 + 5 * T ∨ 26 + 5 * T + 5 ≤ j) → g j = f j) (hs : g (26 + 5 * T + 1) = nI u) (hn : taF f T (nI u) = none) :
    taF g (T + 1) (nI q) = if q = u then some T else taF f T (nI q) := by
  have hc : taF g T (nI q) = taF f T (nI q) := xfind_congr (fun t ht => by rw [ha _ (by omega) (by omega) (by omega) (by omega)])
  show (match xfind (fun t => g (26 + 5 * t + 1) = nI q) T with | some i => some i | none => @ite (Option Nat) (g (26 + 5 * T + 1) = nI q) (Classical.propDecidable _) (some T) none) = _
  rw [show xfind (fun t => g (26 + 5 * t + 1) = nI q) T = taF g T (nI q) from rfl, hc]
  by_cases h : q = u
  · subst h
    rw [hn, if_pos rfl]
    exact @if_pos _ (Classical.propDecidable _) hs _ _ _
  · rw [if_neg h]
    cases taF f T (nI q) with
    | some i => rfl
    | none => exact @if_neg _ (Classical.propDecidable _) (fun k => h (nI_inj (by omega) (by omega) (k.symm.trans hs))) _ _ _
theorem pl_br (hT : T ≤ 5) (h0 : ∀ t, t < 6 → ad t = 0) (g3 : g 3 = nI 0) (g2 : g 2 = y2) (gh : hgM (g (26 + 5 * T + 0)) (g (26 + 5 * T + 2)) (g (26 + 5 * T + 3)) (g (26 + 5 * T + 4)) y2 (nI 0) 0 = nI hi)
    (ha : ∀ j, j ≠ 0 → j ≠ 2 → j ≠ 3 → (j < 26 + 5 * T ∨ 26 + 5 * T + 5 ≤ j) → g j = f j) (hs : g (26 + 5 * T + 1) = nI u) (hu : u < 20) (hn : taF f T (nI u) = none) {q : Nat} (hq : q < 20) : brF g ad (T + 1) q = plB f T y2 u hi q := by
  unfold brF plB
  rw [pl_ta hq hu ha hs hn, ha (6 + q) (by omega) (by omega) (by omega) (by omega)]
  by_cases h : q = u
  · subst h
    rw [if_pos rfl, upd_eq]
    show f (6 + q) + hgF g ad T = _
    unfold hgF brY
    rw [h0 T (by omega), g2, g3, gh, hn]
    show _ = f (6 + q) + 0 + nI hi
    rw [Int32.add_zero]
  · rw [if_neg h, upd_ne h]
    unfold brY
    cases e : taF f T (nI q) with
    | none => rfl
    | some t =>
      have ht := (xfind_spec e).1
      show f (6 + q) + hgF g ad t = f (6 + q) + _
      unfold hgF
      rw [h0 t (by omega), g2, g3, ha _ (by omega) (by omega) (by omega) (by omega), ha _ (by omega) (by omega) (by omega) (by omega), ha _ (by omega) (by omega) (by omega) (by omega), ha _ (by omega) (by omega) (by omega) (by omega)]
theorem mtP_row {b f g : Nat → Int32} {e : Int32} (hW : WF f T S F W) (ha : ∀ j, (6 ≤ j ∧ j < 26) ∨ 56 ≤ j → g j = f j) : mtP b g S e ↔ mtP b f S e := by
  refine forall_congr' fun k => forall_congr' fun hk => ?_
  have h9 := hW.ts9 hk
  have e1 : tsF g k = tsF f k := by unfold tsF; rw [ha _ (by omega)]
  have e2 : tpF g k = tpF f k := by unfold tpF; rw [e1, ha _ (by omega), ha _ (by omega)]
  unfold snP
  rw [e1, e2, ha _ (by omega), ha _ (by omega)]
theorem thP_row {f g : Nat → Int32} (hW : WF f T S F W) (ha : ∀ j, 56 ≤ j → g j = f j) : thP g S := fun k hk => by
  have e1 : tsF g k = tsF f k := by unfold tsF; rw [ha _ (by omega)]
  rw [e1, ha _ (by omega)]
  exact ⟨hW.ts hk, hW.ts9 hk⟩
/-- the reference, at a site -/
theorem pl_met (hW : WF f T S F W) (hT : T ≤ 5) (h0 : ∀ t, t < 6 → B 315 t = 0) (hJ : plJ B f T y2 hi J) (hu : u < 20) (hn : taF f T (nI u) = none) {M : xM} (hM : M = xput (xput J 311 (26 + 5 * T + 1) (nI u)) 311 0 (nI (T + 1))) :
    (M 311 0 = nI (T + 1) ∧ M 311 1 = nI S ∧ thP (M 311) S) ∧ (allM (brF (M 311) (M 315) (T + 1)) (M 311) S E ↔ allM (plB f T y2 u hi) f S E) := by
  obtain ⟨g, rfl, g0, g3, g2, gh, ha⟩ := hJ
  have e1 : M = xrow B 311 (upd (upd g (26 + 5 * T + 1) (nI u)) 0 (nI (T + 1))) := by rw [hM, xput_row, xput_row]
  have e2 : M 315 = B 315 := by rw [e1, xrow_o (by decide)]
  have e3 : M 311 = upd (upd g (26 + 5 * T + 1) (nI u)) 0 (nI (T + 1)) := by rw [e1, xrow_e]
  have ha2 := pl_ag (u := u) hT ha
  rw [e2, e3]
  refine ⟨⟨upd_eq, ?_, thP_row hW (fun j hj => ha2 j (by omega) (by omega) (by omega) (by omega))⟩, ?_⟩
  · rw [ha2 1 (by decide) (by decide) (by decide) (by omega)]; exact hW.S0
  · refine forall_congr' fun e => forall_congr' fun _ => forall_congr' fun _ => ?_
    rw [mtP_row hW (fun j hj => ha2 j (by omega) (by omega) (by omega) (by omega))]
    refine mtP_congr (fun q hq => pl_br hT h0 ?_ ?_ ?_ ha2 ?_ hu hn hq) hW
    · rw [upd_ne (by decide), upd_ne (by omega)]; exact g3
    · rw [upd_ne (by decide), upd_ne (by omega)]; exact g2
    · rw [upd_ne (by omega), upd_ne (by omega), upd_ne (by omega), upd_ne (by omega), upd_ne (by omega), upd_ne (by omega), upd_ne (by omega), upd_ne (by omega)]; exact gh
    · rw [upd_ne (by omega)]; exact upd_eq
theorem plJ_step (hT : T ≤ 5) (hJ : plJ B f T y2 hi J) : plJ B f T y2 hi (xput (xput (xput J 311 (26 + 5 * T + 1) (nI u)) 311 0 (nI (T + 1))) 311 0 (nI T)) := by
  obtain ⟨g, rfl, g0, g3, g2, gh, ha⟩ := hJ
  refine ⟨upd (upd (upd g (26 + 5 * T + 1) (nI u)) 0 (nI (T + 1))) 0 (nI T), by rw [xput_row, xput_row, xput_row], upd_eq, ?_, ?_, ?_, ?_⟩
  · rw [upd_ne (by decide), upd_ne (by decide), upd_ne (by omega)]; exact g3
  · rw [upd_ne (by decide), upd_ne (by decide), upd_ne (by omega)]; exact g2
  · rw [upd_ne (by omega), upd_ne (by omega), upd_ne (by omega), upd_ne (by omega), upd_ne (by omega), upd_ne (by omega), upd_ne (by omega), upd_ne (by omega), upd_ne (by omega), upd_ne (by omega), upd_ne (by omega), upd_ne (by omega)]; exact gh
  · intro j h0 h2 h3 h
    rw [upd_ne h0]
    exact pl_ag hT ha j h0 h2 h3 h
theorem plJ_start {kd hi0 gr : Int32} (hT : T ≤ 5) (hf : B 311 = f) (h0 : f 0 = nI T) (hh : hgM kd hi0 gr (nI 0) y2 (nI 0) 0 = nI hi) :
    plJ B f T y2 hi (xput (xput (xput (xput (xput (xput B 311 (26 + 5 * T) kd) 311 (26 + 5 * T + 2) hi0) 311 (26 + 5 * T + 3) gr) 311 (26 + 5 * T + 4) (nI 0)) 311 3 (nI 0)) 311 2 y2) := by
  refine ⟨upd (upd (upd (upd (upd (upd f (26 + 5 * T) kd) (26 + 5 * T + 2) hi0) (26 + 5 * T + 3) gr) (26 + 5 * T + 4) (nI 0)) 3 (nI 0)) 2 y2, ?_, ?_, ?_, upd_eq, ?_, ?_⟩
  · rw [show xput B 311 (26 + 5 * T) kd = xrow B 311 (upd f (26 + 5 * T) kd) by rw [← hf]; rfl, xput_row, xput_row, xput_row, xput_row, xput_row]
  · rw [upd_ne (by decide), upd_ne (by decide), upd_ne (by omega), upd_ne (by omega), upd_ne (by omega), upd_ne (by omega)]; exact h0
  · rw [upd_ne (by decide)]; exact upd_eq
  · rw [show upd (upd (upd (upd (upd (upd f (26 + 5 * T) kd) (26 + 5 * T + 2) hi0) (26 + 5 * T + 3) gr) (26 + 5 * T + 4) (nI 0)) 3 (nI 0)) 2 y2 (26 + 5 * T + 0) = kd by rw [upd_ne (by omega), upd_ne (by omega), upd_ne (by omega), upd_ne (by omega), upd_ne (by omega)]; exact upd_eq,
      show upd (upd (upd (upd (upd (upd f (26 + 5 * T) kd) (26 + 5 * T + 2) hi0) (26 + 5 * T + 3) gr) (26 + 5 * T + 4) (nI 0)) 3 (nI 0)) 2 y2 (26 + 5 * T + 2) = hi0 by rw [upd_ne (by omega), upd_ne (by omega), upd_ne (by omega), upd_ne (by omega)]; exact upd_eq,
      show upd (upd (upd (upd (upd (upd f (26 + 5 * T) kd) (26 + 5 * T + 2) hi0) (26 + 5 * T + 3) gr) (26 + 5 * T + 4) (nI 0)) 3 (nI 0)) 2 y2 (26 + 5 * T + 3) = gr by rw [upd_ne (by omega), upd_ne (by omega), upd_ne (by omega)]; exact upd_eq,
      show upd (upd (upd (upd (upd (upd f (26 + 5 * T) kd) (26 + 5 * T + 2) hi0) (26 + 5 * T + 3) gr) (26 + 5 * T + 4) (nI 0)) 3 (nI 0)) 2 y2 (26 + 5 * T + 4) = nI 0 by rw [upd_ne (by omega), upd_ne (by omega)]; exact upd_eq]
    exact hh
  · intro j h0 h2 h3 h
    rw [upd_ne h2, upd_ne h3, upd_ne (by omega), upd_ne (by omega), upd_ne (by omega), upd_ne (by omega)]
theorem plJ_ta (hT : T ≤ 5) (hJ : plJ B f T y2 hi J) (x : Int32) : oI (taF (J 311) T x) = oI (taF f T x) := by
  obtain ⟨g, rfl, g0, g3, g2, gh, ha⟩ := hJ
  rw [xrow_e]
  exact congrArg oI (xfind_congr (fun t ht => by rw [ha _ (by omega) (by omega) (by omega) (by omega)]))
theorem plJ_0 (hJ : plJ B f T y2 hi J) : J 311 0 = nI T := by
  obtain ⟨g, rfl, g0, -⟩ := hJ
  rw [xrow_e]; exact g0
theorem plJ_2 (hJ : plJ B f T y2 hi J) : J 311 2 = y2 := by
  obtain ⟨g, rfl, g0, g3, g2, -⟩ := hJ
  rw [xrow_e]; exact g2
theorem plJ_end {v w : Int32} (hT : T ≤ 5) (hJ : plJ B f T y2 hi J) (h0 : f 0 = nI T) (hv : v = f 3) (hw : w = f 2) : ∃ g, xput (xput J 311 3 v) 311 2 w = xrow B 311 g ∧ ∀ j, (j < 26 + 5 * T ∨ 26 + 5 * T + 5 ≤ j) → g j = f j := by
  obtain ⟨g, rfl, g0, g3, g2, gh, ha⟩ := hJ
  refine ⟨upd (upd g 3 v) 2 w, by rw [xput_row, xput_row], fun j h => ?_⟩
  by_cases e2 : j = 2
  · subst e2; rw [upd_eq, hw]
  · rw [upd_ne e2]
    by_cases e3 : j = 3
    · subst e3; rw [upd_eq, hv]
    · rw [upd_ne e3]
      by_cases e0 : j = 0
      · subst e0; rw [g0, h0]
      · exact ha j e0 e2 e3 h
theorem add_sub_id (a b : Int32) : a + b - b = a := by rw [← zI_of a, ← zI_of b, zI_add, zI_sub]; congr 1; omega
/-- the class, at a site -/
theorem pl_cls {K : xM} (hu : u < 20) (hK : ∀ q, q < 20 → K 5 q = brY f T y2 (nI 0) q) {q : Nat} (hq : q < 20) : (xput K 5 u (K 5 u + nI hi)) 5 q = plB f T y2 u hi q := by
  unfold plB
  by_cases h : q = u
  · subst h; rw [xput_e, upd_eq, hK q hq]
  · rw [upd_ne h, xput_i h rfl, hK q hq]
theorem raise_back {K : xM} {u : Nat} {h : Int} : K = xput (xput K 5 u (K 5 u + zI h)) 5 u ((xput K 5 u (K 5 u + zI h)) 5 u + zI (-h)) := by
  rw [xput_twice, xput_e]
  refine (xput_same ?_).symm
  rw [← zI_of (K 5 u), zI_add, zI_add]
  congr 1; omega
theorem min99n {m : Nat} (hm : m ≤ 10000) : (if nI m < nI 99 then nI m else nI 99) = nI (min 99 m) := by
  by_cases h : m < 99
  · rw [if_pos (nI_lt h (by decide)), Nat.min_eq_right (by omega)]
  · rw [if_neg (nI_nlt (by omega) (by omega)), Nat.min_eq_left (by omega)]
end
theorem oI_ne {p : Nat → Prop} {n : Nat} (hn : n ≤ 1000) (h : oI (xfind p n) ≠ -1000000) : ∃ u, u < n ∧ p u ∧ xfind p n = some u := by
  cases e : xfind p n with
  | none => rw [e] at h; exact absurd rfl h
  | some u => exact ⟨u, (xfind_spec e).1, (xfind_spec e).2.1, rfl⟩
section
variable {p : Nat → Prop} {u : Nat} {v7 : Int32}
theorem pl_no (hs : (v7.toInt = -1000000 ∧ ∀ k, k < u → ¬ p k) ∨ (v7 = oI (xfind p 19) ∧ v7.toInt ≠ -1000000)) (h : v7.toInt = -1000000) (hn : ¬ p u) : (v7.toInt = -1000000 ∧ ∀ k, k < u + 1 → ¬ p k) ∨ (v7 = oI (xfind p 19) ∧ v7.toInt ≠ -1000000) :=
  hs.elim (fun q => Or.inl ⟨h, lt_succ_or q.2 hn⟩) (fun q => absurd h q.2)
theorem pl_no2 (hs : (v7.toInt = -1000000 ∧ ∀ k, k < u → ¬ p k) ∨ (v7 = oI (xfind p 19) ∧ v7.toInt ≠ -1000000)) (h : v7.toInt = -1000000) (hn : ¬ p u) : ((-1000000 : Int32).toInt = -1000000 ∧ ∀ k, k < u + 1 → ¬ p k) ∨ ((-1000000 : Int32) = oI (xfind p 19) ∧ (-1000000 : Int32).toInt ≠ -1000000) :=
  hs.elim (fun q => Or.inl ⟨rfl, lt_succ_or q.2 hn⟩) (fun q => absurd h q.2)
theorem pl_yes (hs : (v7.toInt = -1000000 ∧ ∀ k, k < u → ¬ p k) ∨ (v7 = oI (xfind p 19) ∧ v7.toInt ≠ -1000000)) (h : v7.toInt = -1000000) (hu : u < 19) (hp : p u) : ((nI u).toInt = -1000000 ∧ ∀ k, k < u + 1 → ¬ p k) ∨ (nI u = oI (xfind p 19) ∧ (nI u).toInt ≠ -1000000) :=
  hs.elim (fun q => Or.inr ⟨by rw [xfind_some hp q.2 hu]; rfl, by rw [nI_toInt (by omega)]; omega⟩) (fun q => absurd h q.2)
theorem pl_end (hs : (v7.toInt = -1000000 ∧ ∀ k, k < u → ¬ p k) ∨ (v7 = oI (xfind p 19) ∧ v7.toInt ≠ -1000000)) (h : 19 ≤ u ∨ v7.toInt ≠ -1000000) : v7 = oI (xfind p 19) :=
  hs.elim (fun q => by rw [xfind_none (fun k hk => q.2 k (by omega))]; exact toInt_eq.mpr q.1) (fun q => q.1)
end
